abbrev rm_X1_init : Room := { frames := 1, cells := 3, slots := 180, locals := 64 }
set_option maxHeartbeats 4000000 in
set_option maxRecDepth 100000 in
theorem c_X1_init (l : Launch) (D : va_G) (cs : Nat → ClassId) (q : Nat → Nat) (a0 : Nat) (a1 : Int32) (σ σ0 : HS) (r0 : Unit) (hf0 : f_X1_init a0 a1 σ = some (r0, σ0)) : MT l yX1_init (Cond.code yX1_init cX1_init 2 none :: lw_g) rm_X1_init D cs q σ σ0 [.ref (q a0), .int a1] (fun q1 => (∀ j : Nat, j < hN σ → q1 j = q j) ∧ hN σ ≤ hN σ0) (fun _ => none) 3 180 := by
  unfold f_X1_init at hf0
  refine MT_of (cc := cX1_init) (lv0 := [(0, .ref (q a0)), (1, .int a1)]) (by decide) (Nat.le_of_ble_eq_true rfl) rfl (fun p e s m args below meth c A X hr hlk hin => ?_)
  refine j_aload_n X dX1_init_0 0 rfl rfl ?_
  refine j_objInit X ml_X1_1 (Nat.le_of_ble_eq_true rfl) (Nat.le_of_ble_eq_true rfl) dX1_init_1 ?_
  refine j_aload_n X dX1_init_4 0 rfl rfl ?_
  refine j_iload_n X dX1_init_5 1 rfl rfl ?_
  obtain ⟨h1, hf2⟩ := chk_of hf0; clear hf0
  obtain ⟨h3, hf4⟩ := chk_of hf2; clear hf2
  refine j_newal X (b := 60) h1 (by decide) ⟨Nat.le_of_ble_eq_true rfl, Nat.le_of_ble_eq_true rfl⟩ dX1_init_6 (fun q5 σ6 n7 hq5 eσ6 en7 => ?_)
  replace hf4 := lt_of hf4 n7 en7
  replace hf4 := lt_of hf4 σ6 eσ6
  have m8 : hN σ6 = hN σ + 1 := by rw [eσ6]; rfl
  rw [← hq5 a0 h3]
  have h9 : isO σ6 12 n7 := isO_nw0 eσ6 en7
  obtain ⟨h10, hf11⟩ := chk_of hf4; clear hf4
  obtain ⟨h13, hf14⟩ := chk_of hf11; clear hf11
  refine j_putrF X fp_X1_7 h10 h13 rfl (hin rfl) rfl dX1_init_8 (fun σ12 eσ12 => ?_)
  replace hf14 := lt_of hf14 σ12 eσ12
  have m18 : hN σ6 ≤ hN σ12 := by rw [eσ12]; exact Nat.le_refl _
  have h16 : isO σ12 12 n7 := by rw [eσ12]; exact h9
  have h17 : isO σ12 1 a0 := by rw [eσ12]; exact h10
  refine j_aload_n X dX1_init_11 0 rfl rfl ?_
  refine j_iload_n X dX1_init_12 1 rfl rfl ?_
  obtain ⟨h19, hf20⟩ := chk_of hf14; clear hf14
  refine j_newal X (b := 60) h19 (by decide) ⟨Nat.le_of_ble_eq_true rfl, Nat.le_of_ble_eq_true rfl⟩ dX1_init_13 (fun q21 σ22 n23 hq21 eσ22 en23 => ?_)
  replace hf20 := lt_of hf20 n23 en23
  replace hf20 := lt_of hf20 σ22 eσ22
  have m24 : hN σ22 = hN σ12 + 1 := by rw [eσ22]; rfl
  rw [← hq21 a0 h17.1]
  have h25 : isO σ22 1 a0 := isO_nw eσ22 h17
  have h26 : isO σ22 12 n23 := isO_nw0 eσ22 en23
  obtain ⟨h28, hf29⟩ := chk_of hf20; clear hf20
  refine j_putrF X fp_X1_13 h25 h28 rfl (hin rfl) rfl dX1_init_15 (fun σ27 eσ27 => ?_)
  replace hf29 := lt_of hf29 σ27 eσ27
  have m33 : hN σ22 ≤ hN σ27 := by rw [eσ27]; exact Nat.le_refl _
  have h31 : isO σ27 1 a0 := by rw [eσ27]; exact h25
  have h32 : isO σ27 12 n23 := by rw [eσ27]; exact h26
  refine j_aload_n X dX1_init_18 0 rfl rfl ?_
  refine j_iload_n X dX1_init_19 1 rfl rfl ?_
  obtain ⟨h34, hf35⟩ := chk_of hf29; clear hf29
  refine j_newaz X (b := 60) h34 (by decide) ⟨Nat.le_of_ble_eq_true rfl, Nat.le_of_ble_eq_true rfl⟩ dX1_init_20 (fun q36 σ37 n38 hq36 eσ37 en38 => ?_)
  replace hf35 := lt_of hf35 n38 en38
  replace hf35 := lt_of hf35 σ37 eσ37
  have m39 : hN σ37 = hN σ27 + 1 := by rw [eσ37]; rfl
  rw [← hq36 a0 h31.1]
  have h40 : isO σ37 1 a0 := isO_nw eσ37 h31
  have h41 : isO σ37 11 n38 := isO_nw0 eσ37 en38
  obtain ⟨h43, hf44⟩ := chk_of hf35; clear hf35
  refine j_putrF X fp_X1_16 h40 h43 rfl (hin rfl) rfl dX1_init_22 (fun σ42 eσ42 => ?_)
  replace hf44 := lt_of hf44 σ42 eσ42
  have m48 : hN σ37 ≤ hN σ42 := by rw [eσ42]; exact Nat.le_refl _
  have h46 : isO σ42 1 a0 := by rw [eσ42]; exact h40
  have h47 : isO σ42 11 n38 := by rw [eσ42]; exact h41
  obtain ⟨er, es⟩ := rt_of hf44
  exact j_retv X hr hlk (Nat.le_of_ble_eq_true rfl) (Nat.le_of_ble_eq_true rfl) ⟨(fun j hj => by rw [hq36 j (by omega), hq21 j (by omega), hq5 j (by omega)]), by rw [es]; omega⟩ es.symm rfl dX1_init_25
abbrev rm_X2_init : Room := { frames := 1, cells := 7, slots := 54, locals := 64 }
set_option maxHeartbeats 4000000 in
set_option maxRecDepth 100000 in
theorem c_X2_init (l : Launch) (D : va_G) (cs : Nat → ClassId) (q : Nat → Nat) (a0 : Nat) (σ σ0 : HS) (r0 : Unit) (hf0 : f_X2_init a0 σ = some (r0, σ0)) : MT l yX2_init (Cond.code yX2_init cX2_init 1 none :: lw_g) rm_X2_init D cs q σ σ0 [.ref (q a0)] (fun q1 => (∀ j : Nat, j < hN σ → q1 j = q j) ∧ hN σ ≤ hN σ0) (fun _ => none) 7 54 := by
  unfold f_X2_init at hf0
  refine MT_of (cc := cX2_init) (lv0 := [(0, .ref (q a0))]) (by decide) (Nat.le_of_ble_eq_true rfl) rfl (fun p e s m args below meth c A X hr hlk hin => ?_)
  refine j_aload_n X dX2_init_0 0 rfl rfl ?_
  refine j_objInit X ml_X2_3 (Nat.le_of_ble_eq_true rfl) (Nat.le_of_ble_eq_true rfl) dX2_init_1 ?_
  refine j_aload_n X dX2_init_4 0 rfl rfl ?_
  refine j_bipush X (v := 6) dX2_init_5 (by decide) ?_
  obtain ⟨h1, hf2⟩ := chk_of hf0; clear hf0
  refine j_newai X (b := 6) (by decide) (by decide) ⟨Nat.le_of_ble_eq_true rfl, Nat.le_of_ble_eq_true rfl⟩ dX2_init_7 (fun q3 σ4 n5 hq3 eσ4 en5 => ?_)
  replace hf2 := lt_of hf2 n5 en5
  replace hf2 := lt_of hf2 σ4 eσ4
  have m6 : hN σ4 = hN σ + 1 := by rw [eσ4]; rfl
  rw [← hq3 a0 h1]
  have h7 : isO σ4 10 n5 := isO_nw0 eσ4 en5
  obtain ⟨h8, hf9⟩ := chk_of hf2; clear hf2
  obtain ⟨h11, hf12⟩ := chk_of hf9; clear hf9
  refine j_putrF X fp_X2_9 h8 h11 rfl (hin rfl) rfl dX2_init_9 (fun σ10 eσ10 => ?_)
  replace hf12 := lt_of hf12 σ10 eσ10
  have m16 : hN σ4 ≤ hN σ10 := by rw [eσ10]; exact Nat.le_refl _
  have h14 : isO σ10 10 n5 := by rw [eσ10]; exact h7
  have h15 : isO σ10 2 a0 := by rw [eσ10]; exact h8
  refine j_aload_n X dX2_init_12 0 rfl rfl ?_
  refine j_bipush X (v := 6) dX2_init_13 (by decide) ?_
  refine j_newai X (b := 6) (by decide) (by decide) ⟨Nat.le_of_ble_eq_true rfl, Nat.le_of_ble_eq_true rfl⟩ dX2_init_15 (fun q17 σ18 n19 hq17 eσ18 en19 => ?_)
  replace hf12 := lt_of hf12 n19 en19
  replace hf12 := lt_of hf12 σ18 eσ18
  have m20 : hN σ18 = hN σ10 + 1 := by rw [eσ18]; rfl
  rw [← hq17 a0 h15.1]
  have h21 : isO σ18 2 a0 := isO_nw eσ18 h15
  have h22 : isO σ18 10 n19 := isO_nw0 eσ18 en19
  obtain ⟨h24, hf25⟩ := chk_of hf12; clear hf12
  refine j_putrF X fp_X2_15 h21 h24 rfl (hin rfl) rfl dX2_init_17 (fun σ23 eσ23 => ?_)
  replace hf25 := lt_of hf25 σ23 eσ23
  have m29 : hN σ18 ≤ hN σ23 := by rw [eσ23]; exact Nat.le_refl _
  have h27 : isO σ23 2 a0 := by rw [eσ23]; exact h21
  have h28 : isO σ23 10 n19 := by rw [eσ23]; exact h22
  refine j_aload_n X dX2_init_20 0 rfl rfl ?_
  refine j_bipush X (v := 6) dX2_init_21 (by decide) ?_
  refine j_newai X (b := 6) (by decide) (by decide) ⟨Nat.le_of_ble_eq_true rfl, Nat.le_of_ble_eq_true rfl⟩ dX2_init_23 (fun q30 σ31 n32 hq30 eσ31 en32 => ?_)
  replace hf25 := lt_of hf25 n32 en32
  replace hf25 := lt_of hf25 σ31 eσ31
  have m33 : hN σ31 = hN σ23 + 1 := by rw [eσ31]; rfl
  rw [← hq30 a0 h27.1]
  have h34 : isO σ31 2 a0 := isO_nw eσ31 h27
  have h35 : isO σ31 10 n32 := isO_nw0 eσ31 en32
  obtain ⟨h37, hf38⟩ := chk_of hf25; clear hf25
  refine j_putrF X fp_X2_18 h34 h37 rfl (hin rfl) rfl dX2_init_25 (fun σ36 eσ36 => ?_)
  replace hf38 := lt_of hf38 σ36 eσ36
  have m42 : hN σ31 ≤ hN σ36 := by rw [eσ36]; exact Nat.le_refl _
  have h40 : isO σ36 2 a0 := by rw [eσ36]; exact h34
  have h41 : isO σ36 10 n32 := by rw [eσ36]; exact h35
  refine j_aload_n X dX2_init_28 0 rfl rfl ?_
  refine j_bipush X (v := 6) dX2_init_29 (by decide) ?_
  refine j_newq X cl_X2_21 (b := 6) (by decide) (by decide) ⟨Nat.le_of_ble_eq_true rfl, Nat.le_of_ble_eq_true rfl⟩ dX2_init_31 (fun q43 σ44 n45 hq43 eσ44 en45 => ?_)
  replace hf38 := lt_of hf38 n45 en45
  replace hf38 := lt_of hf38 σ44 eσ44
  have m46 : hN σ44 = hN σ36 + 1 := by rw [eσ44]; rfl
  rw [← hq43 a0 h40.1]
  have h47 : isO σ44 2 a0 := isO_nw eσ44 h40
  have h48 : isO σ44 13 n45 := isO_nw0 eσ44 en45
  obtain ⟨h50, hf51⟩ := chk_of hf38; clear hf38
  refine j_putrF X fp_X2_23 h47 h50 rfl (hin rfl) rfl dX2_init_34 (fun σ49 eσ49 => ?_)
  replace hf51 := lt_of hf51 σ49 eσ49
  have m55 : hN σ44 ≤ hN σ49 := by rw [eσ49]; exact Nat.le_refl _
  have h53 : isO σ49 2 a0 := by rw [eσ49]; exact h47
  have h54 : isO σ49 13 n45 := by rw [eσ49]; exact h48
  refine j_aload_n X dX2_init_37 0 rfl rfl ?_
  refine j_iconst X (v := 0) dX2_init_38 (by decide) ?_
  refine j_puti X fp_X2_27 h53 dX2_init_39 (fun σ56 eσ56 => ?_)
  replace hf51 := lt_of hf51 σ56 eσ56
  have m59 : hN σ49 ≤ hN σ56 := by rw [eσ56]; exact Nat.le_refl _
  have h58 : isO σ56 2 a0 := by rw [eσ56]; exact h53
  refine j_aload_n X dX2_init_42 0 rfl rfl ?_
  refine j_bipush X (v := 8) dX2_init_43 (by decide) ?_
  refine j_newai X (b := 8) (by decide) (by decide) ⟨Nat.le_of_ble_eq_true rfl, Nat.le_of_ble_eq_true rfl⟩ dX2_init_45 (fun q60 σ61 n62 hq60 eσ61 en62 => ?_)
  replace hf51 := lt_of hf51 n62 en62
  replace hf51 := lt_of hf51 σ61 eσ61
  have m63 : hN σ61 = hN σ56 + 1 := by rw [eσ61]; rfl
  rw [← hq60 a0 h58.1]
  have h64 : isO σ61 2 a0 := isO_nw eσ61 h58
  have h65 : isO σ61 10 n62 := isO_nw0 eσ61 en62
  obtain ⟨h67, hf68⟩ := chk_of hf51; clear hf51
  refine j_putrF X fp_X2_31 h64 h67 rfl (hin rfl) rfl dX2_init_47 (fun σ66 eσ66 => ?_)
  replace hf68 := lt_of hf68 σ66 eσ66
  have m72 : hN σ61 ≤ hN σ66 := by rw [eσ66]; exact Nat.le_refl _
  have h70 : isO σ66 2 a0 := by rw [eσ66]; exact h64
  have h71 : isO σ66 10 n62 := by rw [eσ66]; exact h65
  refine j_aload_n X dX2_init_50 0 rfl rfl ?_
  refine j_bipush X (v := 8) dX2_init_51 (by decide) ?_
  refine j_newai X (b := 8) (by decide) (by decide) ⟨Nat.le_of_ble_eq_true rfl, Nat.le_of_ble_eq_true rfl⟩ dX2_init_53 (fun q73 σ74 n75 hq73 eσ74 en75 => ?_)
  replace hf68 := lt_of hf68 n75 en75
  replace hf68 := lt_of hf68 σ74 eσ74
  have m76 : hN σ74 = hN σ66 + 1 := by rw [eσ74]; rfl
  rw [← hq73 a0 h70.1]
  have h77 : isO σ74 2 a0 := isO_nw eσ74 h70
  have h78 : isO σ74 10 n75 := isO_nw0 eσ74 en75
  obtain ⟨h80, hf81⟩ := chk_of hf68; clear hf68
  refine j_putrF X fp_X2_34 h77 h80 rfl (hin rfl) rfl dX2_init_55 (fun σ79 eσ79 => ?_)
  replace hf81 := lt_of hf81 σ79 eσ79
  have m85 : hN σ74 ≤ hN σ79 := by rw [eσ79]; exact Nat.le_refl _
  have h83 : isO σ79 2 a0 := by rw [eσ79]; exact h77
  have h84 : isO σ79 10 n75 := by rw [eσ79]; exact h78
  refine j_aload_n X dX2_init_58 0 rfl rfl ?_
  refine j_bipush X (v := 8) dX2_init_59 (by decide) ?_
  refine j_newai X (b := 8) (by decide) (by decide) ⟨Nat.le_of_ble_eq_true rfl, Nat.le_of_ble_eq_true rfl⟩ dX2_init_61 (fun q86 σ87 n88 hq86 eσ87 en88 => ?_)
  replace hf81 := lt_of hf81 n88 en88
  replace hf81 := lt_of hf81 σ87 eσ87
  have m89 : hN σ87 = hN σ79 + 1 := by rw [eσ87]; rfl
  rw [← hq86 a0 h83.1]
  have h90 : isO σ87 2 a0 := isO_nw eσ87 h83
  have h91 : isO σ87 10 n88 := isO_nw0 eσ87 en88
  obtain ⟨h93, hf94⟩ := chk_of hf81; clear hf81
  refine j_putrF X fp_X2_37 h90 h93 rfl (hin rfl) rfl dX2_init_63 (fun σ92 eσ92 => ?_)
  replace hf94 := lt_of hf94 σ92 eσ92
  have m98 : hN σ87 ≤ hN σ92 := by rw [eσ92]; exact Nat.le_refl _
  have h96 : isO σ92 2 a0 := by rw [eσ92]; exact h90
  have h97 : isO σ92 10 n88 := by rw [eσ92]; exact h91
  refine j_aload_n X dX2_init_66 0 rfl rfl ?_
  refine j_iconst X (v := 0) dX2_init_67 (by decide) ?_
  refine j_puti X fp_X2_40 h96 dX2_init_68 (fun σ99 eσ99 => ?_)
  replace hf94 := lt_of hf94 σ99 eσ99
  have m102 : hN σ92 ≤ hN σ99 := by rw [eσ99]; exact Nat.le_refl _
  have h101 : isO σ99 2 a0 := by rw [eσ99]; exact h96
  refine j_aload_n X dX2_init_71 0 rfl rfl ?_
  obtain ⟨i103, h104, hf105⟩ := bd_of hf94; clear hf94
  refine j_getr X fd_X2_18 h101 h104 dX2_init_72 ?_
  refine j_iconst X (v := 1) dX2_init_75 (by decide) ?_
  obtain ⟨r106, σ107, h108, hf109⟩ := bc_of hf105; clear hf105
  refine j_callS0 X [.ref (q86 i103), .int (1 : Int32)] [] (c_J7_fill_53178 l D cs q86 i103 (1 : Int32) σ99 _ _ h108) mk_J7_fill_53178 ms_J7_fill_53178 ml_X2_43 ⟨rfl, rfl⟩ ⟨Nat.le_of_ble_eq_true rfl, Nat.le_of_ble_eq_true rfl⟩ rfl (Nat.le_of_ble_eq_true rfl) ⟨Nat.le_of_ble_eq_true rfl, Nat.le_of_ble_eq_true rfl⟩ dX2_init_76 rfl (st' := []) rfl ?_
  obtain ⟨h110, hf111⟩ := chk_of hf109; clear hf109
  obtain ⟨er, es⟩ := rt_of hf111
  exact j_retv X hr hlk (Nat.le_of_ble_eq_true rfl) (Nat.le_of_ble_eq_true rfl) ⟨(fun j hj => by rw [hq86 j (by omega), hq73 j (by omega), hq60 j (by omega), hq43 j (by omega), hq30 j (by omega), hq17 j (by omega), hq3 j (by omega)]), by rw [es]; omega⟩ es.symm rfl dX2_init_79
abbrev rm_X3_init : Room := { frames := 1, cells := 6, slots := 360, locals := 64 }
set_option maxHeartbeats 4000000 in
set_option maxRecDepth 100000 in
theorem c_X3_init (l : Launch) (D : va_G) (cs : Nat → ClassId) (q : Nat → Nat) (a0 : Nat) (σ σ0 : HS) (r0 : Unit) (hf0 : f_X3_init a0 σ = some (r0, σ0)) : MT l yX3_init (Cond.code yX3_init cX3_init 1 none :: lw_g) rm_X3_init D cs q σ σ0 [.ref (q a0)] (fun q1 => (∀ j : Nat, j < hN σ → q1 j = q j) ∧ hN σ ≤ hN σ0) (fun _ => none) 6 360 := by
  unfold f_X3_init at hf0
  refine MT_of (cc := cX3_init) (lv0 := [(0, .ref (q a0))]) (by decide) (Nat.le_of_ble_eq_true rfl) rfl (fun p e s m args below meth c A X hr hlk hin => ?_)
  refine j_aload_n X dX3_init_0 0 rfl rfl ?_
  refine j_objInit X ml_X3_3 (Nat.le_of_ble_eq_true rfl) (Nat.le_of_ble_eq_true rfl) dX3_init_1 ?_
  refine j_aload_n X dX3_init_4 0 rfl rfl ?_
  refine j_bipush X (v := 60) dX3_init_5 (by decide) ?_
  obtain ⟨h1, hf2⟩ := chk_of hf0; clear hf0
  refine j_newai X (b := 60) (by decide) (by decide) ⟨Nat.le_of_ble_eq_true rfl, Nat.le_of_ble_eq_true rfl⟩ dX3_init_7 (fun q3 σ4 n5 hq3 eσ4 en5 => ?_)
  replace hf2 := lt_of hf2 n5 en5
  replace hf2 := lt_of hf2 σ4 eσ4
  have m6 : hN σ4 = hN σ + 1 := by rw [eσ4]; rfl
  rw [← hq3 a0 h1]
  have h7 : isO σ4 10 n5 := isO_nw0 eσ4 en5
  obtain ⟨h8, hf9⟩ := chk_of hf2; clear hf2
  obtain ⟨h11, hf12⟩ := chk_of hf9; clear hf9
  refine j_putrF X fp_X3_9 h8 h11 rfl (hin rfl) rfl dX3_init_9 (fun σ10 eσ10 => ?_)
  replace hf12 := lt_of hf12 σ10 eσ10
  have m16 : hN σ4 ≤ hN σ10 := by rw [eσ10]; exact Nat.le_refl _
  have h14 : isO σ10 10 n5 := by rw [eσ10]; exact h7
  have h15 : isO σ10 3 a0 := by rw [eσ10]; exact h8
  refine j_aload_n X dX3_init_12 0 rfl rfl ?_
  refine j_iconst X (v := 0) dX3_init_13 (by decide) ?_
  refine j_puti X fp_X3_15 h15 dX3_init_14 (fun σ17 eσ17 => ?_)
  replace hf12 := lt_of hf12 σ17 eσ17
  have m20 : hN σ10 ≤ hN σ17 := by rw [eσ17]; exact Nat.le_refl _
  have h19 : isO σ17 3 a0 := by rw [eσ17]; exact h15
  refine j_aload_n X dX3_init_17 0 rfl rfl ?_
  refine j_iconst X (v := 0) dX3_init_18 (by decide) ?_
  refine j_puti X fp_X3_19 h19 dX3_init_19 (fun σ21 eσ21 => ?_)
  replace hf12 := lt_of hf12 σ21 eσ21
  have m24 : hN σ17 ≤ hN σ21 := by rw [eσ21]; exact Nat.le_refl _
  have h23 : isO σ21 3 a0 := by rw [eσ21]; exact h19
  refine j_aload_n X dX3_init_22 0 rfl rfl ?_
  refine j_bipush X (v := 60) dX3_init_23 (by decide) ?_
  refine j_newai X (b := 60) (by decide) (by decide) ⟨Nat.le_of_ble_eq_true rfl, Nat.le_of_ble_eq_true rfl⟩ dX3_init_25 (fun q25 σ26 n27 hq25 eσ26 en27 => ?_)
  replace hf12 := lt_of hf12 n27 en27
  replace hf12 := lt_of hf12 σ26 eσ26
  have m28 : hN σ26 = hN σ21 + 1 := by rw [eσ26]; rfl
  rw [← hq25 a0 h23.1]
  have h29 : isO σ26 3 a0 := isO_nw eσ26 h23
  have h30 : isO σ26 10 n27 := isO_nw0 eσ26 en27
  obtain ⟨h32, hf33⟩ := chk_of hf12; clear hf12
  refine j_putrF X fp_X3_22 h29 h32 rfl (hin rfl) rfl dX3_init_27 (fun σ31 eσ31 => ?_)
  replace hf33 := lt_of hf33 σ31 eσ31
  have m37 : hN σ26 ≤ hN σ31 := by rw [eσ31]; exact Nat.le_refl _
  have h35 : isO σ31 3 a0 := by rw [eσ31]; exact h29
  have h36 : isO σ31 10 n27 := by rw [eσ31]; exact h30
  refine j_aload_n X dX3_init_30 0 rfl rfl ?_
  refine j_bipush X (v := 60) dX3_init_31 (by decide) ?_
  refine j_newai X (b := 60) (by decide) (by decide) ⟨Nat.le_of_ble_eq_true rfl, Nat.le_of_ble_eq_true rfl⟩ dX3_init_33 (fun q38 σ39 n40 hq38 eσ39 en40 => ?_)
  replace hf33 := lt_of hf33 n40 en40
  replace hf33 := lt_of hf33 σ39 eσ39
  have m41 : hN σ39 = hN σ31 + 1 := by rw [eσ39]; rfl
  rw [← hq38 a0 h35.1]
  have h42 : isO σ39 3 a0 := isO_nw eσ39 h35
  have h43 : isO σ39 10 n40 := isO_nw0 eσ39 en40
  obtain ⟨h45, hf46⟩ := chk_of hf33; clear hf33
  refine j_putrF X fp_X3_25 h42 h45 rfl (hin rfl) rfl dX3_init_35 (fun σ44 eσ44 => ?_)
  replace hf46 := lt_of hf46 σ44 eσ44
  have m50 : hN σ39 ≤ hN σ44 := by rw [eσ44]; exact Nat.le_refl _
  have h48 : isO σ44 3 a0 := by rw [eσ44]; exact h42
  have h49 : isO σ44 10 n40 := by rw [eσ44]; exact h43
  refine j_aload_n X dX3_init_38 0 rfl rfl ?_
  refine j_bipush X (v := 60) dX3_init_39 (by decide) ?_
  refine j_newai X (b := 60) (by decide) (by decide) ⟨Nat.le_of_ble_eq_true rfl, Nat.le_of_ble_eq_true rfl⟩ dX3_init_41 (fun q51 σ52 n53 hq51 eσ52 en53 => ?_)
  replace hf46 := lt_of hf46 n53 en53
  replace hf46 := lt_of hf46 σ52 eσ52
  have m54 : hN σ52 = hN σ44 + 1 := by rw [eσ52]; rfl
  rw [← hq51 a0 h48.1]
  have h55 : isO σ52 3 a0 := isO_nw eσ52 h48
  have h56 : isO σ52 10 n53 := isO_nw0 eσ52 en53
  obtain ⟨h58, hf59⟩ := chk_of hf46; clear hf46
  refine j_putrF X fp_X3_28 h55 h58 rfl (hin rfl) rfl dX3_init_43 (fun σ57 eσ57 => ?_)
  replace hf59 := lt_of hf59 σ57 eσ57
  have m63 : hN σ52 ≤ hN σ57 := by rw [eσ57]; exact Nat.le_refl _
  have h61 : isO σ57 3 a0 := by rw [eσ57]; exact h55
  have h62 : isO σ57 10 n53 := by rw [eσ57]; exact h56
  refine j_aload_n X dX3_init_46 0 rfl rfl ?_
  refine j_bipush X (v := 60) dX3_init_47 (by decide) ?_
  refine j_newai X (b := 60) (by decide) (by decide) ⟨Nat.le_of_ble_eq_true rfl, Nat.le_of_ble_eq_true rfl⟩ dX3_init_49 (fun q64 σ65 n66 hq64 eσ65 en66 => ?_)
  replace hf59 := lt_of hf59 n66 en66
  replace hf59 := lt_of hf59 σ65 eσ65
  have m67 : hN σ65 = hN σ57 + 1 := by rw [eσ65]; rfl
  rw [← hq64 a0 h61.1]
  have h68 : isO σ65 3 a0 := isO_nw eσ65 h61
  have h69 : isO σ65 10 n66 := isO_nw0 eσ65 en66
  obtain ⟨h71, hf72⟩ := chk_of hf59; clear hf59
  refine j_putrF X fp_X3_31 h68 h71 rfl (hin rfl) rfl dX3_init_51 (fun σ70 eσ70 => ?_)
  replace hf72 := lt_of hf72 σ70 eσ70
  have m76 : hN σ65 ≤ hN σ70 := by rw [eσ70]; exact Nat.le_refl _
  have h74 : isO σ70 3 a0 := by rw [eσ70]; exact h68
  have h75 : isO σ70 10 n66 := by rw [eσ70]; exact h69
  refine j_aload_n X dX3_init_54 0 rfl rfl ?_
  refine j_bipush X (v := 60) dX3_init_55 (by decide) ?_
  refine j_newai X (b := 60) (by decide) (by decide) ⟨Nat.le_of_ble_eq_true rfl, Nat.le_of_ble_eq_true rfl⟩ dX3_init_57 (fun q77 σ78 n79 hq77 eσ78 en79 => ?_)
  replace hf72 := lt_of hf72 n79 en79
  replace hf72 := lt_of hf72 σ78 eσ78
  have m80 : hN σ78 = hN σ70 + 1 := by rw [eσ78]; rfl
  rw [← hq77 a0 h74.1]
  have h81 : isO σ78 3 a0 := isO_nw eσ78 h74
  have h82 : isO σ78 10 n79 := isO_nw0 eσ78 en79
  obtain ⟨h84, hf85⟩ := chk_of hf72; clear hf72
  refine j_putrF X fp_X3_34 h81 h84 rfl (hin rfl) rfl dX3_init_59 (fun σ83 eσ83 => ?_)
  replace hf85 := lt_of hf85 σ83 eσ83
  have m89 : hN σ78 ≤ hN σ83 := by rw [eσ83]; exact Nat.le_refl _
  have h87 : isO σ83 3 a0 := by rw [eσ83]; exact h81
  have h88 : isO σ83 10 n79 := by rw [eσ83]; exact h82
  refine j_aload_n X dX3_init_62 0 rfl rfl ?_
  refine j_iconst X (v := 0) dX3_init_63 (by decide) ?_
  refine j_puti X fp_X3_37 h87 dX3_init_64 (fun σ90 eσ90 => ?_)
  replace hf85 := lt_of hf85 σ90 eσ90
  have m93 : hN σ83 ≤ hN σ90 := by rw [eσ90]; exact Nat.le_refl _
  have h92 : isO σ90 3 a0 := by rw [eσ90]; exact h87
  obtain ⟨er, es⟩ := rt_of hf85
  exact j_retv X hr hlk (Nat.le_of_ble_eq_true rfl) (Nat.le_of_ble_eq_true rfl) ⟨(fun j hj => by rw [hq77 j (by omega), hq64 j (by omega), hq51 j (by omega), hq38 j (by omega), hq25 j (by omega), hq3 j (by omega)]), by rw [es]; omega⟩ es.symm rfl dX3_init_67
abbrev rm_X4_init : Room := { frames := 2, cells := 16, slots := 640, locals := 128 }
set_option maxHeartbeats 4000000 in
set_option maxRecDepth 100000 in
theorem c_X4_init (l : Launch) (D : va_G) (cs : Nat → ClassId) (q : Nat → Nat) (a0 : Nat) (σ σ0 : HS) (r0 : Unit) (hf0 : f_X4_init a0 σ = some (r0, σ0)) : MT l yX4_init (Cond.code yX4_init cX4_init 1 none :: lw_g) rm_X4_init D cs q σ σ0 [.ref (q a0)] (fun q1 => (∀ j : Nat, j < hN σ → q1 j = q j) ∧ hN σ ≤ hN σ0) (fun _ => none) 16 640 := by
  unfold f_X4_init at hf0
  refine MT_of (cc := cX4_init) (lv0 := [(0, .ref (q a0))]) (by decide) (Nat.le_of_ble_eq_true rfl) rfl (fun p e s m args below meth c A X hr hlk hin => ?_)
  refine j_aload_n X dX4_init_0 0 rfl rfl ?_
  refine j_objInit X ml_X4_3 (Nat.le_of_ble_eq_true rfl) (Nat.le_of_ble_eq_true rfl) dX4_init_1 ?_
  refine j_aload_n X dX4_init_4 0 rfl rfl ?_
  refine j_bipush X (v := 6) dX4_init_5 (by decide) ?_
  obtain ⟨h1, hf2⟩ := chk_of hf0; clear hf0
  refine j_newai X (b := 6) (by decide) (by decide) ⟨Nat.le_of_ble_eq_true rfl, Nat.le_of_ble_eq_true rfl⟩ dX4_init_7 (fun q3 σ4 n5 hq3 eσ4 en5 => ?_)
  replace hf2 := lt_of hf2 n5 en5
  replace hf2 := lt_of hf2 σ4 eσ4
  have m6 : hN σ4 = hN σ + 1 := by rw [eσ4]; rfl
  rw [← hq3 a0 h1]
  have h7 : isO σ4 10 n5 := isO_nw0 eσ4 en5
  obtain ⟨h8, hf9⟩ := chk_of hf2; clear hf2
  obtain ⟨h11, hf12⟩ := chk_of hf9; clear hf9
  refine j_putrF X fp_X4_9 h8 h11 rfl (hin rfl) rfl dX4_init_9 (fun σ10 eσ10 => ?_)
  replace hf12 := lt_of hf12 σ10 eσ10
  have m16 : hN σ4 ≤ hN σ10 := by rw [eσ10]; exact Nat.le_refl _
  have h14 : isO σ10 10 n5 := by rw [eσ10]; exact h7
  have h15 : isO σ10 4 a0 := by rw [eσ10]; exact h8
  refine j_aload_n X dX4_init_12 0 rfl rfl ?_
  refine j_bipush X (v := 6) dX4_init_13 (by decide) ?_
  refine j_newai X (b := 6) (by decide) (by decide) ⟨Nat.le_of_ble_eq_true rfl, Nat.le_of_ble_eq_true rfl⟩ dX4_init_15 (fun q17 σ18 n19 hq17 eσ18 en19 => ?_)
  replace hf12 := lt_of hf12 n19 en19
  replace hf12 := lt_of hf12 σ18 eσ18
  have m20 : hN σ18 = hN σ10 + 1 := by rw [eσ18]; rfl
  rw [← hq17 a0 h15.1]
  have h21 : isO σ18 4 a0 := isO_nw eσ18 h15
  have h22 : isO σ18 10 n19 := isO_nw0 eσ18 en19
  obtain ⟨h24, hf25⟩ := chk_of hf12; clear hf12
  refine j_putrF X fp_X4_15 h21 h24 rfl (hin rfl) rfl dX4_init_17 (fun σ23 eσ23 => ?_)
  replace hf25 := lt_of hf25 σ23 eσ23
  have m29 : hN σ18 ≤ hN σ23 := by rw [eσ23]; exact Nat.le_refl _
  have h27 : isO σ23 4 a0 := by rw [eσ23]; exact h21
  have h28 : isO σ23 10 n19 := by rw [eσ23]; exact h22
  refine j_aload_n X dX4_init_20 0 rfl rfl ?_
  refine j_iconst X (v := 0) dX4_init_21 (by decide) ?_
  refine j_putz X fp_X4_18 h27 (Or.inl rfl) dX4_init_22 (fun σ30 eσ30 => ?_)
  replace hf25 := lt_of hf25 σ30 eσ30
  have m33 : hN σ23 ≤ hN σ30 := by rw [eσ30]; exact Nat.le_refl _
  have h32 : isO σ30 4 a0 := by rw [eσ30]; exact h27
  refine j_aload_n X dX4_init_25 0 rfl rfl ?_
  refine j_lconst X (v := 0) dX4_init_26 (by decide) ?_
  refine j_putl X fp_X4_22 h32 dX4_init_27 (fun σ34 eσ34 => ?_)
  replace hf25 := lt_of hf25 σ34 eσ34
  have m37 : hN σ30 ≤ hN σ34 := by rw [eσ34]; exact Nat.le_refl _
  have h36 : isO σ34 4 a0 := by rw [eσ34]; exact h32
  refine j_aload_n X dX4_init_30 0 rfl rfl ?_
  refine j_lconst X (v := 0) dX4_init_31 (by decide) ?_
  refine j_putl X fp_X4_26 h36 dX4_init_32 (fun σ38 eσ38 => ?_)
  replace hf25 := lt_of hf25 σ38 eσ38
  have m41 : hN σ34 ≤ hN σ38 := by rw [eσ38]; exact Nat.le_refl _
  have h40 : isO σ38 4 a0 := by rw [eσ38]; exact h36
  refine j_aload_n X dX4_init_35 0 rfl rfl ?_
  refine j_bipush X (v := 6) dX4_init_36 (by decide) ?_
  refine j_newai X (b := 6) (by decide) (by decide) ⟨Nat.le_of_ble_eq_true rfl, Nat.le_of_ble_eq_true rfl⟩ dX4_init_38 (fun q42 σ43 n44 hq42 eσ43 en44 => ?_)
  replace hf25 := lt_of hf25 n44 en44
  replace hf25 := lt_of hf25 σ43 eσ43
  have m45 : hN σ43 = hN σ38 + 1 := by rw [eσ43]; rfl
  rw [← hq42 a0 h40.1]
  have h46 : isO σ43 4 a0 := isO_nw eσ43 h40
  have h47 : isO σ43 10 n44 := isO_nw0 eσ43 en44
  obtain ⟨h49, hf50⟩ := chk_of hf25; clear hf25
  refine j_putrF X fp_X4_29 h46 h49 rfl (hin rfl) rfl dX4_init_40 (fun σ48 eσ48 => ?_)
  replace hf50 := lt_of hf50 σ48 eσ48
  have m54 : hN σ43 ≤ hN σ48 := by rw [eσ48]; exact Nat.le_refl _
  have h52 : isO σ48 4 a0 := by rw [eσ48]; exact h46
  have h53 : isO σ48 10 n44 := by rw [eσ48]; exact h47
  refine j_aload_n X dX4_init_43 0 rfl rfl ?_
  refine j_new X nf_X4_32 ⟨Nat.le_of_ble_eq_true rfl, Nat.le_of_ble_eq_true rfl⟩ dX4_init_44 (fun q55 σ56 n57 hq55 eσ56 en57 => ?_)
  replace hf50 := lt_of hf50 n57 en57
  replace hf50 := lt_of hf50 σ56 eσ56
  have m58 : hN σ56 = hN σ48 + 1 := by rw [eσ56]; rfl
  rw [← hq55 a0 h52.1]
  have h59 : isO σ56 4 a0 := isO_nw eσ56 h52
  have h60 : isO σ56 1 n57 := isO_nw0 eσ56 en57
  refine j_dup X dX4_init_47 rfl ?_
  refine j_bipush X (v := 60) dX4_init_48 (by decide) ?_
  obtain ⟨r61, σ62, h63, hf64⟩ := bc_of hf50; clear hf50
  refine j_callI X (As := [.int (60 : Int32)]) (rest := [.ref (q55 n57), .ref (q55 a0)]) (c_X1_init l D cs q55 n57 (60 : Int32) σ56 _ _ h63) mk_X1_init mv_X1_init ml_X4_34 ⟨rfl, rfl⟩ ⟨Nat.le_of_ble_eq_true rfl, Nat.le_of_ble_eq_true rfl⟩ rfl (Nat.le_of_ble_eq_true rfl) ⟨Nat.le_of_ble_eq_true rfl, Nat.le_of_ble_eq_true rfl⟩ dX4_init_50 rfl (fun z => [.ref (q55 n57), .ref (q55 a0)]) (fun _ => rfl) (fun q65 hq65 => ?_)
  obtain ⟨hq65, m66⟩ := hq65
  rw [← hq65 a0 h59.1, ← hq65 n57 h60.1]
  obtain ⟨h67, hf68⟩ := chk_of hf64; clear hf64
  obtain ⟨h70, hf71⟩ := chk_of hf68; clear hf68
  refine j_putrF X fp_X4_37 h67 h70 rfl (hin rfl) rfl dX4_init_53 (fun σ69 eσ69 => ?_)
  replace hf71 := lt_of hf71 σ69 eσ69
  have m74 : hN σ62 ≤ hN σ69 := by rw [eσ69]; exact Nat.le_refl _
  have h73 : isO σ69 4 a0 := by rw [eσ69]; exact h67
  refine j_aload_n X dX4_init_56 0 rfl rfl ?_
  refine j_new X nf_X4_32 ⟨Nat.le_of_ble_eq_true rfl, Nat.le_of_ble_eq_true rfl⟩ dX4_init_57 (fun q75 σ76 n77 hq75 eσ76 en77 => ?_)
  replace hf71 := lt_of hf71 n77 en77
  replace hf71 := lt_of hf71 σ76 eσ76
  have m78 : hN σ76 = hN σ69 + 1 := by rw [eσ76]; rfl
  rw [← hq75 a0 h73.1]
  have h79 : isO σ76 4 a0 := isO_nw eσ76 h73
  have h80 : isO σ76 1 n77 := isO_nw0 eσ76 en77
  refine j_dup X dX4_init_60 rfl ?_
  refine j_bipush X (v := 60) dX4_init_61 (by decide) ?_
  obtain ⟨r81, σ82, h83, hf84⟩ := bc_of hf71; clear hf71
  refine j_callI X (As := [.int (60 : Int32)]) (rest := [.ref (q75 n77), .ref (q75 a0)]) (c_X1_init l D cs q75 n77 (60 : Int32) σ76 _ _ h83) mk_X1_init mv_X1_init ml_X4_34 ⟨rfl, rfl⟩ ⟨Nat.le_of_ble_eq_true rfl, Nat.le_of_ble_eq_true rfl⟩ rfl (Nat.le_of_ble_eq_true rfl) ⟨Nat.le_of_ble_eq_true rfl, Nat.le_of_ble_eq_true rfl⟩ dX4_init_63 rfl (fun z => [.ref (q75 n77), .ref (q75 a0)]) (fun _ => rfl) (fun q85 hq85 => ?_)
  obtain ⟨hq85, m86⟩ := hq85
  rw [← hq85 a0 h79.1, ← hq85 n77 h80.1]
  obtain ⟨h87, hf88⟩ := chk_of hf84; clear hf84
  obtain ⟨h90, hf91⟩ := chk_of hf88; clear hf88
  refine j_putrF X fp_X4_41 h87 h90 rfl (hin rfl) rfl dX4_init_66 (fun σ89 eσ89 => ?_)
  replace hf91 := lt_of hf91 σ89 eσ89
  have m94 : hN σ82 ≤ hN σ89 := by rw [eσ89]; exact Nat.le_refl _
  have h93 : isO σ89 4 a0 := by rw [eσ89]; exact h87
  refine j_aload_n X dX4_init_69 0 rfl rfl ?_
  refine j_new X nf_X4_32 ⟨Nat.le_of_ble_eq_true rfl, Nat.le_of_ble_eq_true rfl⟩ dX4_init_70 (fun q95 σ96 n97 hq95 eσ96 en97 => ?_)
  replace hf91 := lt_of hf91 n97 en97
  replace hf91 := lt_of hf91 σ96 eσ96
  have m98 : hN σ96 = hN σ89 + 1 := by rw [eσ96]; rfl
  rw [← hq95 a0 h93.1]
  have h99 : isO σ96 4 a0 := isO_nw eσ96 h93
  have h100 : isO σ96 1 n97 := isO_nw0 eσ96 en97
  refine j_dup X dX4_init_73 rfl ?_
  refine j_iconst X (v := 2) dX4_init_74 (by decide) ?_
  obtain ⟨r101, σ102, h103, hf104⟩ := bc_of hf91; clear hf91
  refine j_callI X (As := [.int (2 : Int32)]) (rest := [.ref (q95 n97), .ref (q95 a0)]) (c_X1_init l D cs q95 n97 (2 : Int32) σ96 _ _ h103) mk_X1_init mv_X1_init ml_X4_34 ⟨rfl, rfl⟩ ⟨Nat.le_of_ble_eq_true rfl, Nat.le_of_ble_eq_true rfl⟩ rfl (Nat.le_of_ble_eq_true rfl) ⟨Nat.le_of_ble_eq_true rfl, Nat.le_of_ble_eq_true rfl⟩ dX4_init_75 rfl (fun z => [.ref (q95 n97), .ref (q95 a0)]) (fun _ => rfl) (fun q105 hq105 => ?_)
  obtain ⟨hq105, m106⟩ := hq105
  rw [← hq105 a0 h99.1, ← hq105 n97 h100.1]
  obtain ⟨h107, hf108⟩ := chk_of hf104; clear hf104
  obtain ⟨h110, hf111⟩ := chk_of hf108; clear hf108
  refine j_putrF X fp_X4_44 h107 h110 rfl (hin rfl) rfl dX4_init_78 (fun σ109 eσ109 => ?_)
  replace hf111 := lt_of hf111 σ109 eσ109
  have m114 : hN σ102 ≤ hN σ109 := by rw [eσ109]; exact Nat.le_refl _
  have h113 : isO σ109 4 a0 := by rw [eσ109]; exact h107
  refine j_aload_n X dX4_init_81 0 rfl rfl ?_
  refine j_bipush X (v := 60) dX4_init_82 (by decide) ?_
  refine j_newal X (b := 60) (by decide) (by decide) ⟨Nat.le_of_ble_eq_true rfl, Nat.le_of_ble_eq_true rfl⟩ dX4_init_84 (fun q115 σ116 n117 hq115 eσ116 en117 => ?_)
  replace hf111 := lt_of hf111 n117 en117
  replace hf111 := lt_of hf111 σ116 eσ116
  have m118 : hN σ116 = hN σ109 + 1 := by rw [eσ116]; rfl
  rw [← hq115 a0 h113.1]
  have h119 : isO σ116 4 a0 := isO_nw eσ116 h113
  have h120 : isO σ116 12 n117 := isO_nw0 eσ116 en117
  obtain ⟨h122, hf123⟩ := chk_of hf111; clear hf111
  refine j_putrF X fp_X4_47 h119 h122 rfl (hin rfl) rfl dX4_init_86 (fun σ121 eσ121 => ?_)
  replace hf123 := lt_of hf123 σ121 eσ121
  have m127 : hN σ116 ≤ hN σ121 := by rw [eσ121]; exact Nat.le_refl _
  have h125 : isO σ121 4 a0 := by rw [eσ121]; exact h119
  have h126 : isO σ121 12 n117 := by rw [eσ121]; exact h120
  obtain ⟨er, es⟩ := rt_of hf123
  exact j_retv X hr hlk (Nat.le_of_ble_eq_true rfl) (Nat.le_of_ble_eq_true rfl) ⟨(fun j hj => by rw [hq115 j (by omega), hq105 j (by omega), hq95 j (by omega), hq85 j (by omega), hq75 j (by omega), hq65 j (by omega), hq55 j (by omega), hq42 j (by omega), hq17 j (by omega), hq3 j (by omega)]), by rw [es]; omega⟩ es.symm rfl dX4_init_89
