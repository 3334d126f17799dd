abbrev rm_X0_init : Room := { frames := 3, cells := 8, slots := 480, locals := 192 }
set_option maxHeartbeats 4000000 in
set_option maxRecDepth 100000 in
theorem c_X0_init (l : Launch) (D : va_G) (cs : Nat → ClassId) (q : Nat → Nat) (a0 : Nat) (a1 : Nat) (σ σ0 : HS) (r0 : Unit) (hf0 : f_X0_init a0 a1 σ = some (r0, σ0)) : MT l yX0_init (Cond.code yX0_init cX0_init 3 none :: lw_g) rm_X0_init D cs q σ σ0 [.ref (q a0), .ref (q a1)] (fun q1 => (∀ j : Nat, j < hN σ → q1 j = q j) ∧ hN σ ≤ hN σ0) (fun _ => none) 8 480 := by
  unfold f_X0_init at hf0
  refine MT_of (cc := cX0_init) (lv0 := [(0, .ref (q a0)), (1, .ref (q a1))]) (by decide) (Nat.le_of_ble_eq_true rfl) rfl (fun p e s m args below meth c A X hr hlk hin => ?_)
  refine j_aload_n X dX0_init_0 0 rfl rfl ?_
  refine j_objInit X ml_X0_3 (Nat.le_of_ble_eq_true rfl) (Nat.le_of_ble_eq_true rfl) dX0_init_1 ?_
  refine j_aload_n X dX0_init_4 0 rfl rfl ?_
  refine j_aload_n X dX0_init_5 1 rfl rfl ?_
  obtain ⟨h1, hf2⟩ := chk_of hf0; clear hf0
  refine j_geti X fd_X0_9 h1 dX0_init_6 (fun v3 ev3 => ?_)
  replace hf2 := lt_of hf2 v3 ev3
  obtain ⟨h5, hf6⟩ := chk_of hf2; clear hf2
  refine j_putiF X fp_X0_15 h5 (hin rfl) rfl dX0_init_9 (fun σ7 eσ7 => ?_)
  replace hf6 := lt_of hf6 σ7 eσ7
  have m11 : hN σ ≤ hN σ7 := by rw [eσ7]; exact Nat.le_refl _
  have h9 : isO σ7 3 a1 := by rw [eσ7]; exact h1
  have h10 : isO σ7 0 a0 := by rw [eσ7]; exact h5
  refine j_aload_n X dX0_init_12 0 rfl rfl ?_
  refine j_aload_n X dX0_init_13 1 rfl rfl ?_
  obtain ⟨i12, h13, hf14⟩ := bd_of hf6; clear hf6
  refine j_getr X fd_X0_18 h9 h13 dX0_init_14 ?_
  refine j_aload_n X dX0_init_17 0 rfl rfl ?_
  refine j_geti X fd_X0_15 h10 dX0_init_18 (fun v15 ev15 => ?_)
  replace hf14 := lt_of hf14 v15 ev15
  obtain ⟨r17, σ18, h19, hf20⟩ := bc_of hf14; clear hf14
  refine j_callS X (As := [.ref (q i12), .int v15]) (rest := [.ref (q a0)]) (c_J7_copyOf_59c91 l D cs q i12 v15 σ7 _ _ h19) mk_J7_copyOf_59c91 ms_J7_copyOf_59c91 ml_X0_22 ⟨rfl, rfl⟩ ⟨Nat.le_of_ble_eq_true rfl, Nat.le_of_ble_eq_true rfl⟩ rfl (Nat.le_of_ble_eq_true rfl) ⟨Nat.le_of_ble_eq_true rfl, Nat.le_of_ble_eq_true rfl⟩ dX0_init_21 rfl (fun z => [va_rf (Option.map z r17), .ref (q a0)]) (fun _ => rfl) (fun q21 hq21 => ?_)
  obtain ⟨hq21, m22⟩ := hq21
  rw [← hq21 a0 h10.1, ← hq21 a1 h9.1]
  obtain ⟨i23, h24, hf25⟩ := bd_of hf20; clear hf20; subst h24
  obtain ⟨h26, hf27⟩ := chk_of hf25; clear hf25
  obtain ⟨h29, hf30⟩ := chk_of hf27; clear hf27
  refine j_putrF X fp_X0_28 h26 h29 rfl (hin rfl) rfl dX0_init_24 (fun σ28 eσ28 => ?_)
  replace hf30 := lt_of hf30 σ28 eσ28
  have m33 : hN σ18 ≤ hN σ28 := by rw [eσ28]; exact Nat.le_refl _
  have h32 : isO σ28 0 a0 := by rw [eσ28]; exact h26
  refine j_aload_n X dX0_init_27 0 rfl rfl ?_
  refine j_aload_n X dX0_init_28 1 rfl rfl ?_
  obtain ⟨h34, hf35⟩ := chk_of hf30; clear hf30
  obtain ⟨i36, h37, hf38⟩ := bd_of hf35; clear hf35
  refine j_getr X fd_X0_29 h34 h37 dX0_init_29 ?_
  refine j_aload_n X dX0_init_32 0 rfl rfl ?_
  refine j_geti X fd_X0_15 h32 dX0_init_33 (fun v39 ev39 => ?_)
  replace hf38 := lt_of hf38 v39 ev39
  obtain ⟨r41, σ42, h43, hf44⟩ := bc_of hf38; clear hf38
  refine j_callS X (As := [.ref (q21 i36), .int v39]) (rest := [.ref (q21 a0)]) (c_J7_copyOf_59c91 l D cs q21 i36 v39 σ28 _ _ h43) mk_J7_copyOf_59c91 ms_J7_copyOf_59c91 ml_X0_22 ⟨rfl, rfl⟩ ⟨Nat.le_of_ble_eq_true rfl, Nat.le_of_ble_eq_true rfl⟩ rfl (Nat.le_of_ble_eq_true rfl) ⟨Nat.le_of_ble_eq_true rfl, Nat.le_of_ble_eq_true rfl⟩ dX0_init_36 rfl (fun z => [va_rf (Option.map z r41), .ref (q21 a0)]) (fun _ => rfl) (fun q45 hq45 => ?_)
  obtain ⟨hq45, m46⟩ := hq45
  rw [← hq45 a0 h32.1, ← hq45 a1 h34.1]
  obtain ⟨i47, h48, hf49⟩ := bd_of hf44; clear hf44; subst h48
  obtain ⟨h50, hf51⟩ := chk_of hf49; clear hf49
  obtain ⟨h53, hf54⟩ := chk_of hf51; clear hf51
  refine j_putrF X fp_X0_32 h50 h53 rfl (hin rfl) rfl dX0_init_39 (fun σ52 eσ52 => ?_)
  replace hf54 := lt_of hf54 σ52 eσ52
  have m57 : hN σ42 ≤ hN σ52 := by rw [eσ52]; exact Nat.le_refl _
  have h56 : isO σ52 0 a0 := by rw [eσ52]; exact h50
  refine j_aload_n X dX0_init_42 0 rfl rfl ?_
  refine j_aload_n X dX0_init_43 1 rfl rfl ?_
  obtain ⟨h58, hf59⟩ := chk_of hf54; clear hf54
  obtain ⟨i60, h61, hf62⟩ := bd_of hf59; clear hf59
  refine j_getr X fd_X0_33 h58 h61 dX0_init_44 ?_
  refine j_aload_n X dX0_init_47 0 rfl rfl ?_
  refine j_geti X fd_X0_15 h56 dX0_init_48 (fun v63 ev63 => ?_)
  replace hf62 := lt_of hf62 v63 ev63
  obtain ⟨r65, σ66, h67, hf68⟩ := bc_of hf62; clear hf62
  refine j_callS X (As := [.ref (q45 i60), .int v63]) (rest := [.ref (q45 a0)]) (c_J7_copyOf_59c91 l D cs q45 i60 v63 σ52 _ _ h67) mk_J7_copyOf_59c91 ms_J7_copyOf_59c91 ml_X0_22 ⟨rfl, rfl⟩ ⟨Nat.le_of_ble_eq_true rfl, Nat.le_of_ble_eq_true rfl⟩ rfl (Nat.le_of_ble_eq_true rfl) ⟨Nat.le_of_ble_eq_true rfl, Nat.le_of_ble_eq_true rfl⟩ dX0_init_51 rfl (fun z => [va_rf (Option.map z r65), .ref (q45 a0)]) (fun _ => rfl) (fun q69 hq69 => ?_)
  obtain ⟨hq69, m70⟩ := hq69
  rw [← hq69 a0 h56.1, ← hq69 a1 h58.1]
  obtain ⟨i71, h72, hf73⟩ := bd_of hf68; clear hf68; subst h72
  obtain ⟨h74, hf75⟩ := chk_of hf73; clear hf73
  obtain ⟨h77, hf78⟩ := chk_of hf75; clear hf75
  refine j_putrF X fp_X0_36 h74 h77 rfl (hin rfl) rfl dX0_init_54 (fun σ76 eσ76 => ?_)
  replace hf78 := lt_of hf78 σ76 eσ76
  have m81 : hN σ66 ≤ hN σ76 := by rw [eσ76]; exact Nat.le_refl _
  have h80 : isO σ76 0 a0 := by rw [eσ76]; exact h74
  refine j_aload_n X dX0_init_57 0 rfl rfl ?_
  refine j_aload_n X dX0_init_58 1 rfl rfl ?_
  obtain ⟨h82, hf83⟩ := chk_of hf78; clear hf78
  obtain ⟨i84, h85, hf86⟩ := bd_of hf83; clear hf83
  refine j_getr X fd_X0_37 h82 h85 dX0_init_59 ?_
  refine j_aload_n X dX0_init_62 0 rfl rfl ?_
  refine j_geti X fd_X0_15 h80 dX0_init_63 (fun v87 ev87 => ?_)
  replace hf86 := lt_of hf86 v87 ev87
  obtain ⟨r89, σ90, h91, hf92⟩ := bc_of hf86; clear hf86
  refine j_callS X (As := [.ref (q69 i84), .int v87]) (rest := [.ref (q69 a0)]) (c_J7_copyOf_59c91 l D cs q69 i84 v87 σ76 _ _ h91) mk_J7_copyOf_59c91 ms_J7_copyOf_59c91 ml_X0_22 ⟨rfl, rfl⟩ ⟨Nat.le_of_ble_eq_true rfl, Nat.le_of_ble_eq_true rfl⟩ rfl (Nat.le_of_ble_eq_true rfl) ⟨Nat.le_of_ble_eq_true rfl, Nat.le_of_ble_eq_true rfl⟩ dX0_init_66 rfl (fun z => [va_rf (Option.map z r89), .ref (q69 a0)]) (fun _ => rfl) (fun q93 hq93 => ?_)
  obtain ⟨hq93, m94⟩ := hq93
  rw [← hq93 a0 h80.1, ← hq93 a1 h82.1]
  obtain ⟨i95, h96, hf97⟩ := bd_of hf92; clear hf92; subst h96
  obtain ⟨h98, hf99⟩ := chk_of hf97; clear hf97
  obtain ⟨h101, hf102⟩ := chk_of hf99; clear hf99
  refine j_putrF X fp_X0_40 h98 h101 rfl (hin rfl) rfl dX0_init_69 (fun σ100 eσ100 => ?_)
  replace hf102 := lt_of hf102 σ100 eσ100
  have m105 : hN σ90 ≤ hN σ100 := by rw [eσ100]; exact Nat.le_refl _
  have h104 : isO σ100 0 a0 := by rw [eσ100]; exact h98
  refine j_aload_n X dX0_init_72 0 rfl rfl ?_
  refine j_aload_n X dX0_init_73 1 rfl rfl ?_
  obtain ⟨h106, hf107⟩ := chk_of hf102; clear hf102
  obtain ⟨i108, h109, hf110⟩ := bd_of hf107; clear hf107
  refine j_getr X fd_X0_41 h106 h109 dX0_init_74 ?_
  refine j_aload_n X dX0_init_77 0 rfl rfl ?_
  refine j_geti X fd_X0_15 h104 dX0_init_78 (fun v111 ev111 => ?_)
  replace hf110 := lt_of hf110 v111 ev111
  obtain ⟨r113, σ114, h115, hf116⟩ := bc_of hf110; clear hf110
  refine j_callS X (As := [.ref (q93 i108), .int v111]) (rest := [.ref (q93 a0)]) (c_J7_copyOf_59c91 l D cs q93 i108 v111 σ100 _ _ h115) mk_J7_copyOf_59c91 ms_J7_copyOf_59c91 ml_X0_22 ⟨rfl, rfl⟩ ⟨Nat.le_of_ble_eq_true rfl, Nat.le_of_ble_eq_true rfl⟩ rfl (Nat.le_of_ble_eq_true rfl) ⟨Nat.le_of_ble_eq_true rfl, Nat.le_of_ble_eq_true rfl⟩ dX0_init_81 rfl (fun z => [va_rf (Option.map z r113), .ref (q93 a0)]) (fun _ => rfl) (fun q117 hq117 => ?_)
  obtain ⟨hq117, m118⟩ := hq117
  rw [← hq117 a0 h104.1, ← hq117 a1 h106.1]
  obtain ⟨i119, h120, hf121⟩ := bd_of hf116; clear hf116; subst h120
  obtain ⟨h122, hf123⟩ := chk_of hf121; clear hf121
  obtain ⟨h125, hf126⟩ := chk_of hf123; clear hf123
  refine j_putrF X fp_X0_44 h122 h125 rfl (hin rfl) rfl dX0_init_84 (fun σ124 eσ124 => ?_)
  replace hf126 := lt_of hf126 σ124 eσ124
  have m129 : hN σ114 ≤ hN σ124 := by rw [eσ124]; exact Nat.le_refl _
  have h128 : isO σ124 0 a0 := by rw [eσ124]; exact h122
  refine j_aload_n X dX0_init_87 0 rfl rfl ?_
  refine j_aload_n X dX0_init_88 1 rfl rfl ?_
  obtain ⟨r130, σ131, h132, hf133⟩ := bc_of hf126; clear hf126
  refine j_callS0 X [.ref (q117 a1)] [.ref (q117 a0)] (c_X0_sourcesIn l D cs q117 a1 σ124 _ _ h132) mk_X0_sourcesIn ms_X0_sourcesIn ml_X0_45 ⟨rfl, rfl⟩ ⟨Nat.le_of_ble_eq_true rfl, Nat.le_of_ble_eq_true rfl⟩ rfl (Nat.le_of_ble_eq_true rfl) ⟨Nat.le_of_ble_eq_true rfl, Nat.le_of_ble_eq_true rfl⟩ dX0_init_89 rfl (st' := [.int r130, .ref (q117 a0)]) rfl ?_
  obtain ⟨h134, hf135⟩ := chk_of hf133; clear hf133
  obtain ⟨h136, hf137⟩ := chk_of hf135; clear hf135
  refine j_putiF X fp_X0_49 h136 (hin rfl) rfl dX0_init_92 (fun σ138 eσ138 => ?_)
  replace hf137 := lt_of hf137 σ138 eσ138
  have m141 : hN σ131 ≤ hN σ138 := by rw [eσ138]; exact Nat.le_refl _
  have h140 : isO σ138 0 a0 := by rw [eσ138]; exact h136
  refine j_aload_n X dX0_init_95 0 rfl rfl ?_
  refine j_aload_n X dX0_init_96 1 rfl rfl ?_
  obtain ⟨h146, hf147⟩ := chk_of hf137; clear hf137
  obtain ⟨r142, σ143, h144, hf145⟩ := bc_of hf147; clear hf147
  refine j_callS X (As := [.ref (q117 a1)]) (rest := [.ref (q117 a0)]) (c_X0_depthOf l D cs q117 a1 σ138 _ _ h144) mk_X0_depthOf ms_X0_depthOf ml_X0_52 ⟨rfl, rfl⟩ ⟨Nat.le_of_ble_eq_true rfl, Nat.le_of_ble_eq_true rfl⟩ rfl (Nat.le_of_ble_eq_true rfl) ⟨Nat.le_of_ble_eq_true rfl, Nat.le_of_ble_eq_true rfl⟩ dX0_init_97 rfl (fun z => [.int r142, .ref (q117 a0)]) (fun _ => rfl) (fun q148 hq148 => ?_)
  obtain ⟨hq148, m149⟩ := hq148
  rw [← hq148 a0 h140.1, ← hq148 a1 h146]
  obtain ⟨h150, hf151⟩ := chk_of hf145; clear hf145
  refine j_putiF X fp_X0_55 h150 (hin rfl) rfl dX0_init_100 (fun σ152 eσ152 => ?_)
  replace hf151 := lt_of hf151 σ152 eσ152
  have m155 : hN σ143 ≤ hN σ152 := by rw [eσ152]; exact Nat.le_refl _
  have h154 : isO σ152 0 a0 := by rw [eσ152]; exact h150
  refine j_aload_n X dX0_init_103 1 rfl rfl ?_
  obtain ⟨h160, hf161⟩ := chk_of hf151; clear hf151
  obtain ⟨r156, σ157, h158, hf159⟩ := bc_of hf161; clear hf161
  refine j_callS X (As := [.ref (q148 a1)]) (rest := []) (c_X0_likenessIn l D cs q148 a1 σ152 _ _ h158) mk_X0_likenessIn ms_X0_likenessIn ml_X0_58 ⟨rfl, rfl⟩ ⟨Nat.le_of_ble_eq_true rfl, Nat.le_of_ble_eq_true rfl⟩ rfl (Nat.le_of_ble_eq_true rfl) ⟨Nat.le_of_ble_eq_true rfl, Nat.le_of_ble_eq_true rfl⟩ dX0_init_104 rfl (fun z => [va_rf (Option.map z r156)]) (fun _ => rfl) (fun q162 hq162 => ?_)
  obtain ⟨hq162, m163⟩ := hq162
  rw [← hq162 a0 h154.1, ← hq162 a1 h160]
  obtain ⟨i164, h165, hf166⟩ := bd_of hf159; clear hf159; subst h165
  refine j_astore_n X (lv' := [(2, .ref (q162 i164)), (0, .ref (q162 a0)), (1, .ref (q162 a1))]) dX0_init_107 rfl (by decide) rfl ?_
  refine j_aload_n X dX0_init_108 1 rfl rfl ?_
  refine j_aload_n X dX0_init_109 0 rfl rfl ?_
  obtain ⟨r167, σ168, h169, hf170⟩ := bc_of hf166; clear hf166
  refine j_callS0 X [.ref (q162 i164)] [.ref (q162 a0)] (c_X0_unlikeIn l D cs q162 i164 σ157 _ _ h169) mk_X0_unlikeIn ms_X0_unlikeIn ml_X0_62 ⟨rfl, rfl⟩ ⟨Nat.le_of_ble_eq_true rfl, Nat.le_of_ble_eq_true rfl⟩ rfl (Nat.le_of_ble_eq_true rfl) ⟨Nat.le_of_ble_eq_true rfl, Nat.le_of_ble_eq_true rfl⟩ dX0_init_110 rfl (st' := [.int r167, .ref (q162 a0)]) rfl ?_
  obtain ⟨h171, hf172⟩ := chk_of hf170; clear hf170
  obtain ⟨h173, hf174⟩ := chk_of hf172; clear hf172
  refine j_putiF X fp_X0_66 h173 (hin rfl) rfl dX0_init_113 (fun σ175 eσ175 => ?_)
  replace hf174 := lt_of hf174 σ175 eσ175
  have m178 : hN σ168 ≤ hN σ175 := by rw [eσ175]; exact Nat.le_refl _
  have h177 : isO σ175 0 a0 := by rw [eσ175]; exact h173
  refine j_aload_n X dX0_init_116 1 rfl rfl ?_
  refine j_aload_n X dX0_init_117 0 rfl rfl ?_
  obtain ⟨h183, hf184⟩ := chk_of hf174; clear hf174
  obtain ⟨h185, hf186⟩ := chk_of hf184; clear hf184
  obtain ⟨r179, σ180, h181, hf182⟩ := bc_of hf186; clear hf186
  refine j_callS X (As := [.ref (q162 i164)]) (rest := [.ref (q162 a0)]) (c_X0_mostAlikeIn l D cs q162 i164 σ175 _ _ h181) mk_X0_mostAlikeIn ms_X0_mostAlikeIn ml_X0_69 ⟨rfl, rfl⟩ ⟨Nat.le_of_ble_eq_true rfl, Nat.le_of_ble_eq_true rfl⟩ rfl (Nat.le_of_ble_eq_true rfl) ⟨Nat.le_of_ble_eq_true rfl, Nat.le_of_ble_eq_true rfl⟩ dX0_init_118 rfl (fun z => [.int r179, .ref (q162 a0)]) (fun _ => rfl) (fun q187 hq187 => ?_)
  obtain ⟨hq187, m188⟩ := hq187
  rw [← hq187 i164 h183, ← hq187 a0 h177.1, ← hq187 a1 h185]
  obtain ⟨h189, hf190⟩ := chk_of hf182; clear hf182
  refine j_putiF X fp_X0_72 h189 (hin rfl) rfl dX0_init_121 (fun σ191 eσ191 => ?_)
  replace hf190 := lt_of hf190 σ191 eσ191
  have m194 : hN σ180 ≤ hN σ191 := by rw [eσ191]; exact Nat.le_refl _
  have h193 : isO σ191 0 a0 := by rw [eσ191]; exact h189
  obtain ⟨er, es⟩ := rt_of hf190
  exact j_retv X hr hlk (Nat.le_of_ble_eq_true rfl) (Nat.le_of_ble_eq_true rfl) ⟨(fun j hj => by rw [hq187 j (by omega), hq162 j (by omega), hq148 j (by omega), hq117 j (by omega), hq93 j (by omega), hq69 j (by omega), hq45 j (by omega), hq21 j (by omega)]), by rw [es]; omega⟩ es.symm rfl dX0_init_124
abbrev rm_X3_readFormula : Room := { frames := 43, cells := 9, slots := 490, locals := 2752 }
set_option maxHeartbeats 4000000 in
set_option maxRecDepth 100000 in
theorem c_X3_readFormula (l : Launch) (D : va_G) (cs : Nat → ClassId) (q : Nat → Nat) (a0 : Nat) (σ σ0 : HS) (r0 : (Option Nat)) (hf0 : f_X3_readFormula a0 σ = some (r0, σ0)) : MT l yX3_readFormula (Cond.code yX3_readFormula cX3_readFormula 2 (some (.object "SpanKeeper$Formula")) :: lw_g) rm_X3_readFormula D cs q σ σ0 [.ref (q a0)] (fun q1 => (∀ j : Nat, j < hN σ → q1 j = q j) ∧ hN σ ≤ hN σ0) (fun z => some (va_rf (Option.map z r0))) 9 490 := by
  unfold f_X3_readFormula at hf0
  refine MT_of (cc := cX3_readFormula) (lv0 := [(0, .ref (q a0))]) (by decide) (Nat.le_of_ble_eq_true rfl) rfl (fun p e s m args below meth c A X hr hlk hin => ?_)
  refine j_aload_n X dX3_readFormula_0 0 rfl rfl ?_
  refine j_iconst X (v := 0) dX3_readFormula_1 (by decide) ?_
  obtain ⟨h1, hf2⟩ := chk_of hf0; clear hf0
  refine j_puti X fp_X3_19 h1 dX3_readFormula_2 (fun σ3 eσ3 => ?_)
  replace hf2 := lt_of hf2 σ3 eσ3
  have m6 : hN σ ≤ hN σ3 := by rw [eσ3]; exact Nat.le_refl _
  have h5 : isO σ3 3 a0 := by rw [eσ3]; exact h1
  refine j_aload_n X dX3_readFormula_5 0 rfl rfl ?_
  refine j_iconst X (v := 0) dX3_readFormula_6 (by decide) ?_
  refine j_puti X fp_X3_37 h5 dX3_readFormula_7 (fun σ7 eσ7 => ?_)
  replace hf2 := lt_of hf2 σ7 eσ7
  have m10 : hN σ3 ≤ hN σ7 := by rw [eσ7]; exact Nat.le_refl _
  have h9 : isO σ7 3 a0 := by rw [eσ7]; exact h5
  refine j_aload_n X dX3_readFormula_10 0 rfl rfl ?_
  refine j_iconst X (v := 0) dX3_readFormula_11 (by decide) ?_
  obtain ⟨r11, σ12, h13, hf14⟩ := bc_of hf2; clear hf2
  refine j_callV0 X [.int (0 : Int32)] [] (c_X3_readSum l D cs q a0 (0 : Int32) σ7 _ _ h13) mk_X3_readSum mv_X3_readSum ml_X3_40 h9 rfl (by decide) ⟨rfl, rfl⟩ ⟨Nat.le_of_ble_eq_true rfl, Nat.le_of_ble_eq_true rfl⟩ rfl (Nat.le_of_ble_eq_true rfl) ⟨Nat.le_of_ble_eq_true rfl, Nat.le_of_ble_eq_true rfl⟩ dX3_readFormula_12 rfl (st' := [.int r11]) rfl ?_
  obtain ⟨h15, hf16⟩ := chk_of hf14; clear hf14
  refine j_istore_n X (lv' := [(1, .int r11), (0, .ref (q a0))]) dX3_readFormula_15 rfl (by decide) rfl ?_
  refine j_iload_n X dX3_readFormula_16 0 rfl rfl ?_
  refine j_iconst X (v := -1) dX3_readFormula_17 (by decide) ?_
  refine j_icmp_eq X (tgt := 32) dX3_readFormula_18 (by decide) (fun c17 => ?_) (fun c17 => ?_)
  · have hf18 := br_y hf16 c17; clear hf16
    refine j_null X dX3_readFormula_32 ?_
    refine j_goto X (tgt := 44) dX3_readFormula_33 (by decide) ?_
    obtain ⟨er, es⟩ := rt_of hf18
    subst er
    exact j_reta (o := Option.map q none) X hr rfl hlk (Nat.le_of_ble_eq_true rfl) (Nat.le_of_ble_eq_true rfl) ⟨(fun j hj => rfl), by rw [es]; omega⟩ es.symm rfl dX3_readFormula_44
  · have hf19 := br_n hf16 c17; clear hf16
    refine j_aload_n X dX3_readFormula_21 1 rfl rfl ?_
    obtain ⟨h20, hf21⟩ := chk_of hf19; clear hf19
    refine j_geti X fd_X3_19 h20 dX3_readFormula_22 (fun v22 ev22 => ?_)
    replace hf21 := lt_of hf21 v22 ev22
    refine j_aload_n X dX3_readFormula_25 1 rfl rfl ?_
    refine j_geti X fd_X3_15 h20 dX3_readFormula_26 (fun v24 ev24 => ?_)
    replace hf21 := lt_of hf21 v24 ev24
    refine j_icmp_ge X (tgt := 36) dX3_readFormula_29 (by decide) (fun c26 => ?_) (fun c26 => ?_)
    · have hf27 := br_y hf21 c26; clear hf21
      refine j_new X nf_X3_44 ⟨Nat.le_of_ble_eq_true rfl, Nat.le_of_ble_eq_true rfl⟩ dX3_readFormula_36 (fun q29 σ30 n31 hq29 eσ30 en31 => ?_)
      replace hf27 := lt_of hf27 n31 en31
      replace hf27 := lt_of hf27 σ30 eσ30
      have m32 : hN σ30 = hN σ12 + 1 := by rw [eσ30]; rfl
      rw [← hq29 a0 h20.1]
      have h33 : isO σ30 3 a0 := isO_nw eσ30 h20
      have h34 : isO σ30 0 n31 := isO_nw0 eσ30 en31
      refine j_dup X dX3_readFormula_39 rfl ?_
      refine j_aload_n X dX3_readFormula_40 1 rfl rfl ?_
      obtain ⟨r35, σ36, h37, hf38⟩ := bc_of hf27; clear hf27
      refine j_callI X (As := [.ref (q29 a0)]) (rest := [.ref (q29 n31)]) (c_X0_init l D cs q29 n31 a0 σ30 _ _ h37) mk_X0_init mv_X0_init ml_X3_46 ⟨rfl, rfl⟩ ⟨Nat.le_of_ble_eq_true rfl, Nat.le_of_ble_eq_true rfl⟩ rfl (Nat.le_of_ble_eq_true rfl) ⟨Nat.le_of_ble_eq_true rfl, Nat.le_of_ble_eq_true rfl⟩ dX3_readFormula_41 rfl (fun z => [.ref (q29 n31)]) (fun _ => rfl) (fun q39 hq39 => ?_)
      obtain ⟨hq39, m40⟩ := hq39
      rw [← hq39 a0 h33.1, ← hq39 n31 h34.1]
      obtain ⟨er, es⟩ := rt_of hf38
      subst er
      exact j_reta (o := Option.map q39 (some n31)) X hr rfl hlk (Nat.le_of_ble_eq_true rfl) (Nat.le_of_ble_eq_true rfl) ⟨(fun j hj => by rw [hq39 j (by omega), hq29 j (by omega)]), by rw [es]; omega⟩ es.symm rfl dX3_readFormula_44
    · have hf28 := br_n hf21 c26; clear hf21
      refine j_null X dX3_readFormula_32 ?_
      refine j_goto X (tgt := 44) dX3_readFormula_33 (by decide) ?_
      obtain ⟨er, es⟩ := rt_of hf28
      subst er
      exact j_reta (o := Option.map q none) X hr rfl hlk (Nat.le_of_ble_eq_true rfl) (Nat.le_of_ble_eq_true rfl) ⟨(fun j hj => rfl), by rw [es]; omega⟩ es.symm rfl dX3_readFormula_44
abbrev rm_X5_formula : Room := { frames := 44, cells := 9, slots := 490, locals := 2816 }
set_option maxHeartbeats 4000000 in
set_option maxRecDepth 100000 in
theorem c_X5_formula (l : Launch) (D : va_G) (cs : Nat → ClassId) (q : Nat → Nat) (a0 : Nat) (σ σ0 : HS) (r0 : Int32) (hf0 : f_X5_formula a0 σ = some (r0, σ0)) : MT l yX5_formula (Cond.code yX5_formula cX5_formula 3 (some .int) :: lw_g) rm_X5_formula D cs q σ σ0 [.ref (q a0)] (fun q1 => (∀ j : Nat, j < hN σ → q1 j = q j) ∧ hN σ ≤ hN σ0) (fun _ => some (.int r0)) 9 490 := by
  unfold f_X5_formula at hf0
  refine MT_of (cc := cX5_formula) (lv0 := [(0, .ref (q a0))]) (by decide) (Nat.le_of_ble_eq_true rfl) rfl (fun p e s m args below meth c A X hr hlk hin => ?_)
  refine j_aload_n X dX5_formula_0 0 rfl rfl ?_
  obtain ⟨h1, hf2⟩ := chk_of hf0; clear hf0
  obtain ⟨i3, h4, hf5⟩ := bd_of hf2; clear hf2
  refine j_getr X fd_X5_28 h1 h4 dX5_formula_1 ?_
  obtain ⟨h6, hf7⟩ := chk_of hf5; clear hf5
  obtain ⟨r8, σ9, h10, hf11⟩ := bc_of hf7; clear hf7
  refine j_callV X (As := []) (rest := []) (c_X3_readFormula l D cs q i3 σ _ _ h10) mk_X3_readFormula mv_X3_readFormula ml_X5_86 h6 rfl (by decide) ⟨rfl, rfl⟩ ⟨Nat.le_of_ble_eq_true rfl, Nat.le_of_ble_eq_true rfl⟩ rfl (Nat.le_of_ble_eq_true rfl) ⟨Nat.le_of_ble_eq_true rfl, Nat.le_of_ble_eq_true rfl⟩ dX5_formula_4 rfl (fun z => [va_rf (Option.map z r8)]) (fun _ => rfl) (fun q12 hq12 => ?_)
  obtain ⟨hq12, m13⟩ := hq12
  rw [← hq12 a0 h1.1]
  refine j_astore_nq X (lv' := [(1, va_rf (Option.map q12 r8)), (0, .ref (q12 a0))]) dX5_formula_7 rfl (by decide) rfl ?_
  refine j_aload_n X dX5_formula_8 1 rfl rfl ?_
  obtain ⟨h14, hf15⟩ := chk_of hf11; clear hf11
  obtain ⟨i16, h17, hf18⟩ := bd_of hf15; clear hf15
  refine j_getr X fd_X5_28 h14 h17 dX5_formula_9 ?_
  refine j_iconst X (v := 0) dX5_formula_12 (by decide) ?_
  obtain ⟨h19, hf20⟩ := chk_of hf18; clear hf18
  refine j_puti X fp_X5_83 h19 dX5_formula_13 (fun σ21 eσ21 => ?_)
  replace hf20 := lt_of hf20 σ21 eσ21
  have m25 : hN σ9 ≤ hN σ21 := by rw [eσ21]; exact Nat.le_refl _
  have h23 : isO σ21 5 a0 := by rw [eσ21]; exact h14
  have h24 : isO σ21 3 i16 := by rw [eσ21]; exact h19
  refine j_aload_nq X dX5_formula_16 0 rfl rfl ?_
  refine j_ifnonnull X (tgt := 31) dX5_formula_17 (by decide) (fun c81 => ?_) (fun i26 c81 => ?_)
  · subst c81; have hf27 := (show _ = some (r0, σ0) from hf20); clear hf20; unfold oc at hf27; dsimp only at hf27
    refine j_bipush X (v := -100) dX5_formula_20 (by decide) ?_
    refine j_aload_n X dX5_formula_22 1 rfl rfl ?_
    obtain ⟨i29, h30, hf31⟩ := bd_of hf27; clear hf27
    refine j_getr X fd_X5_28 h23 h30 dX5_formula_23 ?_
    obtain ⟨h32, hf33⟩ := chk_of hf31; clear hf31
    refine j_geti X fd_X5_90 h32 dX5_formula_26 (fun v34 ev34 => ?_)
    replace hf33 := lt_of hf33 v34 ev34
    refine j_isub X dX5_formula_29 ?_
    obtain ⟨er, es⟩ := rt_of hf33
    subst er
    exact j_reti X hr hlk (Nat.le_of_ble_eq_true rfl) (Nat.le_of_ble_eq_true rfl) ⟨(fun j hj => by rw [hq12 j (by omega)]), by rw [es]; omega⟩ es.symm rfl dX5_formula_30
  · subst c81; have hf28 := (show _ = some (r0, σ0) from hf20); clear hf20; unfold oc at hf28; dsimp only at hf28
    refine j_aload_n X dX5_formula_31 1 rfl rfl ?_
    obtain ⟨i36, h37, hf38⟩ := bd_of hf28; clear hf28
    refine j_getr X fd_X5_14 h23 h37 dX5_formula_32 ?_
    obtain ⟨h39, hf40⟩ := chk_of hf38; clear hf38
    refine j_geti X fd_X5_93 h39 dX5_formula_35 (fun v41 ev41 => ?_)
    replace hf40 := lt_of hf40 v41 ev41
    refine j_bipush X (v := 6) dX5_formula_38 (by decide) ?_
    refine j_icmp_lt X (tgt := 46) dX5_formula_40 (by decide) (fun c43 => ?_) (fun c43 => ?_)
    · have hf44 := br_y hf40 c43; clear hf40
      refine j_aload_n X dX5_formula_46 1 rfl rfl ?_
      refine j_getr X fd_X5_14 h23 h37 dX5_formula_47 ?_
      obtain ⟨h49, hf50⟩ := chk_of hf44; clear hf44
      refine j_geti X fd_X5_93 h49 dX5_formula_50 (fun v51 ev51 => ?_)
      replace hf50 := lt_of hf50 v51 ev51
      refine j_istore_n X (lv' := [(2, .int v51), (1, .ref (q12 i26)), (0, .ref (q12 a0))]) dX5_formula_53 rfl (by decide) rfl ?_
      refine j_aload_n X dX5_formula_54 2 rfl rfl ?_
      refine j_getr X fd_X5_14 h23 h37 dX5_formula_55 ?_
      obtain ⟨h56, hf57⟩ := chk_of hf50; clear hf50
      obtain ⟨i58, h59, hf60⟩ := bd_of hf57; clear hf57
      refine j_getr X fd_X5_96 h56 h59 dX5_formula_58 ?_
      refine j_iload_n X dX5_formula_61 0 rfl rfl ?_
      refine j_aload_n X dX5_formula_62 1 rfl rfl ?_
      obtain ⟨h61, hf62⟩ := chk_of hf60; clear hf60
      obtain ⟨h63, hf64⟩ := chk_of hf62; clear hf62
      refine j_aast X (o := (some i26)) h61 h63 dX5_formula_63 (fun σ65 eσ65 => ?_)
      replace hf64 := lt_of hf64 σ65 eσ65
      have m68 : hN σ21 ≤ hN σ65 := by rw [eσ65]; exact Nat.le_refl _
      have h67 : isO σ65 5 a0 := by rw [eσ65]; exact h23
      refine j_aload_n X dX5_formula_64 2 rfl rfl ?_
      obtain ⟨i69, h70, hf71⟩ := bd_of hf64; clear hf64
      refine j_getr X fd_X5_14 h67 h70 dX5_formula_65 ?_
      refine j_dup X dX5_formula_68 rfl ?_
      obtain ⟨h72, hf73⟩ := chk_of hf71; clear hf71
      refine j_geti X fd_X5_93 h72 dX5_formula_69 (fun v74 ev74 => ?_)
      replace hf73 := lt_of hf73 v74 ev74
      refine j_iconst X (v := 1) dX5_formula_72 (by decide) ?_
      refine j_iadd X dX5_formula_73 ?_
      refine j_puti X fp_X5_93 h72 dX5_formula_74 (fun σ76 eσ76 => ?_)
      replace hf73 := lt_of hf73 σ76 eσ76
      have m80 : hN σ65 ≤ hN σ76 := by rw [eσ76]; exact Nat.le_refl _
      have h78 : isO σ76 5 a0 := by rw [eσ76]; exact h67
      have h79 : isO σ76 2 i69 := by rw [eσ76]; exact h72
      refine j_iload_n X dX5_formula_77 0 rfl rfl ?_
      obtain ⟨er, es⟩ := rt_of hf73
      subst er
      exact j_reti X hr hlk (Nat.le_of_ble_eq_true rfl) (Nat.le_of_ble_eq_true rfl) ⟨(fun j hj => by rw [hq12 j (by omega)]), by rw [es]; omega⟩ es.symm rfl dX5_formula_78
    · have hf45 := br_n hf40 c43; clear hf40
      refine j_bipush X (v := -4) dX5_formula_43 (by decide) ?_
      obtain ⟨er, es⟩ := rt_of hf45
      subst er
      exact j_reti X hr hlk (Nat.le_of_ble_eq_true rfl) (Nat.le_of_ble_eq_true rfl) ⟨(fun j hj => by rw [hq12 j (by omega)]), by rw [es]; omega⟩ es.symm rfl dX5_formula_45
