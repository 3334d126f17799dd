abbrev rm_J7_copyOf_59c91 : Room := { frames := 1, cells := 1, slots := 60, locals := 64 }
set_option maxHeartbeats 4000000 in
set_option maxRecDepth 100000 in
theorem c_J7_copyOf_59c91 (l : Launch) (D : va_G) (cs : Nat → ClassId) (q : Nat → Nat) (a0 : Nat) (a1 : Int32) (σ σ0 : HS) (r0 : (Option Nat)) (hf0 : f_J7_copyOf_59c91 a0 a1 σ = some (r0, σ0)) : MT l yJ7_copyOf_59c91 (Cond.code yJ7_copyOf_59c91 cJ7_copyOf_59c91 3 (some (.array .int)) :: lw_g) rm_J7_copyOf_59c91 D cs q σ σ0 [.ref (q a0), .int a1] (fun q1 => (∀ j : Nat, j < hN σ → q1 j = q j) ∧ hN σ ≤ hN σ0) (fun z => some (va_rf (Option.map z r0))) 1 60 := by
  unfold f_J7_copyOf_59c91 at hf0
  refine MT_of (cc := cJ7_copyOf_59c91) (lv0 := [(0, .ref (q a0)), (1, .int a1)]) (by decide) (Nat.le_of_ble_eq_true rfl) rfl (fun p e s m args below meth c A X hr hlk hin => ?_)
  refine j_iload_n X dJ7_copyOf_59c91_0 1 rfl rfl ?_
  refine j_aload_n X dJ7_copyOf_59c91_1 0 rfl rfl ?_
  obtain ⟨h1, hf2⟩ := chk_of hf0; clear hf0
  refine j_alen X (Or.inl rfl) h1 dJ7_copyOf_59c91_2 (fun v3 ev3 => ?_)
  replace hf2 := lt_of hf2 v3 ev3
  refine j_icmp_ne X (tgt := 14) dJ7_copyOf_59c91_3 (by decide) (fun c5 => ?_) (fun c5 => ?_)
  · have hf6 := br_n hf2 c5; clear hf2
    refine j_iload_n X dJ7_copyOf_59c91_14 1 rfl rfl ?_
    obtain ⟨h8, hf9⟩ := chk_of hf6; clear hf6
    refine j_newai X (b := 60) h8 (by decide) ⟨Nat.le_of_ble_eq_true rfl, Nat.le_of_ble_eq_true rfl⟩ dJ7_copyOf_59c91_15 (fun q10 σ11 n12 hq10 eσ11 en12 => ?_)
    replace hf9 := lt_of hf9 n12 en12
    replace hf9 := lt_of hf9 σ11 eσ11
    have m13 : hN σ11 = hN σ + 1 := by rw [eσ11]; rfl
    rw [← hq10 a0 h1.1]
    have h14 : isO σ11 10 a0 := isO_nw eσ11 h1
    have h15 : isO σ11 10 n12 := isO_nw0 eσ11 en12
    refine j_astore_n X (lv' := [(2, .ref (q10 n12)), (0, .ref (q10 a0)), (1, .int a1)]) dJ7_copyOf_59c91_17 rfl (by decide) rfl ?_
    refine j_aload_n X dJ7_copyOf_59c91_18 1 rfl rfl ?_
    refine j_iconst X (v := 0) dJ7_copyOf_59c91_19 (by decide) ?_
    refine j_aload_n X dJ7_copyOf_59c91_20 0 rfl rfl ?_
    refine j_iconst X (v := 0) dJ7_copyOf_59c91_21 (by decide) ?_
    refine j_aload_n X dJ7_copyOf_59c91_22 1 rfl rfl ?_
    refine j_alen X (Or.inl rfl) h14 dJ7_copyOf_59c91_23 (fun v16 ev16 => ?_)
    replace hf9 := lt_of hf9 v16 ev16
    refine j_iload_n X dJ7_copyOf_59c91_24 2 rfl rfl ?_
    refine j_mmin X ml_J7_304 (Nat.le_of_ble_eq_true rfl) (Nat.le_of_ble_eq_true rfl) (Nat.le_of_ble_eq_true rfl) (Nat.le_of_ble_eq_true rfl) dJ7_copyOf_59c91_25 (fun v18 ev18 => ?_)
    replace hf9 := lt_of hf9 v18 ev18
    obtain ⟨h20, hf21⟩ := chk_of hf9; clear hf9
    refine j_copy X h20 ml_J7_150 (Nat.le_of_ble_eq_true rfl) (Nat.le_of_ble_eq_true rfl) dJ7_copyOf_59c91_28 (fun σ22 eσ22 => ?_)
    replace hf21 := lt_of hf21 σ22 eσ22
    have m26 : hN σ11 ≤ hN σ22 := by rw [eσ22]; exact Nat.le_refl _
    have h24 : isO σ22 10 a0 := by rw [eσ22]; exact h14
    have h25 : isO σ22 10 n12 := by rw [eσ22]; exact h15
    refine j_aload_n X dJ7_copyOf_59c91_31 0 rfl rfl ?_
    obtain ⟨er, es⟩ := rt_of hf21
    subst er
    exact j_reta (o := Option.map q10 (some n12)) X hr rfl hlk (Nat.le_of_ble_eq_true rfl) (Nat.le_of_ble_eq_true rfl) ⟨(fun j hj => by rw [hq10 j (by omega)]), by rw [es]; omega⟩ es.symm rfl dJ7_copyOf_59c91_32
  · have hf7 := br_y hf2 c5; clear hf2
    refine j_aload_n X dJ7_copyOf_59c91_6 0 rfl rfl ?_
    obtain ⟨h27, hf28⟩ := chk_of hf7; clear hf7
    refine j_clone X (b := 60) h27 (Nat.le_of_ble_eq_true rfl) (Nat.le_of_ble_eq_true rfl) ⟨Nat.le_of_ble_eq_true rfl, Nat.le_of_ble_eq_true rfl⟩ dJ7_copyOf_59c91_7 (fun q29 σ30 n31 hq29 eσ30 en31 => ?_)
    replace hf28 := lt_of hf28 n31 en31
    replace hf28 := lt_of hf28 σ30 eσ30
    have m32 : hN σ30 = hN σ + 1 := by rw [eσ30]; rfl
    rw [← hq29 a0 h1.1]
    have h33 : isO σ30 10 a0 := isO_nwc eσ30 h1
    have h34 : isO σ30 10 n31 := isO_nwc0 eσ30 en31
    refine j_castI X h34 dJ7_copyOf_59c91_10 ?_
    obtain ⟨er, es⟩ := rt_of hf28
    subst er
    exact j_reta (o := Option.map q29 (some n31)) X hr rfl hlk (Nat.le_of_ble_eq_true rfl) (Nat.le_of_ble_eq_true rfl) ⟨(fun j hj => by rw [hq29 j (by omega)]), by rw [es]; omega⟩ es.symm rfl dJ7_copyOf_59c91_13
abbrev rm_X0_depthOf : Room := { frames := 1, cells := 1, slots := 60, locals := 64 }
set_option maxHeartbeats 4000000 in
set_option maxRecDepth 100000 in
theorem c_X0_depthOf (l : Launch) (D : va_G) (cs : Nat → ClassId) (q : Nat → Nat) (a0 : Nat) (σ σ0 : HS) (r0 : Int32) (hf0 : f_X0_depthOf a0 σ = some (r0, σ0)) : MT l yX0_depthOf (Cond.code yX0_depthOf cX0_depthOf 4 (some .int) :: lw_g) rm_X0_depthOf D cs q σ σ0 [.ref (q a0)] (fun q1 => (∀ j : Nat, j < hN σ → q1 j = q j) ∧ hN σ ≤ hN σ0) (fun _ => some (.int r0)) 1 60 := by
  unfold f_X0_depthOf at hf0
  refine MT_of (cc := cX0_depthOf) (lv0 := [(0, .ref (q a0))]) (by decide) (Nat.le_of_ble_eq_true rfl) rfl (fun p e s m args below meth c A X hr hlk hin => ?_)
  have L11 : ∀ (q1 : Nat → Nat) (hq1 : ∀ j : Nat, j < hN σ → q1 j = q j), ∀ (nk : Nat) (x0 : Nat) (x1 : Nat) (x2 : Int32) (x3 : Int32) (τ : HS) (hm : hN σ ≤ hN τ), lp_X0_depthOf_11  nk x0 x1 x2 x3 τ = some (r0, σ0) → J p l e rm_X0_depthOf s m args below meth c 4 D cs A s.heap (0 + 1) (0 + 60) (MQ below (hQ D cs (fun q1 => (∀ j : Nat, j < hN σ → q1 j = q j) ∧ hN σ ≤ hN σ0) (fun _ => some (.int r0)) σ0 A) args s 1 60 A) q1 τ [(0, .ref (q1 x0)), (1, .ref (q1 x1)), (2, .int x2), (3, .int x3)] 11 [] := by
    intro q1 hq1
    intro nk
    induction nk with
    | zero => intro x0 x1 x2 x3 τ hm hf0; have hf1 : (none : Option (Int32 × HS)) = some (r0, σ0) := hf0; cases hf1
    | succ nk ih =>
      intro x0 x1 x2 x3 τ hm hf0
      replace hf0 : lp_X0_depthOf_11_b  (lp_X0_depthOf_11  nk) x0 x1 x2 x3 τ = some (r0, σ0) := hf0
      unfold lp_X0_depthOf_11_b at hf0
      refine j_iload_n X dX0_depthOf_11 3 rfl rfl ?_
      refine j_aload_n X dX0_depthOf_12 0 rfl rfl ?_
      obtain ⟨h17, hf18⟩ := chk_of hf0; clear hf0
      refine j_geti X fd_X0_9 h17 dX0_depthOf_13 (fun v19 ev19 => ?_)
      replace hf18 := lt_of hf18 v19 ev19
      refine j_icmp_ge X (tgt := 69) dX0_depthOf_16 (by decide) (fun c21 => ?_) (fun c21 => ?_)
      · have hf22 := br_y hf18 c21; clear hf18
        refine j_iload_n X dX0_depthOf_69 2 rfl rfl ?_
        obtain ⟨er, es⟩ := rt_of hf22
        subst er
        exact j_reti X hr hlk (Nat.le_of_ble_eq_true rfl) (Nat.le_of_ble_eq_true rfl) ⟨(fun j hj => by rw [hq1 j (by omega)]), by rw [es]; omega⟩ es.symm rfl dX0_depthOf_70
      · have hf23 := br_n hf18 c21; clear hf18
        refine j_aload_n X dX0_depthOf_19 0 rfl rfl ?_
        obtain ⟨i24, h25, hf26⟩ := bd_of hf23; clear hf23
        refine j_getr X fd_X0_18 h17 h25 dX0_depthOf_20 ?_
        refine j_iload_n X dX0_depthOf_23 3 rfl rfl ?_
        obtain ⟨h27, hf28⟩ := chk_of hf26; clear hf26
        refine j_iald X h27 dX0_depthOf_24 (fun v29 ev29 => ?_)
        replace hf28 := lt_of hf28 v29 ev29
        obtain ⟨r31, σ32, h33, hf34⟩ := bc_of hf28; clear hf28
        refine j_callS0 X [.int v29] [] (c_X0_isMade l D cs q1 v29 τ _ _ h33) mk_X0_isMade ms_X0_isMade ml_X0_75 ⟨rfl, rfl⟩ ⟨Nat.le_of_ble_eq_true rfl, Nat.le_of_ble_eq_true rfl⟩ rfl (Nat.le_of_ble_eq_true rfl) ⟨Nat.le_of_ble_eq_true rfl, Nat.le_of_ble_eq_true rfl⟩ dX0_depthOf_25 rfl (st' := [.int r31]) rfl ?_
        obtain ⟨h35, hf36⟩ := chk_of hf34; clear hf34
        refine j_if_eq X (tgt := 55) dX0_depthOf_28 (by decide) (fun c37 => ?_) (fun c37 => ?_)
        · have hf38 := br_y hf36 c37; clear hf36
          refine j_iload_n X dX0_depthOf_55 2 rfl rfl ?_
          refine j_aload_n X dX0_depthOf_56 1 rfl rfl ?_
          refine j_iload_n X dX0_depthOf_57 3 rfl rfl ?_
          obtain ⟨h40, hf41⟩ := chk_of hf38; clear hf38
          refine j_iald X h40 dX0_depthOf_58 (fun v42 ev42 => ?_)
          replace hf41 := lt_of hf41 v42 ev42
          refine j_mmax X ml_X0_79 (Nat.le_of_ble_eq_true rfl) (Nat.le_of_ble_eq_true rfl) (Nat.le_of_ble_eq_true rfl) (Nat.le_of_ble_eq_true rfl) dX0_depthOf_59 (fun v44 ev44 => ?_)
          replace hf41 := lt_of hf41 v44 ev44
          refine j_istore_n X (lv' := [(2, .int v44), (0, .ref (q1 x0)), (1, .ref (q1 x1)), (3, .int x3)]) dX0_depthOf_62 rfl (by decide) rfl ?_
          obtain ⟨v46, ev46⟩ : ∃ y : Int32, y = x3 + (1 : Int32) := ⟨_, rfl⟩
          replace hf41 := lt_of hf41 v46 ev46
          refine j_iinc X (v := v46) (lv' := [(3, .int v46), (2, .int v44), (0, .ref (q1 x0)), (1, .ref (q1 x1))]) dX0_depthOf_63 3 rfl (by rw [ev46]; rfl) (by decide) rfl ?_
          refine j_goto X (tgt := 11) dX0_depthOf_66 (by decide) ?_
          refine j_lvsub [2, 3, 1, 0] (lv' := [(0, .ref (q1 x0)), (1, .ref (q1 x1)), (2, .int v44), (3, .int v46)]) rfl ?_
          exact ih x0 x1 v44 v46 σ32 (by omega) hf41
        · have hf39 := br_n hf36 c37; clear hf36
          refine j_aload_n X dX0_depthOf_31 1 rfl rfl ?_
          refine j_iload_n X dX0_depthOf_32 3 rfl rfl ?_
          refine j_iconst X (v := 1) dX0_depthOf_33 (by decide) ?_
          refine j_aload_n X dX0_depthOf_34 1 rfl rfl ?_
          refine j_aload_n X dX0_depthOf_35 0 rfl rfl ?_
          obtain ⟨h48, hf49⟩ := chk_of hf39; clear hf39
          obtain ⟨i50, h51, hf52⟩ := bd_of hf49; clear hf49
          refine j_getr X fd_X0_33 h48 h51 dX0_depthOf_36 ?_
          refine j_iload_n X dX0_depthOf_39 3 rfl rfl ?_
          obtain ⟨h53, hf54⟩ := chk_of hf52; clear hf52
          refine j_iald X h53 dX0_depthOf_40 (fun v55 ev55 => ?_)
          replace hf54 := lt_of hf54 v55 ev55
          obtain ⟨h57, hf58⟩ := chk_of hf54; clear hf54
          refine j_iald X h57 dX0_depthOf_41 (fun v59 ev59 => ?_)
          replace hf58 := lt_of hf58 v59 ev59
          refine j_aload_n X dX0_depthOf_42 1 rfl rfl ?_
          refine j_aload_n X dX0_depthOf_43 0 rfl rfl ?_
          obtain ⟨i61, h62, hf63⟩ := bd_of hf58; clear hf58
          refine j_getr X fd_X0_37 h48 h62 dX0_depthOf_44 ?_
          refine j_iload_n X dX0_depthOf_47 3 rfl rfl ?_
          obtain ⟨h64, hf65⟩ := chk_of hf63; clear hf63
          refine j_iald X h64 dX0_depthOf_48 (fun v66 ev66 => ?_)
          replace hf65 := lt_of hf65 v66 ev66
          obtain ⟨h68, hf69⟩ := chk_of hf65; clear hf65
          refine j_iald X h68 dX0_depthOf_49 (fun v70 ev70 => ?_)
          replace hf69 := lt_of hf69 v70 ev70
          refine j_mmax X ml_X0_79 (Nat.le_of_ble_eq_true rfl) (Nat.le_of_ble_eq_true rfl) (Nat.le_of_ble_eq_true rfl) (Nat.le_of_ble_eq_true rfl) dX0_depthOf_50 (fun v72 ev72 => ?_)
          replace hf69 := lt_of hf69 v72 ev72
          refine j_iadd X dX0_depthOf_53 ?_
          obtain ⟨h74, hf75⟩ := chk_of hf69; clear hf69
          refine j_iast X h74 dX0_depthOf_54 (fun σ76 eσ76 => ?_)
          replace hf75 := lt_of hf75 σ76 eσ76
          have m79 : hN σ32 ≤ hN σ76 := by rw [eσ76]; exact Nat.le_refl _
          have h78 : isO σ76 3 x0 := by rw [eσ76]; exact h48
          refine j_iload_n X dX0_depthOf_55 2 rfl rfl ?_
          refine j_aload_n X dX0_depthOf_56 1 rfl rfl ?_
          refine j_iload_n X dX0_depthOf_57 3 rfl rfl ?_
          obtain ⟨h80, hf81⟩ := chk_of hf75; clear hf75
          refine j_iald X h80 dX0_depthOf_58 (fun v82 ev82 => ?_)
          replace hf81 := lt_of hf81 v82 ev82
          refine j_mmax X ml_X0_79 (Nat.le_of_ble_eq_true rfl) (Nat.le_of_ble_eq_true rfl) (Nat.le_of_ble_eq_true rfl) (Nat.le_of_ble_eq_true rfl) dX0_depthOf_59 (fun v84 ev84 => ?_)
          replace hf81 := lt_of hf81 v84 ev84
          refine j_istore_n X (lv' := [(2, .int v84), (0, .ref (q1 x0)), (1, .ref (q1 x1)), (3, .int x3)]) dX0_depthOf_62 rfl (by decide) rfl ?_
          obtain ⟨v86, ev86⟩ : ∃ y : Int32, y = x3 + (1 : Int32) := ⟨_, rfl⟩
          replace hf81 := lt_of hf81 v86 ev86
          refine j_iinc X (v := v86) (lv' := [(3, .int v86), (2, .int v84), (0, .ref (q1 x0)), (1, .ref (q1 x1))]) dX0_depthOf_63 3 rfl (by rw [ev86]; rfl) (by decide) rfl ?_
          refine j_goto X (tgt := 11) dX0_depthOf_66 (by decide) ?_
          refine j_lvsub [2, 3, 1, 0] (lv' := [(0, .ref (q1 x0)), (1, .ref (q1 x1)), (2, .int v84), (3, .int v86)]) rfl ?_
          exact ih x0 x1 v84 v86 σ76 (by omega) hf81
  refine j_aload_n X dX0_depthOf_0 0 rfl rfl ?_
  obtain ⟨h1, hf2⟩ := chk_of hf0; clear hf0
  refine j_geti X fd_X0_9 h1 dX0_depthOf_1 (fun v3 ev3 => ?_)
  replace hf2 := lt_of hf2 v3 ev3
  obtain ⟨h5, hf6⟩ := chk_of hf2; clear hf2
  refine j_newai X (b := 60) h5 (by decide) ⟨Nat.le_of_ble_eq_true rfl, Nat.le_of_ble_eq_true rfl⟩ dX0_depthOf_4 (fun q7 σ8 n9 hq7 eσ8 en9 => ?_)
  replace hf6 := lt_of hf6 n9 en9
  replace hf6 := lt_of hf6 σ8 eσ8
  have m10 : hN σ8 = hN σ + 1 := by rw [eσ8]; rfl
  rw [← hq7 a0 h1.1]
  have h11 : isO σ8 3 a0 := isO_nw eσ8 h1
  have h12 : isO σ8 10 n9 := isO_nw0 eσ8 en9
  refine j_astore_n X (lv' := [(1, .ref (q7 n9)), (0, .ref (q7 a0))]) dX0_depthOf_6 rfl (by decide) rfl ?_
  refine j_iconst X (v := 0) dX0_depthOf_7 (by decide) ?_
  refine j_nmi (fun v13 ev13 => ?_)
  replace hf6 := lt_of hf6 v13 ev13
  refine j_istore_n X (lv' := [(2, .int v13), (1, .ref (q7 n9)), (0, .ref (q7 a0))]) dX0_depthOf_8 rfl (by decide) rfl ?_
  refine j_iconst X (v := 0) dX0_depthOf_9 (by decide) ?_
  refine j_nmi (fun v15 ev15 => ?_)
  replace hf6 := lt_of hf6 v15 ev15
  refine j_istore_n X (lv' := [(3, .int v15), (2, .int v13), (1, .ref (q7 n9)), (0, .ref (q7 a0))]) dX0_depthOf_10 rfl (by decide) rfl ?_
  refine j_lvsub [3, 2, 1, 0] (lv' := [(0, .ref (q7 a0)), (1, .ref (q7 n9)), (2, .int v13), (3, .int v15)]) rfl ?_
  exact L11 q7 (fun j hj => by rw [hq7 j (by omega)])  1000 a0 n9 v13 v15 σ8 (by omega) hf6
abbrev rm_X0_likenessIn : Room := { frames := 2, cells := 1, slots := 60, locals := 128 }
set_option maxHeartbeats 4000000 in
set_option maxRecDepth 100000 in
theorem c_X0_likenessIn (l : Launch) (D : va_G) (cs : Nat → ClassId) (q : Nat → Nat) (a0 : Nat) (σ σ0 : HS) (r0 : (Option Nat)) (hf0 : f_X0_likenessIn a0 σ = some (r0, σ0)) : MT l yX0_likenessIn (Cond.code yX0_likenessIn cX0_likenessIn 4 (some (.array .int)) :: lw_g) rm_X0_likenessIn D cs q σ σ0 [.ref (q a0)] (fun q1 => (∀ j : Nat, j < hN σ → q1 j = q j) ∧ hN σ ≤ hN σ0) (fun z => some (va_rf (Option.map z r0))) 1 60 := by
  unfold f_X0_likenessIn at hf0
  refine MT_of (cc := cX0_likenessIn) (lv0 := [(0, .ref (q a0))]) (by decide) (Nat.le_of_ble_eq_true rfl) rfl (fun p e s m args below meth c A X hr hlk hin => ?_)
  have L19 : ∀ (q1 : Nat → Nat) (hq1 : ∀ j : Nat, j < hN σ → q1 j = q j), ∀ (K9 : Nat → Nat → Int32 → HS → Option ((Option Nat) × HS)) (hK9 : ∀ (x0 : Nat) (x1 : Nat) (x2 : Int32) (τ : HS) (hm : hN σ ≤ hN τ), K9 x0 x1 x2 τ = some (r0, σ0) → J p l e rm_X0_likenessIn s m args below meth c 4 D cs A s.heap (0 + 1) (0 + 60) (MQ below (hQ D cs (fun q1 => (∀ j : Nat, j < hN σ → q1 j = q j) ∧ hN σ ≤ hN σ0) (fun z => some (va_rf (Option.map z r0))) σ0 A) args s 1 60 A) q1 τ [(0, .ref (q1 x0)), (1, .ref (q1 x1)), (2, .int x2)] 9 []), ∀ (nk : Nat) (x0 : Nat) (x1 : Nat) (x2 : Int32) (x3 : Int32) (τ : HS) (hm : hN σ ≤ hN τ), lp_X0_likenessIn_19 K9 nk x0 x1 x2 x3 τ = some (r0, σ0) → J p l e rm_X0_likenessIn s m args below meth c 4 D cs A s.heap (0 + 1) (0 + 60) (MQ below (hQ D cs (fun q1 => (∀ j : Nat, j < hN σ → q1 j = q j) ∧ hN σ ≤ hN σ0) (fun z => some (va_rf (Option.map z r0))) σ0 A) args s 1 60 A) q1 τ [(0, .ref (q1 x0)), (1, .ref (q1 x1)), (2, .int x2), (3, .int x3)] 19 [] := by
    intro q1 hq1
    intro K9 hK9
    intro nk
    induction nk with
    | zero => intro x0 x1 x2 x3 τ hm hf0; have hf1 : (none : Option ((Option Nat) × HS)) = some (r0, σ0) := hf0; cases hf1
    | succ nk ih =>
      intro x0 x1 x2 x3 τ hm hf0
      replace hf0 : lp_X0_likenessIn_19_b K9 (lp_X0_likenessIn_19 K9 nk) x0 x1 x2 x3 τ = some (r0, σ0) := hf0
      unfold lp_X0_likenessIn_19_b at hf0
      refine j_iload_n X dX0_likenessIn_19 3 rfl rfl ?_
      refine j_iload_n X dX0_likenessIn_20 2 rfl rfl ?_
      refine j_icmp_ge X (tgt := 40) dX0_likenessIn_21 (by decide) (fun c24 => ?_) (fun c24 => ?_)
      · have hf25 := br_y hf0 c24; clear hf0
        refine j_aload_n X dX0_likenessIn_40 1 rfl rfl ?_
        refine j_iload_n X dX0_likenessIn_41 2 rfl rfl ?_
        refine j_iload_n X dX0_likenessIn_42 3 rfl rfl ?_
        obtain ⟨h27, hf28⟩ := chk_of hf25; clear hf25
        refine j_iast X h27 dX0_likenessIn_43 (fun σ29 eσ29 => ?_)
        replace hf28 := lt_of hf28 σ29 eσ29
        have m31 : hN τ ≤ hN σ29 := by rw [eσ29]; exact Nat.le_refl _
        obtain ⟨v32, ev32⟩ : ∃ y : Int32, y = x2 + (1 : Int32) := ⟨_, rfl⟩
        replace hf28 := lt_of hf28 v32 ev32
        refine j_iinc X (v := v32) (lv' := [(2, .int v32), (0, .ref (q1 x0)), (1, .ref (q1 x1)), (3, .int x3)]) dX0_likenessIn_44 2 rfl (by rw [ev32]; rfl) (by decide) rfl ?_
        refine j_goto X (tgt := 9) dX0_likenessIn_47 (by decide) ?_
        refine j_lvsub [1, 2, 0] (lv' := [(0, .ref (q1 x0)), (1, .ref (q1 x1)), (2, .int v32)]) rfl ?_
        exact hK9 x0 x1 v32 σ29 (by omega) hf28
      · have hf26 := br_n hf0 c24; clear hf0
        refine j_aload_n X dX0_likenessIn_24 0 rfl rfl ?_
        refine j_aload_n X dX0_likenessIn_25 1 rfl rfl ?_
        refine j_iload_n X dX0_likenessIn_26 3 rfl rfl ?_
        refine j_iload_n X dX0_likenessIn_27 2 rfl rfl ?_
        obtain ⟨r34, σ35, h36, hf37⟩ := bc_of hf26; clear hf26
        refine j_callS0 X [.ref (q1 x0), .ref (q1 x1), .int x3, .int x2] [] (c_X0_areAlike l D cs q1 x0 x1 x3 x2 τ _ _ h36) mk_X0_areAlike ms_X0_areAlike ml_X0_85 ⟨rfl, rfl⟩ ⟨Nat.le_of_ble_eq_true rfl, Nat.le_of_ble_eq_true rfl⟩ rfl (Nat.le_of_ble_eq_true rfl) ⟨Nat.le_of_ble_eq_true rfl, Nat.le_of_ble_eq_true rfl⟩ dX0_likenessIn_28 rfl (st' := [.int r34]) rfl ?_
        obtain ⟨h38, hf39⟩ := chk_of hf37; clear hf37
        refine j_if_ne X (tgt := 40) dX0_likenessIn_31 (by decide) (fun c40 => ?_) (fun c40 => ?_)
        · have hf41 := br_n hf39 c40; clear hf39
          refine j_aload_n X dX0_likenessIn_40 1 rfl rfl ?_
          refine j_iload_n X dX0_likenessIn_41 2 rfl rfl ?_
          refine j_iload_n X dX0_likenessIn_42 3 rfl rfl ?_
          obtain ⟨h43, hf44⟩ := chk_of hf41; clear hf41
          refine j_iast X h43 dX0_likenessIn_43 (fun σ45 eσ45 => ?_)
          replace hf44 := lt_of hf44 σ45 eσ45
          have m47 : hN σ35 ≤ hN σ45 := by rw [eσ45]; exact Nat.le_refl _
          obtain ⟨v48, ev48⟩ : ∃ y : Int32, y = x2 + (1 : Int32) := ⟨_, rfl⟩
          replace hf44 := lt_of hf44 v48 ev48
          refine j_iinc X (v := v48) (lv' := [(2, .int v48), (0, .ref (q1 x0)), (1, .ref (q1 x1)), (3, .int x3)]) dX0_likenessIn_44 2 rfl (by rw [ev48]; rfl) (by decide) rfl ?_
          refine j_goto X (tgt := 9) dX0_likenessIn_47 (by decide) ?_
          refine j_lvsub [1, 2, 0] (lv' := [(0, .ref (q1 x0)), (1, .ref (q1 x1)), (2, .int v48)]) rfl ?_
          exact hK9 x0 x1 v48 σ45 (by omega) hf44
        · have hf42 := br_y hf39 c40; clear hf39
          obtain ⟨v50, ev50⟩ : ∃ y : Int32, y = x3 + (1 : Int32) := ⟨_, rfl⟩
          replace hf42 := lt_of hf42 v50 ev50
          refine j_iinc X (v := v50) (lv' := [(3, .int v50), (0, .ref (q1 x0)), (1, .ref (q1 x1)), (2, .int x2)]) dX0_likenessIn_34 3 rfl (by rw [ev50]; rfl) (by decide) rfl ?_
          refine j_goto X (tgt := 19) dX0_likenessIn_37 (by decide) ?_
          refine j_lvsub [1, 2, 3, 0] (lv' := [(0, .ref (q1 x0)), (1, .ref (q1 x1)), (2, .int x2), (3, .int v50)]) rfl ?_
          exact ih x0 x1 x2 v50 σ35 (by omega) hf42
  have L9 : ∀ (q1 : Nat → Nat) (hq1 : ∀ j : Nat, j < hN σ → q1 j = q j), ∀ (nk : Nat) (x0 : Nat) (x1 : Nat) (x2 : Int32) (τ : HS) (hm : hN σ ≤ hN τ), lp_X0_likenessIn_9  nk x0 x1 x2 τ = some (r0, σ0) → J p l e rm_X0_likenessIn s m args below meth c 4 D cs A s.heap (0 + 1) (0 + 60) (MQ below (hQ D cs (fun q1 => (∀ j : Nat, j < hN σ → q1 j = q j) ∧ hN σ ≤ hN σ0) (fun z => some (va_rf (Option.map z r0))) σ0 A) args s 1 60 A) q1 τ [(0, .ref (q1 x0)), (1, .ref (q1 x1)), (2, .int x2)] 9 [] := by
    intro q1 hq1
    intro nk
    induction nk with
    | zero => intro x0 x1 x2 τ hm hf0; have hf1 : (none : Option ((Option Nat) × HS)) = some (r0, σ0) := hf0; cases hf1
    | succ nk ih =>
      intro x0 x1 x2 τ hm hf0
      replace hf0 : lp_X0_likenessIn_9_b  (lp_X0_likenessIn_9  nk) x0 x1 x2 τ = some (r0, σ0) := hf0
      unfold lp_X0_likenessIn_9_b at hf0
      refine j_iload_n X dX0_likenessIn_9 2 rfl rfl ?_
      refine j_aload_n X dX0_likenessIn_10 0 rfl rfl ?_
      obtain ⟨h15, hf16⟩ := chk_of hf0; clear hf0
      refine j_geti X fd_X0_9 h15 dX0_likenessIn_11 (fun v17 ev17 => ?_)
      replace hf16 := lt_of hf16 v17 ev17
      refine j_icmp_ge X (tgt := 50) dX0_likenessIn_14 (by decide) (fun c19 => ?_) (fun c19 => ?_)
      · have hf20 := br_y hf16 c19; clear hf16
        refine j_aload_n X dX0_likenessIn_50 1 rfl rfl ?_
        obtain ⟨er, es⟩ := rt_of hf20
        subst er
        exact j_reta (o := Option.map q1 (some x1)) X hr rfl hlk (Nat.le_of_ble_eq_true rfl) (Nat.le_of_ble_eq_true rfl) ⟨(fun j hj => by rw [hq1 j (by omega)]), by rw [es]; omega⟩ es.symm rfl dX0_likenessIn_51
      · have hf21 := br_n hf16 c19; clear hf16
        refine j_iconst X (v := 0) dX0_likenessIn_17 (by decide) ?_
        refine j_nmi (fun v22 ev22 => ?_)
        replace hf21 := lt_of hf21 v22 ev22
        refine j_istore_n X (lv' := [(3, .int v22), (0, .ref (q1 x0)), (1, .ref (q1 x1)), (2, .int x2)]) dX0_likenessIn_18 rfl (by decide) rfl ?_
        refine j_lvsub [1, 2, 3, 0] (lv' := [(0, .ref (q1 x0)), (1, .ref (q1 x1)), (2, .int x2), (3, .int v22)]) rfl ?_
        exact L19 q1 (fun j hj => by rw [hq1 j (by omega)]) _ (ih) 1000 x0 x1 x2 v22 τ (by omega) hf21
  refine j_aload_n X dX0_likenessIn_0 0 rfl rfl ?_
  obtain ⟨h1, hf2⟩ := chk_of hf0; clear hf0
  refine j_geti X fd_X0_9 h1 dX0_likenessIn_1 (fun v3 ev3 => ?_)
  replace hf2 := lt_of hf2 v3 ev3
  obtain ⟨h5, hf6⟩ := chk_of hf2; clear hf2
  refine j_newai X (b := 60) h5 (by decide) ⟨Nat.le_of_ble_eq_true rfl, Nat.le_of_ble_eq_true rfl⟩ dX0_likenessIn_4 (fun q7 σ8 n9 hq7 eσ8 en9 => ?_)
  replace hf6 := lt_of hf6 n9 en9
  replace hf6 := lt_of hf6 σ8 eσ8
  have m10 : hN σ8 = hN σ + 1 := by rw [eσ8]; rfl
  rw [← hq7 a0 h1.1]
  have h11 : isO σ8 3 a0 := isO_nw eσ8 h1
  have h12 : isO σ8 10 n9 := isO_nw0 eσ8 en9
  refine j_astore_n X (lv' := [(1, .ref (q7 n9)), (0, .ref (q7 a0))]) dX0_likenessIn_6 rfl (by decide) rfl ?_
  refine j_iconst X (v := 0) dX0_likenessIn_7 (by decide) ?_
  refine j_nmi (fun v13 ev13 => ?_)
  replace hf6 := lt_of hf6 v13 ev13
  refine j_istore_n X (lv' := [(2, .int v13), (1, .ref (q7 n9)), (0, .ref (q7 a0))]) dX0_likenessIn_8 rfl (by decide) rfl ?_
  refine j_lvsub [2, 1, 0] (lv' := [(0, .ref (q7 a0)), (1, .ref (q7 n9)), (2, .int v13)]) rfl ?_
  exact L9 q7 (fun j hj => by rw [hq7 j (by omega)])  1000 a0 n9 v13 σ8 (by omega) hf6
abbrev rm_X0_mostAlikeIn : Room := { frames := 1, cells := 1, slots := 60, locals := 64 }
set_option maxHeartbeats 4000000 in
set_option maxRecDepth 100000 in
theorem c_X0_mostAlikeIn (l : Launch) (D : va_G) (cs : Nat → ClassId) (q : Nat → Nat) (a0 : Nat) (σ σ0 : HS) (r0 : Int32) (hf0 : f_X0_mostAlikeIn a0 σ = some (r0, σ0)) : MT l yX0_mostAlikeIn (Cond.code yX0_mostAlikeIn cX0_mostAlikeIn 7 (some .int) :: lw_g) rm_X0_mostAlikeIn D cs q σ σ0 [.ref (q a0)] (fun q1 => (∀ j : Nat, j < hN σ → q1 j = q j) ∧ hN σ ≤ hN σ0) (fun _ => some (.int r0)) 1 60 := by
  unfold f_X0_mostAlikeIn at hf0
  refine MT_of (cc := cX0_mostAlikeIn) (lv0 := [(0, .ref (q a0))]) (by decide) (Nat.le_of_ble_eq_true rfl) rfl (fun p e s m args below meth c A X hr hlk hin => ?_)
  have L16 : ∀ (q1 : Nat → Nat) (hq1 : ∀ j : Nat, j < hN σ → q1 j = q j), ∀ (nk : Nat) (x0 : Nat) (x1 : Nat) (x2 : Int32) (x3 : Nat) (x4 : Int32) (x5 : Int32) (τ : HS) (hm : hN σ ≤ hN τ), lp_X0_mostAlikeIn_16  nk x0 x1 x2 x3 x4 x5 τ = some (r0, σ0) → J p l e rm_X0_mostAlikeIn s m args below meth c 7 D cs A s.heap (0 + 1) (0 + 60) (MQ below (hQ D cs (fun q1 => (∀ j : Nat, j < hN σ → q1 j = q j) ∧ hN σ ≤ hN σ0) (fun _ => some (.int r0)) σ0 A) args s 1 60 A) q1 τ [(0, .ref (q1 x0)), (1, .ref (q1 x1)), (2, .int x2), (3, .ref (q1 x3)), (4, .int x4), (5, .int x5)] 16 [] := by
    intro q1 hq1
    intro nk
    induction nk with
    | zero => intro x0 x1 x2 x3 x4 x5 τ hm hf0; have hf1 : (none : Option (Int32 × HS)) = some (r0, σ0) := hf0; cases hf1
    | succ nk ih =>
      intro x0 x1 x2 x3 x4 x5 τ hm hf0
      replace hf0 : lp_X0_mostAlikeIn_16_b  (lp_X0_mostAlikeIn_16  nk) x0 x1 x2 x3 x4 x5 τ = some (r0, σ0) := hf0
      unfold lp_X0_mostAlikeIn_16_b at hf0
      refine j_iload X dX0_mostAlikeIn_16 5 rfl ?_
      refine j_iload X dX0_mostAlikeIn_18 4 rfl ?_
      refine j_icmp_ge X (tgt := 52) dX0_mostAlikeIn_20 (by decide) (fun c19 => ?_) (fun c19 => ?_)
      · have hf20 := br_y hf0 c19; clear hf0
        refine j_iload_n X dX0_mostAlikeIn_52 2 rfl rfl ?_
        obtain ⟨er, es⟩ := rt_of hf20
        subst er
        exact j_reti X hr hlk (Nat.le_of_ble_eq_true rfl) (Nat.le_of_ble_eq_true rfl) ⟨(fun j hj => by rw [hq1 j (by omega)]), by rw [es]; omega⟩ es.symm rfl dX0_mostAlikeIn_53
      · have hf21 := br_n hf0 c19; clear hf0
        refine j_aload_n X dX0_mostAlikeIn_23 3 rfl rfl ?_
        refine j_iload X dX0_mostAlikeIn_24 5 rfl ?_
        obtain ⟨h22, hf23⟩ := chk_of hf21; clear hf21
        refine j_iald X h22 dX0_mostAlikeIn_26 (fun v24 ev24 => ?_)
        replace hf23 := lt_of hf23 v24 ev24
        refine j_istore X (lv' := [(6, .int v24), (0, .ref (q1 x0)), (1, .ref (q1 x1)), (2, .int x2), (3, .ref (q1 x3)), (4, .int x4), (5, .int x5)]) dX0_mostAlikeIn_27 (by decide) rfl ?_
        refine j_aload_n X dX0_mostAlikeIn_29 2 rfl rfl ?_
        refine j_iload X dX0_mostAlikeIn_30 0 rfl ?_
        refine j_dup2 X dX0_mostAlikeIn_32 rfl rfl ?_
        obtain ⟨h26, hf27⟩ := chk_of hf23; clear hf23
        refine j_iald X h26 dX0_mostAlikeIn_33 (fun v28 ev28 => ?_)
        replace hf27 := lt_of hf27 v28 ev28
        refine j_iconst X (v := 1) dX0_mostAlikeIn_34 (by decide) ?_
        refine j_iadd X dX0_mostAlikeIn_35 ?_
        obtain ⟨h30, hf31⟩ := chk_of hf27; clear hf27
        refine j_iast X h30 dX0_mostAlikeIn_36 (fun σ32 eσ32 => ?_)
        replace hf31 := lt_of hf31 σ32 eσ32
        have m34 : hN τ ≤ hN σ32 := by rw [eσ32]; exact Nat.le_refl _
        refine j_iload_n X dX0_mostAlikeIn_37 3 rfl rfl ?_
        refine j_aload_n X dX0_mostAlikeIn_38 2 rfl rfl ?_
        refine j_iload X dX0_mostAlikeIn_39 0 rfl ?_
        obtain ⟨h35, hf36⟩ := chk_of hf31; clear hf31
        refine j_iald X h35 dX0_mostAlikeIn_41 (fun v37 ev37 => ?_)
        replace hf36 := lt_of hf36 v37 ev37
        refine j_mmax X ml_X0_79 (Nat.le_of_ble_eq_true rfl) (Nat.le_of_ble_eq_true rfl) (Nat.le_of_ble_eq_true rfl) (Nat.le_of_ble_eq_true rfl) dX0_mostAlikeIn_42 (fun v39 ev39 => ?_)
        replace hf36 := lt_of hf36 v39 ev39
        refine j_istore_n X (lv' := [(2, .int v39), (6, .int v24), (0, .ref (q1 x0)), (1, .ref (q1 x1)), (3, .ref (q1 x3)), (4, .int x4), (5, .int x5)]) dX0_mostAlikeIn_45 rfl (by decide) rfl ?_
        obtain ⟨v41, ev41⟩ : ∃ y : Int32, y = x5 + (1 : Int32) := ⟨_, rfl⟩
        replace hf36 := lt_of hf36 v41 ev41
        refine j_iinc X (v := v41) (lv' := [(5, .int v41), (2, .int v39), (6, .int v24), (0, .ref (q1 x0)), (1, .ref (q1 x1)), (3, .ref (q1 x3)), (4, .int x4)]) dX0_mostAlikeIn_46 6 rfl (by rw [ev41]; rfl) (by decide) rfl ?_
        refine j_goto X (tgt := 16) dX0_mostAlikeIn_49 (by decide) ?_
        refine j_lvsub [3, 4, 1, 5, 6, 0] (lv' := [(0, .ref (q1 x0)), (1, .ref (q1 x1)), (2, .int v39), (3, .ref (q1 x3)), (4, .int x4), (5, .int v41)]) rfl ?_
        exact ih x0 x1 v39 x3 x4 v41 σ32 (by omega) hf36
  refine j_aload_n X dX0_mostAlikeIn_0 0 rfl rfl ?_
  obtain ⟨h1, hf2⟩ := chk_of hf0; clear hf0
  refine j_alen X (Or.inl rfl) h1 dX0_mostAlikeIn_1 (fun v3 ev3 => ?_)
  replace hf2 := lt_of hf2 v3 ev3
  obtain ⟨h5, hf6⟩ := chk_of hf2; clear hf2
  refine j_newai X (b := 60) h5 (by decide) ⟨Nat.le_of_ble_eq_true rfl, Nat.le_of_ble_eq_true rfl⟩ dX0_mostAlikeIn_2 (fun q7 σ8 n9 hq7 eσ8 en9 => ?_)
  replace hf6 := lt_of hf6 n9 en9
  replace hf6 := lt_of hf6 σ8 eσ8
  have m10 : hN σ8 = hN σ + 1 := by rw [eσ8]; rfl
  rw [← hq7 a0 h1.1]
  have h11 : isO σ8 10 a0 := isO_nw eσ8 h1
  have h12 : isO σ8 10 n9 := isO_nw0 eσ8 en9
  refine j_astore_n X (lv' := [(1, .ref (q7 n9)), (0, .ref (q7 a0))]) dX0_mostAlikeIn_4 rfl (by decide) rfl ?_
  refine j_iconst X (v := 0) dX0_mostAlikeIn_5 (by decide) ?_
  refine j_nmi (fun v13 ev13 => ?_)
  replace hf6 := lt_of hf6 v13 ev13
  refine j_istore_n X (lv' := [(2, .int v13), (1, .ref (q7 n9)), (0, .ref (q7 a0))]) dX0_mostAlikeIn_6 rfl (by decide) rfl ?_
  refine j_aload_n X dX0_mostAlikeIn_7 2 rfl rfl ?_
  refine j_astore_n X (lv' := [(3, .ref (q7 a0)), (2, .int v13), (1, .ref (q7 n9)), (0, .ref (q7 a0))]) dX0_mostAlikeIn_8 rfl (by decide) rfl ?_
  refine j_aload_n X dX0_mostAlikeIn_9 0 rfl rfl ?_
  refine j_alen X (Or.inl rfl) h11 dX0_mostAlikeIn_10 (fun v15 ev15 => ?_)
  replace hf6 := lt_of hf6 v15 ev15
  refine j_istore X (lv' := [(4, .int v15), (3, .ref (q7 a0)), (2, .int v13), (1, .ref (q7 n9)), (0, .ref (q7 a0))]) dX0_mostAlikeIn_11 (by decide) rfl ?_
  refine j_iconst X (v := 0) dX0_mostAlikeIn_13 (by decide) ?_
  refine j_nmi (fun v17 ev17 => ?_)
  replace hf6 := lt_of hf6 v17 ev17
  refine j_istore X (lv' := [(5, .int v17), (4, .int v15), (3, .ref (q7 a0)), (2, .int v13), (1, .ref (q7 n9)), (0, .ref (q7 a0))]) dX0_mostAlikeIn_14 (by decide) rfl ?_
  refine j_lvsub [5, 4, 3, 2, 1, 0] (lv' := [(0, .ref (q7 a0)), (1, .ref (q7 n9)), (2, .int v13), (3, .ref (q7 a0)), (4, .int v15), (5, .int v17)]) rfl ?_
  exact L16 q7 (fun j hj => by rw [hq7 j (by omega)])  1000 a0 n9 v13 a0 v15 v17 σ8 (by omega) hf6
abbrev rm_X0_init : Room := { frames := 3, cells := 8, slots := 480, locals := 192 }
set_option maxHeartbeats 4000000 in
set_option maxRecDepth 100000 in
theorem c_X0_init (l : Launch) (D : va_G) (cs : Nat → ClassId) (q : Nat → Nat) (a0 : Nat) (a1 : Nat) (σ σ0 : HS) (r0 : Unit) (hf0 : f_X0_init a0 a1 σ = some (r0, σ0)) : MT l yX0_init (Cond.code yX0_init cX0_init 3 none :: lw_g) rm_X0_init D cs q σ σ0 [.ref (q a0), .ref (q a1)] (fun q1 => (∀ j : Nat, j < hN σ → q1 j = q j) ∧ hN σ ≤ hN σ0) (fun _ => none) 8 480 := by
  unfold f_X0_init at hf0
  refine MT_of (cc := cX0_init) (lv0 := [(0, .ref (q a0)), (1, .ref (q a1))]) (by decide) (Nat.le_of_ble_eq_true rfl) rfl (fun p e s m args below meth c A X hr hlk hin => ?_)
  refine j_aload_n X dX0_init_0 0 rfl rfl ?_
  refine j_objInit X ml_X0_3 (Nat.le_of_ble_eq_true rfl) (Nat.le_of_ble_eq_true rfl) dX0_init_1 ?_
  refine j_aload_n X dX0_init_4 0 rfl rfl ?_
  refine j_aload_n X dX0_init_5 1 rfl rfl ?_
  obtain ⟨h1, hf2⟩ := chk_of hf0; clear hf0
  refine j_geti X fd_X0_9 h1 dX0_init_6 (fun v3 ev3 => ?_)
  replace hf2 := lt_of hf2 v3 ev3
  obtain ⟨h5, hf6⟩ := chk_of hf2; clear hf2
  refine j_putiF X fp_X0_15 h5 (hin rfl) rfl dX0_init_9 (fun σ7 eσ7 => ?_)
  replace hf6 := lt_of hf6 σ7 eσ7
  have m11 : hN σ ≤ hN σ7 := by rw [eσ7]; exact Nat.le_refl _
  have h9 : isO σ7 3 a1 := by rw [eσ7]; exact h1
  have h10 : isO σ7 0 a0 := by rw [eσ7]; exact h5
  refine j_aload_n X dX0_init_12 0 rfl rfl ?_
  refine j_aload_n X dX0_init_13 1 rfl rfl ?_
  obtain ⟨i12, h13, hf14⟩ := bd_of hf6; clear hf6
  refine j_getr X fd_X0_18 h9 h13 dX0_init_14 ?_
  refine j_aload_n X dX0_init_17 0 rfl rfl ?_
  refine j_geti X fd_X0_15 h10 dX0_init_18 (fun v15 ev15 => ?_)
  replace hf14 := lt_of hf14 v15 ev15
  obtain ⟨r17, σ18, h19, hf20⟩ := bc_of hf14; clear hf14
  refine j_callS X (As := [.ref (q i12), .int v15]) (rest := [.ref (q a0)]) (c_J7_copyOf_59c91 l D cs q i12 v15 σ7 _ _ h19) mk_J7_copyOf_59c91 ms_J7_copyOf_59c91 ml_X0_22 ⟨rfl, rfl⟩ ⟨Nat.le_of_ble_eq_true rfl, Nat.le_of_ble_eq_true rfl⟩ rfl (Nat.le_of_ble_eq_true rfl) ⟨Nat.le_of_ble_eq_true rfl, Nat.le_of_ble_eq_true rfl⟩ dX0_init_21 rfl (fun z => [va_rf (Option.map z r17), .ref (q a0)]) (fun _ => rfl) (fun q21 hq21 => ?_)
  obtain ⟨hq21, m22⟩ := hq21
  rw [← hq21 a0 h10.1, ← hq21 a1 h9.1]
  obtain ⟨i23, h24, hf25⟩ := bd_of hf20; clear hf20; subst h24
  obtain ⟨h26, hf27⟩ := chk_of hf25; clear hf25
  obtain ⟨h29, hf30⟩ := chk_of hf27; clear hf27
  refine j_putrF X fp_X0_28 h26 h29 rfl (hin rfl) rfl dX0_init_24 (fun σ28 eσ28 => ?_)
  replace hf30 := lt_of hf30 σ28 eσ28
  have m33 : hN σ18 ≤ hN σ28 := by rw [eσ28]; exact Nat.le_refl _
  have h32 : isO σ28 0 a0 := by rw [eσ28]; exact h26
  refine j_aload_n X dX0_init_27 0 rfl rfl ?_
  refine j_aload_n X dX0_init_28 1 rfl rfl ?_
  obtain ⟨h34, hf35⟩ := chk_of hf30; clear hf30
  obtain ⟨i36, h37, hf38⟩ := bd_of hf35; clear hf35
  refine j_getr X fd_X0_29 h34 h37 dX0_init_29 ?_
  refine j_aload_n X dX0_init_32 0 rfl rfl ?_
  refine j_geti X fd_X0_15 h32 dX0_init_33 (fun v39 ev39 => ?_)
  replace hf38 := lt_of hf38 v39 ev39
  obtain ⟨r41, σ42, h43, hf44⟩ := bc_of hf38; clear hf38
  refine j_callS X (As := [.ref (q21 i36), .int v39]) (rest := [.ref (q21 a0)]) (c_J7_copyOf_59c91 l D cs q21 i36 v39 σ28 _ _ h43) mk_J7_copyOf_59c91 ms_J7_copyOf_59c91 ml_X0_22 ⟨rfl, rfl⟩ ⟨Nat.le_of_ble_eq_true rfl, Nat.le_of_ble_eq_true rfl⟩ rfl (Nat.le_of_ble_eq_true rfl) ⟨Nat.le_of_ble_eq_true rfl, Nat.le_of_ble_eq_true rfl⟩ dX0_init_36 rfl (fun z => [va_rf (Option.map z r41), .ref (q21 a0)]) (fun _ => rfl) (fun q45 hq45 => ?_)
  obtain ⟨hq45, m46⟩ := hq45
  rw [← hq45 a0 h32.1, ← hq45 a1 h34.1]
  obtain ⟨i47, h48, hf49⟩ := bd_of hf44; clear hf44; subst h48
  obtain ⟨h50, hf51⟩ := chk_of hf49; clear hf49
  obtain ⟨h53, hf54⟩ := chk_of hf51; clear hf51
  refine j_putrF X fp_X0_32 h50 h53 rfl (hin rfl) rfl dX0_init_39 (fun σ52 eσ52 => ?_)
  replace hf54 := lt_of hf54 σ52 eσ52
  have m57 : hN σ42 ≤ hN σ52 := by rw [eσ52]; exact Nat.le_refl _
  have h56 : isO σ52 0 a0 := by rw [eσ52]; exact h50
  refine j_aload_n X dX0_init_42 0 rfl rfl ?_
  refine j_aload_n X dX0_init_43 1 rfl rfl ?_
  obtain ⟨h58, hf59⟩ := chk_of hf54; clear hf54
  obtain ⟨i60, h61, hf62⟩ := bd_of hf59; clear hf59
  refine j_getr X fd_X0_33 h58 h61 dX0_init_44 ?_
  refine j_aload_n X dX0_init_47 0 rfl rfl ?_
  refine j_geti X fd_X0_15 h56 dX0_init_48 (fun v63 ev63 => ?_)
  replace hf62 := lt_of hf62 v63 ev63
  obtain ⟨r65, σ66, h67, hf68⟩ := bc_of hf62; clear hf62
  refine j_callS X (As := [.ref (q45 i60), .int v63]) (rest := [.ref (q45 a0)]) (c_J7_copyOf_59c91 l D cs q45 i60 v63 σ52 _ _ h67) mk_J7_copyOf_59c91 ms_J7_copyOf_59c91 ml_X0_22 ⟨rfl, rfl⟩ ⟨Nat.le_of_ble_eq_true rfl, Nat.le_of_ble_eq_true rfl⟩ rfl (Nat.le_of_ble_eq_true rfl) ⟨Nat.le_of_ble_eq_true rfl, Nat.le_of_ble_eq_true rfl⟩ dX0_init_51 rfl (fun z => [va_rf (Option.map z r65), .ref (q45 a0)]) (fun _ => rfl) (fun q69 hq69 => ?_)
  obtain ⟨hq69, m70⟩ := hq69
  rw [← hq69 a0 h56.1, ← hq69 a1 h58.1]
  obtain ⟨i71, h72, hf73⟩ := bd_of hf68; clear hf68; subst h72
  obtain ⟨h74, hf75⟩ := chk_of hf73; clear hf73
  obtain ⟨h77, hf78⟩ := chk_of hf75; clear hf75
  refine j_putrF X fp_X0_36 h74 h77 rfl (hin rfl) rfl dX0_init_54 (fun σ76 eσ76 => ?_)
  replace hf78 := lt_of hf78 σ76 eσ76
  have m81 : hN σ66 ≤ hN σ76 := by rw [eσ76]; exact Nat.le_refl _
  have h80 : isO σ76 0 a0 := by rw [eσ76]; exact h74
  refine j_aload_n X dX0_init_57 0 rfl rfl ?_
  refine j_aload_n X dX0_init_58 1 rfl rfl ?_
  obtain ⟨h82, hf83⟩ := chk_of hf78; clear hf78
  obtain ⟨i84, h85, hf86⟩ := bd_of hf83; clear hf83
  refine j_getr X fd_X0_37 h82 h85 dX0_init_59 ?_
  refine j_aload_n X dX0_init_62 0 rfl rfl ?_
  refine j_geti X fd_X0_15 h80 dX0_init_63 (fun v87 ev87 => ?_)
  replace hf86 := lt_of hf86 v87 ev87
  obtain ⟨r89, σ90, h91, hf92⟩ := bc_of hf86; clear hf86
  refine j_callS X (As := [.ref (q69 i84), .int v87]) (rest := [.ref (q69 a0)]) (c_J7_copyOf_59c91 l D cs q69 i84 v87 σ76 _ _ h91) mk_J7_copyOf_59c91 ms_J7_copyOf_59c91 ml_X0_22 ⟨rfl, rfl⟩ ⟨Nat.le_of_ble_eq_true rfl, Nat.le_of_ble_eq_true rfl⟩ rfl (Nat.le_of_ble_eq_true rfl) ⟨Nat.le_of_ble_eq_true rfl, Nat.le_of_ble_eq_true rfl⟩ dX0_init_66 rfl (fun z => [va_rf (Option.map z r89), .ref (q69 a0)]) (fun _ => rfl) (fun q93 hq93 => ?_)
  obtain ⟨hq93, m94⟩ := hq93
  rw [← hq93 a0 h80.1, ← hq93 a1 h82.1]
  obtain ⟨i95, h96, hf97⟩ := bd_of hf92; clear hf92; subst h96
  obtain ⟨h98, hf99⟩ := chk_of hf97; clear hf97
  obtain ⟨h101, hf102⟩ := chk_of hf99; clear hf99
  refine j_putrF X fp_X0_40 h98 h101 rfl (hin rfl) rfl dX0_init_69 (fun σ100 eσ100 => ?_)
  replace hf102 := lt_of hf102 σ100 eσ100
  have m105 : hN σ90 ≤ hN σ100 := by rw [eσ100]; exact Nat.le_refl _
  have h104 : isO σ100 0 a0 := by rw [eσ100]; exact h98
  refine j_aload_n X dX0_init_72 0 rfl rfl ?_
  refine j_aload_n X dX0_init_73 1 rfl rfl ?_
  obtain ⟨h106, hf107⟩ := chk_of hf102; clear hf102
  obtain ⟨i108, h109, hf110⟩ := bd_of hf107; clear hf107
  refine j_getr X fd_X0_41 h106 h109 dX0_init_74 ?_
  refine j_aload_n X dX0_init_77 0 rfl rfl ?_
  refine j_geti X fd_X0_15 h104 dX0_init_78 (fun v111 ev111 => ?_)
  replace hf110 := lt_of hf110 v111 ev111
  obtain ⟨r113, σ114, h115, hf116⟩ := bc_of hf110; clear hf110
  refine j_callS X (As := [.ref (q93 i108), .int v111]) (rest := [.ref (q93 a0)]) (c_J7_copyOf_59c91 l D cs q93 i108 v111 σ100 _ _ h115) mk_J7_copyOf_59c91 ms_J7_copyOf_59c91 ml_X0_22 ⟨rfl, rfl⟩ ⟨Nat.le_of_ble_eq_true rfl, Nat.le_of_ble_eq_true rfl⟩ rfl (Nat.le_of_ble_eq_true rfl) ⟨Nat.le_of_ble_eq_true rfl, Nat.le_of_ble_eq_true rfl⟩ dX0_init_81 rfl (fun z => [va_rf (Option.map z r113), .ref (q93 a0)]) (fun _ => rfl) (fun q117 hq117 => ?_)
  obtain ⟨hq117, m118⟩ := hq117
  rw [← hq117 a0 h104.1, ← hq117 a1 h106.1]
  obtain ⟨i119, h120, hf121⟩ := bd_of hf116; clear hf116; subst h120
  obtain ⟨h122, hf123⟩ := chk_of hf121; clear hf121
  obtain ⟨h125, hf126⟩ := chk_of hf123; clear hf123
  refine j_putrF X fp_X0_44 h122 h125 rfl (hin rfl) rfl dX0_init_84 (fun σ124 eσ124 => ?_)
  replace hf126 := lt_of hf126 σ124 eσ124
  have m129 : hN σ114 ≤ hN σ124 := by rw [eσ124]; exact Nat.le_refl _
  have h128 : isO σ124 0 a0 := by rw [eσ124]; exact h122
  refine j_aload_n X dX0_init_87 0 rfl rfl ?_
  refine j_aload_n X dX0_init_88 1 rfl rfl ?_
  obtain ⟨r130, σ131, h132, hf133⟩ := bc_of hf126; clear hf126
  refine j_callS0 X [.ref (q117 a1)] [.ref (q117 a0)] (c_X0_sourcesIn l D cs q117 a1 σ124 _ _ h132) mk_X0_sourcesIn ms_X0_sourcesIn ml_X0_45 ⟨rfl, rfl⟩ ⟨Nat.le_of_ble_eq_true rfl, Nat.le_of_ble_eq_true rfl⟩ rfl (Nat.le_of_ble_eq_true rfl) ⟨Nat.le_of_ble_eq_true rfl, Nat.le_of_ble_eq_true rfl⟩ dX0_init_89 rfl (st' := [.int r130, .ref (q117 a0)]) rfl ?_
  obtain ⟨h134, hf135⟩ := chk_of hf133; clear hf133
  obtain ⟨h136, hf137⟩ := chk_of hf135; clear hf135
  refine j_putiF X fp_X0_49 h136 (hin rfl) rfl dX0_init_92 (fun σ138 eσ138 => ?_)
  replace hf137 := lt_of hf137 σ138 eσ138
  have m141 : hN σ131 ≤ hN σ138 := by rw [eσ138]; exact Nat.le_refl _
  have h140 : isO σ138 0 a0 := by rw [eσ138]; exact h136
  refine j_aload_n X dX0_init_95 0 rfl rfl ?_
  refine j_aload_n X dX0_init_96 1 rfl rfl ?_
  obtain ⟨h146, hf147⟩ := chk_of hf137; clear hf137
  obtain ⟨r142, σ143, h144, hf145⟩ := bc_of hf147; clear hf147
  refine j_callS X (As := [.ref (q117 a1)]) (rest := [.ref (q117 a0)]) (c_X0_depthOf l D cs q117 a1 σ138 _ _ h144) mk_X0_depthOf ms_X0_depthOf ml_X0_52 ⟨rfl, rfl⟩ ⟨Nat.le_of_ble_eq_true rfl, Nat.le_of_ble_eq_true rfl⟩ rfl (Nat.le_of_ble_eq_true rfl) ⟨Nat.le_of_ble_eq_true rfl, Nat.le_of_ble_eq_true rfl⟩ dX0_init_97 rfl (fun z => [.int r142, .ref (q117 a0)]) (fun _ => rfl) (fun q148 hq148 => ?_)
  obtain ⟨hq148, m149⟩ := hq148
  rw [← hq148 a0 h140.1, ← hq148 a1 h146]
  obtain ⟨h150, hf151⟩ := chk_of hf145; clear hf145
  refine j_putiF X fp_X0_55 h150 (hin rfl) rfl dX0_init_100 (fun σ152 eσ152 => ?_)
  replace hf151 := lt_of hf151 σ152 eσ152
  have m155 : hN σ143 ≤ hN σ152 := by rw [eσ152]; exact Nat.le_refl _
  have h154 : isO σ152 0 a0 := by rw [eσ152]; exact h150
  refine j_aload_n X dX0_init_103 1 rfl rfl ?_
  obtain ⟨h160, hf161⟩ := chk_of hf151; clear hf151
  obtain ⟨r156, σ157, h158, hf159⟩ := bc_of hf161; clear hf161
  refine j_callS X (As := [.ref (q148 a1)]) (rest := []) (c_X0_likenessIn l D cs q148 a1 σ152 _ _ h158) mk_X0_likenessIn ms_X0_likenessIn ml_X0_58 ⟨rfl, rfl⟩ ⟨Nat.le_of_ble_eq_true rfl, Nat.le_of_ble_eq_true rfl⟩ rfl (Nat.le_of_ble_eq_true rfl) ⟨Nat.le_of_ble_eq_true rfl, Nat.le_of_ble_eq_true rfl⟩ dX0_init_104 rfl (fun z => [va_rf (Option.map z r156)]) (fun _ => rfl) (fun q162 hq162 => ?_)
  obtain ⟨hq162, m163⟩ := hq162
  rw [← hq162 a0 h154.1, ← hq162 a1 h160]
  obtain ⟨i164, h165, hf166⟩ := bd_of hf159; clear hf159; subst h165
  refine j_astore_n X (lv' := [(2, .ref (q162 i164)), (0, .ref (q162 a0)), (1, .ref (q162 a1))]) dX0_init_107 rfl (by decide) rfl ?_
  refine j_aload_n X dX0_init_108 1 rfl rfl ?_
  refine j_aload_n X dX0_init_109 0 rfl rfl ?_
  obtain ⟨r167, σ168, h169, hf170⟩ := bc_of hf166; clear hf166
  refine j_callS0 X [.ref (q162 i164)] [.ref (q162 a0)] (c_X0_unlikeIn l D cs q162 i164 σ157 _ _ h169) mk_X0_unlikeIn ms_X0_unlikeIn ml_X0_62 ⟨rfl, rfl⟩ ⟨Nat.le_of_ble_eq_true rfl, Nat.le_of_ble_eq_true rfl⟩ rfl (Nat.le_of_ble_eq_true rfl) ⟨Nat.le_of_ble_eq_true rfl, Nat.le_of_ble_eq_true rfl⟩ dX0_init_110 rfl (st' := [.int r167, .ref (q162 a0)]) rfl ?_
  obtain ⟨h171, hf172⟩ := chk_of hf170; clear hf170
  obtain ⟨h173, hf174⟩ := chk_of hf172; clear hf172
  refine j_putiF X fp_X0_66 h173 (hin rfl) rfl dX0_init_113 (fun σ175 eσ175 => ?_)
  replace hf174 := lt_of hf174 σ175 eσ175
  have m178 : hN σ168 ≤ hN σ175 := by rw [eσ175]; exact Nat.le_refl _
  have h177 : isO σ175 0 a0 := by rw [eσ175]; exact h173
  refine j_aload_n X dX0_init_116 1 rfl rfl ?_
  refine j_aload_n X dX0_init_117 0 rfl rfl ?_
  obtain ⟨h183, hf184⟩ := chk_of hf174; clear hf174
  obtain ⟨h185, hf186⟩ := chk_of hf184; clear hf184
  obtain ⟨r179, σ180, h181, hf182⟩ := bc_of hf186; clear hf186
  refine j_callS X (As := [.ref (q162 i164)]) (rest := [.ref (q162 a0)]) (c_X0_mostAlikeIn l D cs q162 i164 σ175 _ _ h181) mk_X0_mostAlikeIn ms_X0_mostAlikeIn ml_X0_69 ⟨rfl, rfl⟩ ⟨Nat.le_of_ble_eq_true rfl, Nat.le_of_ble_eq_true rfl⟩ rfl (Nat.le_of_ble_eq_true rfl) ⟨Nat.le_of_ble_eq_true rfl, Nat.le_of_ble_eq_true rfl⟩ dX0_init_118 rfl (fun z => [.int r179, .ref (q162 a0)]) (fun _ => rfl) (fun q187 hq187 => ?_)
  obtain ⟨hq187, m188⟩ := hq187
  rw [← hq187 i164 h183, ← hq187 a0 h177.1, ← hq187 a1 h185]
  obtain ⟨h189, hf190⟩ := chk_of hf182; clear hf182
  refine j_putiF X fp_X0_72 h189 (hin rfl) rfl dX0_init_121 (fun σ191 eσ191 => ?_)
  replace hf190 := lt_of hf190 σ191 eσ191
  have m194 : hN σ180 ≤ hN σ191 := by rw [eσ191]; exact Nat.le_refl _
  have h193 : isO σ191 0 a0 := by rw [eσ191]; exact h189
  obtain ⟨er, es⟩ := rt_of hf190
  exact j_retv X hr hlk (Nat.le_of_ble_eq_true rfl) (Nat.le_of_ble_eq_true rfl) ⟨(fun j hj => by rw [hq187 j (by omega), hq162 j (by omega), hq148 j (by omega), hq117 j (by omega), hq93 j (by omega), hq69 j (by omega), hq45 j (by omega), hq21 j (by omega)]), by rw [es]; omega⟩ es.symm rfl dX0_init_124
abbrev rm_X3_readFormula : Room := { frames := 43, cells := 9, slots := 490, locals := 2752 }
set_option maxHeartbeats 4000000 in
set_option maxRecDepth 100000 in
theorem c_X3_readFormula (l : Launch) (D : va_G) (cs : Nat → ClassId) (q : Nat → Nat) (a0 : Nat) (σ σ0 : HS) (r0 : (Option Nat)) (hf0 : f_X3_readFormula a0 σ = some (r0, σ0)) : MT l yX3_readFormula (Cond.code yX3_readFormula cX3_readFormula 2 (some (.object "SpanKeeper$Formula")) :: lw_g) rm_X3_readFormula D cs q σ σ0 [.ref (q a0)] (fun q1 => (∀ j : Nat, j < hN σ → q1 j = q j) ∧ hN σ ≤ hN σ0) (fun z => some (va_rf (Option.map z r0))) 9 490 := by
  unfold f_X3_readFormula at hf0
  refine MT_of (cc := cX3_readFormula) (lv0 := [(0, .ref (q a0))]) (by decide) (Nat.le_of_ble_eq_true rfl) rfl (fun p e s m args below meth c A X hr hlk hin => ?_)
  refine j_aload_n X dX3_readFormula_0 0 rfl rfl ?_
  refine j_iconst X (v := 0) dX3_readFormula_1 (by decide) ?_
  obtain ⟨h1, hf2⟩ := chk_of hf0; clear hf0
  refine j_puti X fp_X3_19 h1 dX3_readFormula_2 (fun σ3 eσ3 => ?_)
  replace hf2 := lt_of hf2 σ3 eσ3
  have m6 : hN σ ≤ hN σ3 := by rw [eσ3]; exact Nat.le_refl _
  have h5 : isO σ3 3 a0 := by rw [eσ3]; exact h1
  refine j_aload_n X dX3_readFormula_5 0 rfl rfl ?_
  refine j_iconst X (v := 0) dX3_readFormula_6 (by decide) ?_
  refine j_puti X fp_X3_37 h5 dX3_readFormula_7 (fun σ7 eσ7 => ?_)
  replace hf2 := lt_of hf2 σ7 eσ7
  have m10 : hN σ3 ≤ hN σ7 := by rw [eσ7]; exact Nat.le_refl _
  have h9 : isO σ7 3 a0 := by rw [eσ7]; exact h5
  refine j_aload_n X dX3_readFormula_10 0 rfl rfl ?_
  refine j_iconst X (v := 0) dX3_readFormula_11 (by decide) ?_
  obtain ⟨r11, σ12, h13, hf14⟩ := bc_of hf2; clear hf2
  refine j_callV0 X [.int (0 : Int32)] [] (c_X3_readSum l D cs q a0 (0 : Int32) σ7 _ _ h13) mk_X3_readSum mv_X3_readSum ml_X3_40 h9 rfl (by decide) ⟨rfl, rfl⟩ ⟨Nat.le_of_ble_eq_true rfl, Nat.le_of_ble_eq_true rfl⟩ rfl (Nat.le_of_ble_eq_true rfl) ⟨Nat.le_of_ble_eq_true rfl, Nat.le_of_ble_eq_true rfl⟩ dX3_readFormula_12 rfl (st' := [.int r11]) rfl ?_
  obtain ⟨h15, hf16⟩ := chk_of hf14; clear hf14
  refine j_istore_n X (lv' := [(1, .int r11), (0, .ref (q a0))]) dX3_readFormula_15 rfl (by decide) rfl ?_
  refine j_iload_n X dX3_readFormula_16 0 rfl rfl ?_
  refine j_iconst X (v := -1) dX3_readFormula_17 (by decide) ?_
  refine j_icmp_eq X (tgt := 32) dX3_readFormula_18 (by decide) (fun c17 => ?_) (fun c17 => ?_)
  · have hf18 := br_y hf16 c17; clear hf16
    refine j_null X dX3_readFormula_32 ?_
    refine j_goto X (tgt := 44) dX3_readFormula_33 (by decide) ?_
    obtain ⟨er, es⟩ := rt_of hf18
    subst er
    exact j_reta (o := Option.map q none) X hr rfl hlk (Nat.le_of_ble_eq_true rfl) (Nat.le_of_ble_eq_true rfl) ⟨(fun j hj => rfl), by rw [es]; omega⟩ es.symm rfl dX3_readFormula_44
  · have hf19 := br_n hf16 c17; clear hf16
    refine j_aload_n X dX3_readFormula_21 1 rfl rfl ?_
    obtain ⟨h20, hf21⟩ := chk_of hf19; clear hf19
    refine j_geti X fd_X3_19 h20 dX3_readFormula_22 (fun v22 ev22 => ?_)
    replace hf21 := lt_of hf21 v22 ev22
    refine j_aload_n X dX3_readFormula_25 1 rfl rfl ?_
    refine j_geti X fd_X3_15 h20 dX3_readFormula_26 (fun v24 ev24 => ?_)
    replace hf21 := lt_of hf21 v24 ev24
    refine j_icmp_ge X (tgt := 36) dX3_readFormula_29 (by decide) (fun c26 => ?_) (fun c26 => ?_)
    · have hf27 := br_y hf21 c26; clear hf21
      refine j_new X nf_X3_44 ⟨Nat.le_of_ble_eq_true rfl, Nat.le_of_ble_eq_true rfl⟩ dX3_readFormula_36 (fun q29 σ30 n31 hq29 eσ30 en31 => ?_)
      replace hf27 := lt_of hf27 n31 en31
      replace hf27 := lt_of hf27 σ30 eσ30
      have m32 : hN σ30 = hN σ12 + 1 := by rw [eσ30]; rfl
      rw [← hq29 a0 h20.1]
      have h33 : isO σ30 3 a0 := isO_nw eσ30 h20
      have h34 : isO σ30 0 n31 := isO_nw0 eσ30 en31
      refine j_dup X dX3_readFormula_39 rfl ?_
      refine j_aload_n X dX3_readFormula_40 1 rfl rfl ?_
      obtain ⟨r35, σ36, h37, hf38⟩ := bc_of hf27; clear hf27
      refine j_callI X (As := [.ref (q29 a0)]) (rest := [.ref (q29 n31)]) (c_X0_init l D cs q29 n31 a0 σ30 _ _ h37) mk_X0_init mv_X0_init ml_X3_46 ⟨rfl, rfl⟩ ⟨Nat.le_of_ble_eq_true rfl, Nat.le_of_ble_eq_true rfl⟩ rfl (Nat.le_of_ble_eq_true rfl) ⟨Nat.le_of_ble_eq_true rfl, Nat.le_of_ble_eq_true rfl⟩ dX3_readFormula_41 rfl (fun z => [.ref (q29 n31)]) (fun _ => rfl) (fun q39 hq39 => ?_)
      obtain ⟨hq39, m40⟩ := hq39
      rw [← hq39 a0 h33.1, ← hq39 n31 h34.1]
      obtain ⟨er, es⟩ := rt_of hf38
      subst er
      exact j_reta (o := Option.map q39 (some n31)) X hr rfl hlk (Nat.le_of_ble_eq_true rfl) (Nat.le_of_ble_eq_true rfl) ⟨(fun j hj => by rw [hq39 j (by omega), hq29 j (by omega)]), by rw [es]; omega⟩ es.symm rfl dX3_readFormula_44
    · have hf28 := br_n hf21 c26; clear hf21
      refine j_null X dX3_readFormula_32 ?_
      refine j_goto X (tgt := 44) dX3_readFormula_33 (by decide) ?_
      obtain ⟨er, es⟩ := rt_of hf28
      subst er
      exact j_reta (o := Option.map q none) X hr rfl hlk (Nat.le_of_ble_eq_true rfl) (Nat.le_of_ble_eq_true rfl) ⟨(fun j hj => rfl), by rw [es]; omega⟩ es.symm rfl dX3_readFormula_44
abbrev rm_X5_formula : Room := { frames := 44, cells := 9, slots := 490, locals := 2816 }
set_option maxHeartbeats 4000000 in
set_option maxRecDepth 100000 in
theorem c_X5_formula (l : Launch) (D : va_G) (cs : Nat → ClassId) (q : Nat → Nat) (a0 : Nat) (σ σ0 : HS) (r0 : Int32) (hf0 : f_X5_formula a0 σ = some (r0, σ0)) : MT l yX5_formula (Cond.code yX5_formula cX5_formula 3 (some .int) :: lw_g) rm_X5_formula D cs q σ σ0 [.ref (q a0)] (fun q1 => (∀ j : Nat, j < hN σ → q1 j = q j) ∧ hN σ ≤ hN σ0) (fun _ => some (.int r0)) 9 490 := by
  unfold f_X5_formula at hf0
  refine MT_of (cc := cX5_formula) (lv0 := [(0, .ref (q a0))]) (by decide) (Nat.le_of_ble_eq_true rfl) rfl (fun p e s m args below meth c A X hr hlk hin => ?_)
  refine j_aload_n X dX5_formula_0 0 rfl rfl ?_
  obtain ⟨h1, hf2⟩ := chk_of hf0; clear hf0
  obtain ⟨i3, h4, hf5⟩ := bd_of hf2; clear hf2
  refine j_getr X fd_X5_28 h1 h4 dX5_formula_1 ?_
  obtain ⟨h6, hf7⟩ := chk_of hf5; clear hf5
  obtain ⟨r8, σ9, h10, hf11⟩ := bc_of hf7; clear hf7
  refine j_callV X (As := []) (rest := []) (c_X3_readFormula l D cs q i3 σ _ _ h10) mk_X3_readFormula mv_X3_readFormula ml_X5_86 h6 rfl (by decide) ⟨rfl, rfl⟩ ⟨Nat.le_of_ble_eq_true rfl, Nat.le_of_ble_eq_true rfl⟩ rfl (Nat.le_of_ble_eq_true rfl) ⟨Nat.le_of_ble_eq_true rfl, Nat.le_of_ble_eq_true rfl⟩ dX5_formula_4 rfl (fun z => [va_rf (Option.map z r8)]) (fun _ => rfl) (fun q12 hq12 => ?_)
  obtain ⟨hq12, m13⟩ := hq12
  rw [← hq12 a0 h1.1]
  refine j_astore_nq X (lv' := [(1, va_rf (Option.map q12 r8)), (0, .ref (q12 a0))]) dX5_formula_7 rfl (by decide) rfl ?_
  refine j_aload_n X dX5_formula_8 1 rfl rfl ?_
  obtain ⟨h14, hf15⟩ := chk_of hf11; clear hf11
  obtain ⟨i16, h17, hf18⟩ := bd_of hf15; clear hf15
  refine j_getr X fd_X5_28 h14 h17 dX5_formula_9 ?_
  refine j_iconst X (v := 0) dX5_formula_12 (by decide) ?_
  obtain ⟨h19, hf20⟩ := chk_of hf18; clear hf18
  refine j_puti X fp_X5_83 h19 dX5_formula_13 (fun σ21 eσ21 => ?_)
  replace hf20 := lt_of hf20 σ21 eσ21
  have m25 : hN σ9 ≤ hN σ21 := by rw [eσ21]; exact Nat.le_refl _
  have h23 : isO σ21 5 a0 := by rw [eσ21]; exact h14
  have h24 : isO σ21 3 i16 := by rw [eσ21]; exact h19
  refine j_aload_nq X dX5_formula_16 0 rfl rfl ?_
  refine j_ifnonnull X (tgt := 31) dX5_formula_17 (by decide) (fun c81 => ?_) (fun i26 c81 => ?_)
  · subst c81; have hf27 := (show _ = some (r0, σ0) from hf20); clear hf20; unfold oc at hf27; dsimp only at hf27
    refine j_bipush X (v := -100) dX5_formula_20 (by decide) ?_
    refine j_aload_n X dX5_formula_22 1 rfl rfl ?_
    obtain ⟨i29, h30, hf31⟩ := bd_of hf27; clear hf27
    refine j_getr X fd_X5_28 h23 h30 dX5_formula_23 ?_
    obtain ⟨h32, hf33⟩ := chk_of hf31; clear hf31
    refine j_geti X fd_X5_90 h32 dX5_formula_26 (fun v34 ev34 => ?_)
    replace hf33 := lt_of hf33 v34 ev34
    refine j_isub X dX5_formula_29 ?_
    obtain ⟨er, es⟩ := rt_of hf33
    subst er
    exact j_reti X hr hlk (Nat.le_of_ble_eq_true rfl) (Nat.le_of_ble_eq_true rfl) ⟨(fun j hj => by rw [hq12 j (by omega)]), by rw [es]; omega⟩ es.symm rfl dX5_formula_30
  · subst c81; have hf28 := (show _ = some (r0, σ0) from hf20); clear hf20; unfold oc at hf28; dsimp only at hf28
    refine j_aload_n X dX5_formula_31 1 rfl rfl ?_
    obtain ⟨i36, h37, hf38⟩ := bd_of hf28; clear hf28
    refine j_getr X fd_X5_14 h23 h37 dX5_formula_32 ?_
    obtain ⟨h39, hf40⟩ := chk_of hf38; clear hf38
    refine j_geti X fd_X5_93 h39 dX5_formula_35 (fun v41 ev41 => ?_)
    replace hf40 := lt_of hf40 v41 ev41
    refine j_bipush X (v := 6) dX5_formula_38 (by decide) ?_
    refine j_icmp_lt X (tgt := 46) dX5_formula_40 (by decide) (fun c43 => ?_) (fun c43 => ?_)
    · have hf44 := br_y hf40 c43; clear hf40
      refine j_aload_n X dX5_formula_46 1 rfl rfl ?_
      refine j_getr X fd_X5_14 h23 h37 dX5_formula_47 ?_
      refine j_geti X fd_X5_93 h39 dX5_formula_50 (fun v49 ev49 => ?_)
      replace hf44 := lt_of hf44 v49 ev49
      refine j_istore_n X (lv' := [(2, .int v49), (1, .ref (q12 i26)), (0, .ref (q12 a0))]) dX5_formula_53 rfl (by decide) rfl ?_
      refine j_aload_n X dX5_formula_54 2 rfl rfl ?_
      refine j_getr X fd_X5_14 h23 h37 dX5_formula_55 ?_
      obtain ⟨i54, h55, hf56⟩ := bd_of hf44; clear hf44
      refine j_getr X fd_X5_96 h39 h55 dX5_formula_58 ?_
      refine j_iload_n X dX5_formula_61 0 rfl rfl ?_
      refine j_aload_n X dX5_formula_62 1 rfl rfl ?_
      obtain ⟨h57, hf58⟩ := chk_of hf56; clear hf56
      obtain ⟨h59, hf60⟩ := chk_of hf58; clear hf58
      refine j_aast X (o := (some i26)) h57 h59 dX5_formula_63 (fun σ61 eσ61 => ?_)
      replace hf60 := lt_of hf60 σ61 eσ61
      have m66 : hN σ21 ≤ hN σ61 := by rw [eσ61]; exact Nat.le_refl _
      have h63 : isO σ61 5 a0 := by rw [eσ61]; exact h23
      have h64 : isO σ61 3 i16 := by rw [eσ61]; exact h24
      have h65 : isO σ61 2 i36 := by rw [eσ61]; exact h39
      refine j_aload_n X dX5_formula_64 2 rfl rfl ?_
      obtain ⟨i67, h68, hf69⟩ := bd_of hf60; clear hf60
      refine j_getr X fd_X5_14 h63 h68 dX5_formula_65 ?_
      refine j_dup X dX5_formula_68 rfl ?_
      obtain ⟨h70, hf71⟩ := chk_of hf69; clear hf69
      refine j_geti X fd_X5_93 h70 dX5_formula_69 (fun v72 ev72 => ?_)
      replace hf71 := lt_of hf71 v72 ev72
      refine j_iconst X (v := 1) dX5_formula_72 (by decide) ?_
      refine j_iadd X dX5_formula_73 ?_
      refine j_puti X fp_X5_93 h70 dX5_formula_74 (fun σ74 eσ74 => ?_)
      replace hf71 := lt_of hf71 σ74 eσ74
      have m80 : hN σ61 ≤ hN σ74 := by rw [eσ74]; exact Nat.le_refl _
      have h76 : isO σ74 5 a0 := by rw [eσ74]; exact h63
      have h77 : isO σ74 3 i16 := by rw [eσ74]; exact h64
      have h78 : isO σ74 2 i36 := by rw [eσ74]; exact h65
      have h79 : isO σ74 2 i67 := by rw [eσ74]; exact h70
      refine j_iload_n X dX5_formula_77 0 rfl rfl ?_
      obtain ⟨er, es⟩ := rt_of hf71
      subst er
      exact j_reti X hr hlk (Nat.le_of_ble_eq_true rfl) (Nat.le_of_ble_eq_true rfl) ⟨(fun j hj => by rw [hq12 j (by omega)]), by rw [es]; omega⟩ es.symm rfl dX5_formula_78
    · have hf45 := br_n hf40 c43; clear hf40
      refine j_bipush X (v := -4) dX5_formula_43 (by decide) ?_
      obtain ⟨er, es⟩ := rt_of hf45
      subst er
      exact j_reti X hr hlk (Nat.le_of_ble_eq_true rfl) (Nat.le_of_ble_eq_true rfl) ⟨(fun j hj => by rw [hq12 j (by omega)]), by rw [es]; omega⟩ es.symm rfl dX5_formula_45
abbrev rm_X1_init : Room := { frames := 1, cells := 3, slots := 180, locals := 64 }
set_option maxHeartbeats 4000000 in
set_option maxRecDepth 100000 in
theorem c_X1_init (l : Launch) (D : va_G) (cs : Nat → ClassId) (q : Nat → Nat) (a0 : Nat) (a1 : Int32) (σ σ0 : HS) (r0 : Unit) (hf0 : f_X1_init a0 a1 σ = some (r0, σ0)) : MT l yX1_init (Cond.code yX1_init cX1_init 2 none :: lw_g) rm_X1_init D cs q σ σ0 [.ref (q a0), .int a1] (fun q1 => (∀ j : Nat, j < hN σ → q1 j = q j) ∧ hN σ ≤ hN σ0) (fun _ => none) 3 180 := by
  unfold f_X1_init at hf0
  refine MT_of (cc := cX1_init) (lv0 := [(0, .ref (q a0)), (1, .int a1)]) (by decide) (Nat.le_of_ble_eq_true rfl) rfl (fun p e s m args below meth c A X hr hlk hin => ?_)
  refine j_aload_n X dX1_init_0 0 rfl rfl ?_
  refine j_objInit X ml_X1_1 (Nat.le_of_ble_eq_true rfl) (Nat.le_of_ble_eq_true rfl) dX1_init_1 ?_
  refine j_aload_n X dX1_init_4 0 rfl rfl ?_
  refine j_iload_n X dX1_init_5 1 rfl rfl ?_
  obtain ⟨h1, hf2⟩ := chk_of hf0; clear hf0
  obtain ⟨h3, hf4⟩ := chk_of hf2; clear hf2
  refine j_newal X (b := 60) h1 (by decide) ⟨Nat.le_of_ble_eq_true rfl, Nat.le_of_ble_eq_true rfl⟩ dX1_init_6 (fun q5 σ6 n7 hq5 eσ6 en7 => ?_)
  replace hf4 := lt_of hf4 n7 en7
  replace hf4 := lt_of hf4 σ6 eσ6
  have m8 : hN σ6 = hN σ + 1 := by rw [eσ6]; rfl
  rw [← hq5 a0 h3]
  have h9 : isO σ6 12 n7 := isO_nw0 eσ6 en7
  obtain ⟨h10, hf11⟩ := chk_of hf4; clear hf4
  obtain ⟨h13, hf14⟩ := chk_of hf11; clear hf11
  refine j_putrF X fp_X1_7 h10 h13 rfl (hin rfl) rfl dX1_init_8 (fun σ12 eσ12 => ?_)
  replace hf14 := lt_of hf14 σ12 eσ12
  have m18 : hN σ6 ≤ hN σ12 := by rw [eσ12]; exact Nat.le_refl _
  have h16 : isO σ12 12 n7 := by rw [eσ12]; exact h9
  have h17 : isO σ12 1 a0 := by rw [eσ12]; exact h10
  refine j_aload_n X dX1_init_11 0 rfl rfl ?_
  refine j_iload_n X dX1_init_12 1 rfl rfl ?_
  obtain ⟨h19, hf20⟩ := chk_of hf14; clear hf14
  refine j_newal X (b := 60) h19 (by decide) ⟨Nat.le_of_ble_eq_true rfl, Nat.le_of_ble_eq_true rfl⟩ dX1_init_13 (fun q21 σ22 n23 hq21 eσ22 en23 => ?_)
  replace hf20 := lt_of hf20 n23 en23
  replace hf20 := lt_of hf20 σ22 eσ22
  have m24 : hN σ22 = hN σ12 + 1 := by rw [eσ22]; rfl
  rw [← hq21 a0 h17.1]
  have h25 : isO σ22 12 n7 := isO_nw eσ22 h16
  have h26 : isO σ22 1 a0 := isO_nw eσ22 h17
  have h27 : isO σ22 12 n23 := isO_nw0 eσ22 en23
  obtain ⟨h29, hf30⟩ := chk_of hf20; clear hf20
  refine j_putrF X fp_X1_13 h26 h29 rfl (hin rfl) rfl dX1_init_15 (fun σ28 eσ28 => ?_)
  replace hf30 := lt_of hf30 σ28 eσ28
  have m35 : hN σ22 ≤ hN σ28 := by rw [eσ28]; exact Nat.le_refl _
  have h32 : isO σ28 12 n7 := by rw [eσ28]; exact h25
  have h33 : isO σ28 1 a0 := by rw [eσ28]; exact h26
  have h34 : isO σ28 12 n23 := by rw [eσ28]; exact h27
  refine j_aload_n X dX1_init_18 0 rfl rfl ?_
  refine j_iload_n X dX1_init_19 1 rfl rfl ?_
  obtain ⟨h36, hf37⟩ := chk_of hf30; clear hf30
  refine j_newaz X (b := 60) h36 (by decide) ⟨Nat.le_of_ble_eq_true rfl, Nat.le_of_ble_eq_true rfl⟩ dX1_init_20 (fun q38 σ39 n40 hq38 eσ39 en40 => ?_)
  replace hf37 := lt_of hf37 n40 en40
  replace hf37 := lt_of hf37 σ39 eσ39
  have m41 : hN σ39 = hN σ28 + 1 := by rw [eσ39]; rfl
  rw [← hq38 a0 h33.1]
  have h42 : isO σ39 12 n7 := isO_nw eσ39 h32
  have h43 : isO σ39 1 a0 := isO_nw eσ39 h33
  have h44 : isO σ39 12 n23 := isO_nw eσ39 h34
  have h45 : isO σ39 11 n40 := isO_nw0 eσ39 en40
  obtain ⟨h47, hf48⟩ := chk_of hf37; clear hf37
  refine j_putrF X fp_X1_16 h43 h47 rfl (hin rfl) rfl dX1_init_22 (fun σ46 eσ46 => ?_)
  replace hf48 := lt_of hf48 σ46 eσ46
  have m54 : hN σ39 ≤ hN σ46 := by rw [eσ46]; exact Nat.le_refl _
  have h50 : isO σ46 12 n7 := by rw [eσ46]; exact h42
  have h51 : isO σ46 1 a0 := by rw [eσ46]; exact h43
  have h52 : isO σ46 12 n23 := by rw [eσ46]; exact h44
  have h53 : isO σ46 11 n40 := by rw [eσ46]; exact h45
  obtain ⟨er, es⟩ := rt_of hf48
  exact j_retv X hr hlk (Nat.le_of_ble_eq_true rfl) (Nat.le_of_ble_eq_true rfl) ⟨(fun j hj => by rw [hq38 j (by omega), hq21 j (by omega), hq5 j (by omega)]), by rw [es]; omega⟩ es.symm rfl dX1_init_25
abbrev rm_X2_init : Room := { frames := 1, cells := 7, slots := 54, locals := 64 }
set_option maxHeartbeats 4000000 in
set_option maxRecDepth 100000 in
theorem c_X2_init (l : Launch) (D : va_G) (cs : Nat → ClassId) (q : Nat → Nat) (a0 : Nat) (σ σ0 : HS) (r0 : Unit) (hf0 : f_X2_init a0 σ = some (r0, σ0)) : MT l yX2_init (Cond.code yX2_init cX2_init 1 none :: lw_g) rm_X2_init D cs q σ σ0 [.ref (q a0)] (fun q1 => (∀ j : Nat, j < hN σ → q1 j = q j) ∧ hN σ ≤ hN σ0) (fun _ => none) 7 54 := by
  unfold f_X2_init at hf0
  refine MT_of (cc := cX2_init) (lv0 := [(0, .ref (q a0))]) (by decide) (Nat.le_of_ble_eq_true rfl) rfl (fun p e s m args below meth c A X hr hlk hin => ?_)
  refine j_aload_n X dX2_init_0 0 rfl rfl ?_
  refine j_objInit X ml_X2_3 (Nat.le_of_ble_eq_true rfl) (Nat.le_of_ble_eq_true rfl) dX2_init_1 ?_
  refine j_aload_n X dX2_init_4 0 rfl rfl ?_
  refine j_bipush X (v := 6) dX2_init_5 (by decide) ?_
  obtain ⟨h1, hf2⟩ := chk_of hf0; clear hf0
  refine j_newai X (b := 6) (by decide) (by decide) ⟨Nat.le_of_ble_eq_true rfl, Nat.le_of_ble_eq_true rfl⟩ dX2_init_7 (fun q3 σ4 n5 hq3 eσ4 en5 => ?_)
  replace hf2 := lt_of hf2 n5 en5
  replace hf2 := lt_of hf2 σ4 eσ4
  have m6 : hN σ4 = hN σ + 1 := by rw [eσ4]; rfl
  rw [← hq3 a0 h1]
  have h7 : isO σ4 10 n5 := isO_nw0 eσ4 en5
  obtain ⟨h8, hf9⟩ := chk_of hf2; clear hf2
  obtain ⟨h11, hf12⟩ := chk_of hf9; clear hf9
  refine j_putrF X fp_X2_9 h8 h11 rfl (hin rfl) rfl dX2_init_9 (fun σ10 eσ10 => ?_)
  replace hf12 := lt_of hf12 σ10 eσ10
  have m16 : hN σ4 ≤ hN σ10 := by rw [eσ10]; exact Nat.le_refl _
  have h14 : isO σ10 10 n5 := by rw [eσ10]; exact h7
  have h15 : isO σ10 2 a0 := by rw [eσ10]; exact h8
  refine j_aload_n X dX2_init_12 0 rfl rfl ?_
  refine j_bipush X (v := 6) dX2_init_13 (by decide) ?_
  refine j_newai X (b := 6) (by decide) (by decide) ⟨Nat.le_of_ble_eq_true rfl, Nat.le_of_ble_eq_true rfl⟩ dX2_init_15 (fun q17 σ18 n19 hq17 eσ18 en19 => ?_)
  replace hf12 := lt_of hf12 n19 en19
  replace hf12 := lt_of hf12 σ18 eσ18
  have m20 : hN σ18 = hN σ10 + 1 := by rw [eσ18]; rfl
  rw [← hq17 a0 h15.1]
  have h21 : isO σ18 10 n5 := isO_nw eσ18 h14
  have h22 : isO σ18 2 a0 := isO_nw eσ18 h15
  have h23 : isO σ18 10 n19 := isO_nw0 eσ18 en19
  obtain ⟨h25, hf26⟩ := chk_of hf12; clear hf12
  refine j_putrF X fp_X2_15 h22 h25 rfl (hin rfl) rfl dX2_init_17 (fun σ24 eσ24 => ?_)
  replace hf26 := lt_of hf26 σ24 eσ24
  have m31 : hN σ18 ≤ hN σ24 := by rw [eσ24]; exact Nat.le_refl _
  have h28 : isO σ24 10 n5 := by rw [eσ24]; exact h21
  have h29 : isO σ24 2 a0 := by rw [eσ24]; exact h22
  have h30 : isO σ24 10 n19 := by rw [eσ24]; exact h23
  refine j_aload_n X dX2_init_20 0 rfl rfl ?_
  refine j_bipush X (v := 6) dX2_init_21 (by decide) ?_
  refine j_newai X (b := 6) (by decide) (by decide) ⟨Nat.le_of_ble_eq_true rfl, Nat.le_of_ble_eq_true rfl⟩ dX2_init_23 (fun q32 σ33 n34 hq32 eσ33 en34 => ?_)
  replace hf26 := lt_of hf26 n34 en34
  replace hf26 := lt_of hf26 σ33 eσ33
  have m35 : hN σ33 = hN σ24 + 1 := by rw [eσ33]; rfl
  rw [← hq32 a0 h29.1]
  have h36 : isO σ33 10 n5 := isO_nw eσ33 h28
  have h37 : isO σ33 2 a0 := isO_nw eσ33 h29
  have h38 : isO σ33 10 n19 := isO_nw eσ33 h30
  have h39 : isO σ33 10 n34 := isO_nw0 eσ33 en34
  obtain ⟨h41, hf42⟩ := chk_of hf26; clear hf26
  refine j_putrF X fp_X2_18 h37 h41 rfl (hin rfl) rfl dX2_init_25 (fun σ40 eσ40 => ?_)
  replace hf42 := lt_of hf42 σ40 eσ40
  have m48 : hN σ33 ≤ hN σ40 := by rw [eσ40]; exact Nat.le_refl _
  have h44 : isO σ40 10 n5 := by rw [eσ40]; exact h36
  have h45 : isO σ40 2 a0 := by rw [eσ40]; exact h37
  have h46 : isO σ40 10 n19 := by rw [eσ40]; exact h38
  have h47 : isO σ40 10 n34 := by rw [eσ40]; exact h39
  refine j_aload_n X dX2_init_28 0 rfl rfl ?_
  refine j_bipush X (v := 6) dX2_init_29 (by decide) ?_
  refine j_newq X cl_X2_21 (b := 6) (by decide) (by decide) ⟨Nat.le_of_ble_eq_true rfl, Nat.le_of_ble_eq_true rfl⟩ dX2_init_31 (fun q49 σ50 n51 hq49 eσ50 en51 => ?_)
  replace hf42 := lt_of hf42 n51 en51
  replace hf42 := lt_of hf42 σ50 eσ50
  have m52 : hN σ50 = hN σ40 + 1 := by rw [eσ50]; rfl
  rw [← hq49 a0 h45.1]
  have h53 : isO σ50 10 n5 := isO_nw eσ50 h44
  have h54 : isO σ50 2 a0 := isO_nw eσ50 h45
  have h55 : isO σ50 10 n19 := isO_nw eσ50 h46
  have h56 : isO σ50 10 n34 := isO_nw eσ50 h47
  have h57 : isO σ50 13 n51 := isO_nw0 eσ50 en51
  obtain ⟨h59, hf60⟩ := chk_of hf42; clear hf42
  refine j_putrF X fp_X2_23 h54 h59 rfl (hin rfl) rfl dX2_init_34 (fun σ58 eσ58 => ?_)
  replace hf60 := lt_of hf60 σ58 eσ58
  have m67 : hN σ50 ≤ hN σ58 := by rw [eσ58]; exact Nat.le_refl _
  have h62 : isO σ58 10 n5 := by rw [eσ58]; exact h53
  have h63 : isO σ58 2 a0 := by rw [eσ58]; exact h54
  have h64 : isO σ58 10 n19 := by rw [eσ58]; exact h55
  have h65 : isO σ58 10 n34 := by rw [eσ58]; exact h56
  have h66 : isO σ58 13 n51 := by rw [eσ58]; exact h57
  refine j_aload_n X dX2_init_37 0 rfl rfl ?_
  refine j_iconst X (v := 0) dX2_init_38 (by decide) ?_
  refine j_puti X fp_X2_27 h63 dX2_init_39 (fun σ68 eσ68 => ?_)
  replace hf60 := lt_of hf60 σ68 eσ68
  have m75 : hN σ58 ≤ hN σ68 := by rw [eσ68]; exact Nat.le_refl _
  have h70 : isO σ68 10 n5 := by rw [eσ68]; exact h62
  have h71 : isO σ68 2 a0 := by rw [eσ68]; exact h63
  have h72 : isO σ68 10 n19 := by rw [eσ68]; exact h64
  have h73 : isO σ68 10 n34 := by rw [eσ68]; exact h65
  have h74 : isO σ68 13 n51 := by rw [eσ68]; exact h66
  refine j_aload_n X dX2_init_42 0 rfl rfl ?_
  refine j_bipush X (v := 8) dX2_init_43 (by decide) ?_
  refine j_newai X (b := 8) (by decide) (by decide) ⟨Nat.le_of_ble_eq_true rfl, Nat.le_of_ble_eq_true rfl⟩ dX2_init_45 (fun q76 σ77 n78 hq76 eσ77 en78 => ?_)
  replace hf60 := lt_of hf60 n78 en78
  replace hf60 := lt_of hf60 σ77 eσ77
  have m79 : hN σ77 = hN σ68 + 1 := by rw [eσ77]; rfl
  rw [← hq76 a0 h71.1]
  have h80 : isO σ77 10 n5 := isO_nw eσ77 h70
  have h81 : isO σ77 2 a0 := isO_nw eσ77 h71
  have h82 : isO σ77 10 n19 := isO_nw eσ77 h72
  have h83 : isO σ77 10 n34 := isO_nw eσ77 h73
  have h84 : isO σ77 13 n51 := isO_nw eσ77 h74
  have h85 : isO σ77 10 n78 := isO_nw0 eσ77 en78
  obtain ⟨h87, hf88⟩ := chk_of hf60; clear hf60
  refine j_putrF X fp_X2_31 h81 h87 rfl (hin rfl) rfl dX2_init_47 (fun σ86 eσ86 => ?_)
  replace hf88 := lt_of hf88 σ86 eσ86
  have m96 : hN σ77 ≤ hN σ86 := by rw [eσ86]; exact Nat.le_refl _
  have h90 : isO σ86 10 n5 := by rw [eσ86]; exact h80
  have h91 : isO σ86 2 a0 := by rw [eσ86]; exact h81
  have h92 : isO σ86 10 n19 := by rw [eσ86]; exact h82
  have h93 : isO σ86 10 n34 := by rw [eσ86]; exact h83
  have h94 : isO σ86 13 n51 := by rw [eσ86]; exact h84
  have h95 : isO σ86 10 n78 := by rw [eσ86]; exact h85
  refine j_aload_n X dX2_init_50 0 rfl rfl ?_
  refine j_bipush X (v := 8) dX2_init_51 (by decide) ?_
  refine j_newai X (b := 8) (by decide) (by decide) ⟨Nat.le_of_ble_eq_true rfl, Nat.le_of_ble_eq_true rfl⟩ dX2_init_53 (fun q97 σ98 n99 hq97 eσ98 en99 => ?_)
  replace hf88 := lt_of hf88 n99 en99
  replace hf88 := lt_of hf88 σ98 eσ98
  have m100 : hN σ98 = hN σ86 + 1 := by rw [eσ98]; rfl
  rw [← hq97 a0 h91.1]
  have h101 : isO σ98 10 n5 := isO_nw eσ98 h90
  have h102 : isO σ98 2 a0 := isO_nw eσ98 h91
  have h103 : isO σ98 10 n19 := isO_nw eσ98 h92
  have h104 : isO σ98 10 n34 := isO_nw eσ98 h93
  have h105 : isO σ98 13 n51 := isO_nw eσ98 h94
  have h106 : isO σ98 10 n78 := isO_nw eσ98 h95
  have h107 : isO σ98 10 n99 := isO_nw0 eσ98 en99
  obtain ⟨h109, hf110⟩ := chk_of hf88; clear hf88
  refine j_putrF X fp_X2_34 h102 h109 rfl (hin rfl) rfl dX2_init_55 (fun σ108 eσ108 => ?_)
  replace hf110 := lt_of hf110 σ108 eσ108
  have m119 : hN σ98 ≤ hN σ108 := by rw [eσ108]; exact Nat.le_refl _
  have h112 : isO σ108 10 n5 := by rw [eσ108]; exact h101
  have h113 : isO σ108 2 a0 := by rw [eσ108]; exact h102
  have h114 : isO σ108 10 n19 := by rw [eσ108]; exact h103
  have h115 : isO σ108 10 n34 := by rw [eσ108]; exact h104
  have h116 : isO σ108 13 n51 := by rw [eσ108]; exact h105
  have h117 : isO σ108 10 n78 := by rw [eσ108]; exact h106
  have h118 : isO σ108 10 n99 := by rw [eσ108]; exact h107
  refine j_aload_n X dX2_init_58 0 rfl rfl ?_
  refine j_bipush X (v := 8) dX2_init_59 (by decide) ?_
  refine j_newai X (b := 8) (by decide) (by decide) ⟨Nat.le_of_ble_eq_true rfl, Nat.le_of_ble_eq_true rfl⟩ dX2_init_61 (fun q120 σ121 n122 hq120 eσ121 en122 => ?_)
  replace hf110 := lt_of hf110 n122 en122
  replace hf110 := lt_of hf110 σ121 eσ121
  have m123 : hN σ121 = hN σ108 + 1 := by rw [eσ121]; rfl
  rw [← hq120 a0 h113.1]
  have h124 : isO σ121 10 n5 := isO_nw eσ121 h112
  have h125 : isO σ121 2 a0 := isO_nw eσ121 h113
  have h126 : isO σ121 10 n19 := isO_nw eσ121 h114
  have h127 : isO σ121 10 n34 := isO_nw eσ121 h115
  have h128 : isO σ121 13 n51 := isO_nw eσ121 h116
  have h129 : isO σ121 10 n78 := isO_nw eσ121 h117
  have h130 : isO σ121 10 n99 := isO_nw eσ121 h118
  have h131 : isO σ121 10 n122 := isO_nw0 eσ121 en122
  obtain ⟨h133, hf134⟩ := chk_of hf110; clear hf110
  refine j_putrF X fp_X2_37 h125 h133 rfl (hin rfl) rfl dX2_init_63 (fun σ132 eσ132 => ?_)
  replace hf134 := lt_of hf134 σ132 eσ132
  have m144 : hN σ121 ≤ hN σ132 := by rw [eσ132]; exact Nat.le_refl _
  have h136 : isO σ132 10 n5 := by rw [eσ132]; exact h124
  have h137 : isO σ132 2 a0 := by rw [eσ132]; exact h125
  have h138 : isO σ132 10 n19 := by rw [eσ132]; exact h126
  have h139 : isO σ132 10 n34 := by rw [eσ132]; exact h127
  have h140 : isO σ132 13 n51 := by rw [eσ132]; exact h128
  have h141 : isO σ132 10 n78 := by rw [eσ132]; exact h129
  have h142 : isO σ132 10 n99 := by rw [eσ132]; exact h130
  have h143 : isO σ132 10 n122 := by rw [eσ132]; exact h131
  refine j_aload_n X dX2_init_66 0 rfl rfl ?_
  refine j_iconst X (v := 0) dX2_init_67 (by decide) ?_
  refine j_puti X fp_X2_40 h137 dX2_init_68 (fun σ145 eσ145 => ?_)
  replace hf134 := lt_of hf134 σ145 eσ145
  have m155 : hN σ132 ≤ hN σ145 := by rw [eσ145]; exact Nat.le_refl _
  have h147 : isO σ145 10 n5 := by rw [eσ145]; exact h136
  have h148 : isO σ145 2 a0 := by rw [eσ145]; exact h137
  have h149 : isO σ145 10 n19 := by rw [eσ145]; exact h138
  have h150 : isO σ145 10 n34 := by rw [eσ145]; exact h139
  have h151 : isO σ145 13 n51 := by rw [eσ145]; exact h140
  have h152 : isO σ145 10 n78 := by rw [eσ145]; exact h141
  have h153 : isO σ145 10 n99 := by rw [eσ145]; exact h142
  have h154 : isO σ145 10 n122 := by rw [eσ145]; exact h143
  refine j_aload_n X dX2_init_71 0 rfl rfl ?_
  obtain ⟨i156, h157, hf158⟩ := bd_of hf134; clear hf134
  refine j_getr X fd_X2_18 h148 h157 dX2_init_72 ?_
  refine j_iconst X (v := 1) dX2_init_75 (by decide) ?_
  obtain ⟨r159, σ160, h161, hf162⟩ := bc_of hf158; clear hf158
  refine j_callS0 X [.ref (q120 i156), .int (1 : Int32)] [] (c_J7_fill_53178 l D cs q120 i156 (1 : Int32) σ145 _ _ h161) mk_J7_fill_53178 ms_J7_fill_53178 ml_X2_43 ⟨rfl, rfl⟩ ⟨Nat.le_of_ble_eq_true rfl, Nat.le_of_ble_eq_true rfl⟩ rfl (Nat.le_of_ble_eq_true rfl) ⟨Nat.le_of_ble_eq_true rfl, Nat.le_of_ble_eq_true rfl⟩ dX2_init_76 rfl (st' := []) rfl ?_
  obtain ⟨h163, hf164⟩ := chk_of hf162; clear hf162
  obtain ⟨er, es⟩ := rt_of hf164
  exact j_retv X hr hlk (Nat.le_of_ble_eq_true rfl) (Nat.le_of_ble_eq_true rfl) ⟨(fun j hj => by rw [hq120 j (by omega), hq97 j (by omega), hq76 j (by omega), hq49 j (by omega), hq32 j (by omega), hq17 j (by omega), hq3 j (by omega)]), by rw [es]; omega⟩ es.symm rfl dX2_init_79
abbrev rm_X3_init : Room := { frames := 1, cells := 6, slots := 360, locals := 64 }
set_option maxHeartbeats 4000000 in
set_option maxRecDepth 100000 in
theorem c_X3_init (l : Launch) (D : va_G) (cs : Nat → ClassId) (q : Nat → Nat) (a0 : Nat) (σ σ0 : HS) (r0 : Unit) (hf0 : f_X3_init a0 σ = some (r0, σ0)) : MT l yX3_init (Cond.code yX3_init cX3_init 1 none :: lw_g) rm_X3_init D cs q σ σ0 [.ref (q a0)] (fun q1 => (∀ j : Nat, j < hN σ → q1 j = q j) ∧ hN σ ≤ hN σ0) (fun _ => none) 6 360 := by
  unfold f_X3_init at hf0
  refine MT_of (cc := cX3_init) (lv0 := [(0, .ref (q a0))]) (by decide) (Nat.le_of_ble_eq_true rfl) rfl (fun p e s m args below meth c A X hr hlk hin => ?_)
  refine j_aload_n X dX3_init_0 0 rfl rfl ?_
  refine j_objInit X ml_X3_3 (Nat.le_of_ble_eq_true rfl) (Nat.le_of_ble_eq_true rfl) dX3_init_1 ?_
  refine j_aload_n X dX3_init_4 0 rfl rfl ?_
  refine j_bipush X (v := 60) dX3_init_5 (by decide) ?_
  obtain ⟨h1, hf2⟩ := chk_of hf0; clear hf0
  refine j_newai X (b := 60) (by decide) (by decide) ⟨Nat.le_of_ble_eq_true rfl, Nat.le_of_ble_eq_true rfl⟩ dX3_init_7 (fun q3 σ4 n5 hq3 eσ4 en5 => ?_)
  replace hf2 := lt_of hf2 n5 en5
  replace hf2 := lt_of hf2 σ4 eσ4
  have m6 : hN σ4 = hN σ + 1 := by rw [eσ4]; rfl
  rw [← hq3 a0 h1]
  have h7 : isO σ4 10 n5 := isO_nw0 eσ4 en5
  obtain ⟨h8, hf9⟩ := chk_of hf2; clear hf2
  obtain ⟨h11, hf12⟩ := chk_of hf9; clear hf9
  refine j_putrF X fp_X3_9 h8 h11 rfl (hin rfl) rfl dX3_init_9 (fun σ10 eσ10 => ?_)
  replace hf12 := lt_of hf12 σ10 eσ10
  have m16 : hN σ4 ≤ hN σ10 := by rw [eσ10]; exact Nat.le_refl _
  have h14 : isO σ10 10 n5 := by rw [eσ10]; exact h7
  have h15 : isO σ10 3 a0 := by rw [eσ10]; exact h8
  refine j_aload_n X dX3_init_12 0 rfl rfl ?_
  refine j_iconst X (v := 0) dX3_init_13 (by decide) ?_
  refine j_puti X fp_X3_15 h15 dX3_init_14 (fun σ17 eσ17 => ?_)
  replace hf12 := lt_of hf12 σ17 eσ17
  have m21 : hN σ10 ≤ hN σ17 := by rw [eσ17]; exact Nat.le_refl _
  have h19 : isO σ17 10 n5 := by rw [eσ17]; exact h14
  have h20 : isO σ17 3 a0 := by rw [eσ17]; exact h15
  refine j_aload_n X dX3_init_17 0 rfl rfl ?_
  refine j_iconst X (v := 0) dX3_init_18 (by decide) ?_
  refine j_puti X fp_X3_19 h20 dX3_init_19 (fun σ22 eσ22 => ?_)
  replace hf12 := lt_of hf12 σ22 eσ22
  have m26 : hN σ17 ≤ hN σ22 := by rw [eσ22]; exact Nat.le_refl _
  have h24 : isO σ22 10 n5 := by rw [eσ22]; exact h19
  have h25 : isO σ22 3 a0 := by rw [eσ22]; exact h20
  refine j_aload_n X dX3_init_22 0 rfl rfl ?_
  refine j_bipush X (v := 60) dX3_init_23 (by decide) ?_
  refine j_newai X (b := 60) (by decide) (by decide) ⟨Nat.le_of_ble_eq_true rfl, Nat.le_of_ble_eq_true rfl⟩ dX3_init_25 (fun q27 σ28 n29 hq27 eσ28 en29 => ?_)
  replace hf12 := lt_of hf12 n29 en29
  replace hf12 := lt_of hf12 σ28 eσ28
  have m30 : hN σ28 = hN σ22 + 1 := by rw [eσ28]; rfl
  rw [← hq27 a0 h25.1]
  have h31 : isO σ28 10 n5 := isO_nw eσ28 h24
  have h32 : isO σ28 3 a0 := isO_nw eσ28 h25
  have h33 : isO σ28 10 n29 := isO_nw0 eσ28 en29
  obtain ⟨h35, hf36⟩ := chk_of hf12; clear hf12
  refine j_putrF X fp_X3_22 h32 h35 rfl (hin rfl) rfl dX3_init_27 (fun σ34 eσ34 => ?_)
  replace hf36 := lt_of hf36 σ34 eσ34
  have m41 : hN σ28 ≤ hN σ34 := by rw [eσ34]; exact Nat.le_refl _
  have h38 : isO σ34 10 n5 := by rw [eσ34]; exact h31
  have h39 : isO σ34 3 a0 := by rw [eσ34]; exact h32
  have h40 : isO σ34 10 n29 := by rw [eσ34]; exact h33
  refine j_aload_n X dX3_init_30 0 rfl rfl ?_
  refine j_bipush X (v := 60) dX3_init_31 (by decide) ?_
  refine j_newai X (b := 60) (by decide) (by decide) ⟨Nat.le_of_ble_eq_true rfl, Nat.le_of_ble_eq_true rfl⟩ dX3_init_33 (fun q42 σ43 n44 hq42 eσ43 en44 => ?_)
  replace hf36 := lt_of hf36 n44 en44
  replace hf36 := lt_of hf36 σ43 eσ43
  have m45 : hN σ43 = hN σ34 + 1 := by rw [eσ43]; rfl
  rw [← hq42 a0 h39.1]
  have h46 : isO σ43 10 n5 := isO_nw eσ43 h38
  have h47 : isO σ43 3 a0 := isO_nw eσ43 h39
  have h48 : isO σ43 10 n29 := isO_nw eσ43 h40
  have h49 : isO σ43 10 n44 := isO_nw0 eσ43 en44
  obtain ⟨h51, hf52⟩ := chk_of hf36; clear hf36
  refine j_putrF X fp_X3_25 h47 h51 rfl (hin rfl) rfl dX3_init_35 (fun σ50 eσ50 => ?_)
  replace hf52 := lt_of hf52 σ50 eσ50
  have m58 : hN σ43 ≤ hN σ50 := by rw [eσ50]; exact Nat.le_refl _
  have h54 : isO σ50 10 n5 := by rw [eσ50]; exact h46
  have h55 : isO σ50 3 a0 := by rw [eσ50]; exact h47
  have h56 : isO σ50 10 n29 := by rw [eσ50]; exact h48
  have h57 : isO σ50 10 n44 := by rw [eσ50]; exact h49
  refine j_aload_n X dX3_init_38 0 rfl rfl ?_
  refine j_bipush X (v := 60) dX3_init_39 (by decide) ?_
  refine j_newai X (b := 60) (by decide) (by decide) ⟨Nat.le_of_ble_eq_true rfl, Nat.le_of_ble_eq_true rfl⟩ dX3_init_41 (fun q59 σ60 n61 hq59 eσ60 en61 => ?_)
  replace hf52 := lt_of hf52 n61 en61
  replace hf52 := lt_of hf52 σ60 eσ60
  have m62 : hN σ60 = hN σ50 + 1 := by rw [eσ60]; rfl
  rw [← hq59 a0 h55.1]
  have h63 : isO σ60 10 n5 := isO_nw eσ60 h54
  have h64 : isO σ60 3 a0 := isO_nw eσ60 h55
  have h65 : isO σ60 10 n29 := isO_nw eσ60 h56
  have h66 : isO σ60 10 n44 := isO_nw eσ60 h57
  have h67 : isO σ60 10 n61 := isO_nw0 eσ60 en61
  obtain ⟨h69, hf70⟩ := chk_of hf52; clear hf52
  refine j_putrF X fp_X3_28 h64 h69 rfl (hin rfl) rfl dX3_init_43 (fun σ68 eσ68 => ?_)
  replace hf70 := lt_of hf70 σ68 eσ68
  have m77 : hN σ60 ≤ hN σ68 := by rw [eσ68]; exact Nat.le_refl _
  have h72 : isO σ68 10 n5 := by rw [eσ68]; exact h63
  have h73 : isO σ68 3 a0 := by rw [eσ68]; exact h64
  have h74 : isO σ68 10 n29 := by rw [eσ68]; exact h65
  have h75 : isO σ68 10 n44 := by rw [eσ68]; exact h66
  have h76 : isO σ68 10 n61 := by rw [eσ68]; exact h67
  refine j_aload_n X dX3_init_46 0 rfl rfl ?_
  refine j_bipush X (v := 60) dX3_init_47 (by decide) ?_
  refine j_newai X (b := 60) (by decide) (by decide) ⟨Nat.le_of_ble_eq_true rfl, Nat.le_of_ble_eq_true rfl⟩ dX3_init_49 (fun q78 σ79 n80 hq78 eσ79 en80 => ?_)
  replace hf70 := lt_of hf70 n80 en80
  replace hf70 := lt_of hf70 σ79 eσ79
  have m81 : hN σ79 = hN σ68 + 1 := by rw [eσ79]; rfl
  rw [← hq78 a0 h73.1]
  have h82 : isO σ79 10 n5 := isO_nw eσ79 h72
  have h83 : isO σ79 3 a0 := isO_nw eσ79 h73
  have h84 : isO σ79 10 n29 := isO_nw eσ79 h74
  have h85 : isO σ79 10 n44 := isO_nw eσ79 h75
  have h86 : isO σ79 10 n61 := isO_nw eσ79 h76
  have h87 : isO σ79 10 n80 := isO_nw0 eσ79 en80
  obtain ⟨h89, hf90⟩ := chk_of hf70; clear hf70
  refine j_putrF X fp_X3_31 h83 h89 rfl (hin rfl) rfl dX3_init_51 (fun σ88 eσ88 => ?_)
  replace hf90 := lt_of hf90 σ88 eσ88
  have m98 : hN σ79 ≤ hN σ88 := by rw [eσ88]; exact Nat.le_refl _
  have h92 : isO σ88 10 n5 := by rw [eσ88]; exact h82
  have h93 : isO σ88 3 a0 := by rw [eσ88]; exact h83
  have h94 : isO σ88 10 n29 := by rw [eσ88]; exact h84
  have h95 : isO σ88 10 n44 := by rw [eσ88]; exact h85
  have h96 : isO σ88 10 n61 := by rw [eσ88]; exact h86
  have h97 : isO σ88 10 n80 := by rw [eσ88]; exact h87
  refine j_aload_n X dX3_init_54 0 rfl rfl ?_
  refine j_bipush X (v := 60) dX3_init_55 (by decide) ?_
  refine j_newai X (b := 60) (by decide) (by decide) ⟨Nat.le_of_ble_eq_true rfl, Nat.le_of_ble_eq_true rfl⟩ dX3_init_57 (fun q99 σ100 n101 hq99 eσ100 en101 => ?_)
  replace hf90 := lt_of hf90 n101 en101
  replace hf90 := lt_of hf90 σ100 eσ100
  have m102 : hN σ100 = hN σ88 + 1 := by rw [eσ100]; rfl
  rw [← hq99 a0 h93.1]
  have h103 : isO σ100 10 n5 := isO_nw eσ100 h92
  have h104 : isO σ100 3 a0 := isO_nw eσ100 h93
  have h105 : isO σ100 10 n29 := isO_nw eσ100 h94
  have h106 : isO σ100 10 n44 := isO_nw eσ100 h95
  have h107 : isO σ100 10 n61 := isO_nw eσ100 h96
  have h108 : isO σ100 10 n80 := isO_nw eσ100 h97
  have h109 : isO σ100 10 n101 := isO_nw0 eσ100 en101
  obtain ⟨h111, hf112⟩ := chk_of hf90; clear hf90
  refine j_putrF X fp_X3_34 h104 h111 rfl (hin rfl) rfl dX3_init_59 (fun σ110 eσ110 => ?_)
  replace hf112 := lt_of hf112 σ110 eσ110
  have m121 : hN σ100 ≤ hN σ110 := by rw [eσ110]; exact Nat.le_refl _
  have h114 : isO σ110 10 n5 := by rw [eσ110]; exact h103
  have h115 : isO σ110 3 a0 := by rw [eσ110]; exact h104
  have h116 : isO σ110 10 n29 := by rw [eσ110]; exact h105
  have h117 : isO σ110 10 n44 := by rw [eσ110]; exact h106
  have h118 : isO σ110 10 n61 := by rw [eσ110]; exact h107
  have h119 : isO σ110 10 n80 := by rw [eσ110]; exact h108
  have h120 : isO σ110 10 n101 := by rw [eσ110]; exact h109
  refine j_aload_n X dX3_init_62 0 rfl rfl ?_
  refine j_iconst X (v := 0) dX3_init_63 (by decide) ?_
  refine j_puti X fp_X3_37 h115 dX3_init_64 (fun σ122 eσ122 => ?_)
  replace hf112 := lt_of hf112 σ122 eσ122
  have m131 : hN σ110 ≤ hN σ122 := by rw [eσ122]; exact Nat.le_refl _
  have h124 : isO σ122 10 n5 := by rw [eσ122]; exact h114
  have h125 : isO σ122 3 a0 := by rw [eσ122]; exact h115
  have h126 : isO σ122 10 n29 := by rw [eσ122]; exact h116
  have h127 : isO σ122 10 n44 := by rw [eσ122]; exact h117
  have h128 : isO σ122 10 n61 := by rw [eσ122]; exact h118
  have h129 : isO σ122 10 n80 := by rw [eσ122]; exact h119
  have h130 : isO σ122 10 n101 := by rw [eσ122]; exact h120
  obtain ⟨er, es⟩ := rt_of hf112
  exact j_retv X hr hlk (Nat.le_of_ble_eq_true rfl) (Nat.le_of_ble_eq_true rfl) ⟨(fun j hj => by rw [hq99 j (by omega), hq78 j (by omega), hq59 j (by omega), hq42 j (by omega), hq27 j (by omega), hq3 j (by omega)]), by rw [es]; omega⟩ es.symm rfl dX3_init_67
abbrev rm_X4_init : Room := { frames := 2, cells := 16, slots := 640, locals := 128 }
set_option maxHeartbeats 4000000 in
set_option maxRecDepth 100000 in
theorem c_X4_init (l : Launch) (D : va_G) (cs : Nat → ClassId) (q : Nat → Nat) (a0 : Nat) (σ σ0 : HS) (r0 : Unit) (hf0 : f_X4_init a0 σ = some (r0, σ0)) : MT l yX4_init (Cond.code yX4_init cX4_init 1 none :: lw_g) rm_X4_init D cs q σ σ0 [.ref (q a0)] (fun q1 => (∀ j : Nat, j < hN σ → q1 j = q j) ∧ hN σ ≤ hN σ0) (fun _ => none) 16 640 := by
  unfold f_X4_init at hf0
  refine MT_of (cc := cX4_init) (lv0 := [(0, .ref (q a0))]) (by decide) (Nat.le_of_ble_eq_true rfl) rfl (fun p e s m args below meth c A X hr hlk hin => ?_)
  refine j_aload_n X dX4_init_0 0 rfl rfl ?_
  refine j_objInit X ml_X4_3 (Nat.le_of_ble_eq_true rfl) (Nat.le_of_ble_eq_true rfl) dX4_init_1 ?_
  refine j_aload_n X dX4_init_4 0 rfl rfl ?_
  refine j_bipush X (v := 6) dX4_init_5 (by decide) ?_
  obtain ⟨h1, hf2⟩ := chk_of hf0; clear hf0
  refine j_newai X (b := 6) (by decide) (by decide) ⟨Nat.le_of_ble_eq_true rfl, Nat.le_of_ble_eq_true rfl⟩ dX4_init_7 (fun q3 σ4 n5 hq3 eσ4 en5 => ?_)
  replace hf2 := lt_of hf2 n5 en5
  replace hf2 := lt_of hf2 σ4 eσ4
  have m6 : hN σ4 = hN σ + 1 := by rw [eσ4]; rfl
  rw [← hq3 a0 h1]
  have h7 : isO σ4 10 n5 := isO_nw0 eσ4 en5
  obtain ⟨h8, hf9⟩ := chk_of hf2; clear hf2
  obtain ⟨h11, hf12⟩ := chk_of hf9; clear hf9
  refine j_putrF X fp_X4_9 h8 h11 rfl (hin rfl) rfl dX4_init_9 (fun σ10 eσ10 => ?_)
  replace hf12 := lt_of hf12 σ10 eσ10
  have m16 : hN σ4 ≤ hN σ10 := by rw [eσ10]; exact Nat.le_refl _
  have h14 : isO σ10 10 n5 := by rw [eσ10]; exact h7
  have h15 : isO σ10 4 a0 := by rw [eσ10]; exact h8
  refine j_aload_n X dX4_init_12 0 rfl rfl ?_
  refine j_bipush X (v := 6) dX4_init_13 (by decide) ?_
  refine j_newai X (b := 6) (by decide) (by decide) ⟨Nat.le_of_ble_eq_true rfl, Nat.le_of_ble_eq_true rfl⟩ dX4_init_15 (fun q17 σ18 n19 hq17 eσ18 en19 => ?_)
  replace hf12 := lt_of hf12 n19 en19
  replace hf12 := lt_of hf12 σ18 eσ18
  have m20 : hN σ18 = hN σ10 + 1 := by rw [eσ18]; rfl
  rw [← hq17 a0 h15.1]
  have h21 : isO σ18 10 n5 := isO_nw eσ18 h14
  have h22 : isO σ18 4 a0 := isO_nw eσ18 h15
  have h23 : isO σ18 10 n19 := isO_nw0 eσ18 en19
  obtain ⟨h25, hf26⟩ := chk_of hf12; clear hf12
  refine j_putrF X fp_X4_15 h22 h25 rfl (hin rfl) rfl dX4_init_17 (fun σ24 eσ24 => ?_)
  replace hf26 := lt_of hf26 σ24 eσ24
  have m31 : hN σ18 ≤ hN σ24 := by rw [eσ24]; exact Nat.le_refl _
  have h28 : isO σ24 10 n5 := by rw [eσ24]; exact h21
  have h29 : isO σ24 4 a0 := by rw [eσ24]; exact h22
  have h30 : isO σ24 10 n19 := by rw [eσ24]; exact h23
  refine j_aload_n X dX4_init_20 0 rfl rfl ?_
  refine j_iconst X (v := 0) dX4_init_21 (by decide) ?_
  refine j_putz X fp_X4_18 h29 (Or.inl rfl) dX4_init_22 (fun σ32 eσ32 => ?_)
  replace hf26 := lt_of hf26 σ32 eσ32
  have m37 : hN σ24 ≤ hN σ32 := by rw [eσ32]; exact Nat.le_refl _
  have h34 : isO σ32 10 n5 := by rw [eσ32]; exact h28
  have h35 : isO σ32 4 a0 := by rw [eσ32]; exact h29
  have h36 : isO σ32 10 n19 := by rw [eσ32]; exact h30
  refine j_aload_n X dX4_init_25 0 rfl rfl ?_
  refine j_lconst X (v := 0) dX4_init_26 (by decide) ?_
  refine j_putl X fp_X4_22 h35 dX4_init_27 (fun σ38 eσ38 => ?_)
  replace hf26 := lt_of hf26 σ38 eσ38
  have m43 : hN σ32 ≤ hN σ38 := by rw [eσ38]; exact Nat.le_refl _
  have h40 : isO σ38 10 n5 := by rw [eσ38]; exact h34
  have h41 : isO σ38 4 a0 := by rw [eσ38]; exact h35
  have h42 : isO σ38 10 n19 := by rw [eσ38]; exact h36
  refine j_aload_n X dX4_init_30 0 rfl rfl ?_
  refine j_lconst X (v := 0) dX4_init_31 (by decide) ?_
  refine j_putl X fp_X4_26 h41 dX4_init_32 (fun σ44 eσ44 => ?_)
  replace hf26 := lt_of hf26 σ44 eσ44
  have m49 : hN σ38 ≤ hN σ44 := by rw [eσ44]; exact Nat.le_refl _
  have h46 : isO σ44 10 n5 := by rw [eσ44]; exact h40
  have h47 : isO σ44 4 a0 := by rw [eσ44]; exact h41
  have h48 : isO σ44 10 n19 := by rw [eσ44]; exact h42
  refine j_aload_n X dX4_init_35 0 rfl rfl ?_
  refine j_bipush X (v := 6) dX4_init_36 (by decide) ?_
  refine j_newai X (b := 6) (by decide) (by decide) ⟨Nat.le_of_ble_eq_true rfl, Nat.le_of_ble_eq_true rfl⟩ dX4_init_38 (fun q50 σ51 n52 hq50 eσ51 en52 => ?_)
  replace hf26 := lt_of hf26 n52 en52
  replace hf26 := lt_of hf26 σ51 eσ51
  have m53 : hN σ51 = hN σ44 + 1 := by rw [eσ51]; rfl
  rw [← hq50 a0 h47.1]
  have h54 : isO σ51 10 n5 := isO_nw eσ51 h46
  have h55 : isO σ51 4 a0 := isO_nw eσ51 h47
  have h56 : isO σ51 10 n19 := isO_nw eσ51 h48
  have h57 : isO σ51 10 n52 := isO_nw0 eσ51 en52
  obtain ⟨h59, hf60⟩ := chk_of hf26; clear hf26
  refine j_putrF X fp_X4_29 h55 h59 rfl (hin rfl) rfl dX4_init_40 (fun σ58 eσ58 => ?_)
  replace hf60 := lt_of hf60 σ58 eσ58
  have m66 : hN σ51 ≤ hN σ58 := by rw [eσ58]; exact Nat.le_refl _
  have h62 : isO σ58 10 n5 := by rw [eσ58]; exact h54
  have h63 : isO σ58 4 a0 := by rw [eσ58]; exact h55
  have h64 : isO σ58 10 n19 := by rw [eσ58]; exact h56
  have h65 : isO σ58 10 n52 := by rw [eσ58]; exact h57
  refine j_aload_n X dX4_init_43 0 rfl rfl ?_
  refine j_new X nf_X4_32 ⟨Nat.le_of_ble_eq_true rfl, Nat.le_of_ble_eq_true rfl⟩ dX4_init_44 (fun q67 σ68 n69 hq67 eσ68 en69 => ?_)
  replace hf60 := lt_of hf60 n69 en69
  replace hf60 := lt_of hf60 σ68 eσ68
  have m70 : hN σ68 = hN σ58 + 1 := by rw [eσ68]; rfl
  rw [← hq67 a0 h63.1]
  have h71 : isO σ68 10 n5 := isO_nw eσ68 h62
  have h72 : isO σ68 4 a0 := isO_nw eσ68 h63
  have h73 : isO σ68 10 n19 := isO_nw eσ68 h64
  have h74 : isO σ68 10 n52 := isO_nw eσ68 h65
  have h75 : isO σ68 1 n69 := isO_nw0 eσ68 en69
  refine j_dup X dX4_init_47 rfl ?_
  refine j_bipush X (v := 60) dX4_init_48 (by decide) ?_
  obtain ⟨r76, σ77, h78, hf79⟩ := bc_of hf60; clear hf60
  refine j_callI X (As := [.int (60 : Int32)]) (rest := [.ref (q67 n69), .ref (q67 a0)]) (c_X1_init l D cs q67 n69 (60 : Int32) σ68 _ _ h78) mk_X1_init mv_X1_init ml_X4_34 ⟨rfl, rfl⟩ ⟨Nat.le_of_ble_eq_true rfl, Nat.le_of_ble_eq_true rfl⟩ rfl (Nat.le_of_ble_eq_true rfl) ⟨Nat.le_of_ble_eq_true rfl, Nat.le_of_ble_eq_true rfl⟩ dX4_init_50 rfl (fun z => [.ref (q67 n69), .ref (q67 a0)]) (fun _ => rfl) (fun q80 hq80 => ?_)
  obtain ⟨hq80, m81⟩ := hq80
  rw [← hq80 a0 h72.1, ← hq80 n69 h75.1]
  obtain ⟨h82, hf83⟩ := chk_of hf79; clear hf79
  obtain ⟨h85, hf86⟩ := chk_of hf83; clear hf83
  refine j_putrF X fp_X4_37 h82 h85 rfl (hin rfl) rfl dX4_init_53 (fun σ84 eσ84 => ?_)
  replace hf86 := lt_of hf86 σ84 eσ84
  have m89 : hN σ77 ≤ hN σ84 := by rw [eσ84]; exact Nat.le_refl _
  have h88 : isO σ84 4 a0 := by rw [eσ84]; exact h82
  refine j_aload_n X dX4_init_56 0 rfl rfl ?_
  refine j_new X nf_X4_32 ⟨Nat.le_of_ble_eq_true rfl, Nat.le_of_ble_eq_true rfl⟩ dX4_init_57 (fun q90 σ91 n92 hq90 eσ91 en92 => ?_)
  replace hf86 := lt_of hf86 n92 en92
  replace hf86 := lt_of hf86 σ91 eσ91
  have m93 : hN σ91 = hN σ84 + 1 := by rw [eσ91]; rfl
  rw [← hq90 a0 h88.1]
  have h94 : isO σ91 4 a0 := isO_nw eσ91 h88
  have h95 : isO σ91 1 n92 := isO_nw0 eσ91 en92
  refine j_dup X dX4_init_60 rfl ?_
  refine j_bipush X (v := 60) dX4_init_61 (by decide) ?_
  obtain ⟨r96, σ97, h98, hf99⟩ := bc_of hf86; clear hf86
  refine j_callI X (As := [.int (60 : Int32)]) (rest := [.ref (q90 n92), .ref (q90 a0)]) (c_X1_init l D cs q90 n92 (60 : Int32) σ91 _ _ h98) mk_X1_init mv_X1_init ml_X4_34 ⟨rfl, rfl⟩ ⟨Nat.le_of_ble_eq_true rfl, Nat.le_of_ble_eq_true rfl⟩ rfl (Nat.le_of_ble_eq_true rfl) ⟨Nat.le_of_ble_eq_true rfl, Nat.le_of_ble_eq_true rfl⟩ dX4_init_63 rfl (fun z => [.ref (q90 n92), .ref (q90 a0)]) (fun _ => rfl) (fun q100 hq100 => ?_)
  obtain ⟨hq100, m101⟩ := hq100
  rw [← hq100 a0 h94.1, ← hq100 n92 h95.1]
  obtain ⟨h102, hf103⟩ := chk_of hf99; clear hf99
  obtain ⟨h105, hf106⟩ := chk_of hf103; clear hf103
  refine j_putrF X fp_X4_41 h102 h105 rfl (hin rfl) rfl dX4_init_66 (fun σ104 eσ104 => ?_)
  replace hf106 := lt_of hf106 σ104 eσ104
  have m109 : hN σ97 ≤ hN σ104 := by rw [eσ104]; exact Nat.le_refl _
  have h108 : isO σ104 4 a0 := by rw [eσ104]; exact h102
  refine j_aload_n X dX4_init_69 0 rfl rfl ?_
  refine j_new X nf_X4_32 ⟨Nat.le_of_ble_eq_true rfl, Nat.le_of_ble_eq_true rfl⟩ dX4_init_70 (fun q110 σ111 n112 hq110 eσ111 en112 => ?_)
  replace hf106 := lt_of hf106 n112 en112
  replace hf106 := lt_of hf106 σ111 eσ111
  have m113 : hN σ111 = hN σ104 + 1 := by rw [eσ111]; rfl
  rw [← hq110 a0 h108.1]
  have h114 : isO σ111 4 a0 := isO_nw eσ111 h108
  have h115 : isO σ111 1 n112 := isO_nw0 eσ111 en112
  refine j_dup X dX4_init_73 rfl ?_
  refine j_iconst X (v := 2) dX4_init_74 (by decide) ?_
  obtain ⟨r116, σ117, h118, hf119⟩ := bc_of hf106; clear hf106
  refine j_callI X (As := [.int (2 : Int32)]) (rest := [.ref (q110 n112), .ref (q110 a0)]) (c_X1_init l D cs q110 n112 (2 : Int32) σ111 _ _ h118) mk_X1_init mv_X1_init ml_X4_34 ⟨rfl, rfl⟩ ⟨Nat.le_of_ble_eq_true rfl, Nat.le_of_ble_eq_true rfl⟩ rfl (Nat.le_of_ble_eq_true rfl) ⟨Nat.le_of_ble_eq_true rfl, Nat.le_of_ble_eq_true rfl⟩ dX4_init_75 rfl (fun z => [.ref (q110 n112), .ref (q110 a0)]) (fun _ => rfl) (fun q120 hq120 => ?_)
  obtain ⟨hq120, m121⟩ := hq120
  rw [← hq120 a0 h114.1, ← hq120 n112 h115.1]
  obtain ⟨h122, hf123⟩ := chk_of hf119; clear hf119
  obtain ⟨h125, hf126⟩ := chk_of hf123; clear hf123
  refine j_putrF X fp_X4_44 h122 h125 rfl (hin rfl) rfl dX4_init_78 (fun σ124 eσ124 => ?_)
  replace hf126 := lt_of hf126 σ124 eσ124
  have m129 : hN σ117 ≤ hN σ124 := by rw [eσ124]; exact Nat.le_refl _
  have h128 : isO σ124 4 a0 := by rw [eσ124]; exact h122
  refine j_aload_n X dX4_init_81 0 rfl rfl ?_
  refine j_bipush X (v := 60) dX4_init_82 (by decide) ?_
  refine j_newal X (b := 60) (by decide) (by decide) ⟨Nat.le_of_ble_eq_true rfl, Nat.le_of_ble_eq_true rfl⟩ dX4_init_84 (fun q130 σ131 n132 hq130 eσ131 en132 => ?_)
  replace hf126 := lt_of hf126 n132 en132
  replace hf126 := lt_of hf126 σ131 eσ131
  have m133 : hN σ131 = hN σ124 + 1 := by rw [eσ131]; rfl
  rw [← hq130 a0 h128.1]
  have h134 : isO σ131 4 a0 := isO_nw eσ131 h128
  have h135 : isO σ131 12 n132 := isO_nw0 eσ131 en132
  obtain ⟨h137, hf138⟩ := chk_of hf126; clear hf126
  refine j_putrF X fp_X4_47 h134 h137 rfl (hin rfl) rfl dX4_init_86 (fun σ136 eσ136 => ?_)
  replace hf138 := lt_of hf138 σ136 eσ136
  have m142 : hN σ131 ≤ hN σ136 := by rw [eσ136]; exact Nat.le_refl _
  have h140 : isO σ136 4 a0 := by rw [eσ136]; exact h134
  have h141 : isO σ136 12 n132 := by rw [eσ136]; exact h135
  obtain ⟨er, es⟩ := rt_of hf138
  exact j_retv X hr hlk (Nat.le_of_ble_eq_true rfl) (Nat.le_of_ble_eq_true rfl) ⟨(fun j hj => by rw [hq130 j (by omega), hq120 j (by omega), hq110 j (by omega), hq100 j (by omega), hq90 j (by omega), hq80 j (by omega), hq67 j (by omega), hq50 j (by omega), hq17 j (by omega), hq3 j (by omega)]), by rw [es]; omega⟩ es.symm rfl dX4_init_89
abbrev rm_X6_init : Room := { frames := 1, cells := 30, slots := 5000, locals := 64 }
set_option maxHeartbeats 4000000 in
set_option maxRecDepth 100000 in
theorem c_X6_init (l : Launch) (D : va_G) (cs : Nat → ClassId) (q : Nat → Nat) (a0 : Nat) (σ σ0 : HS) (r0 : Unit) (hf0 : f_X6_init a0 σ = some (r0, σ0)) : MT l yX6_init (Cond.code yX6_init cX6_init 2 none :: lw_g) rm_X6_init D cs q σ σ0 [.ref (q a0)] (fun q1 => (∀ j : Nat, j < hN σ → q1 j = q j) ∧ hN σ ≤ hN σ0) (fun _ => none) 30 5000 := by
  unfold f_X6_init at hf0
  refine MT_of (cc := cX6_init) (lv0 := [(0, .ref (q a0))]) (by decide) (Nat.le_of_ble_eq_true rfl) rfl (fun p e s m args below meth c A X hr hlk hin => ?_)
  have L245 : ∀ (q1 : Nat → Nat) (hq1 : ∀ j : Nat, j < hN σ → q1 j = q j), ∀ (nk : Nat) (x0 : Nat) (x1 : Int32) (τ : HS) (hm : hN σ ≤ hN τ), lp_X6_init_245  nk x0 x1 τ = some (r0, σ0) → J p l e rm_X6_init s m args below meth c 2 D cs A s.heap (((((((((((((((((((((((((((0 + 1) + 1) + 1) + 1) + 1) + 1) + 1) + 1) + 1) + 1) + 1) + 1) + 1) + 1) + 1) + 1) + 1) + 1) + 1) + 1) + 1) + 1) + 1) + 1) + 1) + 1) + 1) (((((((((((((((((((((((((((0 + 18) + 18) + 420) + 420) + 420) + 420) + 7) + 360) + 360) + 360) + 360) + 6) + 60) + 6) + 6) + 60) + 60) + 60) + 60) + 60) + 60) + 6) + 24) + 24) + 18) + 4) + 32) (MQ below (hQ D cs (fun q1 => (∀ j : Nat, j < hN σ → q1 j = q j) ∧ hN σ ≤ hN σ0) (fun _ => none) σ0 A) args s 30 5000 A) q1 τ [(0, .ref (q1 x0)), (1, .int x1)] 245 [] := by
    intro q1 hq1
    intro nk
    induction nk with
    | zero => intro x0 x1 τ hm hf0; have hf1 : (none : Option (Unit × HS)) = some (r0, σ0) := hf0; cases hf1
    | succ nk ih =>
      intro x0 x1 τ hm hf0
      replace hf0 : lp_X6_init_245_b  (lp_X6_init_245  nk) x0 x1 τ = some (r0, σ0) := hf0
      unfold lp_X6_init_245_b at hf0
      refine j_iload_n X dX6_init_245 1 rfl rfl ?_
      refine j_bipush X (v := 6) dX6_init_246 (by decide) ?_
      refine j_icmp_ge X (tgt := 268) dX6_init_248 (by decide) (fun c1187 => ?_) (fun c1187 => ?_)
      · have hf1188 := br_y hf0 c1187; clear hf0
        obtain ⟨er, es⟩ := rt_of hf1188
        exact j_retv X hr hlk (Nat.le_of_ble_eq_true rfl) (Nat.le_of_ble_eq_true rfl) ⟨(fun j hj => by rw [hq1 j (by omega)]), by rw [es]; omega⟩ es.symm rfl dX6_init_268
      · have hf1189 := br_n hf0 c1187; clear hf0
        refine j_aload_n X dX6_init_251 0 rfl rfl ?_
        obtain ⟨h1190, hf1191⟩ := chk_of hf1189; clear hf1189
        obtain ⟨i1192, h1193, hf1194⟩ := bd_of hf1191; clear hf1191
        refine j_getr X fd_X6_11 h1190 h1193 dX6_init_252 ?_
        refine j_iconst X (v := 3) dX6_init_255 (by decide) ?_
        refine j_iload_n X dX6_init_256 1 rfl rfl ?_
        refine j_imul X dX6_init_257 ?_
        refine j_iconst X (v := 2) dX6_init_258 (by decide) ?_
        refine j_iadd X dX6_init_259 ?_
        refine j_iconst X (v := 1) dX6_init_260 (by decide) ?_
        obtain ⟨h1195, hf1196⟩ := chk_of hf1194; clear hf1194
        refine j_iast X h1195 dX6_init_261 (fun σ1197 eσ1197 => ?_)
        replace hf1196 := lt_of hf1196 σ1197 eσ1197
        have m1200 : hN τ ≤ hN σ1197 := by rw [eσ1197]; exact Nat.le_refl _
        have h1199 : isO σ1197 6 x0 := by rw [eσ1197]; exact h1190
        obtain ⟨v1201, ev1201⟩ : ∃ y : Int32, y = x1 + (1 : Int32) := ⟨_, rfl⟩
        replace hf1196 := lt_of hf1196 v1201 ev1201
        refine j_iinc X (v := v1201) (lv' := [(1, .int v1201), (0, .ref (q1 x0))]) dX6_init_262 1 rfl (by rw [ev1201]; rfl) (by decide) rfl ?_
        refine j_goto X (tgt := 245) dX6_init_265 (by decide) ?_
        refine j_lvsub [1, 0] (lv' := [(0, .ref (q1 x0)), (1, .int v1201)]) rfl ?_
        exact ih x0 v1201 σ1197 (by omega) hf1196
  refine j_aload_n X dX6_init_0 0 rfl rfl ?_
  refine j_objInit X ml_X6_3 (Nat.le_of_ble_eq_true rfl) (Nat.le_of_ble_eq_true rfl) dX6_init_1 ?_
  refine j_aload_n X dX6_init_4 0 rfl rfl ?_
  refine j_bipush X (v := 18) dX6_init_5 (by decide) ?_
  obtain ⟨h1, hf2⟩ := chk_of hf0; clear hf0
  refine j_newai X (b := 18) (by decide) (by decide) ⟨Nat.le_of_ble_eq_true rfl, Nat.le_of_ble_eq_true rfl⟩ dX6_init_7 (fun q3 σ4 n5 hq3 eσ4 en5 => ?_)
  replace hf2 := lt_of hf2 n5 en5
  replace hf2 := lt_of hf2 σ4 eσ4
  have m6 : hN σ4 = hN σ + 1 := by rw [eσ4]; rfl
  rw [← hq3 a0 h1]
  have h7 : isO σ4 10 n5 := isO_nw0 eσ4 en5
  obtain ⟨h8, hf9⟩ := chk_of hf2; clear hf2
  obtain ⟨h11, hf12⟩ := chk_of hf9; clear hf9
  refine j_putrF X fp_X6_11 h8 h11 rfl (hin rfl) rfl dX6_init_9 (fun σ10 eσ10 => ?_)
  replace hf12 := lt_of hf12 σ10 eσ10
  have m16 : hN σ4 ≤ hN σ10 := by rw [eσ10]; exact Nat.le_refl _
  have h14 : isO σ10 10 n5 := by rw [eσ10]; exact h7
  have h15 : isO σ10 6 a0 := by rw [eσ10]; exact h8
  refine j_aload_n X dX6_init_12 0 rfl rfl ?_
  refine j_bipush X (v := 18) dX6_init_13 (by decide) ?_
  refine j_newai X (b := 18) (by decide) (by decide) ⟨Nat.le_of_ble_eq_true rfl, Nat.le_of_ble_eq_true rfl⟩ dX6_init_15 (fun q17 σ18 n19 hq17 eσ18 en19 => ?_)
  replace hf12 := lt_of hf12 n19 en19
  replace hf12 := lt_of hf12 σ18 eσ18
  have m20 : hN σ18 = hN σ10 + 1 := by rw [eσ18]; rfl
  rw [← hq17 a0 h15.1]
  have h21 : isO σ18 10 n5 := isO_nw eσ18 h14
  have h22 : isO σ18 6 a0 := isO_nw eσ18 h15
  have h23 : isO σ18 10 n19 := isO_nw0 eσ18 en19
  obtain ⟨h25, hf26⟩ := chk_of hf12; clear hf12
  refine j_putrF X fp_X6_15 h22 h25 rfl (hin rfl) rfl dX6_init_17 (fun σ24 eσ24 => ?_)
  replace hf26 := lt_of hf26 σ24 eσ24
  have m31 : hN σ18 ≤ hN σ24 := by rw [eσ24]; exact Nat.le_refl _
  have h28 : isO σ24 10 n5 := by rw [eσ24]; exact h21
  have h29 : isO σ24 6 a0 := by rw [eσ24]; exact h22
  have h30 : isO σ24 10 n19 := by rw [eσ24]; exact h23
  refine j_aload_n X dX6_init_20 0 rfl rfl ?_
  refine j_sipush X (v := 420) dX6_init_21 (by decide) ?_
  refine j_newai X (b := 420) (by decide) (by decide) ⟨Nat.le_of_ble_eq_true rfl, Nat.le_of_ble_eq_true rfl⟩ dX6_init_24 (fun q32 σ33 n34 hq32 eσ33 en34 => ?_)
  replace hf26 := lt_of hf26 n34 en34
  replace hf26 := lt_of hf26 σ33 eσ33
  have m35 : hN σ33 = hN σ24 + 1 := by rw [eσ33]; rfl
  rw [← hq32 a0 h29.1]
  have h36 : isO σ33 10 n5 := isO_nw eσ33 h28
  have h37 : isO σ33 6 a0 := isO_nw eσ33 h29
  have h38 : isO σ33 10 n19 := isO_nw eσ33 h30
  have h39 : isO σ33 10 n34 := isO_nw0 eσ33 en34
  obtain ⟨h41, hf42⟩ := chk_of hf26; clear hf26
  refine j_putrF X fp_X6_18 h37 h41 rfl (hin rfl) rfl dX6_init_26 (fun σ40 eσ40 => ?_)
  replace hf42 := lt_of hf42 σ40 eσ40
  have m48 : hN σ33 ≤ hN σ40 := by rw [eσ40]; exact Nat.le_refl _
  have h44 : isO σ40 10 n5 := by rw [eσ40]; exact h36
  have h45 : isO σ40 6 a0 := by rw [eσ40]; exact h37
  have h46 : isO σ40 10 n19 := by rw [eσ40]; exact h38
  have h47 : isO σ40 10 n34 := by rw [eσ40]; exact h39
  refine j_aload_n X dX6_init_29 0 rfl rfl ?_
  refine j_sipush X (v := 420) dX6_init_30 (by decide) ?_
  refine j_newai X (b := 420) (by decide) (by decide) ⟨Nat.le_of_ble_eq_true rfl, Nat.le_of_ble_eq_true rfl⟩ dX6_init_33 (fun q49 σ50 n51 hq49 eσ50 en51 => ?_)
  replace hf42 := lt_of hf42 n51 en51
  replace hf42 := lt_of hf42 σ50 eσ50
  have m52 : hN σ50 = hN σ40 + 1 := by rw [eσ50]; rfl
  rw [← hq49 a0 h45.1]
  have h53 : isO σ50 10 n5 := isO_nw eσ50 h44
  have h54 : isO σ50 6 a0 := isO_nw eσ50 h45
  have h55 : isO σ50 10 n19 := isO_nw eσ50 h46
  have h56 : isO σ50 10 n34 := isO_nw eσ50 h47
  have h57 : isO σ50 10 n51 := isO_nw0 eσ50 en51
  obtain ⟨h59, hf60⟩ := chk_of hf42; clear hf42
  refine j_putrF X fp_X6_21 h54 h59 rfl (hin rfl) rfl dX6_init_35 (fun σ58 eσ58 => ?_)
  replace hf60 := lt_of hf60 σ58 eσ58
  have m67 : hN σ50 ≤ hN σ58 := by rw [eσ58]; exact Nat.le_refl _
  have h62 : isO σ58 10 n5 := by rw [eσ58]; exact h53
  have h63 : isO σ58 6 a0 := by rw [eσ58]; exact h54
  have h64 : isO σ58 10 n19 := by rw [eσ58]; exact h55
  have h65 : isO σ58 10 n34 := by rw [eσ58]; exact h56
  have h66 : isO σ58 10 n51 := by rw [eσ58]; exact h57
  refine j_aload_n X dX6_init_38 0 rfl rfl ?_
  refine j_sipush X (v := 420) dX6_init_39 (by decide) ?_
  refine j_newai X (b := 420) (by decide) (by decide) ⟨Nat.le_of_ble_eq_true rfl, Nat.le_of_ble_eq_true rfl⟩ dX6_init_42 (fun q68 σ69 n70 hq68 eσ69 en70 => ?_)
  replace hf60 := lt_of hf60 n70 en70
  replace hf60 := lt_of hf60 σ69 eσ69
  have m71 : hN σ69 = hN σ58 + 1 := by rw [eσ69]; rfl
  rw [← hq68 a0 h63.1]
  have h72 : isO σ69 10 n5 := isO_nw eσ69 h62
  have h73 : isO σ69 6 a0 := isO_nw eσ69 h63
  have h74 : isO σ69 10 n19 := isO_nw eσ69 h64
  have h75 : isO σ69 10 n34 := isO_nw eσ69 h65
  have h76 : isO σ69 10 n51 := isO_nw eσ69 h66
  have h77 : isO σ69 10 n70 := isO_nw0 eσ69 en70
  obtain ⟨h79, hf80⟩ := chk_of hf60; clear hf60
  refine j_putrF X fp_X6_24 h73 h79 rfl (hin rfl) rfl dX6_init_44 (fun σ78 eσ78 => ?_)
  replace hf80 := lt_of hf80 σ78 eσ78
  have m88 : hN σ69 ≤ hN σ78 := by rw [eσ78]; exact Nat.le_refl _
  have h82 : isO σ78 10 n5 := by rw [eσ78]; exact h72
  have h83 : isO σ78 6 a0 := by rw [eσ78]; exact h73
  have h84 : isO σ78 10 n19 := by rw [eσ78]; exact h74
  have h85 : isO σ78 10 n34 := by rw [eσ78]; exact h75
  have h86 : isO σ78 10 n51 := by rw [eσ78]; exact h76
  have h87 : isO σ78 10 n70 := by rw [eσ78]; exact h77
  refine j_aload_n X dX6_init_47 0 rfl rfl ?_
  refine j_sipush X (v := 420) dX6_init_48 (by decide) ?_
  refine j_newai X (b := 420) (by decide) (by decide) ⟨Nat.le_of_ble_eq_true rfl, Nat.le_of_ble_eq_true rfl⟩ dX6_init_51 (fun q89 σ90 n91 hq89 eσ90 en91 => ?_)
  replace hf80 := lt_of hf80 n91 en91
  replace hf80 := lt_of hf80 σ90 eσ90
  have m92 : hN σ90 = hN σ78 + 1 := by rw [eσ90]; rfl
  rw [← hq89 a0 h83.1]
  have h93 : isO σ90 10 n5 := isO_nw eσ90 h82
  have h94 : isO σ90 6 a0 := isO_nw eσ90 h83
  have h95 : isO σ90 10 n19 := isO_nw eσ90 h84
  have h96 : isO σ90 10 n34 := isO_nw eσ90 h85
  have h97 : isO σ90 10 n51 := isO_nw eσ90 h86
  have h98 : isO σ90 10 n70 := isO_nw eσ90 h87
  have h99 : isO σ90 10 n91 := isO_nw0 eσ90 en91
  obtain ⟨h101, hf102⟩ := chk_of hf80; clear hf80
  refine j_putrF X fp_X6_27 h94 h101 rfl (hin rfl) rfl dX6_init_53 (fun σ100 eσ100 => ?_)
  replace hf102 := lt_of hf102 σ100 eσ100
  have m111 : hN σ90 ≤ hN σ100 := by rw [eσ100]; exact Nat.le_refl _
  have h104 : isO σ100 10 n5 := by rw [eσ100]; exact h93
  have h105 : isO σ100 6 a0 := by rw [eσ100]; exact h94
  have h106 : isO σ100 10 n19 := by rw [eσ100]; exact h95
  have h107 : isO σ100 10 n34 := by rw [eσ100]; exact h96
  have h108 : isO σ100 10 n51 := by rw [eσ100]; exact h97
  have h109 : isO σ100 10 n70 := by rw [eσ100]; exact h98
  have h110 : isO σ100 10 n91 := by rw [eσ100]; exact h99
  refine j_aload_n X dX6_init_56 0 rfl rfl ?_
  refine j_bipush X (v := 7) dX6_init_57 (by decide) ?_
  refine j_newai X (b := 7) (by decide) (by decide) ⟨Nat.le_of_ble_eq_true rfl, Nat.le_of_ble_eq_true rfl⟩ dX6_init_59 (fun q112 σ113 n114 hq112 eσ113 en114 => ?_)
  replace hf102 := lt_of hf102 n114 en114
  replace hf102 := lt_of hf102 σ113 eσ113
  have m115 : hN σ113 = hN σ100 + 1 := by rw [eσ113]; rfl
  rw [← hq112 a0 h105.1]
  have h116 : isO σ113 10 n5 := isO_nw eσ113 h104
  have h117 : isO σ113 6 a0 := isO_nw eσ113 h105
  have h118 : isO σ113 10 n19 := isO_nw eσ113 h106
  have h119 : isO σ113 10 n34 := isO_nw eσ113 h107
  have h120 : isO σ113 10 n51 := isO_nw eσ113 h108
  have h121 : isO σ113 10 n70 := isO_nw eσ113 h109
  have h122 : isO σ113 10 n91 := isO_nw eσ113 h110
  have h123 : isO σ113 10 n114 := isO_nw0 eσ113 en114
  obtain ⟨h125, hf126⟩ := chk_of hf102; clear hf102
  refine j_putrF X fp_X6_30 h117 h125 rfl (hin rfl) rfl dX6_init_61 (fun σ124 eσ124 => ?_)
  replace hf126 := lt_of hf126 σ124 eσ124
  have m136 : hN σ113 ≤ hN σ124 := by rw [eσ124]; exact Nat.le_refl _
  have h128 : isO σ124 10 n5 := by rw [eσ124]; exact h116
  have h129 : isO σ124 6 a0 := by rw [eσ124]; exact h117
  have h130 : isO σ124 10 n19 := by rw [eσ124]; exact h118
  have h131 : isO σ124 10 n34 := by rw [eσ124]; exact h119
  have h132 : isO σ124 10 n51 := by rw [eσ124]; exact h120
  have h133 : isO σ124 10 n70 := by rw [eσ124]; exact h121
  have h134 : isO σ124 10 n91 := by rw [eσ124]; exact h122
  have h135 : isO σ124 10 n114 := by rw [eσ124]; exact h123
  refine j_aload_n X dX6_init_64 0 rfl rfl ?_
  refine j_sipush X (v := 360) dX6_init_65 (by decide) ?_
  refine j_newai X (b := 360) (by decide) (by decide) ⟨Nat.le_of_ble_eq_true rfl, Nat.le_of_ble_eq_true rfl⟩ dX6_init_68 (fun q137 σ138 n139 hq137 eσ138 en139 => ?_)
  replace hf126 := lt_of hf126 n139 en139
  replace hf126 := lt_of hf126 σ138 eσ138
  have m140 : hN σ138 = hN σ124 + 1 := by rw [eσ138]; rfl
  rw [← hq137 a0 h129.1]
  have h141 : isO σ138 10 n5 := isO_nw eσ138 h128
  have h142 : isO σ138 6 a0 := isO_nw eσ138 h129
  have h143 : isO σ138 10 n19 := isO_nw eσ138 h130
  have h144 : isO σ138 10 n34 := isO_nw eσ138 h131
  have h145 : isO σ138 10 n51 := isO_nw eσ138 h132
  have h146 : isO σ138 10 n70 := isO_nw eσ138 h133
  have h147 : isO σ138 10 n91 := isO_nw eσ138 h134
  have h148 : isO σ138 10 n114 := isO_nw eσ138 h135
  have h149 : isO σ138 10 n139 := isO_nw0 eσ138 en139
  obtain ⟨h151, hf152⟩ := chk_of hf126; clear hf126
  refine j_putrF X fp_X6_33 h142 h151 rfl (hin rfl) rfl dX6_init_70 (fun σ150 eσ150 => ?_)
  replace hf152 := lt_of hf152 σ150 eσ150
  have m163 : hN σ138 ≤ hN σ150 := by rw [eσ150]; exact Nat.le_refl _
  have h154 : isO σ150 10 n5 := by rw [eσ150]; exact h141
  have h155 : isO σ150 6 a0 := by rw [eσ150]; exact h142
  have h156 : isO σ150 10 n19 := by rw [eσ150]; exact h143
  have h157 : isO σ150 10 n34 := by rw [eσ150]; exact h144
  have h158 : isO σ150 10 n51 := by rw [eσ150]; exact h145
  have h159 : isO σ150 10 n70 := by rw [eσ150]; exact h146
  have h160 : isO σ150 10 n91 := by rw [eσ150]; exact h147
  have h161 : isO σ150 10 n114 := by rw [eσ150]; exact h148
  have h162 : isO σ150 10 n139 := by rw [eσ150]; exact h149
  refine j_aload_n X dX6_init_73 0 rfl rfl ?_
  refine j_sipush X (v := 360) dX6_init_74 (by decide) ?_
  refine j_newai X (b := 360) (by decide) (by decide) ⟨Nat.le_of_ble_eq_true rfl, Nat.le_of_ble_eq_true rfl⟩ dX6_init_77 (fun q164 σ165 n166 hq164 eσ165 en166 => ?_)
  replace hf152 := lt_of hf152 n166 en166
  replace hf152 := lt_of hf152 σ165 eσ165
  have m167 : hN σ165 = hN σ150 + 1 := by rw [eσ165]; rfl
  rw [← hq164 a0 h155.1]
  have h168 : isO σ165 10 n5 := isO_nw eσ165 h154
  have h169 : isO σ165 6 a0 := isO_nw eσ165 h155
  have h170 : isO σ165 10 n19 := isO_nw eσ165 h156
  have h171 : isO σ165 10 n34 := isO_nw eσ165 h157
  have h172 : isO σ165 10 n51 := isO_nw eσ165 h158
  have h173 : isO σ165 10 n70 := isO_nw eσ165 h159
  have h174 : isO σ165 10 n91 := isO_nw eσ165 h160
  have h175 : isO σ165 10 n114 := isO_nw eσ165 h161
  have h176 : isO σ165 10 n139 := isO_nw eσ165 h162
  have h177 : isO σ165 10 n166 := isO_nw0 eσ165 en166
  obtain ⟨h179, hf180⟩ := chk_of hf152; clear hf152
  refine j_putrF X fp_X6_36 h169 h179 rfl (hin rfl) rfl dX6_init_79 (fun σ178 eσ178 => ?_)
  replace hf180 := lt_of hf180 σ178 eσ178
  have m192 : hN σ165 ≤ hN σ178 := by rw [eσ178]; exact Nat.le_refl _
  have h182 : isO σ178 10 n5 := by rw [eσ178]; exact h168
  have h183 : isO σ178 6 a0 := by rw [eσ178]; exact h169
  have h184 : isO σ178 10 n19 := by rw [eσ178]; exact h170
  have h185 : isO σ178 10 n34 := by rw [eσ178]; exact h171
  have h186 : isO σ178 10 n51 := by rw [eσ178]; exact h172
  have h187 : isO σ178 10 n70 := by rw [eσ178]; exact h173
  have h188 : isO σ178 10 n91 := by rw [eσ178]; exact h174
  have h189 : isO σ178 10 n114 := by rw [eσ178]; exact h175
  have h190 : isO σ178 10 n139 := by rw [eσ178]; exact h176
  have h191 : isO σ178 10 n166 := by rw [eσ178]; exact h177
  refine j_aload_n X dX6_init_82 0 rfl rfl ?_
  refine j_sipush X (v := 360) dX6_init_83 (by decide) ?_
  refine j_newai X (b := 360) (by decide) (by decide) ⟨Nat.le_of_ble_eq_true rfl, Nat.le_of_ble_eq_true rfl⟩ dX6_init_86 (fun q193 σ194 n195 hq193 eσ194 en195 => ?_)
  replace hf180 := lt_of hf180 n195 en195
  replace hf180 := lt_of hf180 σ194 eσ194
  have m196 : hN σ194 = hN σ178 + 1 := by rw [eσ194]; rfl
  rw [← hq193 a0 h183.1]
  have h197 : isO σ194 10 n5 := isO_nw eσ194 h182
  have h198 : isO σ194 6 a0 := isO_nw eσ194 h183
  have h199 : isO σ194 10 n19 := isO_nw eσ194 h184
  have h200 : isO σ194 10 n34 := isO_nw eσ194 h185
  have h201 : isO σ194 10 n51 := isO_nw eσ194 h186
  have h202 : isO σ194 10 n70 := isO_nw eσ194 h187
  have h203 : isO σ194 10 n91 := isO_nw eσ194 h188
  have h204 : isO σ194 10 n114 := isO_nw eσ194 h189
  have h205 : isO σ194 10 n139 := isO_nw eσ194 h190
  have h206 : isO σ194 10 n166 := isO_nw eσ194 h191
  have h207 : isO σ194 10 n195 := isO_nw0 eσ194 en195
  obtain ⟨h209, hf210⟩ := chk_of hf180; clear hf180
  refine j_putrF X fp_X6_39 h198 h209 rfl (hin rfl) rfl dX6_init_88 (fun σ208 eσ208 => ?_)
  replace hf210 := lt_of hf210 σ208 eσ208
  have m223 : hN σ194 ≤ hN σ208 := by rw [eσ208]; exact Nat.le_refl _
  have h212 : isO σ208 10 n5 := by rw [eσ208]; exact h197
  have h213 : isO σ208 6 a0 := by rw [eσ208]; exact h198
  have h214 : isO σ208 10 n19 := by rw [eσ208]; exact h199
  have h215 : isO σ208 10 n34 := by rw [eσ208]; exact h200
  have h216 : isO σ208 10 n51 := by rw [eσ208]; exact h201
  have h217 : isO σ208 10 n70 := by rw [eσ208]; exact h202
  have h218 : isO σ208 10 n91 := by rw [eσ208]; exact h203
  have h219 : isO σ208 10 n114 := by rw [eσ208]; exact h204
  have h220 : isO σ208 10 n139 := by rw [eσ208]; exact h205
  have h221 : isO σ208 10 n166 := by rw [eσ208]; exact h206
  have h222 : isO σ208 10 n195 := by rw [eσ208]; exact h207
  refine j_aload_n X dX6_init_91 0 rfl rfl ?_
  refine j_sipush X (v := 360) dX6_init_92 (by decide) ?_
  refine j_newai X (b := 360) (by decide) (by decide) ⟨Nat.le_of_ble_eq_true rfl, Nat.le_of_ble_eq_true rfl⟩ dX6_init_95 (fun q224 σ225 n226 hq224 eσ225 en226 => ?_)
  replace hf210 := lt_of hf210 n226 en226
  replace hf210 := lt_of hf210 σ225 eσ225
  have m227 : hN σ225 = hN σ208 + 1 := by rw [eσ225]; rfl
  rw [← hq224 a0 h213.1]
  have h228 : isO σ225 10 n5 := isO_nw eσ225 h212
  have h229 : isO σ225 6 a0 := isO_nw eσ225 h213
  have h230 : isO σ225 10 n19 := isO_nw eσ225 h214
  have h231 : isO σ225 10 n34 := isO_nw eσ225 h215
  have h232 : isO σ225 10 n51 := isO_nw eσ225 h216
  have h233 : isO σ225 10 n70 := isO_nw eσ225 h217
  have h234 : isO σ225 10 n91 := isO_nw eσ225 h218
  have h235 : isO σ225 10 n114 := isO_nw eσ225 h219
  have h236 : isO σ225 10 n139 := isO_nw eσ225 h220
  have h237 : isO σ225 10 n166 := isO_nw eσ225 h221
  have h238 : isO σ225 10 n195 := isO_nw eσ225 h222
  have h239 : isO σ225 10 n226 := isO_nw0 eσ225 en226
  obtain ⟨h241, hf242⟩ := chk_of hf210; clear hf210
  refine j_putrF X fp_X6_42 h229 h241 rfl (hin rfl) rfl dX6_init_97 (fun σ240 eσ240 => ?_)
  replace hf242 := lt_of hf242 σ240 eσ240
  have m256 : hN σ225 ≤ hN σ240 := by rw [eσ240]; exact Nat.le_refl _
  have h244 : isO σ240 10 n5 := by rw [eσ240]; exact h228
  have h245 : isO σ240 6 a0 := by rw [eσ240]; exact h229
  have h246 : isO σ240 10 n19 := by rw [eσ240]; exact h230
  have h247 : isO σ240 10 n34 := by rw [eσ240]; exact h231
  have h248 : isO σ240 10 n51 := by rw [eσ240]; exact h232
  have h249 : isO σ240 10 n70 := by rw [eσ240]; exact h233
  have h250 : isO σ240 10 n91 := by rw [eσ240]; exact h234
  have h251 : isO σ240 10 n114 := by rw [eσ240]; exact h235
  have h252 : isO σ240 10 n139 := by rw [eσ240]; exact h236
  have h253 : isO σ240 10 n166 := by rw [eσ240]; exact h237
  have h254 : isO σ240 10 n195 := by rw [eσ240]; exact h238
  have h255 : isO σ240 10 n226 := by rw [eσ240]; exact h239
  refine j_aload_n X dX6_init_100 0 rfl rfl ?_
  refine j_bipush X (v := 6) dX6_init_101 (by decide) ?_
  refine j_newai X (b := 6) (by decide) (by decide) ⟨Nat.le_of_ble_eq_true rfl, Nat.le_of_ble_eq_true rfl⟩ dX6_init_103 (fun q257 σ258 n259 hq257 eσ258 en259 => ?_)
  replace hf242 := lt_of hf242 n259 en259
  replace hf242 := lt_of hf242 σ258 eσ258
  have m260 : hN σ258 = hN σ240 + 1 := by rw [eσ258]; rfl
  rw [← hq257 a0 h245.1]
  have h261 : isO σ258 10 n5 := isO_nw eσ258 h244
  have h262 : isO σ258 6 a0 := isO_nw eσ258 h245
  have h263 : isO σ258 10 n19 := isO_nw eσ258 h246
  have h264 : isO σ258 10 n34 := isO_nw eσ258 h247
  have h265 : isO σ258 10 n51 := isO_nw eσ258 h248
  have h266 : isO σ258 10 n70 := isO_nw eσ258 h249
  have h267 : isO σ258 10 n91 := isO_nw eσ258 h250
  have h268 : isO σ258 10 n114 := isO_nw eσ258 h251
  have h269 : isO σ258 10 n139 := isO_nw eσ258 h252
  have h270 : isO σ258 10 n166 := isO_nw eσ258 h253
  have h271 : isO σ258 10 n195 := isO_nw eσ258 h254
  have h272 : isO σ258 10 n226 := isO_nw eσ258 h255
  have h273 : isO σ258 10 n259 := isO_nw0 eσ258 en259
  obtain ⟨h275, hf276⟩ := chk_of hf242; clear hf242
  refine j_putrF X fp_X6_45 h262 h275 rfl (hin rfl) rfl dX6_init_105 (fun σ274 eσ274 => ?_)
  replace hf276 := lt_of hf276 σ274 eσ274
  have m291 : hN σ258 ≤ hN σ274 := by rw [eσ274]; exact Nat.le_refl _
  have h278 : isO σ274 10 n5 := by rw [eσ274]; exact h261
  have h279 : isO σ274 6 a0 := by rw [eσ274]; exact h262
  have h280 : isO σ274 10 n19 := by rw [eσ274]; exact h263
  have h281 : isO σ274 10 n34 := by rw [eσ274]; exact h264
  have h282 : isO σ274 10 n51 := by rw [eσ274]; exact h265
  have h283 : isO σ274 10 n70 := by rw [eσ274]; exact h266
  have h284 : isO σ274 10 n91 := by rw [eσ274]; exact h267
  have h285 : isO σ274 10 n114 := by rw [eσ274]; exact h268
  have h286 : isO σ274 10 n139 := by rw [eσ274]; exact h269
  have h287 : isO σ274 10 n166 := by rw [eσ274]; exact h270
  have h288 : isO σ274 10 n195 := by rw [eσ274]; exact h271
  have h289 : isO σ274 10 n226 := by rw [eσ274]; exact h272
  have h290 : isO σ274 10 n259 := by rw [eσ274]; exact h273
  refine j_aload_n X dX6_init_108 0 rfl rfl ?_
  refine j_bipush X (v := 60) dX6_init_109 (by decide) ?_
  refine j_newai X (b := 60) (by decide) (by decide) ⟨Nat.le_of_ble_eq_true rfl, Nat.le_of_ble_eq_true rfl⟩ dX6_init_111 (fun q292 σ293 n294 hq292 eσ293 en294 => ?_)
  replace hf276 := lt_of hf276 n294 en294
  replace hf276 := lt_of hf276 σ293 eσ293
  have m295 : hN σ293 = hN σ274 + 1 := by rw [eσ293]; rfl
  rw [← hq292 a0 h279.1]
  have h296 : isO σ293 10 n5 := isO_nw eσ293 h278
  have h297 : isO σ293 6 a0 := isO_nw eσ293 h279
  have h298 : isO σ293 10 n19 := isO_nw eσ293 h280
  have h299 : isO σ293 10 n34 := isO_nw eσ293 h281
  have h300 : isO σ293 10 n51 := isO_nw eσ293 h282
  have h301 : isO σ293 10 n70 := isO_nw eσ293 h283
  have h302 : isO σ293 10 n91 := isO_nw eσ293 h284
  have h303 : isO σ293 10 n114 := isO_nw eσ293 h285
  have h304 : isO σ293 10 n139 := isO_nw eσ293 h286
  have h305 : isO σ293 10 n166 := isO_nw eσ293 h287
  have h306 : isO σ293 10 n195 := isO_nw eσ293 h288
  have h307 : isO σ293 10 n226 := isO_nw eσ293 h289
  have h308 : isO σ293 10 n259 := isO_nw eσ293 h290
  have h309 : isO σ293 10 n294 := isO_nw0 eσ293 en294
  obtain ⟨h311, hf312⟩ := chk_of hf276; clear hf276
  refine j_putrF X fp_X6_48 h297 h311 rfl (hin rfl) rfl dX6_init_113 (fun σ310 eσ310 => ?_)
  replace hf312 := lt_of hf312 σ310 eσ310
  have m328 : hN σ293 ≤ hN σ310 := by rw [eσ310]; exact Nat.le_refl _
  have h314 : isO σ310 10 n5 := by rw [eσ310]; exact h296
  have h315 : isO σ310 6 a0 := by rw [eσ310]; exact h297
  have h316 : isO σ310 10 n19 := by rw [eσ310]; exact h298
  have h317 : isO σ310 10 n34 := by rw [eσ310]; exact h299
  have h318 : isO σ310 10 n51 := by rw [eσ310]; exact h300
  have h319 : isO σ310 10 n70 := by rw [eσ310]; exact h301
  have h320 : isO σ310 10 n91 := by rw [eσ310]; exact h302
  have h321 : isO σ310 10 n114 := by rw [eσ310]; exact h303
  have h322 : isO σ310 10 n139 := by rw [eσ310]; exact h304
  have h323 : isO σ310 10 n166 := by rw [eσ310]; exact h305
  have h324 : isO σ310 10 n195 := by rw [eσ310]; exact h306
  have h325 : isO σ310 10 n226 := by rw [eσ310]; exact h307
  have h326 : isO σ310 10 n259 := by rw [eσ310]; exact h308
  have h327 : isO σ310 10 n294 := by rw [eσ310]; exact h309
  refine j_aload_n X dX6_init_116 0 rfl rfl ?_
  refine j_bipush X (v := 6) dX6_init_117 (by decide) ?_
  refine j_newai X (b := 6) (by decide) (by decide) ⟨Nat.le_of_ble_eq_true rfl, Nat.le_of_ble_eq_true rfl⟩ dX6_init_119 (fun q329 σ330 n331 hq329 eσ330 en331 => ?_)
  replace hf312 := lt_of hf312 n331 en331
  replace hf312 := lt_of hf312 σ330 eσ330
  have m332 : hN σ330 = hN σ310 + 1 := by rw [eσ330]; rfl
  rw [← hq329 a0 h315.1]
  have h333 : isO σ330 10 n5 := isO_nw eσ330 h314
  have h334 : isO σ330 6 a0 := isO_nw eσ330 h315
  have h335 : isO σ330 10 n19 := isO_nw eσ330 h316
  have h336 : isO σ330 10 n34 := isO_nw eσ330 h317
  have h337 : isO σ330 10 n51 := isO_nw eσ330 h318
  have h338 : isO σ330 10 n70 := isO_nw eσ330 h319
  have h339 : isO σ330 10 n91 := isO_nw eσ330 h320
  have h340 : isO σ330 10 n114 := isO_nw eσ330 h321
  have h341 : isO σ330 10 n139 := isO_nw eσ330 h322
  have h342 : isO σ330 10 n166 := isO_nw eσ330 h323
  have h343 : isO σ330 10 n195 := isO_nw eσ330 h324
  have h344 : isO σ330 10 n226 := isO_nw eσ330 h325
  have h345 : isO σ330 10 n259 := isO_nw eσ330 h326
  have h346 : isO σ330 10 n294 := isO_nw eσ330 h327
  have h347 : isO σ330 10 n331 := isO_nw0 eσ330 en331
  obtain ⟨h349, hf350⟩ := chk_of hf312; clear hf312
  refine j_putrF X fp_X6_51 h334 h349 rfl (hin rfl) rfl dX6_init_121 (fun σ348 eσ348 => ?_)
  replace hf350 := lt_of hf350 σ348 eσ348
  have m367 : hN σ330 ≤ hN σ348 := by rw [eσ348]; exact Nat.le_refl _
  have h352 : isO σ348 10 n5 := by rw [eσ348]; exact h333
  have h353 : isO σ348 6 a0 := by rw [eσ348]; exact h334
  have h354 : isO σ348 10 n19 := by rw [eσ348]; exact h335
  have h355 : isO σ348 10 n34 := by rw [eσ348]; exact h336
  have h356 : isO σ348 10 n51 := by rw [eσ348]; exact h337
  have h357 : isO σ348 10 n70 := by rw [eσ348]; exact h338
  have h358 : isO σ348 10 n91 := by rw [eσ348]; exact h339
  have h359 : isO σ348 10 n114 := by rw [eσ348]; exact h340
  have h360 : isO σ348 10 n139 := by rw [eσ348]; exact h341
  have h361 : isO σ348 10 n166 := by rw [eσ348]; exact h342
  have h362 : isO σ348 10 n195 := by rw [eσ348]; exact h343
  have h363 : isO σ348 10 n226 := by rw [eσ348]; exact h344
  have h364 : isO σ348 10 n259 := by rw [eσ348]; exact h345
  have h365 : isO σ348 10 n294 := by rw [eσ348]; exact h346
  have h366 : isO σ348 10 n331 := by rw [eσ348]; exact h347
  refine j_aload_n X dX6_init_124 0 rfl rfl ?_
  refine j_bipush X (v := 6) dX6_init_125 (by decide) ?_
  refine j_newai X (b := 6) (by decide) (by decide) ⟨Nat.le_of_ble_eq_true rfl, Nat.le_of_ble_eq_true rfl⟩ dX6_init_127 (fun q368 σ369 n370 hq368 eσ369 en370 => ?_)
  replace hf350 := lt_of hf350 n370 en370
  replace hf350 := lt_of hf350 σ369 eσ369
  have m371 : hN σ369 = hN σ348 + 1 := by rw [eσ369]; rfl
  rw [← hq368 a0 h353.1]
  have h372 : isO σ369 10 n5 := isO_nw eσ369 h352
  have h373 : isO σ369 6 a0 := isO_nw eσ369 h353
  have h374 : isO σ369 10 n19 := isO_nw eσ369 h354
  have h375 : isO σ369 10 n34 := isO_nw eσ369 h355
  have h376 : isO σ369 10 n51 := isO_nw eσ369 h356
  have h377 : isO σ369 10 n70 := isO_nw eσ369 h357
  have h378 : isO σ369 10 n91 := isO_nw eσ369 h358
  have h379 : isO σ369 10 n114 := isO_nw eσ369 h359
  have h380 : isO σ369 10 n139 := isO_nw eσ369 h360
  have h381 : isO σ369 10 n166 := isO_nw eσ369 h361
  have h382 : isO σ369 10 n195 := isO_nw eσ369 h362
  have h383 : isO σ369 10 n226 := isO_nw eσ369 h363
  have h384 : isO σ369 10 n259 := isO_nw eσ369 h364
  have h385 : isO σ369 10 n294 := isO_nw eσ369 h365
  have h386 : isO σ369 10 n331 := isO_nw eσ369 h366
  have h387 : isO σ369 10 n370 := isO_nw0 eσ369 en370
  obtain ⟨h389, hf390⟩ := chk_of hf350; clear hf350
  refine j_putrF X fp_X6_54 h373 h389 rfl (hin rfl) rfl dX6_init_129 (fun σ388 eσ388 => ?_)
  replace hf390 := lt_of hf390 σ388 eσ388
  have m408 : hN σ369 ≤ hN σ388 := by rw [eσ388]; exact Nat.le_refl _
  have h392 : isO σ388 10 n5 := by rw [eσ388]; exact h372
  have h393 : isO σ388 6 a0 := by rw [eσ388]; exact h373
  have h394 : isO σ388 10 n19 := by rw [eσ388]; exact h374
  have h395 : isO σ388 10 n34 := by rw [eσ388]; exact h375
  have h396 : isO σ388 10 n51 := by rw [eσ388]; exact h376
  have h397 : isO σ388 10 n70 := by rw [eσ388]; exact h377
  have h398 : isO σ388 10 n91 := by rw [eσ388]; exact h378
  have h399 : isO σ388 10 n114 := by rw [eσ388]; exact h379
  have h400 : isO σ388 10 n139 := by rw [eσ388]; exact h380
  have h401 : isO σ388 10 n166 := by rw [eσ388]; exact h381
  have h402 : isO σ388 10 n195 := by rw [eσ388]; exact h382
  have h403 : isO σ388 10 n226 := by rw [eσ388]; exact h383
  have h404 : isO σ388 10 n259 := by rw [eσ388]; exact h384
  have h405 : isO σ388 10 n294 := by rw [eσ388]; exact h385
  have h406 : isO σ388 10 n331 := by rw [eσ388]; exact h386
  have h407 : isO σ388 10 n370 := by rw [eσ388]; exact h387
  refine j_aload_n X dX6_init_132 0 rfl rfl ?_
  refine j_bipush X (v := 60) dX6_init_133 (by decide) ?_
  refine j_newal X (b := 60) (by decide) (by decide) ⟨Nat.le_of_ble_eq_true rfl, Nat.le_of_ble_eq_true rfl⟩ dX6_init_135 (fun q409 σ410 n411 hq409 eσ410 en411 => ?_)
  replace hf390 := lt_of hf390 n411 en411
  replace hf390 := lt_of hf390 σ410 eσ410
  have m412 : hN σ410 = hN σ388 + 1 := by rw [eσ410]; rfl
  rw [← hq409 a0 h393.1]
  have h413 : isO σ410 10 n5 := isO_nw eσ410 h392
  have h414 : isO σ410 6 a0 := isO_nw eσ410 h393
  have h415 : isO σ410 10 n19 := isO_nw eσ410 h394
  have h416 : isO σ410 10 n34 := isO_nw eσ410 h395
  have h417 : isO σ410 10 n51 := isO_nw eσ410 h396
  have h418 : isO σ410 10 n70 := isO_nw eσ410 h397
  have h419 : isO σ410 10 n91 := isO_nw eσ410 h398
  have h420 : isO σ410 10 n114 := isO_nw eσ410 h399
  have h421 : isO σ410 10 n139 := isO_nw eσ410 h400
  have h422 : isO σ410 10 n166 := isO_nw eσ410 h401
  have h423 : isO σ410 10 n195 := isO_nw eσ410 h402
  have h424 : isO σ410 10 n226 := isO_nw eσ410 h403
  have h425 : isO σ410 10 n259 := isO_nw eσ410 h404
  have h426 : isO σ410 10 n294 := isO_nw eσ410 h405
  have h427 : isO σ410 10 n331 := isO_nw eσ410 h406
  have h428 : isO σ410 10 n370 := isO_nw eσ410 h407
  have h429 : isO σ410 12 n411 := isO_nw0 eσ410 en411
  obtain ⟨h431, hf432⟩ := chk_of hf390; clear hf390
  refine j_putrF X fp_X6_57 h414 h431 rfl (hin rfl) rfl dX6_init_137 (fun σ430 eσ430 => ?_)
  replace hf432 := lt_of hf432 σ430 eσ430
  have m451 : hN σ410 ≤ hN σ430 := by rw [eσ430]; exact Nat.le_refl _
  have h434 : isO σ430 10 n5 := by rw [eσ430]; exact h413
  have h435 : isO σ430 6 a0 := by rw [eσ430]; exact h414
  have h436 : isO σ430 10 n19 := by rw [eσ430]; exact h415
  have h437 : isO σ430 10 n34 := by rw [eσ430]; exact h416
  have h438 : isO σ430 10 n51 := by rw [eσ430]; exact h417
  have h439 : isO σ430 10 n70 := by rw [eσ430]; exact h418
  have h440 : isO σ430 10 n91 := by rw [eσ430]; exact h419
  have h441 : isO σ430 10 n114 := by rw [eσ430]; exact h420
  have h442 : isO σ430 10 n139 := by rw [eσ430]; exact h421
  have h443 : isO σ430 10 n166 := by rw [eσ430]; exact h422
  have h444 : isO σ430 10 n195 := by rw [eσ430]; exact h423
  have h445 : isO σ430 10 n226 := by rw [eσ430]; exact h424
  have h446 : isO σ430 10 n259 := by rw [eσ430]; exact h425
  have h447 : isO σ430 10 n294 := by rw [eσ430]; exact h426
  have h448 : isO σ430 10 n331 := by rw [eσ430]; exact h427
  have h449 : isO σ430 10 n370 := by rw [eσ430]; exact h428
  have h450 : isO σ430 12 n411 := by rw [eσ430]; exact h429
  refine j_aload_n X dX6_init_140 0 rfl rfl ?_
  refine j_bipush X (v := 60) dX6_init_141 (by decide) ?_
  refine j_newal X (b := 60) (by decide) (by decide) ⟨Nat.le_of_ble_eq_true rfl, Nat.le_of_ble_eq_true rfl⟩ dX6_init_143 (fun q452 σ453 n454 hq452 eσ453 en454 => ?_)
  replace hf432 := lt_of hf432 n454 en454
  replace hf432 := lt_of hf432 σ453 eσ453
  have m455 : hN σ453 = hN σ430 + 1 := by rw [eσ453]; rfl
  rw [← hq452 a0 h435.1]
  have h456 : isO σ453 10 n5 := isO_nw eσ453 h434
  have h457 : isO σ453 6 a0 := isO_nw eσ453 h435
  have h458 : isO σ453 10 n19 := isO_nw eσ453 h436
  have h459 : isO σ453 10 n34 := isO_nw eσ453 h437
  have h460 : isO σ453 10 n51 := isO_nw eσ453 h438
  have h461 : isO σ453 10 n70 := isO_nw eσ453 h439
  have h462 : isO σ453 10 n91 := isO_nw eσ453 h440
  have h463 : isO σ453 10 n114 := isO_nw eσ453 h441
  have h464 : isO σ453 10 n139 := isO_nw eσ453 h442
  have h465 : isO σ453 10 n166 := isO_nw eσ453 h443
  have h466 : isO σ453 10 n195 := isO_nw eσ453 h444
  have h467 : isO σ453 10 n226 := isO_nw eσ453 h445
  have h468 : isO σ453 10 n259 := isO_nw eσ453 h446
  have h469 : isO σ453 10 n294 := isO_nw eσ453 h447
  have h470 : isO σ453 10 n331 := isO_nw eσ453 h448
  have h471 : isO σ453 10 n370 := isO_nw eσ453 h449
  have h472 : isO σ453 12 n411 := isO_nw eσ453 h450
  have h473 : isO σ453 12 n454 := isO_nw0 eσ453 en454
  obtain ⟨h475, hf476⟩ := chk_of hf432; clear hf432
  refine j_putrF X fp_X6_61 h457 h475 rfl (hin rfl) rfl dX6_init_145 (fun σ474 eσ474 => ?_)
  replace hf476 := lt_of hf476 σ474 eσ474
  have m496 : hN σ453 ≤ hN σ474 := by rw [eσ474]; exact Nat.le_refl _
  have h478 : isO σ474 10 n5 := by rw [eσ474]; exact h456
  have h479 : isO σ474 6 a0 := by rw [eσ474]; exact h457
  have h480 : isO σ474 10 n19 := by rw [eσ474]; exact h458
  have h481 : isO σ474 10 n34 := by rw [eσ474]; exact h459
  have h482 : isO σ474 10 n51 := by rw [eσ474]; exact h460
  have h483 : isO σ474 10 n70 := by rw [eσ474]; exact h461
  have h484 : isO σ474 10 n91 := by rw [eσ474]; exact h462
  have h485 : isO σ474 10 n114 := by rw [eσ474]; exact h463
  have h486 : isO σ474 10 n139 := by rw [eσ474]; exact h464
  have h487 : isO σ474 10 n166 := by rw [eσ474]; exact h465
  have h488 : isO σ474 10 n195 := by rw [eσ474]; exact h466
  have h489 : isO σ474 10 n226 := by rw [eσ474]; exact h467
  have h490 : isO σ474 10 n259 := by rw [eσ474]; exact h468
  have h491 : isO σ474 10 n294 := by rw [eσ474]; exact h469
  have h492 : isO σ474 10 n331 := by rw [eσ474]; exact h470
  have h493 : isO σ474 10 n370 := by rw [eσ474]; exact h471
  have h494 : isO σ474 12 n411 := by rw [eσ474]; exact h472
  have h495 : isO σ474 12 n454 := by rw [eσ474]; exact h473
  refine j_aload_n X dX6_init_148 0 rfl rfl ?_
  refine j_bipush X (v := 60) dX6_init_149 (by decide) ?_
  refine j_newaz X (b := 60) (by decide) (by decide) ⟨Nat.le_of_ble_eq_true rfl, Nat.le_of_ble_eq_true rfl⟩ dX6_init_151 (fun q497 σ498 n499 hq497 eσ498 en499 => ?_)
  replace hf476 := lt_of hf476 n499 en499
  replace hf476 := lt_of hf476 σ498 eσ498
  have m500 : hN σ498 = hN σ474 + 1 := by rw [eσ498]; rfl
  rw [← hq497 a0 h479.1]
  have h501 : isO σ498 10 n5 := isO_nw eσ498 h478
  have h502 : isO σ498 6 a0 := isO_nw eσ498 h479
  have h503 : isO σ498 10 n19 := isO_nw eσ498 h480
  have h504 : isO σ498 10 n34 := isO_nw eσ498 h481
  have h505 : isO σ498 10 n51 := isO_nw eσ498 h482
  have h506 : isO σ498 10 n70 := isO_nw eσ498 h483
  have h507 : isO σ498 10 n91 := isO_nw eσ498 h484
  have h508 : isO σ498 10 n114 := isO_nw eσ498 h485
  have h509 : isO σ498 10 n139 := isO_nw eσ498 h486
  have h510 : isO σ498 10 n166 := isO_nw eσ498 h487
  have h511 : isO σ498 10 n195 := isO_nw eσ498 h488
  have h512 : isO σ498 10 n226 := isO_nw eσ498 h489
  have h513 : isO σ498 10 n259 := isO_nw eσ498 h490
  have h514 : isO σ498 10 n294 := isO_nw eσ498 h491
  have h515 : isO σ498 10 n331 := isO_nw eσ498 h492
  have h516 : isO σ498 10 n370 := isO_nw eσ498 h493
  have h517 : isO σ498 12 n411 := isO_nw eσ498 h494
  have h518 : isO σ498 12 n454 := isO_nw eσ498 h495
  have h519 : isO σ498 11 n499 := isO_nw0 eσ498 en499
  obtain ⟨h521, hf522⟩ := chk_of hf476; clear hf476
  refine j_putrF X fp_X6_64 h502 h521 rfl (hin rfl) rfl dX6_init_153 (fun σ520 eσ520 => ?_)
  replace hf522 := lt_of hf522 σ520 eσ520
  have m543 : hN σ498 ≤ hN σ520 := by rw [eσ520]; exact Nat.le_refl _
  have h524 : isO σ520 10 n5 := by rw [eσ520]; exact h501
  have h525 : isO σ520 6 a0 := by rw [eσ520]; exact h502
  have h526 : isO σ520 10 n19 := by rw [eσ520]; exact h503
  have h527 : isO σ520 10 n34 := by rw [eσ520]; exact h504
  have h528 : isO σ520 10 n51 := by rw [eσ520]; exact h505
  have h529 : isO σ520 10 n70 := by rw [eσ520]; exact h506
  have h530 : isO σ520 10 n91 := by rw [eσ520]; exact h507
  have h531 : isO σ520 10 n114 := by rw [eσ520]; exact h508
  have h532 : isO σ520 10 n139 := by rw [eσ520]; exact h509
  have h533 : isO σ520 10 n166 := by rw [eσ520]; exact h510
  have h534 : isO σ520 10 n195 := by rw [eσ520]; exact h511
  have h535 : isO σ520 10 n226 := by rw [eσ520]; exact h512
  have h536 : isO σ520 10 n259 := by rw [eσ520]; exact h513
  have h537 : isO σ520 10 n294 := by rw [eσ520]; exact h514
  have h538 : isO σ520 10 n331 := by rw [eσ520]; exact h515
  have h539 : isO σ520 10 n370 := by rw [eσ520]; exact h516
  have h540 : isO σ520 12 n411 := by rw [eσ520]; exact h517
  have h541 : isO σ520 12 n454 := by rw [eσ520]; exact h518
  have h542 : isO σ520 11 n499 := by rw [eσ520]; exact h519
  refine j_aload_n X dX6_init_156 0 rfl rfl ?_
  refine j_bipush X (v := 60) dX6_init_157 (by decide) ?_
  refine j_newai X (b := 60) (by decide) (by decide) ⟨Nat.le_of_ble_eq_true rfl, Nat.le_of_ble_eq_true rfl⟩ dX6_init_159 (fun q544 σ545 n546 hq544 eσ545 en546 => ?_)
  replace hf522 := lt_of hf522 n546 en546
  replace hf522 := lt_of hf522 σ545 eσ545
  have m547 : hN σ545 = hN σ520 + 1 := by rw [eσ545]; rfl
  rw [← hq544 a0 h525.1]
  have h548 : isO σ545 10 n5 := isO_nw eσ545 h524
  have h549 : isO σ545 6 a0 := isO_nw eσ545 h525
  have h550 : isO σ545 10 n19 := isO_nw eσ545 h526
  have h551 : isO σ545 10 n34 := isO_nw eσ545 h527
  have h552 : isO σ545 10 n51 := isO_nw eσ545 h528
  have h553 : isO σ545 10 n70 := isO_nw eσ545 h529
  have h554 : isO σ545 10 n91 := isO_nw eσ545 h530
  have h555 : isO σ545 10 n114 := isO_nw eσ545 h531
  have h556 : isO σ545 10 n139 := isO_nw eσ545 h532
  have h557 : isO σ545 10 n166 := isO_nw eσ545 h533
  have h558 : isO σ545 10 n195 := isO_nw eσ545 h534
  have h559 : isO σ545 10 n226 := isO_nw eσ545 h535
  have h560 : isO σ545 10 n259 := isO_nw eσ545 h536
  have h561 : isO σ545 10 n294 := isO_nw eσ545 h537
  have h562 : isO σ545 10 n331 := isO_nw eσ545 h538
  have h563 : isO σ545 10 n370 := isO_nw eσ545 h539
  have h564 : isO σ545 12 n411 := isO_nw eσ545 h540
  have h565 : isO σ545 12 n454 := isO_nw eσ545 h541
  have h566 : isO σ545 11 n499 := isO_nw eσ545 h542
  have h567 : isO σ545 10 n546 := isO_nw0 eσ545 en546
  obtain ⟨h569, hf570⟩ := chk_of hf522; clear hf522
  refine j_putrF X fp_X6_68 h549 h569 rfl (hin rfl) rfl dX6_init_161 (fun σ568 eσ568 => ?_)
  replace hf570 := lt_of hf570 σ568 eσ568
  have m592 : hN σ545 ≤ hN σ568 := by rw [eσ568]; exact Nat.le_refl _
  have h572 : isO σ568 10 n5 := by rw [eσ568]; exact h548
  have h573 : isO σ568 6 a0 := by rw [eσ568]; exact h549
  have h574 : isO σ568 10 n19 := by rw [eσ568]; exact h550
  have h575 : isO σ568 10 n34 := by rw [eσ568]; exact h551
  have h576 : isO σ568 10 n51 := by rw [eσ568]; exact h552
  have h577 : isO σ568 10 n70 := by rw [eσ568]; exact h553
  have h578 : isO σ568 10 n91 := by rw [eσ568]; exact h554
  have h579 : isO σ568 10 n114 := by rw [eσ568]; exact h555
  have h580 : isO σ568 10 n139 := by rw [eσ568]; exact h556
  have h581 : isO σ568 10 n166 := by rw [eσ568]; exact h557
  have h582 : isO σ568 10 n195 := by rw [eσ568]; exact h558
  have h583 : isO σ568 10 n226 := by rw [eσ568]; exact h559
  have h584 : isO σ568 10 n259 := by rw [eσ568]; exact h560
  have h585 : isO σ568 10 n294 := by rw [eσ568]; exact h561
  have h586 : isO σ568 10 n331 := by rw [eσ568]; exact h562
  have h587 : isO σ568 10 n370 := by rw [eσ568]; exact h563
  have h588 : isO σ568 12 n411 := by rw [eσ568]; exact h564
  have h589 : isO σ568 12 n454 := by rw [eσ568]; exact h565
  have h590 : isO σ568 11 n499 := by rw [eσ568]; exact h566
  have h591 : isO σ568 10 n546 := by rw [eσ568]; exact h567
  refine j_aload_n X dX6_init_164 0 rfl rfl ?_
  refine j_bipush X (v := 60) dX6_init_165 (by decide) ?_
  refine j_newal X (b := 60) (by decide) (by decide) ⟨Nat.le_of_ble_eq_true rfl, Nat.le_of_ble_eq_true rfl⟩ dX6_init_167 (fun q593 σ594 n595 hq593 eσ594 en595 => ?_)
  replace hf570 := lt_of hf570 n595 en595
  replace hf570 := lt_of hf570 σ594 eσ594
  have m596 : hN σ594 = hN σ568 + 1 := by rw [eσ594]; rfl
  rw [← hq593 a0 h573.1]
  have h597 : isO σ594 10 n5 := isO_nw eσ594 h572
  have h598 : isO σ594 6 a0 := isO_nw eσ594 h573
  have h599 : isO σ594 10 n19 := isO_nw eσ594 h574
  have h600 : isO σ594 10 n34 := isO_nw eσ594 h575
  have h601 : isO σ594 10 n51 := isO_nw eσ594 h576
  have h602 : isO σ594 10 n70 := isO_nw eσ594 h577
  have h603 : isO σ594 10 n91 := isO_nw eσ594 h578
  have h604 : isO σ594 10 n114 := isO_nw eσ594 h579
  have h605 : isO σ594 10 n139 := isO_nw eσ594 h580
  have h606 : isO σ594 10 n166 := isO_nw eσ594 h581
  have h607 : isO σ594 10 n195 := isO_nw eσ594 h582
  have h608 : isO σ594 10 n226 := isO_nw eσ594 h583
  have h609 : isO σ594 10 n259 := isO_nw eσ594 h584
  have h610 : isO σ594 10 n294 := isO_nw eσ594 h585
  have h611 : isO σ594 10 n331 := isO_nw eσ594 h586
  have h612 : isO σ594 10 n370 := isO_nw eσ594 h587
  have h613 : isO σ594 12 n411 := isO_nw eσ594 h588
  have h614 : isO σ594 12 n454 := isO_nw eσ594 h589
  have h615 : isO σ594 11 n499 := isO_nw eσ594 h590
  have h616 : isO σ594 10 n546 := isO_nw eσ594 h591
  have h617 : isO σ594 12 n595 := isO_nw0 eσ594 en595
  obtain ⟨h619, hf620⟩ := chk_of hf570; clear hf570
  refine j_putrF X fp_X6_71 h598 h619 rfl (hin rfl) rfl dX6_init_169 (fun σ618 eσ618 => ?_)
  replace hf620 := lt_of hf620 σ618 eσ618
  have m643 : hN σ594 ≤ hN σ618 := by rw [eσ618]; exact Nat.le_refl _
  have h622 : isO σ618 10 n5 := by rw [eσ618]; exact h597
  have h623 : isO σ618 6 a0 := by rw [eσ618]; exact h598
  have h624 : isO σ618 10 n19 := by rw [eσ618]; exact h599
  have h625 : isO σ618 10 n34 := by rw [eσ618]; exact h600
  have h626 : isO σ618 10 n51 := by rw [eσ618]; exact h601
  have h627 : isO σ618 10 n70 := by rw [eσ618]; exact h602
  have h628 : isO σ618 10 n91 := by rw [eσ618]; exact h603
  have h629 : isO σ618 10 n114 := by rw [eσ618]; exact h604
  have h630 : isO σ618 10 n139 := by rw [eσ618]; exact h605
  have h631 : isO σ618 10 n166 := by rw [eσ618]; exact h606
  have h632 : isO σ618 10 n195 := by rw [eσ618]; exact h607
  have h633 : isO σ618 10 n226 := by rw [eσ618]; exact h608
  have h634 : isO σ618 10 n259 := by rw [eσ618]; exact h609
  have h635 : isO σ618 10 n294 := by rw [eσ618]; exact h610
  have h636 : isO σ618 10 n331 := by rw [eσ618]; exact h611
  have h637 : isO σ618 10 n370 := by rw [eσ618]; exact h612
  have h638 : isO σ618 12 n411 := by rw [eσ618]; exact h613
  have h639 : isO σ618 12 n454 := by rw [eσ618]; exact h614
  have h640 : isO σ618 11 n499 := by rw [eσ618]; exact h615
  have h641 : isO σ618 10 n546 := by rw [eσ618]; exact h616
  have h642 : isO σ618 12 n595 := by rw [eσ618]; exact h617
  refine j_aload_n X dX6_init_172 0 rfl rfl ?_
  refine j_bipush X (v := 60) dX6_init_173 (by decide) ?_
  refine j_newal X (b := 60) (by decide) (by decide) ⟨Nat.le_of_ble_eq_true rfl, Nat.le_of_ble_eq_true rfl⟩ dX6_init_175 (fun q644 σ645 n646 hq644 eσ645 en646 => ?_)
  replace hf620 := lt_of hf620 n646 en646
  replace hf620 := lt_of hf620 σ645 eσ645
  have m647 : hN σ645 = hN σ618 + 1 := by rw [eσ645]; rfl
  rw [← hq644 a0 h623.1]
  have h648 : isO σ645 10 n5 := isO_nw eσ645 h622
  have h649 : isO σ645 6 a0 := isO_nw eσ645 h623
  have h650 : isO σ645 10 n19 := isO_nw eσ645 h624
  have h651 : isO σ645 10 n34 := isO_nw eσ645 h625
  have h652 : isO σ645 10 n51 := isO_nw eσ645 h626
  have h653 : isO σ645 10 n70 := isO_nw eσ645 h627
  have h654 : isO σ645 10 n91 := isO_nw eσ645 h628
  have h655 : isO σ645 10 n114 := isO_nw eσ645 h629
  have h656 : isO σ645 10 n139 := isO_nw eσ645 h630
  have h657 : isO σ645 10 n166 := isO_nw eσ645 h631
  have h658 : isO σ645 10 n195 := isO_nw eσ645 h632
  have h659 : isO σ645 10 n226 := isO_nw eσ645 h633
  have h660 : isO σ645 10 n259 := isO_nw eσ645 h634
  have h661 : isO σ645 10 n294 := isO_nw eσ645 h635
  have h662 : isO σ645 10 n331 := isO_nw eσ645 h636
  have h663 : isO σ645 10 n370 := isO_nw eσ645 h637
  have h664 : isO σ645 12 n411 := isO_nw eσ645 h638
  have h665 : isO σ645 12 n454 := isO_nw eσ645 h639
  have h666 : isO σ645 11 n499 := isO_nw eσ645 h640
  have h667 : isO σ645 10 n546 := isO_nw eσ645 h641
  have h668 : isO σ645 12 n595 := isO_nw eσ645 h642
  have h669 : isO σ645 12 n646 := isO_nw0 eσ645 en646
  obtain ⟨h671, hf672⟩ := chk_of hf620; clear hf620
  refine j_putrF X fp_X6_74 h649 h671 rfl (hin rfl) rfl dX6_init_177 (fun σ670 eσ670 => ?_)
  replace hf672 := lt_of hf672 σ670 eσ670
  have m696 : hN σ645 ≤ hN σ670 := by rw [eσ670]; exact Nat.le_refl _
  have h674 : isO σ670 10 n5 := by rw [eσ670]; exact h648
  have h675 : isO σ670 6 a0 := by rw [eσ670]; exact h649
  have h676 : isO σ670 10 n19 := by rw [eσ670]; exact h650
  have h677 : isO σ670 10 n34 := by rw [eσ670]; exact h651
  have h678 : isO σ670 10 n51 := by rw [eσ670]; exact h652
  have h679 : isO σ670 10 n70 := by rw [eσ670]; exact h653
  have h680 : isO σ670 10 n91 := by rw [eσ670]; exact h654
  have h681 : isO σ670 10 n114 := by rw [eσ670]; exact h655
  have h682 : isO σ670 10 n139 := by rw [eσ670]; exact h656
  have h683 : isO σ670 10 n166 := by rw [eσ670]; exact h657
  have h684 : isO σ670 10 n195 := by rw [eσ670]; exact h658
  have h685 : isO σ670 10 n226 := by rw [eσ670]; exact h659
  have h686 : isO σ670 10 n259 := by rw [eσ670]; exact h660
  have h687 : isO σ670 10 n294 := by rw [eσ670]; exact h661
  have h688 : isO σ670 10 n331 := by rw [eσ670]; exact h662
  have h689 : isO σ670 10 n370 := by rw [eσ670]; exact h663
  have h690 : isO σ670 12 n411 := by rw [eσ670]; exact h664
  have h691 : isO σ670 12 n454 := by rw [eσ670]; exact h665
  have h692 : isO σ670 11 n499 := by rw [eσ670]; exact h666
  have h693 : isO σ670 10 n546 := by rw [eσ670]; exact h667
  have h694 : isO σ670 12 n595 := by rw [eσ670]; exact h668
  have h695 : isO σ670 12 n646 := by rw [eσ670]; exact h669
  refine j_aload_n X dX6_init_180 0 rfl rfl ?_
  refine j_bipush X (v := 6) dX6_init_181 (by decide) ?_
  refine j_newai X (b := 6) (by decide) (by decide) ⟨Nat.le_of_ble_eq_true rfl, Nat.le_of_ble_eq_true rfl⟩ dX6_init_183 (fun q697 σ698 n699 hq697 eσ698 en699 => ?_)
  replace hf672 := lt_of hf672 n699 en699
  replace hf672 := lt_of hf672 σ698 eσ698
  have m700 : hN σ698 = hN σ670 + 1 := by rw [eσ698]; rfl
  rw [← hq697 a0 h675.1]
  have h701 : isO σ698 10 n5 := isO_nw eσ698 h674
  have h702 : isO σ698 6 a0 := isO_nw eσ698 h675
  have h703 : isO σ698 10 n19 := isO_nw eσ698 h676
  have h704 : isO σ698 10 n34 := isO_nw eσ698 h677
  have h705 : isO σ698 10 n51 := isO_nw eσ698 h678
  have h706 : isO σ698 10 n70 := isO_nw eσ698 h679
  have h707 : isO σ698 10 n91 := isO_nw eσ698 h680
  have h708 : isO σ698 10 n114 := isO_nw eσ698 h681
  have h709 : isO σ698 10 n139 := isO_nw eσ698 h682
  have h710 : isO σ698 10 n166 := isO_nw eσ698 h683
  have h711 : isO σ698 10 n195 := isO_nw eσ698 h684
  have h712 : isO σ698 10 n226 := isO_nw eσ698 h685
  have h713 : isO σ698 10 n259 := isO_nw eσ698 h686
  have h714 : isO σ698 10 n294 := isO_nw eσ698 h687
  have h715 : isO σ698 10 n331 := isO_nw eσ698 h688
  have h716 : isO σ698 10 n370 := isO_nw eσ698 h689
  have h717 : isO σ698 12 n411 := isO_nw eσ698 h690
  have h718 : isO σ698 12 n454 := isO_nw eσ698 h691
  have h719 : isO σ698 11 n499 := isO_nw eσ698 h692
  have h720 : isO σ698 10 n546 := isO_nw eσ698 h693
  have h721 : isO σ698 12 n595 := isO_nw eσ698 h694
  have h722 : isO σ698 12 n646 := isO_nw eσ698 h695
  have h723 : isO σ698 10 n699 := isO_nw0 eσ698 en699
  obtain ⟨h725, hf726⟩ := chk_of hf672; clear hf672
  refine j_putrF X fp_X6_77 h702 h725 rfl (hin rfl) rfl dX6_init_185 (fun σ724 eσ724 => ?_)
  replace hf726 := lt_of hf726 σ724 eσ724
  have m751 : hN σ698 ≤ hN σ724 := by rw [eσ724]; exact Nat.le_refl _
  have h728 : isO σ724 10 n5 := by rw [eσ724]; exact h701
  have h729 : isO σ724 6 a0 := by rw [eσ724]; exact h702
  have h730 : isO σ724 10 n19 := by rw [eσ724]; exact h703
  have h731 : isO σ724 10 n34 := by rw [eσ724]; exact h704
  have h732 : isO σ724 10 n51 := by rw [eσ724]; exact h705
  have h733 : isO σ724 10 n70 := by rw [eσ724]; exact h706
  have h734 : isO σ724 10 n91 := by rw [eσ724]; exact h707
  have h735 : isO σ724 10 n114 := by rw [eσ724]; exact h708
  have h736 : isO σ724 10 n139 := by rw [eσ724]; exact h709
  have h737 : isO σ724 10 n166 := by rw [eσ724]; exact h710
  have h738 : isO σ724 10 n195 := by rw [eσ724]; exact h711
  have h739 : isO σ724 10 n226 := by rw [eσ724]; exact h712
  have h740 : isO σ724 10 n259 := by rw [eσ724]; exact h713
  have h741 : isO σ724 10 n294 := by rw [eσ724]; exact h714
  have h742 : isO σ724 10 n331 := by rw [eσ724]; exact h715
  have h743 : isO σ724 10 n370 := by rw [eσ724]; exact h716
  have h744 : isO σ724 12 n411 := by rw [eσ724]; exact h717
  have h745 : isO σ724 12 n454 := by rw [eσ724]; exact h718
  have h746 : isO σ724 11 n499 := by rw [eσ724]; exact h719
  have h747 : isO σ724 10 n546 := by rw [eσ724]; exact h720
  have h748 : isO σ724 12 n595 := by rw [eσ724]; exact h721
  have h749 : isO σ724 12 n646 := by rw [eσ724]; exact h722
  have h750 : isO σ724 10 n699 := by rw [eσ724]; exact h723
  refine j_aload_n X dX6_init_188 0 rfl rfl ?_
  refine j_bipush X (v := 24) dX6_init_189 (by decide) ?_
  refine j_newai X (b := 24) (by decide) (by decide) ⟨Nat.le_of_ble_eq_true rfl, Nat.le_of_ble_eq_true rfl⟩ dX6_init_191 (fun q752 σ753 n754 hq752 eσ753 en754 => ?_)
  replace hf726 := lt_of hf726 n754 en754
  replace hf726 := lt_of hf726 σ753 eσ753
  have m755 : hN σ753 = hN σ724 + 1 := by rw [eσ753]; rfl
  rw [← hq752 a0 h729.1]
  have h756 : isO σ753 10 n5 := isO_nw eσ753 h728
  have h757 : isO σ753 6 a0 := isO_nw eσ753 h729
  have h758 : isO σ753 10 n19 := isO_nw eσ753 h730
  have h759 : isO σ753 10 n34 := isO_nw eσ753 h731
  have h760 : isO σ753 10 n51 := isO_nw eσ753 h732
  have h761 : isO σ753 10 n70 := isO_nw eσ753 h733
  have h762 : isO σ753 10 n91 := isO_nw eσ753 h734
  have h763 : isO σ753 10 n114 := isO_nw eσ753 h735
  have h764 : isO σ753 10 n139 := isO_nw eσ753 h736
  have h765 : isO σ753 10 n166 := isO_nw eσ753 h737
  have h766 : isO σ753 10 n195 := isO_nw eσ753 h738
  have h767 : isO σ753 10 n226 := isO_nw eσ753 h739
  have h768 : isO σ753 10 n259 := isO_nw eσ753 h740
  have h769 : isO σ753 10 n294 := isO_nw eσ753 h741
  have h770 : isO σ753 10 n331 := isO_nw eσ753 h742
  have h771 : isO σ753 10 n370 := isO_nw eσ753 h743
  have h772 : isO σ753 12 n411 := isO_nw eσ753 h744
  have h773 : isO σ753 12 n454 := isO_nw eσ753 h745
  have h774 : isO σ753 11 n499 := isO_nw eσ753 h746
  have h775 : isO σ753 10 n546 := isO_nw eσ753 h747
  have h776 : isO σ753 12 n595 := isO_nw eσ753 h748
  have h777 : isO σ753 12 n646 := isO_nw eσ753 h749
  have h778 : isO σ753 10 n699 := isO_nw eσ753 h750
  have h779 : isO σ753 10 n754 := isO_nw0 eσ753 en754
  obtain ⟨h781, hf782⟩ := chk_of hf726; clear hf726
  refine j_putrF X fp_X6_80 h757 h781 rfl (hin rfl) rfl dX6_init_193 (fun σ780 eσ780 => ?_)
  replace hf782 := lt_of hf782 σ780 eσ780
  have m808 : hN σ753 ≤ hN σ780 := by rw [eσ780]; exact Nat.le_refl _
  have h784 : isO σ780 10 n5 := by rw [eσ780]; exact h756
  have h785 : isO σ780 6 a0 := by rw [eσ780]; exact h757
  have h786 : isO σ780 10 n19 := by rw [eσ780]; exact h758
  have h787 : isO σ780 10 n34 := by rw [eσ780]; exact h759
  have h788 : isO σ780 10 n51 := by rw [eσ780]; exact h760
  have h789 : isO σ780 10 n70 := by rw [eσ780]; exact h761
  have h790 : isO σ780 10 n91 := by rw [eσ780]; exact h762
  have h791 : isO σ780 10 n114 := by rw [eσ780]; exact h763
  have h792 : isO σ780 10 n139 := by rw [eσ780]; exact h764
  have h793 : isO σ780 10 n166 := by rw [eσ780]; exact h765
  have h794 : isO σ780 10 n195 := by rw [eσ780]; exact h766
  have h795 : isO σ780 10 n226 := by rw [eσ780]; exact h767
  have h796 : isO σ780 10 n259 := by rw [eσ780]; exact h768
  have h797 : isO σ780 10 n294 := by rw [eσ780]; exact h769
  have h798 : isO σ780 10 n331 := by rw [eσ780]; exact h770
  have h799 : isO σ780 10 n370 := by rw [eσ780]; exact h771
  have h800 : isO σ780 12 n411 := by rw [eσ780]; exact h772
  have h801 : isO σ780 12 n454 := by rw [eσ780]; exact h773
  have h802 : isO σ780 11 n499 := by rw [eσ780]; exact h774
  have h803 : isO σ780 10 n546 := by rw [eσ780]; exact h775
  have h804 : isO σ780 12 n595 := by rw [eσ780]; exact h776
  have h805 : isO σ780 12 n646 := by rw [eσ780]; exact h777
  have h806 : isO σ780 10 n699 := by rw [eσ780]; exact h778
  have h807 : isO σ780 10 n754 := by rw [eσ780]; exact h779
  refine j_aload_n X dX6_init_196 0 rfl rfl ?_
  refine j_bipush X (v := 24) dX6_init_197 (by decide) ?_
  refine j_newai X (b := 24) (by decide) (by decide) ⟨Nat.le_of_ble_eq_true rfl, Nat.le_of_ble_eq_true rfl⟩ dX6_init_199 (fun q809 σ810 n811 hq809 eσ810 en811 => ?_)
  replace hf782 := lt_of hf782 n811 en811
  replace hf782 := lt_of hf782 σ810 eσ810
  have m812 : hN σ810 = hN σ780 + 1 := by rw [eσ810]; rfl
  rw [← hq809 a0 h785.1]
  have h813 : isO σ810 10 n5 := isO_nw eσ810 h784
  have h814 : isO σ810 6 a0 := isO_nw eσ810 h785
  have h815 : isO σ810 10 n19 := isO_nw eσ810 h786
  have h816 : isO σ810 10 n34 := isO_nw eσ810 h787
  have h817 : isO σ810 10 n51 := isO_nw eσ810 h788
  have h818 : isO σ810 10 n70 := isO_nw eσ810 h789
  have h819 : isO σ810 10 n91 := isO_nw eσ810 h790
  have h820 : isO σ810 10 n114 := isO_nw eσ810 h791
  have h821 : isO σ810 10 n139 := isO_nw eσ810 h792
  have h822 : isO σ810 10 n166 := isO_nw eσ810 h793
  have h823 : isO σ810 10 n195 := isO_nw eσ810 h794
  have h824 : isO σ810 10 n226 := isO_nw eσ810 h795
  have h825 : isO σ810 10 n259 := isO_nw eσ810 h796
  have h826 : isO σ810 10 n294 := isO_nw eσ810 h797
  have h827 : isO σ810 10 n331 := isO_nw eσ810 h798
  have h828 : isO σ810 10 n370 := isO_nw eσ810 h799
  have h829 : isO σ810 12 n411 := isO_nw eσ810 h800
  have h830 : isO σ810 12 n454 := isO_nw eσ810 h801
  have h831 : isO σ810 11 n499 := isO_nw eσ810 h802
  have h832 : isO σ810 10 n546 := isO_nw eσ810 h803
  have h833 : isO σ810 12 n595 := isO_nw eσ810 h804
  have h834 : isO σ810 12 n646 := isO_nw eσ810 h805
  have h835 : isO σ810 10 n699 := isO_nw eσ810 h806
  have h836 : isO σ810 10 n754 := isO_nw eσ810 h807
  have h837 : isO σ810 10 n811 := isO_nw0 eσ810 en811
  obtain ⟨h839, hf840⟩ := chk_of hf782; clear hf782
  refine j_putrF X fp_X6_83 h814 h839 rfl (hin rfl) rfl dX6_init_201 (fun σ838 eσ838 => ?_)
  replace hf840 := lt_of hf840 σ838 eσ838
  have m867 : hN σ810 ≤ hN σ838 := by rw [eσ838]; exact Nat.le_refl _
  have h842 : isO σ838 10 n5 := by rw [eσ838]; exact h813
  have h843 : isO σ838 6 a0 := by rw [eσ838]; exact h814
  have h844 : isO σ838 10 n19 := by rw [eσ838]; exact h815
  have h845 : isO σ838 10 n34 := by rw [eσ838]; exact h816
  have h846 : isO σ838 10 n51 := by rw [eσ838]; exact h817
  have h847 : isO σ838 10 n70 := by rw [eσ838]; exact h818
  have h848 : isO σ838 10 n91 := by rw [eσ838]; exact h819
  have h849 : isO σ838 10 n114 := by rw [eσ838]; exact h820
  have h850 : isO σ838 10 n139 := by rw [eσ838]; exact h821
  have h851 : isO σ838 10 n166 := by rw [eσ838]; exact h822
  have h852 : isO σ838 10 n195 := by rw [eσ838]; exact h823
  have h853 : isO σ838 10 n226 := by rw [eσ838]; exact h824
  have h854 : isO σ838 10 n259 := by rw [eσ838]; exact h825
  have h855 : isO σ838 10 n294 := by rw [eσ838]; exact h826
  have h856 : isO σ838 10 n331 := by rw [eσ838]; exact h827
  have h857 : isO σ838 10 n370 := by rw [eσ838]; exact h828
  have h858 : isO σ838 12 n411 := by rw [eσ838]; exact h829
  have h859 : isO σ838 12 n454 := by rw [eσ838]; exact h830
  have h860 : isO σ838 11 n499 := by rw [eσ838]; exact h831
  have h861 : isO σ838 10 n546 := by rw [eσ838]; exact h832
  have h862 : isO σ838 12 n595 := by rw [eσ838]; exact h833
  have h863 : isO σ838 12 n646 := by rw [eσ838]; exact h834
  have h864 : isO σ838 10 n699 := by rw [eσ838]; exact h835
  have h865 : isO σ838 10 n754 := by rw [eσ838]; exact h836
  have h866 : isO σ838 10 n811 := by rw [eσ838]; exact h837
  refine j_aload_n X dX6_init_204 0 rfl rfl ?_
  refine j_bipush X (v := 18) dX6_init_205 (by decide) ?_
  refine j_newai X (b := 18) (by decide) (by decide) ⟨Nat.le_of_ble_eq_true rfl, Nat.le_of_ble_eq_true rfl⟩ dX6_init_207 (fun q868 σ869 n870 hq868 eσ869 en870 => ?_)
  replace hf840 := lt_of hf840 n870 en870
  replace hf840 := lt_of hf840 σ869 eσ869
  have m871 : hN σ869 = hN σ838 + 1 := by rw [eσ869]; rfl
  rw [← hq868 a0 h843.1]
  have h872 : isO σ869 10 n5 := isO_nw eσ869 h842
  have h873 : isO σ869 6 a0 := isO_nw eσ869 h843
  have h874 : isO σ869 10 n19 := isO_nw eσ869 h844
  have h875 : isO σ869 10 n34 := isO_nw eσ869 h845
  have h876 : isO σ869 10 n51 := isO_nw eσ869 h846
  have h877 : isO σ869 10 n70 := isO_nw eσ869 h847
  have h878 : isO σ869 10 n91 := isO_nw eσ869 h848
  have h879 : isO σ869 10 n114 := isO_nw eσ869 h849
  have h880 : isO σ869 10 n139 := isO_nw eσ869 h850
  have h881 : isO σ869 10 n166 := isO_nw eσ869 h851
  have h882 : isO σ869 10 n195 := isO_nw eσ869 h852
  have h883 : isO σ869 10 n226 := isO_nw eσ869 h853
  have h884 : isO σ869 10 n259 := isO_nw eσ869 h854
  have h885 : isO σ869 10 n294 := isO_nw eσ869 h855
  have h886 : isO σ869 10 n331 := isO_nw eσ869 h856
  have h887 : isO σ869 10 n370 := isO_nw eσ869 h857
  have h888 : isO σ869 12 n411 := isO_nw eσ869 h858
  have h889 : isO σ869 12 n454 := isO_nw eσ869 h859
  have h890 : isO σ869 11 n499 := isO_nw eσ869 h860
  have h891 : isO σ869 10 n546 := isO_nw eσ869 h861
  have h892 : isO σ869 12 n595 := isO_nw eσ869 h862
  have h893 : isO σ869 12 n646 := isO_nw eσ869 h863
  have h894 : isO σ869 10 n699 := isO_nw eσ869 h864
  have h895 : isO σ869 10 n754 := isO_nw eσ869 h865
  have h896 : isO σ869 10 n811 := isO_nw eσ869 h866
  have h897 : isO σ869 10 n870 := isO_nw0 eσ869 en870
  obtain ⟨h899, hf900⟩ := chk_of hf840; clear hf840
  refine j_putrF X fp_X6_86 h873 h899 rfl (hin rfl) rfl dX6_init_209 (fun σ898 eσ898 => ?_)
  replace hf900 := lt_of hf900 σ898 eσ898
  have m928 : hN σ869 ≤ hN σ898 := by rw [eσ898]; exact Nat.le_refl _
  have h902 : isO σ898 10 n5 := by rw [eσ898]; exact h872
  have h903 : isO σ898 6 a0 := by rw [eσ898]; exact h873
  have h904 : isO σ898 10 n19 := by rw [eσ898]; exact h874
  have h905 : isO σ898 10 n34 := by rw [eσ898]; exact h875
  have h906 : isO σ898 10 n51 := by rw [eσ898]; exact h876
  have h907 : isO σ898 10 n70 := by rw [eσ898]; exact h877
  have h908 : isO σ898 10 n91 := by rw [eσ898]; exact h878
  have h909 : isO σ898 10 n114 := by rw [eσ898]; exact h879
  have h910 : isO σ898 10 n139 := by rw [eσ898]; exact h880
  have h911 : isO σ898 10 n166 := by rw [eσ898]; exact h881
  have h912 : isO σ898 10 n195 := by rw [eσ898]; exact h882
  have h913 : isO σ898 10 n226 := by rw [eσ898]; exact h883
  have h914 : isO σ898 10 n259 := by rw [eσ898]; exact h884
  have h915 : isO σ898 10 n294 := by rw [eσ898]; exact h885
  have h916 : isO σ898 10 n331 := by rw [eσ898]; exact h886
  have h917 : isO σ898 10 n370 := by rw [eσ898]; exact h887
  have h918 : isO σ898 12 n411 := by rw [eσ898]; exact h888
  have h919 : isO σ898 12 n454 := by rw [eσ898]; exact h889
  have h920 : isO σ898 11 n499 := by rw [eσ898]; exact h890
  have h921 : isO σ898 10 n546 := by rw [eσ898]; exact h891
  have h922 : isO σ898 12 n595 := by rw [eσ898]; exact h892
  have h923 : isO σ898 12 n646 := by rw [eσ898]; exact h893
  have h924 : isO σ898 10 n699 := by rw [eσ898]; exact h894
  have h925 : isO σ898 10 n754 := by rw [eσ898]; exact h895
  have h926 : isO σ898 10 n811 := by rw [eσ898]; exact h896
  have h927 : isO σ898 10 n870 := by rw [eσ898]; exact h897
  refine j_aload_n X dX6_init_212 0 rfl rfl ?_
  refine j_iconst X (v := 4) dX6_init_213 (by decide) ?_
  refine j_newai X (b := 4) (by decide) (by decide) ⟨Nat.le_of_ble_eq_true rfl, Nat.le_of_ble_eq_true rfl⟩ dX6_init_214 (fun q929 σ930 n931 hq929 eσ930 en931 => ?_)
  replace hf900 := lt_of hf900 n931 en931
  replace hf900 := lt_of hf900 σ930 eσ930
  have m932 : hN σ930 = hN σ898 + 1 := by rw [eσ930]; rfl
  rw [← hq929 a0 h903.1]
  have h933 : isO σ930 10 n5 := isO_nw eσ930 h902
  have h934 : isO σ930 6 a0 := isO_nw eσ930 h903
  have h935 : isO σ930 10 n19 := isO_nw eσ930 h904
  have h936 : isO σ930 10 n34 := isO_nw eσ930 h905
  have h937 : isO σ930 10 n51 := isO_nw eσ930 h906
  have h938 : isO σ930 10 n70 := isO_nw eσ930 h907
  have h939 : isO σ930 10 n91 := isO_nw eσ930 h908
  have h940 : isO σ930 10 n114 := isO_nw eσ930 h909
  have h941 : isO σ930 10 n139 := isO_nw eσ930 h910
  have h942 : isO σ930 10 n166 := isO_nw eσ930 h911
  have h943 : isO σ930 10 n195 := isO_nw eσ930 h912
  have h944 : isO σ930 10 n226 := isO_nw eσ930 h913
  have h945 : isO σ930 10 n259 := isO_nw eσ930 h914
  have h946 : isO σ930 10 n294 := isO_nw eσ930 h915
  have h947 : isO σ930 10 n331 := isO_nw eσ930 h916
  have h948 : isO σ930 10 n370 := isO_nw eσ930 h917
  have h949 : isO σ930 12 n411 := isO_nw eσ930 h918
  have h950 : isO σ930 12 n454 := isO_nw eσ930 h919
  have h951 : isO σ930 11 n499 := isO_nw eσ930 h920
  have h952 : isO σ930 10 n546 := isO_nw eσ930 h921
  have h953 : isO σ930 12 n595 := isO_nw eσ930 h922
  have h954 : isO σ930 12 n646 := isO_nw eσ930 h923
  have h955 : isO σ930 10 n699 := isO_nw eσ930 h924
  have h956 : isO σ930 10 n754 := isO_nw eσ930 h925
  have h957 : isO σ930 10 n811 := isO_nw eσ930 h926
  have h958 : isO σ930 10 n870 := isO_nw eσ930 h927
  have h959 : isO σ930 10 n931 := isO_nw0 eσ930 en931
  refine j_dup X dX6_init_216 rfl ?_
  refine j_iconst X (v := 0) dX6_init_217 (by decide) ?_
  refine j_iconst X (v := -1) dX6_init_218 (by decide) ?_
  obtain ⟨h960, hf961⟩ := chk_of hf900; clear hf900
  refine j_iast X h960 dX6_init_219 (fun σ962 eσ962 => ?_)
  replace hf961 := lt_of hf961 σ962 eσ962
  have m991 : hN σ930 ≤ hN σ962 := by rw [eσ962]; exact Nat.le_refl _
  have h964 : isO σ962 10 n5 := by rw [eσ962]; exact h933
  have h965 : isO σ962 6 a0 := by rw [eσ962]; exact h934
  have h966 : isO σ962 10 n19 := by rw [eσ962]; exact h935
  have h967 : isO σ962 10 n34 := by rw [eσ962]; exact h936
  have h968 : isO σ962 10 n51 := by rw [eσ962]; exact h937
  have h969 : isO σ962 10 n70 := by rw [eσ962]; exact h938
  have h970 : isO σ962 10 n91 := by rw [eσ962]; exact h939
  have h971 : isO σ962 10 n114 := by rw [eσ962]; exact h940
  have h972 : isO σ962 10 n139 := by rw [eσ962]; exact h941
  have h973 : isO σ962 10 n166 := by rw [eσ962]; exact h942
  have h974 : isO σ962 10 n195 := by rw [eσ962]; exact h943
  have h975 : isO σ962 10 n226 := by rw [eσ962]; exact h944
  have h976 : isO σ962 10 n259 := by rw [eσ962]; exact h945
  have h977 : isO σ962 10 n294 := by rw [eσ962]; exact h946
  have h978 : isO σ962 10 n331 := by rw [eσ962]; exact h947
  have h979 : isO σ962 10 n370 := by rw [eσ962]; exact h948
  have h980 : isO σ962 12 n411 := by rw [eσ962]; exact h949
  have h981 : isO σ962 12 n454 := by rw [eσ962]; exact h950
  have h982 : isO σ962 11 n499 := by rw [eσ962]; exact h951
  have h983 : isO σ962 10 n546 := by rw [eσ962]; exact h952
  have h984 : isO σ962 12 n595 := by rw [eσ962]; exact h953
  have h985 : isO σ962 12 n646 := by rw [eσ962]; exact h954
  have h986 : isO σ962 10 n699 := by rw [eσ962]; exact h955
  have h987 : isO σ962 10 n754 := by rw [eσ962]; exact h956
  have h988 : isO σ962 10 n811 := by rw [eσ962]; exact h957
  have h989 : isO σ962 10 n870 := by rw [eσ962]; exact h958
  have h990 : isO σ962 10 n931 := by rw [eσ962]; exact h959
  refine j_dup X dX6_init_220 rfl ?_
  refine j_iconst X (v := 1) dX6_init_221 (by decide) ?_
  refine j_iconst X (v := -1) dX6_init_222 (by decide) ?_
  obtain ⟨h992, hf993⟩ := chk_of hf961; clear hf961
  refine j_iast X h992 dX6_init_223 (fun σ994 eσ994 => ?_)
  replace hf993 := lt_of hf993 σ994 eσ994
  have m1023 : hN σ962 ≤ hN σ994 := by rw [eσ994]; exact Nat.le_refl _
  have h996 : isO σ994 10 n5 := by rw [eσ994]; exact h964
  have h997 : isO σ994 6 a0 := by rw [eσ994]; exact h965
  have h998 : isO σ994 10 n19 := by rw [eσ994]; exact h966
  have h999 : isO σ994 10 n34 := by rw [eσ994]; exact h967
  have h1000 : isO σ994 10 n51 := by rw [eσ994]; exact h968
  have h1001 : isO σ994 10 n70 := by rw [eσ994]; exact h969
  have h1002 : isO σ994 10 n91 := by rw [eσ994]; exact h970
  have h1003 : isO σ994 10 n114 := by rw [eσ994]; exact h971
  have h1004 : isO σ994 10 n139 := by rw [eσ994]; exact h972
  have h1005 : isO σ994 10 n166 := by rw [eσ994]; exact h973
  have h1006 : isO σ994 10 n195 := by rw [eσ994]; exact h974
  have h1007 : isO σ994 10 n226 := by rw [eσ994]; exact h975
  have h1008 : isO σ994 10 n259 := by rw [eσ994]; exact h976
  have h1009 : isO σ994 10 n294 := by rw [eσ994]; exact h977
  have h1010 : isO σ994 10 n331 := by rw [eσ994]; exact h978
  have h1011 : isO σ994 10 n370 := by rw [eσ994]; exact h979
  have h1012 : isO σ994 12 n411 := by rw [eσ994]; exact h980
  have h1013 : isO σ994 12 n454 := by rw [eσ994]; exact h981
  have h1014 : isO σ994 11 n499 := by rw [eσ994]; exact h982
  have h1015 : isO σ994 10 n546 := by rw [eσ994]; exact h983
  have h1016 : isO σ994 12 n595 := by rw [eσ994]; exact h984
  have h1017 : isO σ994 12 n646 := by rw [eσ994]; exact h985
  have h1018 : isO σ994 10 n699 := by rw [eσ994]; exact h986
  have h1019 : isO σ994 10 n754 := by rw [eσ994]; exact h987
  have h1020 : isO σ994 10 n811 := by rw [eσ994]; exact h988
  have h1021 : isO σ994 10 n870 := by rw [eσ994]; exact h989
  have h1022 : isO σ994 10 n931 := by rw [eσ994]; exact h990
  refine j_dup X dX6_init_224 rfl ?_
  refine j_iconst X (v := 2) dX6_init_225 (by decide) ?_
  refine j_iconst X (v := -1) dX6_init_226 (by decide) ?_
  obtain ⟨h1024, hf1025⟩ := chk_of hf993; clear hf993
  refine j_iast X h1024 dX6_init_227 (fun σ1026 eσ1026 => ?_)
  replace hf1025 := lt_of hf1025 σ1026 eσ1026
  have m1055 : hN σ994 ≤ hN σ1026 := by rw [eσ1026]; exact Nat.le_refl _
  have h1028 : isO σ1026 10 n5 := by rw [eσ1026]; exact h996
  have h1029 : isO σ1026 6 a0 := by rw [eσ1026]; exact h997
  have h1030 : isO σ1026 10 n19 := by rw [eσ1026]; exact h998
  have h1031 : isO σ1026 10 n34 := by rw [eσ1026]; exact h999
  have h1032 : isO σ1026 10 n51 := by rw [eσ1026]; exact h1000
  have h1033 : isO σ1026 10 n70 := by rw [eσ1026]; exact h1001
  have h1034 : isO σ1026 10 n91 := by rw [eσ1026]; exact h1002
  have h1035 : isO σ1026 10 n114 := by rw [eσ1026]; exact h1003
  have h1036 : isO σ1026 10 n139 := by rw [eσ1026]; exact h1004
  have h1037 : isO σ1026 10 n166 := by rw [eσ1026]; exact h1005
  have h1038 : isO σ1026 10 n195 := by rw [eσ1026]; exact h1006
  have h1039 : isO σ1026 10 n226 := by rw [eσ1026]; exact h1007
  have h1040 : isO σ1026 10 n259 := by rw [eσ1026]; exact h1008
  have h1041 : isO σ1026 10 n294 := by rw [eσ1026]; exact h1009
  have h1042 : isO σ1026 10 n331 := by rw [eσ1026]; exact h1010
  have h1043 : isO σ1026 10 n370 := by rw [eσ1026]; exact h1011
  have h1044 : isO σ1026 12 n411 := by rw [eσ1026]; exact h1012
  have h1045 : isO σ1026 12 n454 := by rw [eσ1026]; exact h1013
  have h1046 : isO σ1026 11 n499 := by rw [eσ1026]; exact h1014
  have h1047 : isO σ1026 10 n546 := by rw [eσ1026]; exact h1015
  have h1048 : isO σ1026 12 n595 := by rw [eσ1026]; exact h1016
  have h1049 : isO σ1026 12 n646 := by rw [eσ1026]; exact h1017
  have h1050 : isO σ1026 10 n699 := by rw [eσ1026]; exact h1018
  have h1051 : isO σ1026 10 n754 := by rw [eσ1026]; exact h1019
  have h1052 : isO σ1026 10 n811 := by rw [eσ1026]; exact h1020
  have h1053 : isO σ1026 10 n870 := by rw [eσ1026]; exact h1021
  have h1054 : isO σ1026 10 n931 := by rw [eσ1026]; exact h1022
  refine j_dup X dX6_init_228 rfl ?_
  refine j_iconst X (v := 3) dX6_init_229 (by decide) ?_
  refine j_iconst X (v := -1) dX6_init_230 (by decide) ?_
  obtain ⟨h1056, hf1057⟩ := chk_of hf1025; clear hf1025
  refine j_iast X h1056 dX6_init_231 (fun σ1058 eσ1058 => ?_)
  replace hf1057 := lt_of hf1057 σ1058 eσ1058
  have m1087 : hN σ1026 ≤ hN σ1058 := by rw [eσ1058]; exact Nat.le_refl _
  have h1060 : isO σ1058 10 n5 := by rw [eσ1058]; exact h1028
  have h1061 : isO σ1058 6 a0 := by rw [eσ1058]; exact h1029
  have h1062 : isO σ1058 10 n19 := by rw [eσ1058]; exact h1030
  have h1063 : isO σ1058 10 n34 := by rw [eσ1058]; exact h1031
  have h1064 : isO σ1058 10 n51 := by rw [eσ1058]; exact h1032
  have h1065 : isO σ1058 10 n70 := by rw [eσ1058]; exact h1033
  have h1066 : isO σ1058 10 n91 := by rw [eσ1058]; exact h1034
  have h1067 : isO σ1058 10 n114 := by rw [eσ1058]; exact h1035
  have h1068 : isO σ1058 10 n139 := by rw [eσ1058]; exact h1036
  have h1069 : isO σ1058 10 n166 := by rw [eσ1058]; exact h1037
  have h1070 : isO σ1058 10 n195 := by rw [eσ1058]; exact h1038
  have h1071 : isO σ1058 10 n226 := by rw [eσ1058]; exact h1039
  have h1072 : isO σ1058 10 n259 := by rw [eσ1058]; exact h1040
  have h1073 : isO σ1058 10 n294 := by rw [eσ1058]; exact h1041
  have h1074 : isO σ1058 10 n331 := by rw [eσ1058]; exact h1042
  have h1075 : isO σ1058 10 n370 := by rw [eσ1058]; exact h1043
  have h1076 : isO σ1058 12 n411 := by rw [eσ1058]; exact h1044
  have h1077 : isO σ1058 12 n454 := by rw [eσ1058]; exact h1045
  have h1078 : isO σ1058 11 n499 := by rw [eσ1058]; exact h1046
  have h1079 : isO σ1058 10 n546 := by rw [eσ1058]; exact h1047
  have h1080 : isO σ1058 12 n595 := by rw [eσ1058]; exact h1048
  have h1081 : isO σ1058 12 n646 := by rw [eσ1058]; exact h1049
  have h1082 : isO σ1058 10 n699 := by rw [eσ1058]; exact h1050
  have h1083 : isO σ1058 10 n754 := by rw [eσ1058]; exact h1051
  have h1084 : isO σ1058 10 n811 := by rw [eσ1058]; exact h1052
  have h1085 : isO σ1058 10 n870 := by rw [eσ1058]; exact h1053
  have h1086 : isO σ1058 10 n931 := by rw [eσ1058]; exact h1054
  obtain ⟨h1089, hf1090⟩ := chk_of hf1057; clear hf1057
  refine j_putrF X fp_X6_89 h1061 h1089 rfl (hin rfl) rfl dX6_init_232 (fun σ1088 eσ1088 => ?_)
  replace hf1090 := lt_of hf1090 σ1088 eσ1088
  have m1119 : hN σ1058 ≤ hN σ1088 := by rw [eσ1088]; exact Nat.le_refl _
  have h1092 : isO σ1088 10 n5 := by rw [eσ1088]; exact h1060
  have h1093 : isO σ1088 6 a0 := by rw [eσ1088]; exact h1061
  have h1094 : isO σ1088 10 n19 := by rw [eσ1088]; exact h1062
  have h1095 : isO σ1088 10 n34 := by rw [eσ1088]; exact h1063
  have h1096 : isO σ1088 10 n51 := by rw [eσ1088]; exact h1064
  have h1097 : isO σ1088 10 n70 := by rw [eσ1088]; exact h1065
  have h1098 : isO σ1088 10 n91 := by rw [eσ1088]; exact h1066
  have h1099 : isO σ1088 10 n114 := by rw [eσ1088]; exact h1067
  have h1100 : isO σ1088 10 n139 := by rw [eσ1088]; exact h1068
  have h1101 : isO σ1088 10 n166 := by rw [eσ1088]; exact h1069
  have h1102 : isO σ1088 10 n195 := by rw [eσ1088]; exact h1070
  have h1103 : isO σ1088 10 n226 := by rw [eσ1088]; exact h1071
  have h1104 : isO σ1088 10 n259 := by rw [eσ1088]; exact h1072
  have h1105 : isO σ1088 10 n294 := by rw [eσ1088]; exact h1073
  have h1106 : isO σ1088 10 n331 := by rw [eσ1088]; exact h1074
  have h1107 : isO σ1088 10 n370 := by rw [eσ1088]; exact h1075
  have h1108 : isO σ1088 12 n411 := by rw [eσ1088]; exact h1076
  have h1109 : isO σ1088 12 n454 := by rw [eσ1088]; exact h1077
  have h1110 : isO σ1088 11 n499 := by rw [eσ1088]; exact h1078
  have h1111 : isO σ1088 10 n546 := by rw [eσ1088]; exact h1079
  have h1112 : isO σ1088 12 n595 := by rw [eσ1088]; exact h1080
  have h1113 : isO σ1088 12 n646 := by rw [eσ1088]; exact h1081
  have h1114 : isO σ1088 10 n699 := by rw [eσ1088]; exact h1082
  have h1115 : isO σ1088 10 n754 := by rw [eσ1088]; exact h1083
  have h1116 : isO σ1088 10 n811 := by rw [eσ1088]; exact h1084
  have h1117 : isO σ1088 10 n870 := by rw [eσ1088]; exact h1085
  have h1118 : isO σ1088 10 n931 := by rw [eσ1088]; exact h1086
  refine j_aload_n X dX6_init_235 0 rfl rfl ?_
  refine j_bipush X (v := 32) dX6_init_236 (by decide) ?_
  refine j_newal X (b := 32) (by decide) (by decide) ⟨Nat.le_of_ble_eq_true rfl, Nat.le_of_ble_eq_true rfl⟩ dX6_init_238 (fun q1120 σ1121 n1122 hq1120 eσ1121 en1122 => ?_)
  replace hf1090 := lt_of hf1090 n1122 en1122
  replace hf1090 := lt_of hf1090 σ1121 eσ1121
  have m1123 : hN σ1121 = hN σ1088 + 1 := by rw [eσ1121]; rfl
  rw [← hq1120 a0 h1093.1]
  have h1124 : isO σ1121 10 n5 := isO_nw eσ1121 h1092
  have h1125 : isO σ1121 6 a0 := isO_nw eσ1121 h1093
  have h1126 : isO σ1121 10 n19 := isO_nw eσ1121 h1094
  have h1127 : isO σ1121 10 n34 := isO_nw eσ1121 h1095
  have h1128 : isO σ1121 10 n51 := isO_nw eσ1121 h1096
  have h1129 : isO σ1121 10 n70 := isO_nw eσ1121 h1097
  have h1130 : isO σ1121 10 n91 := isO_nw eσ1121 h1098
  have h1131 : isO σ1121 10 n114 := isO_nw eσ1121 h1099
  have h1132 : isO σ1121 10 n139 := isO_nw eσ1121 h1100
  have h1133 : isO σ1121 10 n166 := isO_nw eσ1121 h1101
  have h1134 : isO σ1121 10 n195 := isO_nw eσ1121 h1102
  have h1135 : isO σ1121 10 n226 := isO_nw eσ1121 h1103
  have h1136 : isO σ1121 10 n259 := isO_nw eσ1121 h1104
  have h1137 : isO σ1121 10 n294 := isO_nw eσ1121 h1105
  have h1138 : isO σ1121 10 n331 := isO_nw eσ1121 h1106
  have h1139 : isO σ1121 10 n370 := isO_nw eσ1121 h1107
  have h1140 : isO σ1121 12 n411 := isO_nw eσ1121 h1108
  have h1141 : isO σ1121 12 n454 := isO_nw eσ1121 h1109
  have h1142 : isO σ1121 11 n499 := isO_nw eσ1121 h1110
  have h1143 : isO σ1121 10 n546 := isO_nw eσ1121 h1111
  have h1144 : isO σ1121 12 n595 := isO_nw eσ1121 h1112
  have h1145 : isO σ1121 12 n646 := isO_nw eσ1121 h1113
  have h1146 : isO σ1121 10 n699 := isO_nw eσ1121 h1114
  have h1147 : isO σ1121 10 n754 := isO_nw eσ1121 h1115
  have h1148 : isO σ1121 10 n811 := isO_nw eσ1121 h1116
  have h1149 : isO σ1121 10 n870 := isO_nw eσ1121 h1117
  have h1150 : isO σ1121 10 n931 := isO_nw eσ1121 h1118
  have h1151 : isO σ1121 12 n1122 := isO_nw0 eσ1121 en1122
  obtain ⟨h1153, hf1154⟩ := chk_of hf1090; clear hf1090
  refine j_putrF X fp_X6_92 h1125 h1153 rfl (hin rfl) rfl dX6_init_240 (fun σ1152 eσ1152 => ?_)
  replace hf1154 := lt_of hf1154 σ1152 eσ1152
  have m1184 : hN σ1121 ≤ hN σ1152 := by rw [eσ1152]; exact Nat.le_refl _
  have h1156 : isO σ1152 10 n5 := by rw [eσ1152]; exact h1124
  have h1157 : isO σ1152 6 a0 := by rw [eσ1152]; exact h1125
  have h1158 : isO σ1152 10 n19 := by rw [eσ1152]; exact h1126
  have h1159 : isO σ1152 10 n34 := by rw [eσ1152]; exact h1127
  have h1160 : isO σ1152 10 n51 := by rw [eσ1152]; exact h1128
  have h1161 : isO σ1152 10 n70 := by rw [eσ1152]; exact h1129
  have h1162 : isO σ1152 10 n91 := by rw [eσ1152]; exact h1130
  have h1163 : isO σ1152 10 n114 := by rw [eσ1152]; exact h1131
  have h1164 : isO σ1152 10 n139 := by rw [eσ1152]; exact h1132
  have h1165 : isO σ1152 10 n166 := by rw [eσ1152]; exact h1133
  have h1166 : isO σ1152 10 n195 := by rw [eσ1152]; exact h1134
  have h1167 : isO σ1152 10 n226 := by rw [eσ1152]; exact h1135
  have h1168 : isO σ1152 10 n259 := by rw [eσ1152]; exact h1136
  have h1169 : isO σ1152 10 n294 := by rw [eσ1152]; exact h1137
  have h1170 : isO σ1152 10 n331 := by rw [eσ1152]; exact h1138
  have h1171 : isO σ1152 10 n370 := by rw [eσ1152]; exact h1139
  have h1172 : isO σ1152 12 n411 := by rw [eσ1152]; exact h1140
  have h1173 : isO σ1152 12 n454 := by rw [eσ1152]; exact h1141
  have h1174 : isO σ1152 11 n499 := by rw [eσ1152]; exact h1142
  have h1175 : isO σ1152 10 n546 := by rw [eσ1152]; exact h1143
  have h1176 : isO σ1152 12 n595 := by rw [eσ1152]; exact h1144
  have h1177 : isO σ1152 12 n646 := by rw [eσ1152]; exact h1145
  have h1178 : isO σ1152 10 n699 := by rw [eσ1152]; exact h1146
  have h1179 : isO σ1152 10 n754 := by rw [eσ1152]; exact h1147
  have h1180 : isO σ1152 10 n811 := by rw [eσ1152]; exact h1148
  have h1181 : isO σ1152 10 n870 := by rw [eσ1152]; exact h1149
  have h1182 : isO σ1152 10 n931 := by rw [eσ1152]; exact h1150
  have h1183 : isO σ1152 12 n1122 := by rw [eσ1152]; exact h1151
  refine j_iconst X (v := 0) dX6_init_243 (by decide) ?_
  refine j_nmi (fun v1185 ev1185 => ?_)
  replace hf1154 := lt_of hf1154 v1185 ev1185
  refine j_istore_n X (lv' := [(1, .int v1185), (0, .ref (q1120 a0))]) dX6_init_244 rfl (by decide) rfl ?_
  refine j_lvsub [1, 0] (lv' := [(0, .ref (q1120 a0)), (1, .int v1185)]) rfl ?_
  exact L245 q1120 (fun j hj => by rw [hq1120 j (by omega), hq929 j (by omega), hq868 j (by omega), hq809 j (by omega), hq752 j (by omega), hq697 j (by omega), hq644 j (by omega), hq593 j (by omega), hq544 j (by omega), hq497 j (by omega), hq452 j (by omega), hq409 j (by omega), hq368 j (by omega), hq329 j (by omega), hq292 j (by omega), hq257 j (by omega), hq224 j (by omega), hq193 j (by omega), hq164 j (by omega), hq137 j (by omega), hq112 j (by omega), hq89 j (by omega), hq68 j (by omega), hq49 j (by omega), hq32 j (by omega), hq17 j (by omega), hq3 j (by omega)])  1000 a0 v1185 σ1152 (by omega) hf1154
abbrev rm_X5_init : Room := { frames := 3, cells := 48, slots := 1400, locals := 192 }
set_option maxHeartbeats 4000000 in
set_option maxRecDepth 100000 in
theorem c_X5_init (l : Launch) (D : va_G) (cs : Nat → ClassId) (q : Nat → Nat) (a0 : Nat) (σ σ0 : HS) (r0 : Unit) (hf0 : f_X5_init a0 σ = some (r0, σ0)) : MT l yX5_init (Cond.code yX5_init cX5_init 1 none :: lw_g) rm_X5_init D cs q σ σ0 [.ref (q a0)] (fun q1 => (∀ j : Nat, j < hN σ → q1 j = q j) ∧ hN σ ≤ hN σ0) (fun _ => none) 48 1400 := by
  unfold f_X5_init at hf0
  refine MT_of (cc := cX5_init) (lv0 := [(0, .ref (q a0))]) (by decide) (Nat.le_of_ble_eq_true rfl) rfl (fun p e s m args below meth c A X hr hlk hin => ?_)
  refine j_aload_n X dX5_init_0 0 rfl rfl ?_
  refine j_objInit X ml_X5_5 (Nat.le_of_ble_eq_true rfl) (Nat.le_of_ble_eq_true rfl) dX5_init_1 ?_
  refine j_aload_n X dX5_init_4 0 rfl rfl ?_
  obtain ⟨h1, hf2⟩ := chk_of hf0; clear hf0
  refine j_new X nf_X5_11 ⟨Nat.le_of_ble_eq_true rfl, Nat.le_of_ble_eq_true rfl⟩ dX5_init_5 (fun q3 σ4 n5 hq3 eσ4 en5 => ?_)
  replace hf2 := lt_of hf2 n5 en5
  replace hf2 := lt_of hf2 σ4 eσ4
  have m6 : hN σ4 = hN σ + 1 := by rw [eσ4]; rfl
  rw [← hq3 a0 h1]
  have h7 : isO σ4 2 n5 := isO_nw0 eσ4 en5
  refine j_dup X dX5_init_8 rfl ?_
  obtain ⟨h12, hf13⟩ := chk_of hf2; clear hf2
  obtain ⟨r8, σ9, h10, hf11⟩ := bc_of hf13; clear hf13
  refine j_callI X (As := []) (rest := [.ref (q3 n5), .ref (q3 a0)]) (c_X2_init l D cs q3 n5 σ4 _ _ h10) mk_X2_init mv_X2_init ml_X5_13 ⟨rfl, rfl⟩ ⟨Nat.le_of_ble_eq_true rfl, Nat.le_of_ble_eq_true rfl⟩ rfl (Nat.le_of_ble_eq_true rfl) ⟨Nat.le_of_ble_eq_true rfl, Nat.le_of_ble_eq_true rfl⟩ dX5_init_9 rfl (fun z => [.ref (q3 n5), .ref (q3 a0)]) (fun _ => rfl) (fun q14 hq14 => ?_)
  obtain ⟨hq14, m15⟩ := hq14
  rw [← hq14 a0 h12, ← hq14 n5 h7.1]
  obtain ⟨h16, hf17⟩ := chk_of hf11; clear hf11
  obtain ⟨h19, hf20⟩ := chk_of hf17; clear hf17
  refine j_putrF X fp_X5_14 h16 h19 rfl (hin rfl) rfl dX5_init_12 (fun σ18 eσ18 => ?_)
  replace hf20 := lt_of hf20 σ18 eσ18
  have m23 : hN σ9 ≤ hN σ18 := by rw [eσ18]; exact Nat.le_refl _
  have h22 : isO σ18 5 a0 := by rw [eσ18]; exact h16
  refine j_aload_n X dX5_init_15 0 rfl rfl ?_
  refine j_new X nf_X5_11 ⟨Nat.le_of_ble_eq_true rfl, Nat.le_of_ble_eq_true rfl⟩ dX5_init_16 (fun q24 σ25 n26 hq24 eσ25 en26 => ?_)
  replace hf20 := lt_of hf20 n26 en26
  replace hf20 := lt_of hf20 σ25 eσ25
  have m27 : hN σ25 = hN σ18 + 1 := by rw [eσ25]; rfl
  rw [← hq24 a0 h22.1]
  have h28 : isO σ25 5 a0 := isO_nw eσ25 h22
  have h29 : isO σ25 2 n26 := isO_nw0 eσ25 en26
  refine j_dup X dX5_init_19 rfl ?_
  obtain ⟨r30, σ31, h32, hf33⟩ := bc_of hf20; clear hf20
  refine j_callI X (As := []) (rest := [.ref (q24 n26), .ref (q24 a0)]) (c_X2_init l D cs q24 n26 σ25 _ _ h32) mk_X2_init mv_X2_init ml_X5_13 ⟨rfl, rfl⟩ ⟨Nat.le_of_ble_eq_true rfl, Nat.le_of_ble_eq_true rfl⟩ rfl (Nat.le_of_ble_eq_true rfl) ⟨Nat.le_of_ble_eq_true rfl, Nat.le_of_ble_eq_true rfl⟩ dX5_init_20 rfl (fun z => [.ref (q24 n26), .ref (q24 a0)]) (fun _ => rfl) (fun q34 hq34 => ?_)
  obtain ⟨hq34, m35⟩ := hq34
  rw [← hq34 a0 h28.1, ← hq34 n26 h29.1]
  obtain ⟨h36, hf37⟩ := chk_of hf33; clear hf33
  obtain ⟨h39, hf40⟩ := chk_of hf37; clear hf37
  refine j_putrF X fp_X5_18 h36 h39 rfl (hin rfl) rfl dX5_init_23 (fun σ38 eσ38 => ?_)
  replace hf40 := lt_of hf40 σ38 eσ38
  have m43 : hN σ31 ≤ hN σ38 := by rw [eσ38]; exact Nat.le_refl _
  have h42 : isO σ38 5 a0 := by rw [eσ38]; exact h36
  refine j_aload_n X dX5_init_26 0 rfl rfl ?_
  refine j_iconst X (v := 0) dX5_init_27 (by decide) ?_
  refine j_putz X fp_X5_21 h42 (Or.inl rfl) dX5_init_28 (fun σ44 eσ44 => ?_)
  replace hf40 := lt_of hf40 σ44 eσ44
  have m47 : hN σ38 ≤ hN σ44 := by rw [eσ44]; exact Nat.le_refl _
  have h46 : isO σ44 5 a0 := by rw [eσ44]; exact h42
  refine j_aload_n X dX5_init_31 0 rfl rfl ?_
  refine j_new X nf_X5_25 ⟨Nat.le_of_ble_eq_true rfl, Nat.le_of_ble_eq_true rfl⟩ dX5_init_32 (fun q48 σ49 n50 hq48 eσ49 en50 => ?_)
  replace hf40 := lt_of hf40 n50 en50
  replace hf40 := lt_of hf40 σ49 eσ49
  have m51 : hN σ49 = hN σ44 + 1 := by rw [eσ49]; rfl
  rw [← hq48 a0 h46.1]
  have h52 : isO σ49 5 a0 := isO_nw eσ49 h46
  have h53 : isO σ49 3 n50 := isO_nw0 eσ49 en50
  refine j_dup X dX5_init_35 rfl ?_
  obtain ⟨r54, σ55, h56, hf57⟩ := bc_of hf40; clear hf40
  refine j_callIN X (As := []) (rest := [.ref (q48 n50), .ref (q48 a0)]) (c_X3_init l D cs q48 n50 σ49 _ _ h56) mk_X3_init mv_X3_init mn_X5_27 ⟨rfl, rfl⟩ ⟨Nat.le_of_ble_eq_true rfl, Nat.le_of_ble_eq_true rfl⟩ rfl (Nat.le_of_ble_eq_true rfl) ⟨Nat.le_of_ble_eq_true rfl, Nat.le_of_ble_eq_true rfl⟩ dX5_init_36 rfl (fun z => [.ref (q48 n50), .ref (q48 a0)]) (fun _ => rfl) (fun q58 hq58 => ?_)
  obtain ⟨hq58, m59⟩ := hq58
  rw [← hq58 a0 h52.1, ← hq58 n50 h53.1]
  obtain ⟨h60, hf61⟩ := chk_of hf57; clear hf57
  obtain ⟨h63, hf64⟩ := chk_of hf61; clear hf61
  refine j_putrF X fp_X5_28 h60 h63 rfl (hin rfl) rfl dX5_init_39 (fun σ62 eσ62 => ?_)
  replace hf64 := lt_of hf64 σ62 eσ62
  have m67 : hN σ55 ≤ hN σ62 := by rw [eσ62]; exact Nat.le_refl _
  have h66 : isO σ62 5 a0 := by rw [eσ62]; exact h60
  refine j_aload_n X dX5_init_42 0 rfl rfl ?_
  refine j_new X nf_X5_32 ⟨Nat.le_of_ble_eq_true rfl, Nat.le_of_ble_eq_true rfl⟩ dX5_init_43 (fun q68 σ69 n70 hq68 eσ69 en70 => ?_)
  replace hf64 := lt_of hf64 n70 en70
  replace hf64 := lt_of hf64 σ69 eσ69
  have m71 : hN σ69 = hN σ62 + 1 := by rw [eσ69]; rfl
  rw [← hq68 a0 h66.1]
  have h72 : isO σ69 5 a0 := isO_nw eσ69 h66
  have h73 : isO σ69 4 n70 := isO_nw0 eσ69 en70
  refine j_dup X dX5_init_46 rfl ?_
  obtain ⟨r74, σ75, h76, hf77⟩ := bc_of hf64; clear hf64
  refine j_callIN X (As := []) (rest := [.ref (q68 n70), .ref (q68 a0)]) (c_X4_init l D cs q68 n70 σ69 _ _ h76) mk_X4_init mv_X4_init mn_X5_34 ⟨rfl, rfl⟩ ⟨Nat.le_of_ble_eq_true rfl, Nat.le_of_ble_eq_true rfl⟩ rfl (Nat.le_of_ble_eq_true rfl) ⟨Nat.le_of_ble_eq_true rfl, Nat.le_of_ble_eq_true rfl⟩ dX5_init_47 rfl (fun z => [.ref (q68 n70), .ref (q68 a0)]) (fun _ => rfl) (fun q78 hq78 => ?_)
  obtain ⟨hq78, m79⟩ := hq78
  rw [← hq78 a0 h72.1, ← hq78 n70 h73.1]
  obtain ⟨h80, hf81⟩ := chk_of hf77; clear hf77
  obtain ⟨h83, hf84⟩ := chk_of hf81; clear hf81
  refine j_putrF X fp_X5_35 h80 h83 rfl (hin rfl) rfl dX5_init_50 (fun σ82 eσ82 => ?_)
  replace hf84 := lt_of hf84 σ82 eσ82
  have m87 : hN σ75 ≤ hN σ82 := by rw [eσ82]; exact Nat.le_refl _
  have h86 : isO σ82 5 a0 := by rw [eσ82]; exact h80
  refine j_aload_n X dX5_init_53 0 rfl rfl ?_
  refine j_iconst X (v := 4) dX5_init_54 (by decide) ?_
  refine j_bipush X (v := 8) dX5_init_55 (by decide) ?_
  refine j_mna X cl_X5_39 ⟨Nat.le_of_ble_eq_true rfl, Nat.le_of_ble_eq_true rfl⟩ dX5_init_57 (fun q88 σ89 n90 hq88 eσ89 en90 => ?_)
  replace hf84 := lt_of hf84 n90 en90
  replace hf84 := lt_of hf84 σ89 eσ89
  have m91 : hN σ89 = hN σ82 + 5 := by rw [eσ89]; rfl
  rw [← hq88 a0 h86.1]
  have h92 : isO σ89 5 a0 := isO_nwM eσ89 h86
  have h93 : isO σ89 14 n90 := isO_nwM0 eσ89 en90
  obtain ⟨h95, hf96⟩ := chk_of hf84; clear hf84
  refine j_putrF X fp_X5_41 h92 h95 rfl (hin rfl) rfl dX5_init_61 (fun σ94 eσ94 => ?_)
  replace hf96 := lt_of hf96 σ94 eσ94
  have m100 : hN σ89 ≤ hN σ94 := by rw [eσ94]; exact Nat.le_refl _
  have h98 : isO σ94 5 a0 := by rw [eσ94]; exact h92
  have h99 : isO σ94 14 n90 := by rw [eσ94]; exact h93
  refine j_aload_n X dX5_init_64 0 rfl rfl ?_
  refine j_iconst X (v := 4) dX5_init_65 (by decide) ?_
  refine j_newai X (b := 4) (by decide) (by decide) ⟨Nat.le_of_ble_eq_true rfl, Nat.le_of_ble_eq_true rfl⟩ dX5_init_66 (fun q101 σ102 n103 hq101 eσ102 en103 => ?_)
  replace hf96 := lt_of hf96 n103 en103
  replace hf96 := lt_of hf96 σ102 eσ102
  have m104 : hN σ102 = hN σ94 + 1 := by rw [eσ102]; rfl
  rw [← hq101 a0 h98.1]
  have h105 : isO σ102 5 a0 := isO_nw eσ102 h98
  have h106 : isO σ102 14 n90 := isO_nw eσ102 h99
  have h107 : isO σ102 10 n103 := isO_nw0 eσ102 en103
  obtain ⟨h109, hf110⟩ := chk_of hf96; clear hf96
  refine j_putrF X fp_X5_44 h105 h109 rfl (hin rfl) rfl dX5_init_68 (fun σ108 eσ108 => ?_)
  replace hf110 := lt_of hf110 σ108 eσ108
  have m115 : hN σ102 ≤ hN σ108 := by rw [eσ108]; exact Nat.le_refl _
  have h112 : isO σ108 5 a0 := by rw [eσ108]; exact h105
  have h113 : isO σ108 14 n90 := by rw [eσ108]; exact h106
  have h114 : isO σ108 10 n103 := by rw [eσ108]; exact h107
  refine j_aload_n X dX5_init_71 0 rfl rfl ?_
  refine j_bipush X (v := 60) dX5_init_72 (by decide) ?_
  refine j_newai X (b := 60) (by decide) (by decide) ⟨Nat.le_of_ble_eq_true rfl, Nat.le_of_ble_eq_true rfl⟩ dX5_init_74 (fun q116 σ117 n118 hq116 eσ117 en118 => ?_)
  replace hf110 := lt_of hf110 n118 en118
  replace hf110 := lt_of hf110 σ117 eσ117
  have m119 : hN σ117 = hN σ108 + 1 := by rw [eσ117]; rfl
  rw [← hq116 a0 h112.1]
  have h120 : isO σ117 5 a0 := isO_nw eσ117 h112
  have h121 : isO σ117 14 n90 := isO_nw eσ117 h113
  have h122 : isO σ117 10 n103 := isO_nw eσ117 h114
  have h123 : isO σ117 10 n118 := isO_nw0 eσ117 en118
  obtain ⟨h125, hf126⟩ := chk_of hf110; clear hf110
  refine j_putrF X fp_X5_48 h120 h125 rfl (hin rfl) rfl dX5_init_76 (fun σ124 eσ124 => ?_)
  replace hf126 := lt_of hf126 σ124 eσ124
  have m132 : hN σ117 ≤ hN σ124 := by rw [eσ124]; exact Nat.le_refl _
  have h128 : isO σ124 5 a0 := by rw [eσ124]; exact h120
  have h129 : isO σ124 14 n90 := by rw [eσ124]; exact h121
  have h130 : isO σ124 10 n103 := by rw [eσ124]; exact h122
  have h131 : isO σ124 10 n118 := by rw [eσ124]; exact h123
  refine j_aload_n X dX5_init_79 0 rfl rfl ?_
  refine j_iconst X (v := 0) dX5_init_80 (by decide) ?_
  refine j_puti X fp_X5_51 h128 dX5_init_81 (fun σ133 eσ133 => ?_)
  replace hf126 := lt_of hf126 σ133 eσ133
  have m139 : hN σ124 ≤ hN σ133 := by rw [eσ133]; exact Nat.le_refl _
  have h135 : isO σ133 5 a0 := by rw [eσ133]; exact h128
  have h136 : isO σ133 14 n90 := by rw [eσ133]; exact h129
  have h137 : isO σ133 10 n103 := by rw [eσ133]; exact h130
  have h138 : isO σ133 10 n118 := by rw [eσ133]; exact h131
  refine j_aload_n X dX5_init_84 0 rfl rfl ?_
  obtain ⟨i140, h141, hf142⟩ := bd_of hf126; clear hf126
  refine j_getr X fd_X5_44 h135 h141 dX5_init_85 ?_
  refine j_bipush X (v := -11) dX5_init_88 (by decide) ?_
  obtain ⟨r143, σ144, h145, hf146⟩ := bc_of hf142; clear hf142
  refine j_callS0 X [.ref (q116 i140), .int (-11 : Int32)] [] (c_J7_fill_53178 l D cs q116 i140 (-11 : Int32) σ133 _ _ h145) mk_J7_fill_53178 ms_J7_fill_53178 ml_X5_55 ⟨rfl, rfl⟩ ⟨Nat.le_of_ble_eq_true rfl, Nat.le_of_ble_eq_true rfl⟩ rfl (Nat.le_of_ble_eq_true rfl) ⟨Nat.le_of_ble_eq_true rfl, Nat.le_of_ble_eq_true rfl⟩ dX5_init_90 rfl (st' := []) rfl ?_
  obtain ⟨h147, hf148⟩ := chk_of hf146; clear hf146
  obtain ⟨er, es⟩ := rt_of hf148
  exact j_retv X hr hlk (Nat.le_of_ble_eq_true rfl) (Nat.le_of_ble_eq_true rfl) ⟨(fun j hj => by rw [hq116 j (by omega), hq101 j (by omega), hq88 j (by omega), hq78 j (by omega), hq68 j (by omega), hq58 j (by omega), hq48 j (by omega), hq34 j (by omega), hq24 j (by omega), hq14 j (by omega), hq3 j (by omega)]), by rw [es]; omega⟩ es.symm rfl dX5_init_93
