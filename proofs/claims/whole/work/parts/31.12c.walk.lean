abbrev rm_J7_copyOf_59c91 : Room := { frames := 1, cells := 1, slots := 60, locals := 64 }
set_option maxHeartbeats 4000000 in
set_option maxRecDepth 100000 in
theorem c_J7_copyOf_59c91 (l : Launch) (D : va_G) (cs : Nat → ClassId) (q : Nat → Nat) (a0 : Nat) (a1 : Int32) (σ σ0 : HS) (r0 : (Option Nat)) (hf0 : f_J7_copyOf_59c91 a0 a1 σ = some (r0, σ0)) : MT l yJ7_copyOf_59c91 (Cond.code yJ7_copyOf_59c91 cJ7_copyOf_59c91 3 (some (.array .int)) :: lw_g) rm_J7_copyOf_59c91 D cs q σ σ0 [.ref (q a0), .int a1] (fun q1 => (∀ j : Nat, j < hN σ → q1 j = q j) ∧ hN σ ≤ hN σ0) (fun z => some (va_rf (Option.map z r0))) 1 60 := by
  unfold f_J7_copyOf_59c91 at hf0
  refine MT_of (cc := cJ7_copyOf_59c91) (lv0 := [(0, .ref (q a0)), (1, .int a1)]) (by decide) (Nat.le_of_ble_eq_true rfl) rfl (fun p e s m args below meth c A X hr hlk hin => ?_)
  refine j_iload_n X dJ7_copyOf_59c91_0 1 rfl rfl ?_
  refine j_aload_n X dJ7_copyOf_59c91_1 0 rfl rfl ?_
  obtain ⟨h1, hf2⟩ := chk_of hf0; clear hf0
  refine j_alen X (Or.inl rfl) h1 dJ7_copyOf_59c91_2 (fun v3 ev3 => ?_)
  replace hf2 := lt_of hf2 v3 ev3
  refine j_icmp_ne X (tgt := 14) dJ7_copyOf_59c91_3 (by decide) (fun c5 => ?_) (fun c5 => ?_)
  · have hf6 := br_n hf2 c5; clear hf2
    refine j_iload_n X dJ7_copyOf_59c91_14 1 rfl rfl ?_
    obtain ⟨h8, hf9⟩ := chk_of hf6; clear hf6
    refine j_newai X (b := 60) h8 (by decide) ⟨Nat.le_of_ble_eq_true rfl, Nat.le_of_ble_eq_true rfl⟩ dJ7_copyOf_59c91_15 (fun q10 σ11 n12 hq10 eσ11 en12 => ?_)
    replace hf9 := lt_of hf9 n12 en12
    replace hf9 := lt_of hf9 σ11 eσ11
    have m13 : hN σ11 = hN σ + 1 := by rw [eσ11]; rfl
    rw [← hq10 a0 h1.1]
    have h14 : isO σ11 10 a0 := isO_nw eσ11 h1
    have h15 : isO σ11 10 n12 := isO_nw0 eσ11 en12
    refine j_astore_n X (lv' := [(2, .ref (q10 n12)), (0, .ref (q10 a0)), (1, .int a1)]) dJ7_copyOf_59c91_17 rfl (by decide) rfl ?_
    refine j_aload_n X dJ7_copyOf_59c91_18 1 rfl rfl ?_
    refine j_iconst X (v := 0) dJ7_copyOf_59c91_19 (by decide) ?_
    refine j_aload_n X dJ7_copyOf_59c91_20 0 rfl rfl ?_
    refine j_iconst X (v := 0) dJ7_copyOf_59c91_21 (by decide) ?_
    refine j_aload_n X dJ7_copyOf_59c91_22 1 rfl rfl ?_
    refine j_alen X (Or.inl rfl) h14 dJ7_copyOf_59c91_23 (fun v16 ev16 => ?_)
    replace hf9 := lt_of hf9 v16 ev16
    refine j_iload_n X dJ7_copyOf_59c91_24 2 rfl rfl ?_
    refine j_mmin X ml_J7_304 (Nat.le_of_ble_eq_true rfl) (Nat.le_of_ble_eq_true rfl) (Nat.le_of_ble_eq_true rfl) (Nat.le_of_ble_eq_true rfl) dJ7_copyOf_59c91_25 (fun v18 ev18 => ?_)
    replace hf9 := lt_of hf9 v18 ev18
    obtain ⟨h20, hf21⟩ := chk_of hf9; clear hf9
    refine j_copy X h20 ml_J7_150 (Nat.le_of_ble_eq_true rfl) (Nat.le_of_ble_eq_true rfl) dJ7_copyOf_59c91_28 (fun σ22 eσ22 => ?_)
    replace hf21 := lt_of hf21 σ22 eσ22
    have m26 : hN σ11 ≤ hN σ22 := by rw [eσ22]; exact Nat.le_refl _
    have h24 : isO σ22 10 a0 := by rw [eσ22]; exact h14
    have h25 : isO σ22 10 n12 := by rw [eσ22]; exact h15
    refine j_aload_n X dJ7_copyOf_59c91_31 0 rfl rfl ?_
    obtain ⟨er, es⟩ := rt_of hf21
    subst er
    exact j_reta (o := Option.map q10 (some n12)) X hr rfl hlk (Nat.le_of_ble_eq_true rfl) (Nat.le_of_ble_eq_true rfl) ⟨(fun j hj => by rw [hq10 j (by omega)]), by rw [es]; omega⟩ es.symm rfl dJ7_copyOf_59c91_32
  · have hf7 := br_y hf2 c5; clear hf2
    refine j_aload_n X dJ7_copyOf_59c91_6 0 rfl rfl ?_
    obtain ⟨h27, hf28⟩ := chk_of hf7; clear hf7
    refine j_clone X (b := 60) h27 (Nat.le_of_ble_eq_true rfl) (Nat.le_of_ble_eq_true rfl) ⟨Nat.le_of_ble_eq_true rfl, Nat.le_of_ble_eq_true rfl⟩ dJ7_copyOf_59c91_7 (fun q29 σ30 n31 hq29 eσ30 en31 => ?_)
    replace hf28 := lt_of hf28 n31 en31
    replace hf28 := lt_of hf28 σ30 eσ30
    have m32 : hN σ30 = hN σ + 1 := by rw [eσ30]; rfl
    rw [← hq29 a0 h1.1]
    have h33 : isO σ30 10 a0 := isO_nwc eσ30 h1
    have h34 : isO σ30 10 n31 := isO_nwc0 eσ30 en31
    refine j_castI X h34 dJ7_copyOf_59c91_10 ?_
    obtain ⟨er, es⟩ := rt_of hf28
    subst er
    exact j_reta (o := Option.map q29 (some n31)) X hr rfl hlk (Nat.le_of_ble_eq_true rfl) (Nat.le_of_ble_eq_true rfl) ⟨(fun j hj => by rw [hq29 j (by omega)]), by rw [es]; omega⟩ es.symm rfl dJ7_copyOf_59c91_13
abbrev rm_X0_depthOf : Room := { frames := 1, cells := 1, slots := 60, locals := 64 }
set_option maxHeartbeats 4000000 in
set_option maxRecDepth 100000 in
theorem c_X0_depthOf (l : Launch) (D : va_G) (cs : Nat → ClassId) (q : Nat → Nat) (a0 : Nat) (σ σ0 : HS) (r0 : Int32) (hf0 : f_X0_depthOf a0 σ = some (r0, σ0)) : MT l yX0_depthOf (Cond.code yX0_depthOf cX0_depthOf 4 (some .int) :: lw_g) rm_X0_depthOf D cs q σ σ0 [.ref (q a0)] (fun q1 => (∀ j : Nat, j < hN σ → q1 j = q j) ∧ hN σ ≤ hN σ0) (fun _ => some (.int r0)) 1 60 := by
  unfold f_X0_depthOf at hf0
  refine MT_of (cc := cX0_depthOf) (lv0 := [(0, .ref (q a0))]) (by decide) (Nat.le_of_ble_eq_true rfl) rfl (fun p e s m args below meth c A X hr hlk hin => ?_)
  have L11 : ∀ (q1 : Nat → Nat) (hq1 : ∀ j : Nat, j < hN σ → q1 j = q j), ∀ (nk : Nat) (x0 : Nat) (x1 : Nat) (x2 : Int32) (x3 : Int32) (τ : HS) (hm : hN σ ≤ hN τ), lp_X0_depthOf_11  nk x0 x1 x2 x3 τ = some (r0, σ0) → J p l e rm_X0_depthOf s m args below meth c 4 D cs A s.heap (0 + 1) (0 + 60) (MQ below (hQ D cs (fun q1 => (∀ j : Nat, j < hN σ → q1 j = q j) ∧ hN σ ≤ hN σ0) (fun _ => some (.int r0)) σ0 A) args s 1 60 A) q1 τ [(0, .ref (q1 x0)), (1, .ref (q1 x1)), (2, .int x2), (3, .int x3)] 11 [] := by
    intro q1 hq1
    intro nk
    induction nk with
    | zero => intro x0 x1 x2 x3 τ hm hf0; have hf1 : (none : Option (Int32 × HS)) = some (r0, σ0) := hf0; cases hf1
    | succ nk ih =>
      intro x0 x1 x2 x3 τ hm hf0
      replace hf0 : lp_X0_depthOf_11_b  (lp_X0_depthOf_11  nk) x0 x1 x2 x3 τ = some (r0, σ0) := hf0
      unfold lp_X0_depthOf_11_b at hf0
      refine j_iload_n X dX0_depthOf_11 3 rfl rfl ?_
      refine j_aload_n X dX0_depthOf_12 0 rfl rfl ?_
      obtain ⟨h17, hf18⟩ := chk_of hf0; clear hf0
      refine j_geti X fd_X0_9 h17 dX0_depthOf_13 (fun v19 ev19 => ?_)
      replace hf18 := lt_of hf18 v19 ev19
      refine j_icmp_ge X (tgt := 69) dX0_depthOf_16 (by decide) (fun c21 => ?_) (fun c21 => ?_)
      · have hf22 := br_y hf18 c21; clear hf18
        refine j_iload_n X dX0_depthOf_69 2 rfl rfl ?_
        obtain ⟨er, es⟩ := rt_of hf22
        subst er
        exact j_reti X hr hlk (Nat.le_of_ble_eq_true rfl) (Nat.le_of_ble_eq_true rfl) ⟨(fun j hj => by rw [hq1 j (by omega)]), by rw [es]; omega⟩ es.symm rfl dX0_depthOf_70
      · have hf23 := br_n hf18 c21; clear hf18
        refine j_aload_n X dX0_depthOf_19 0 rfl rfl ?_
        obtain ⟨i24, h25, hf26⟩ := bd_of hf23; clear hf23
        refine j_getr X fd_X0_18 h17 h25 dX0_depthOf_20 ?_
        refine j_iload_n X dX0_depthOf_23 3 rfl rfl ?_
        obtain ⟨h27, hf28⟩ := chk_of hf26; clear hf26
        refine j_iald X h27 dX0_depthOf_24 (fun v29 ev29 => ?_)
        replace hf28 := lt_of hf28 v29 ev29
        obtain ⟨r31, σ32, h33, hf34⟩ := bc_of hf28; clear hf28
        refine j_callS0 X [.int v29] [] (c_X0_isMade l D cs q1 v29 τ _ _ h33) mk_X0_isMade ms_X0_isMade ml_X0_75 ⟨rfl, rfl⟩ ⟨Nat.le_of_ble_eq_true rfl, Nat.le_of_ble_eq_true rfl⟩ rfl (Nat.le_of_ble_eq_true rfl) ⟨Nat.le_of_ble_eq_true rfl, Nat.le_of_ble_eq_true rfl⟩ dX0_depthOf_25 rfl (st' := [.int r31]) rfl ?_
        obtain ⟨h35, hf36⟩ := chk_of hf34; clear hf34
        refine j_if_eq X (tgt := 55) dX0_depthOf_28 (by decide) (fun c37 => ?_) (fun c37 => ?_)
        · have hf38 := br_y hf36 c37; clear hf36
          refine j_iload_n X dX0_depthOf_55 2 rfl rfl ?_
          refine j_aload_n X dX0_depthOf_56 1 rfl rfl ?_
          refine j_iload_n X dX0_depthOf_57 3 rfl rfl ?_
          obtain ⟨h40, hf41⟩ := chk_of hf38; clear hf38
          refine j_iald X h40 dX0_depthOf_58 (fun v42 ev42 => ?_)
          replace hf41 := lt_of hf41 v42 ev42
          refine j_mmax X ml_X0_79 (Nat.le_of_ble_eq_true rfl) (Nat.le_of_ble_eq_true rfl) (Nat.le_of_ble_eq_true rfl) (Nat.le_of_ble_eq_true rfl) dX0_depthOf_59 (fun v44 ev44 => ?_)
          replace hf41 := lt_of hf41 v44 ev44
          refine j_istore_n X (lv' := [(2, .int v44), (0, .ref (q1 x0)), (1, .ref (q1 x1)), (3, .int x3)]) dX0_depthOf_62 rfl (by decide) rfl ?_
          obtain ⟨v46, ev46⟩ : ∃ y : Int32, y = x3 + (1 : Int32) := ⟨_, rfl⟩
          replace hf41 := lt_of hf41 v46 ev46
          refine j_iinc X (v := v46) (lv' := [(3, .int v46), (2, .int v44), (0, .ref (q1 x0)), (1, .ref (q1 x1))]) dX0_depthOf_63 3 rfl (by rw [ev46]; rfl) (by decide) rfl ?_
          refine j_goto X (tgt := 11) dX0_depthOf_66 (by decide) ?_
          refine j_lvsub [2, 3, 1, 0] (lv' := [(0, .ref (q1 x0)), (1, .ref (q1 x1)), (2, .int v44), (3, .int v46)]) rfl ?_
          exact ih x0 x1 v44 v46 σ32 (by omega) hf41
        · have hf39 := br_n hf36 c37; clear hf36
          refine j_aload_n X dX0_depthOf_31 1 rfl rfl ?_
          refine j_iload_n X dX0_depthOf_32 3 rfl rfl ?_
          refine j_iconst X (v := 1) dX0_depthOf_33 (by decide) ?_
          refine j_aload_n X dX0_depthOf_34 1 rfl rfl ?_
          refine j_aload_n X dX0_depthOf_35 0 rfl rfl ?_
          obtain ⟨h48, hf49⟩ := chk_of hf39; clear hf39
          obtain ⟨i50, h51, hf52⟩ := bd_of hf49; clear hf49
          refine j_getr X fd_X0_33 h48 h51 dX0_depthOf_36 ?_
          refine j_iload_n X dX0_depthOf_39 3 rfl rfl ?_
          obtain ⟨h53, hf54⟩ := chk_of hf52; clear hf52
          refine j_iald X h53 dX0_depthOf_40 (fun v55 ev55 => ?_)
          replace hf54 := lt_of hf54 v55 ev55
          obtain ⟨h57, hf58⟩ := chk_of hf54; clear hf54
          refine j_iald X h57 dX0_depthOf_41 (fun v59 ev59 => ?_)
          replace hf58 := lt_of hf58 v59 ev59
          refine j_aload_n X dX0_depthOf_42 1 rfl rfl ?_
          refine j_aload_n X dX0_depthOf_43 0 rfl rfl ?_
          obtain ⟨i61, h62, hf63⟩ := bd_of hf58; clear hf58
          refine j_getr X fd_X0_37 h48 h62 dX0_depthOf_44 ?_
          refine j_iload_n X dX0_depthOf_47 3 rfl rfl ?_
          obtain ⟨h64, hf65⟩ := chk_of hf63; clear hf63
          refine j_iald X h64 dX0_depthOf_48 (fun v66 ev66 => ?_)
          replace hf65 := lt_of hf65 v66 ev66
          obtain ⟨h68, hf69⟩ := chk_of hf65; clear hf65
          refine j_iald X h68 dX0_depthOf_49 (fun v70 ev70 => ?_)
          replace hf69 := lt_of hf69 v70 ev70
          refine j_mmax X ml_X0_79 (Nat.le_of_ble_eq_true rfl) (Nat.le_of_ble_eq_true rfl) (Nat.le_of_ble_eq_true rfl) (Nat.le_of_ble_eq_true rfl) dX0_depthOf_50 (fun v72 ev72 => ?_)
          replace hf69 := lt_of hf69 v72 ev72
          refine j_iadd X dX0_depthOf_53 ?_
          obtain ⟨h74, hf75⟩ := chk_of hf69; clear hf69
          refine j_iast X h74 dX0_depthOf_54 (fun σ76 eσ76 => ?_)
          replace hf75 := lt_of hf75 σ76 eσ76
          have m79 : hN σ32 ≤ hN σ76 := by rw [eσ76]; exact Nat.le_refl _
          have h78 : isO σ76 3 x0 := by rw [eσ76]; exact h48
          refine j_iload_n X dX0_depthOf_55 2 rfl rfl ?_
          refine j_aload_n X dX0_depthOf_56 1 rfl rfl ?_
          refine j_iload_n X dX0_depthOf_57 3 rfl rfl ?_
          obtain ⟨h80, hf81⟩ := chk_of hf75; clear hf75
          refine j_iald X h80 dX0_depthOf_58 (fun v82 ev82 => ?_)
          replace hf81 := lt_of hf81 v82 ev82
          refine j_mmax X ml_X0_79 (Nat.le_of_ble_eq_true rfl) (Nat.le_of_ble_eq_true rfl) (Nat.le_of_ble_eq_true rfl) (Nat.le_of_ble_eq_true rfl) dX0_depthOf_59 (fun v84 ev84 => ?_)
          replace hf81 := lt_of hf81 v84 ev84
          refine j_istore_n X (lv' := [(2, .int v84), (0, .ref (q1 x0)), (1, .ref (q1 x1)), (3, .int x3)]) dX0_depthOf_62 rfl (by decide) rfl ?_
          obtain ⟨v86, ev86⟩ : ∃ y : Int32, y = x3 + (1 : Int32) := ⟨_, rfl⟩
          replace hf81 := lt_of hf81 v86 ev86
          refine j_iinc X (v := v86) (lv' := [(3, .int v86), (2, .int v84), (0, .ref (q1 x0)), (1, .ref (q1 x1))]) dX0_depthOf_63 3 rfl (by rw [ev86]; rfl) (by decide) rfl ?_
          refine j_goto X (tgt := 11) dX0_depthOf_66 (by decide) ?_
          refine j_lvsub [2, 3, 1, 0] (lv' := [(0, .ref (q1 x0)), (1, .ref (q1 x1)), (2, .int v84), (3, .int v86)]) rfl ?_
          exact ih x0 x1 v84 v86 σ76 (by omega) hf81
  refine j_aload_n X dX0_depthOf_0 0 rfl rfl ?_
  obtain ⟨h1, hf2⟩ := chk_of hf0; clear hf0
  refine j_geti X fd_X0_9 h1 dX0_depthOf_1 (fun v3 ev3 => ?_)
  replace hf2 := lt_of hf2 v3 ev3
  obtain ⟨h5, hf6⟩ := chk_of hf2; clear hf2
  refine j_newai X (b := 60) h5 (by decide) ⟨Nat.le_of_ble_eq_true rfl, Nat.le_of_ble_eq_true rfl⟩ dX0_depthOf_4 (fun q7 σ8 n9 hq7 eσ8 en9 => ?_)
  replace hf6 := lt_of hf6 n9 en9
  replace hf6 := lt_of hf6 σ8 eσ8
  have m10 : hN σ8 = hN σ + 1 := by rw [eσ8]; rfl
  rw [← hq7 a0 h1.1]
  have h11 : isO σ8 3 a0 := isO_nw eσ8 h1
  have h12 : isO σ8 10 n9 := isO_nw0 eσ8 en9
  refine j_astore_n X (lv' := [(1, .ref (q7 n9)), (0, .ref (q7 a0))]) dX0_depthOf_6 rfl (by decide) rfl ?_
  refine j_iconst X (v := 0) dX0_depthOf_7 (by decide) ?_
  refine j_nmi (fun v13 ev13 => ?_)
  replace hf6 := lt_of hf6 v13 ev13
  refine j_istore_n X (lv' := [(2, .int v13), (1, .ref (q7 n9)), (0, .ref (q7 a0))]) dX0_depthOf_8 rfl (by decide) rfl ?_
  refine j_iconst X (v := 0) dX0_depthOf_9 (by decide) ?_
  refine j_nmi (fun v15 ev15 => ?_)
  replace hf6 := lt_of hf6 v15 ev15
  refine j_istore_n X (lv' := [(3, .int v15), (2, .int v13), (1, .ref (q7 n9)), (0, .ref (q7 a0))]) dX0_depthOf_10 rfl (by decide) rfl ?_
  refine j_lvsub [3, 2, 1, 0] (lv' := [(0, .ref (q7 a0)), (1, .ref (q7 n9)), (2, .int v13), (3, .int v15)]) rfl ?_
  exact L11 q7 (fun j hj => by rw [hq7 j (by omega)])  1000 a0 n9 v13 v15 σ8 (by omega) hf6
abbrev rm_X0_likenessIn : Room := { frames := 2, cells := 1, slots := 60, locals := 128 }
set_option maxHeartbeats 4000000 in
set_option maxRecDepth 100000 in
theorem c_X0_likenessIn (l : Launch) (D : va_G) (cs : Nat → ClassId) (q : Nat → Nat) (a0 : Nat) (σ σ0 : HS) (r0 : (Option Nat)) (hf0 : f_X0_likenessIn a0 σ = some (r0, σ0)) : MT l yX0_likenessIn (Cond.code yX0_likenessIn cX0_likenessIn 4 (some (.array .int)) :: lw_g) rm_X0_likenessIn D cs q σ σ0 [.ref (q a0)] (fun q1 => (∀ j : Nat, j < hN σ → q1 j = q j) ∧ hN σ ≤ hN σ0) (fun z => some (va_rf (Option.map z r0))) 1 60 := by
  unfold f_X0_likenessIn at hf0
  refine MT_of (cc := cX0_likenessIn) (lv0 := [(0, .ref (q a0))]) (by decide) (Nat.le_of_ble_eq_true rfl) rfl (fun p e s m args below meth c A X hr hlk hin => ?_)
  have L19 : ∀ (q1 : Nat → Nat) (hq1 : ∀ j : Nat, j < hN σ → q1 j = q j), ∀ (K9 : Nat → Nat → Int32 → HS → Option ((Option Nat) × HS)) (hK9 : ∀ (x0 : Nat) (x1 : Nat) (x2 : Int32) (τ : HS) (hm : hN σ ≤ hN τ), K9 x0 x1 x2 τ = some (r0, σ0) → J p l e rm_X0_likenessIn s m args below meth c 4 D cs A s.heap (0 + 1) (0 + 60) (MQ below (hQ D cs (fun q1 => (∀ j : Nat, j < hN σ → q1 j = q j) ∧ hN σ ≤ hN σ0) (fun z => some (va_rf (Option.map z r0))) σ0 A) args s 1 60 A) q1 τ [(0, .ref (q1 x0)), (1, .ref (q1 x1)), (2, .int x2)] 9 []), ∀ (nk : Nat) (x0 : Nat) (x1 : Nat) (x2 : Int32) (x3 : Int32) (τ : HS) (hm : hN σ ≤ hN τ), lp_X0_likenessIn_19 K9 nk x0 x1 x2 x3 τ = some (r0, σ0) → J p l e rm_X0_likenessIn s m args below meth c 4 D cs A s.heap (0 + 1) (0 + 60) (MQ below (hQ D cs (fun q1 => (∀ j : Nat, j < hN σ → q1 j = q j) ∧ hN σ ≤ hN σ0) (fun z => some (va_rf (Option.map z r0))) σ0 A) args s 1 60 A) q1 τ [(0, .ref (q1 x0)), (1, .ref (q1 x1)), (2, .int x2), (3, .int x3)] 19 [] := by
    intro q1 hq1
    intro K9 hK9
    intro nk
    induction nk with
    | zero => intro x0 x1 x2 x3 τ hm hf0; have hf1 : (none : Option ((Option Nat) × HS)) = some (r0, σ0) := hf0; cases hf1
    | succ nk ih =>
      intro x0 x1 x2 x3 τ hm hf0
      replace hf0 : lp_X0_likenessIn_19_b K9 (lp_X0_likenessIn_19 K9 nk) x0 x1 x2 x3 τ = some (r0, σ0) := hf0
      unfold lp_X0_likenessIn_19_b at hf0
      refine j_iload_n X dX0_likenessIn_19 3 rfl rfl ?_
      refine j_iload_n X dX0_likenessIn_20 2 rfl rfl ?_
      refine j_icmp_ge X (tgt := 40) dX0_likenessIn_21 (by decide) (fun c24 => ?_) (fun c24 => ?_)
      · have hf25 := br_y hf0 c24; clear hf0
        refine j_aload_n X dX0_likenessIn_40 1 rfl rfl ?_
        refine j_iload_n X dX0_likenessIn_41 2 rfl rfl ?_
        refine j_iload_n X dX0_likenessIn_42 3 rfl rfl ?_
        obtain ⟨h27, hf28⟩ := chk_of hf25; clear hf25
        refine j_iast X h27 dX0_likenessIn_43 (fun σ29 eσ29 => ?_)
        replace hf28 := lt_of hf28 σ29 eσ29
        have m31 : hN τ ≤ hN σ29 := by rw [eσ29]; exact Nat.le_refl _
        obtain ⟨v32, ev32⟩ : ∃ y : Int32, y = x2 + (1 : Int32) := ⟨_, rfl⟩
        replace hf28 := lt_of hf28 v32 ev32
        refine j_iinc X (v := v32) (lv' := [(2, .int v32), (0, .ref (q1 x0)), (1, .ref (q1 x1)), (3, .int x3)]) dX0_likenessIn_44 2 rfl (by rw [ev32]; rfl) (by decide) rfl ?_
        refine j_goto X (tgt := 9) dX0_likenessIn_47 (by decide) ?_
        refine j_lvsub [1, 2, 0] (lv' := [(0, .ref (q1 x0)), (1, .ref (q1 x1)), (2, .int v32)]) rfl ?_
        exact hK9 x0 x1 v32 σ29 (by omega) hf28
      · have hf26 := br_n hf0 c24; clear hf0
        refine j_aload_n X dX0_likenessIn_24 0 rfl rfl ?_
        refine j_aload_n X dX0_likenessIn_25 1 rfl rfl ?_
        refine j_iload_n X dX0_likenessIn_26 3 rfl rfl ?_
        refine j_iload_n X dX0_likenessIn_27 2 rfl rfl ?_
        obtain ⟨r34, σ35, h36, hf37⟩ := bc_of hf26; clear hf26
        refine j_callS0 X [.ref (q1 x0), .ref (q1 x1), .int x3, .int x2] [] (c_X0_areAlike l D cs q1 x0 x1 x3 x2 τ _ _ h36) mk_X0_areAlike ms_X0_areAlike ml_X0_85 ⟨rfl, rfl⟩ ⟨Nat.le_of_ble_eq_true rfl, Nat.le_of_ble_eq_true rfl⟩ rfl (Nat.le_of_ble_eq_true rfl) ⟨Nat.le_of_ble_eq_true rfl, Nat.le_of_ble_eq_true rfl⟩ dX0_likenessIn_28 rfl (st' := [.int r34]) rfl ?_
        obtain ⟨h38, hf39⟩ := chk_of hf37; clear hf37
        refine j_if_ne X (tgt := 40) dX0_likenessIn_31 (by decide) (fun c40 => ?_) (fun c40 => ?_)
        · have hf41 := br_n hf39 c40; clear hf39
          refine j_aload_n X dX0_likenessIn_40 1 rfl rfl ?_
          refine j_iload_n X dX0_likenessIn_41 2 rfl rfl ?_
          refine j_iload_n X dX0_likenessIn_42 3 rfl rfl ?_
          obtain ⟨h43, hf44⟩ := chk_of hf41; clear hf41
          refine j_iast X h43 dX0_likenessIn_43 (fun σ45 eσ45 => ?_)
          replace hf44 := lt_of hf44 σ45 eσ45
          have m47 : hN σ35 ≤ hN σ45 := by rw [eσ45]; exact Nat.le_refl _
          obtain ⟨v48, ev48⟩ : ∃ y : Int32, y = x2 + (1 : Int32) := ⟨_, rfl⟩
          replace hf44 := lt_of hf44 v48 ev48
          refine j_iinc X (v := v48) (lv' := [(2, .int v48), (0, .ref (q1 x0)), (1, .ref (q1 x1)), (3, .int x3)]) dX0_likenessIn_44 2 rfl (by rw [ev48]; rfl) (by decide) rfl ?_
          refine j_goto X (tgt := 9) dX0_likenessIn_47 (by decide) ?_
          refine j_lvsub [1, 2, 0] (lv' := [(0, .ref (q1 x0)), (1, .ref (q1 x1)), (2, .int v48)]) rfl ?_
          exact hK9 x0 x1 v48 σ45 (by omega) hf44
        · have hf42 := br_y hf39 c40; clear hf39
          obtain ⟨v50, ev50⟩ : ∃ y : Int32, y = x3 + (1 : Int32) := ⟨_, rfl⟩
          replace hf42 := lt_of hf42 v50 ev50
          refine j_iinc X (v := v50) (lv' := [(3, .int v50), (0, .ref (q1 x0)), (1, .ref (q1 x1)), (2, .int x2)]) dX0_likenessIn_34 3 rfl (by rw [ev50]; rfl) (by decide) rfl ?_
          refine j_goto X (tgt := 19) dX0_likenessIn_37 (by decide) ?_
          refine j_lvsub [1, 2, 3, 0] (lv' := [(0, .ref (q1 x0)), (1, .ref (q1 x1)), (2, .int x2), (3, .int v50)]) rfl ?_
          exact ih x0 x1 x2 v50 σ35 (by omega) hf42
  have L9 : ∀ (q1 : Nat → Nat) (hq1 : ∀ j : Nat, j < hN σ → q1 j = q j), ∀ (nk : Nat) (x0 : Nat) (x1 : Nat) (x2 : Int32) (τ : HS) (hm : hN σ ≤ hN τ), lp_X0_likenessIn_9  nk x0 x1 x2 τ = some (r0, σ0) → J p l e rm_X0_likenessIn s m args below meth c 4 D cs A s.heap (0 + 1) (0 + 60) (MQ below (hQ D cs (fun q1 => (∀ j : Nat, j < hN σ → q1 j = q j) ∧ hN σ ≤ hN σ0) (fun z => some (va_rf (Option.map z r0))) σ0 A) args s 1 60 A) q1 τ [(0, .ref (q1 x0)), (1, .ref (q1 x1)), (2, .int x2)] 9 [] := by
    intro q1 hq1
    intro nk
    induction nk with
    | zero => intro x0 x1 x2 τ hm hf0; have hf1 : (none : Option ((Option Nat) × HS)) = some (r0, σ0) := hf0; cases hf1
    | succ nk ih =>
      intro x0 x1 x2 τ hm hf0
      replace hf0 : lp_X0_likenessIn_9_b  (lp_X0_likenessIn_9  nk) x0 x1 x2 τ = some (r0, σ0) := hf0
      unfold lp_X0_likenessIn_9_b at hf0
      refine j_iload_n X dX0_likenessIn_9 2 rfl rfl ?_
      refine j_aload_n X dX0_likenessIn_10 0 rfl rfl ?_
      obtain ⟨h15, hf16⟩ := chk_of hf0; clear hf0
      refine j_geti X fd_X0_9 h15 dX0_likenessIn_11 (fun v17 ev17 => ?_)
      replace hf16 := lt_of hf16 v17 ev17
      refine j_icmp_ge X (tgt := 50) dX0_likenessIn_14 (by decide) (fun c19 => ?_) (fun c19 => ?_)
      · have hf20 := br_y hf16 c19; clear hf16
        refine j_aload_n X dX0_likenessIn_50 1 rfl rfl ?_
        obtain ⟨er, es⟩ := rt_of hf20
        subst er
        exact j_reta (o := Option.map q1 (some x1)) X hr rfl hlk (Nat.le_of_ble_eq_true rfl) (Nat.le_of_ble_eq_true rfl) ⟨(fun j hj => by rw [hq1 j (by omega)]), by rw [es]; omega⟩ es.symm rfl dX0_likenessIn_51
      · have hf21 := br_n hf16 c19; clear hf16
        refine j_iconst X (v := 0) dX0_likenessIn_17 (by decide) ?_
        refine j_nmi (fun v22 ev22 => ?_)
        replace hf21 := lt_of hf21 v22 ev22
        refine j_istore_n X (lv' := [(3, .int v22), (0, .ref (q1 x0)), (1, .ref (q1 x1)), (2, .int x2)]) dX0_likenessIn_18 rfl (by decide) rfl ?_
        refine j_lvsub [1, 2, 3, 0] (lv' := [(0, .ref (q1 x0)), (1, .ref (q1 x1)), (2, .int x2), (3, .int v22)]) rfl ?_
        exact L19 q1 (fun j hj => by rw [hq1 j (by omega)]) _ (ih) 1000 x0 x1 x2 v22 τ (by omega) hf21
  refine j_aload_n X dX0_likenessIn_0 0 rfl rfl ?_
  obtain ⟨h1, hf2⟩ := chk_of hf0; clear hf0
  refine j_geti X fd_X0_9 h1 dX0_likenessIn_1 (fun v3 ev3 => ?_)
  replace hf2 := lt_of hf2 v3 ev3
  obtain ⟨h5, hf6⟩ := chk_of hf2; clear hf2
  refine j_newai X (b := 60) h5 (by decide) ⟨Nat.le_of_ble_eq_true rfl, Nat.le_of_ble_eq_true rfl⟩ dX0_likenessIn_4 (fun q7 σ8 n9 hq7 eσ8 en9 => ?_)
  replace hf6 := lt_of hf6 n9 en9
  replace hf6 := lt_of hf6 σ8 eσ8
  have m10 : hN σ8 = hN σ + 1 := by rw [eσ8]; rfl
  rw [← hq7 a0 h1.1]
  have h11 : isO σ8 3 a0 := isO_nw eσ8 h1
  have h12 : isO σ8 10 n9 := isO_nw0 eσ8 en9
  refine j_astore_n X (lv' := [(1, .ref (q7 n9)), (0, .ref (q7 a0))]) dX0_likenessIn_6 rfl (by decide) rfl ?_
  refine j_iconst X (v := 0) dX0_likenessIn_7 (by decide) ?_
  refine j_nmi (fun v13 ev13 => ?_)
  replace hf6 := lt_of hf6 v13 ev13
  refine j_istore_n X (lv' := [(2, .int v13), (1, .ref (q7 n9)), (0, .ref (q7 a0))]) dX0_likenessIn_8 rfl (by decide) rfl ?_
  refine j_lvsub [2, 1, 0] (lv' := [(0, .ref (q7 a0)), (1, .ref (q7 n9)), (2, .int v13)]) rfl ?_
  exact L9 q7 (fun j hj => by rw [hq7 j (by omega)])  1000 a0 n9 v13 σ8 (by omega) hf6
abbrev rm_X0_mostAlikeIn : Room := { frames := 1, cells := 1, slots := 60, locals := 64 }
set_option maxHeartbeats 4000000 in
set_option maxRecDepth 100000 in
theorem c_X0_mostAlikeIn (l : Launch) (D : va_G) (cs : Nat → ClassId) (q : Nat → Nat) (a0 : Nat) (σ σ0 : HS) (r0 : Int32) (hf0 : f_X0_mostAlikeIn a0 σ = some (r0, σ0)) : MT l yX0_mostAlikeIn (Cond.code yX0_mostAlikeIn cX0_mostAlikeIn 7 (some .int) :: lw_g) rm_X0_mostAlikeIn D cs q σ σ0 [.ref (q a0)] (fun q1 => (∀ j : Nat, j < hN σ → q1 j = q j) ∧ hN σ ≤ hN σ0) (fun _ => some (.int r0)) 1 60 := by
  unfold f_X0_mostAlikeIn at hf0
  refine MT_of (cc := cX0_mostAlikeIn) (lv0 := [(0, .ref (q a0))]) (by decide) (Nat.le_of_ble_eq_true rfl) rfl (fun p e s m args below meth c A X hr hlk hin => ?_)
  have L16 : ∀ (q1 : Nat → Nat) (hq1 : ∀ j : Nat, j < hN σ → q1 j = q j), ∀ (nk : Nat) (x0 : Nat) (x1 : Nat) (x2 : Int32) (x3 : Nat) (x4 : Int32) (x5 : Int32) (τ : HS) (hm : hN σ ≤ hN τ), lp_X0_mostAlikeIn_16  nk x0 x1 x2 x3 x4 x5 τ = some (r0, σ0) → J p l e rm_X0_mostAlikeIn s m args below meth c 7 D cs A s.heap (0 + 1) (0 + 60) (MQ below (hQ D cs (fun q1 => (∀ j : Nat, j < hN σ → q1 j = q j) ∧ hN σ ≤ hN σ0) (fun _ => some (.int r0)) σ0 A) args s 1 60 A) q1 τ [(0, .ref (q1 x0)), (1, .ref (q1 x1)), (2, .int x2), (3, .ref (q1 x3)), (4, .int x4), (5, .int x5)] 16 [] := by
    intro q1 hq1
    intro nk
    induction nk with
    | zero => intro x0 x1 x2 x3 x4 x5 τ hm hf0; have hf1 : (none : Option (Int32 × HS)) = some (r0, σ0) := hf0; cases hf1
    | succ nk ih =>
      intro x0 x1 x2 x3 x4 x5 τ hm hf0
      replace hf0 : lp_X0_mostAlikeIn_16_b  (lp_X0_mostAlikeIn_16  nk) x0 x1 x2 x3 x4 x5 τ = some (r0, σ0) := hf0
      unfold lp_X0_mostAlikeIn_16_b at hf0
      refine j_iload X dX0_mostAlikeIn_16 5 rfl ?_
      refine j_iload X dX0_mostAlikeIn_18 4 rfl ?_
      refine j_icmp_ge X (tgt := 52) dX0_mostAlikeIn_20 (by decide) (fun c19 => ?_) (fun c19 => ?_)
      · have hf20 := br_y hf0 c19; clear hf0
        refine j_iload_n X dX0_mostAlikeIn_52 2 rfl rfl ?_
        obtain ⟨er, es⟩ := rt_of hf20
        subst er
        exact j_reti X hr hlk (Nat.le_of_ble_eq_true rfl) (Nat.le_of_ble_eq_true rfl) ⟨(fun j hj => by rw [hq1 j (by omega)]), by rw [es]; omega⟩ es.symm rfl dX0_mostAlikeIn_53
      · have hf21 := br_n hf0 c19; clear hf0
        refine j_aload_n X dX0_mostAlikeIn_23 3 rfl rfl ?_
        refine j_iload X dX0_mostAlikeIn_24 5 rfl ?_
        obtain ⟨h22, hf23⟩ := chk_of hf21; clear hf21
        refine j_iald X h22 dX0_mostAlikeIn_26 (fun v24 ev24 => ?_)
        replace hf23 := lt_of hf23 v24 ev24
        refine j_istore X (lv' := [(6, .int v24), (0, .ref (q1 x0)), (1, .ref (q1 x1)), (2, .int x2), (3, .ref (q1 x3)), (4, .int x4), (5, .int x5)]) dX0_mostAlikeIn_27 (by decide) rfl ?_
        refine j_aload_n X dX0_mostAlikeIn_29 2 rfl rfl ?_
        refine j_iload X dX0_mostAlikeIn_30 0 rfl ?_
        refine j_dup2 X dX0_mostAlikeIn_32 rfl rfl ?_
        obtain ⟨h26, hf27⟩ := chk_of hf23; clear hf23
        refine j_iald X h26 dX0_mostAlikeIn_33 (fun v28 ev28 => ?_)
        replace hf27 := lt_of hf27 v28 ev28
        refine j_iconst X (v := 1) dX0_mostAlikeIn_34 (by decide) ?_
        refine j_iadd X dX0_mostAlikeIn_35 ?_
        obtain ⟨h30, hf31⟩ := chk_of hf27; clear hf27
        refine j_iast X h30 dX0_mostAlikeIn_36 (fun σ32 eσ32 => ?_)
        replace hf31 := lt_of hf31 σ32 eσ32
        have m34 : hN τ ≤ hN σ32 := by rw [eσ32]; exact Nat.le_refl _
        refine j_iload_n X dX0_mostAlikeIn_37 3 rfl rfl ?_
        refine j_aload_n X dX0_mostAlikeIn_38 2 rfl rfl ?_
        refine j_iload X dX0_mostAlikeIn_39 0 rfl ?_
        obtain ⟨h35, hf36⟩ := chk_of hf31; clear hf31
        refine j_iald X h35 dX0_mostAlikeIn_41 (fun v37 ev37 => ?_)
        replace hf36 := lt_of hf36 v37 ev37
        refine j_mmax X ml_X0_79 (Nat.le_of_ble_eq_true rfl) (Nat.le_of_ble_eq_true rfl) (Nat.le_of_ble_eq_true rfl) (Nat.le_of_ble_eq_true rfl) dX0_mostAlikeIn_42 (fun v39 ev39 => ?_)
        replace hf36 := lt_of hf36 v39 ev39
        refine j_istore_n X (lv' := [(2, .int v39), (6, .int v24), (0, .ref (q1 x0)), (1, .ref (q1 x1)), (3, .ref (q1 x3)), (4, .int x4), (5, .int x5)]) dX0_mostAlikeIn_45 rfl (by decide) rfl ?_
        obtain ⟨v41, ev41⟩ : ∃ y : Int32, y = x5 + (1 : Int32) := ⟨_, rfl⟩
        replace hf36 := lt_of hf36 v41 ev41
        refine j_iinc X (v := v41) (lv' := [(5, .int v41), (2, .int v39), (6, .int v24), (0, .ref (q1 x0)), (1, .ref (q1 x1)), (3, .ref (q1 x3)), (4, .int x4)]) dX0_mostAlikeIn_46 6 rfl (by rw [ev41]; rfl) (by decide) rfl ?_
        refine j_goto X (tgt := 16) dX0_mostAlikeIn_49 (by decide) ?_
        refine j_lvsub [3, 4, 1, 5, 6, 0] (lv' := [(0, .ref (q1 x0)), (1, .ref (q1 x1)), (2, .int v39), (3, .ref (q1 x3)), (4, .int x4), (5, .int v41)]) rfl ?_
        exact ih x0 x1 v39 x3 x4 v41 σ32 (by omega) hf36
  refine j_aload_n X dX0_mostAlikeIn_0 0 rfl rfl ?_
  obtain ⟨h1, hf2⟩ := chk_of hf0; clear hf0
  refine j_alen X (Or.inl rfl) h1 dX0_mostAlikeIn_1 (fun v3 ev3 => ?_)
  replace hf2 := lt_of hf2 v3 ev3
  obtain ⟨h5, hf6⟩ := chk_of hf2; clear hf2
  refine j_newai X (b := 60) h5 (by decide) ⟨Nat.le_of_ble_eq_true rfl, Nat.le_of_ble_eq_true rfl⟩ dX0_mostAlikeIn_2 (fun q7 σ8 n9 hq7 eσ8 en9 => ?_)
  replace hf6 := lt_of hf6 n9 en9
  replace hf6 := lt_of hf6 σ8 eσ8
  have m10 : hN σ8 = hN σ + 1 := by rw [eσ8]; rfl
  rw [← hq7 a0 h1.1]
  have h11 : isO σ8 10 a0 := isO_nw eσ8 h1
  have h12 : isO σ8 10 n9 := isO_nw0 eσ8 en9
  refine j_astore_n X (lv' := [(1, .ref (q7 n9)), (0, .ref (q7 a0))]) dX0_mostAlikeIn_4 rfl (by decide) rfl ?_
  refine j_iconst X (v := 0) dX0_mostAlikeIn_5 (by decide) ?_
  refine j_nmi (fun v13 ev13 => ?_)
  replace hf6 := lt_of hf6 v13 ev13
  refine j_istore_n X (lv' := [(2, .int v13), (1, .ref (q7 n9)), (0, .ref (q7 a0))]) dX0_mostAlikeIn_6 rfl (by decide) rfl ?_
  refine j_aload_n X dX0_mostAlikeIn_7 2 rfl rfl ?_
  refine j_astore_n X (lv' := [(3, .ref (q7 a0)), (2, .int v13), (1, .ref (q7 n9)), (0, .ref (q7 a0))]) dX0_mostAlikeIn_8 rfl (by decide) rfl ?_
  refine j_aload_n X dX0_mostAlikeIn_9 0 rfl rfl ?_
  refine j_alen X (Or.inl rfl) h11 dX0_mostAlikeIn_10 (fun v15 ev15 => ?_)
  replace hf6 := lt_of hf6 v15 ev15
  refine j_istore X (lv' := [(4, .int v15), (3, .ref (q7 a0)), (2, .int v13), (1, .ref (q7 n9)), (0, .ref (q7 a0))]) dX0_mostAlikeIn_11 (by decide) rfl ?_
  refine j_iconst X (v := 0) dX0_mostAlikeIn_13 (by decide) ?_
  refine j_nmi (fun v17 ev17 => ?_)
  replace hf6 := lt_of hf6 v17 ev17
  refine j_istore X (lv' := [(5, .int v17), (4, .int v15), (3, .ref (q7 a0)), (2, .int v13), (1, .ref (q7 n9)), (0, .ref (q7 a0))]) dX0_mostAlikeIn_14 (by decide) rfl ?_
  refine j_lvsub [5, 4, 3, 2, 1, 0] (lv' := [(0, .ref (q7 a0)), (1, .ref (q7 n9)), (2, .int v13), (3, .ref (q7 a0)), (4, .int v15), (5, .int v17)]) rfl ?_
  exact L16 q7 (fun j hj => by rw [hq7 j (by omega)])  1000 a0 n9 v13 a0 v15 v17 σ8 (by omega) hf6
