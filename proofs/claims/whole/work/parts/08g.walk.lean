def f_X6_span (a0 : Nat) (a1 : Int32) (a2 : Int32) (σ : HS) : Option (Int64 × HS) :=
  chk (isO σ 6 a0) (bc (f_X6_isFormula a0 a1 σ) fun r3 σ4 =>
  (if r3 = 0 then
  some ((-9223372036854775808 : Int64), σ4)
  else
  bc (f_X6_isIn (a2).toInt64 (0 : Int64) (2 : Int64) σ4) fun r10 σ11 =>
  (if r10 = 0 then
  some ((-9223372036854775808 : Int64), σ11)
  else
  chk (isO σ11 6 a0) (bc (f_X6_spansNow a0 a1 σ11) fun r19 σ20 =>
  (if r19 = 0 then
  chk (isO σ20 6 a0) (bc (f_X6_goesWay a0 a1 σ20) fun r52 σ53 =>
  some ((-9223372036854775807 : Int64), σ53))
  else
  (if a2 = 0 then
  chk (isO σ20 6 a0) (bc (f_X6_lowOf a0 a1 σ20) fun r46 σ47 =>
  some (r46, σ47))
  else
  (if a2 = (1 : Int32) then
  chk (isO σ20 6 a0) (bc (f_X6_highOf a0 a1 σ20) fun r40 σ41 =>
  some (r40, σ41))
  else
  chk (isO σ20 6 a0) (bc (f_X6_widthNow a0 a1 σ20) fun r34 σ35 =>
  some (r34, σ35)))))))))
abbrev rm_X6_span : Room := { frames := 6, cells := 0, slots := 0, locals := 384 }
set_option maxHeartbeats 4000000 in
set_option maxRecDepth 100000 in
theorem c_X6_span (l : Launch) (D : va_G) (cs : Nat → ClassId) (q : Nat → Nat) (a0 : Nat) (a1 : Int32) (a2 : Int32) (σ σ0 : HS) (r0 : Int64) (hf0 : f_X6_span a0 a1 a2 σ = some (r0, σ0)) : MT l yX6_span (Cond.code yX6_span cX6_span 3 (some .long) :: lw_g) rm_X6_span D cs q σ σ0 [.ref (q a0), .int a1, .int a2] (fun z => z = q) (fun _ => some (.long r0)) 0 0 := by
  unfold f_X6_span at hf0
  refine MT_of (cc := cX6_span) (lv0 := [(0, .ref (q a0)), (1, .int a1), (2, .int a2)]) (by decide) (Nat.le_of_ble_eq_true rfl) rfl (fun p e s m args below meth c A X hr hlk hin => ?_)
  refine j_aload_n X dX6_span_0 0 rfl rfl ?_
  refine j_iload_n X dX6_span_1 1 rfl rfl ?_
  obtain ⟨h1, hf2⟩ := chk_of hf0; clear hf0
  obtain ⟨r3, σ4, h5, hf6⟩ := bc_of hf2; clear hf2
  refine j_callV0 X [.int a1] [] (c_X6_isFormula l D cs q a0 a1 σ _ _ h5) mk_X6_isFormula mv_X6_isFormula ml_X6_180 h1 rfl (by decide) ⟨rfl, rfl⟩ ⟨Nat.le_of_ble_eq_true rfl, Nat.le_of_ble_eq_true rfl⟩ rfl (Nat.le_of_ble_eq_true rfl) ⟨Nat.le_of_ble_eq_true rfl, Nat.le_of_ble_eq_true rfl⟩ dX6_span_2 rfl (st' := [.int r3]) rfl ?_
  refine j_if_eq X (tgt := 20) dX6_span_5 (by decide) (fun c7 => ?_) (fun c7 => ?_)
  · have hf8 := br_y hf6 c7; clear hf6
    refine j_ldc2 X k_X6_198 dX6_span_20 ?_
    obtain ⟨er, es⟩ := rt_of hf8
    subst er
    exact j_retl X hr hlk (Nat.le_of_ble_eq_true rfl) (Nat.le_of_ble_eq_true rfl) rfl es.symm rfl dX6_span_23
  · have hf9 := br_n hf6 c7; clear hf6
    refine j_iload_n X dX6_span_8 2 rfl rfl ?_
    refine j_i2l X dX6_span_9 ?_
    refine j_lconst X (v := 0) dX6_span_10 (by decide) ?_
    refine j_ldc2 X k_X6_105 dX6_span_11 ?_
    obtain ⟨r10, σ11, h12, hf13⟩ := bc_of hf9; clear hf9
    refine j_callS0 X [.long (a2).toInt64, .long (0 : Int64), .long (2 : Int64)] [] (c_X6_isIn l D cs q (a2).toInt64 (0 : Int64) (2 : Int64) σ4 _ _ h12) mk_X6_isIn ms_X6_isIn ml_X6_97 ⟨rfl, rfl⟩ ⟨Nat.le_of_ble_eq_true rfl, Nat.le_of_ble_eq_true rfl⟩ rfl (Nat.le_of_ble_eq_true rfl) ⟨Nat.le_of_ble_eq_true rfl, Nat.le_of_ble_eq_true rfl⟩ dX6_span_14 rfl (st' := [.int r10]) rfl ?_
    refine j_if_ne X (tgt := 24) dX6_span_17 (by decide) (fun c14 => ?_) (fun c14 => ?_)
    · have hf15 := br_n hf13 c14; clear hf13
      refine j_aload_n X dX6_span_24 0 rfl rfl ?_
      refine j_iload_n X dX6_span_25 1 rfl rfl ?_
      obtain ⟨h17, hf18⟩ := chk_of hf15; clear hf15
      obtain ⟨r19, σ20, h21, hf22⟩ := bc_of hf18; clear hf18
      refine j_callV0 X [.int a1] [] (c_X6_spansNow l D cs q a0 a1 σ11 _ _ h21) mk_X6_spansNow mv_X6_spansNow ml_X6_254 h17 rfl (by decide) ⟨rfl, rfl⟩ ⟨Nat.le_of_ble_eq_true rfl, Nat.le_of_ble_eq_true rfl⟩ rfl (Nat.le_of_ble_eq_true rfl) ⟨Nat.le_of_ble_eq_true rfl, Nat.le_of_ble_eq_true rfl⟩ dX6_span_26 rfl (st' := [.int r19]) rfl ?_
      refine j_if_ne X (tgt := 41) dX6_span_29 (by decide) (fun c23 => ?_) (fun c23 => ?_)
      · have hf24 := br_n hf22 c23; clear hf22
        refine j_iload_n X dX6_span_41 2 rfl rfl ?_
        refine j_if_ne X (tgt := 53) dX6_span_42 (by decide) (fun c26 => ?_) (fun c26 => ?_)
        · have hf27 := br_n hf24 c26; clear hf24
          refine j_iload_n X dX6_span_53 2 rfl rfl ?_
          refine j_iconst X (v := 1) dX6_span_54 (by decide) ?_
          refine j_icmp_ne X (tgt := 66) dX6_span_55 (by decide) (fun c29 => ?_) (fun c29 => ?_)
          · have hf30 := br_n hf27 c29; clear hf27
            refine j_aload_n X dX6_span_66 0 rfl rfl ?_
            refine j_iload_n X dX6_span_67 1 rfl rfl ?_
            obtain ⟨h32, hf33⟩ := chk_of hf30; clear hf30
            obtain ⟨r34, σ35, h36, hf37⟩ := bc_of hf33; clear hf33
            refine j_callV0 X [.int a1] [] (c_X6_widthNow l D cs q a0 a1 σ20 _ _ h36) mk_X6_widthNow mv_X6_widthNow ml_X6_261 h32 rfl (by decide) ⟨rfl, rfl⟩ ⟨Nat.le_of_ble_eq_true rfl, Nat.le_of_ble_eq_true rfl⟩ rfl (Nat.le_of_ble_eq_true rfl) ⟨Nat.le_of_ble_eq_true rfl, Nat.le_of_ble_eq_true rfl⟩ dX6_span_68 rfl (st' := [.long r34]) rfl ?_
            obtain ⟨er, es⟩ := rt_of hf37
            subst er
            exact j_retl X hr hlk (Nat.le_of_ble_eq_true rfl) (Nat.le_of_ble_eq_true rfl) rfl es.symm rfl dX6_span_71
          · have hf31 := br_y hf27 c29; clear hf27
            refine j_aload_n X dX6_span_58 0 rfl rfl ?_
            refine j_iload_n X dX6_span_59 1 rfl rfl ?_
            obtain ⟨h38, hf39⟩ := chk_of hf31; clear hf31
            obtain ⟨r40, σ41, h42, hf43⟩ := bc_of hf39; clear hf39
            refine j_callV0 X [.int a1] [] (c_X6_highOf l D cs q a0 a1 σ20 _ _ h42) mk_X6_highOf mv_X6_highOf ml_X6_241 h38 rfl (by decide) ⟨rfl, rfl⟩ ⟨Nat.le_of_ble_eq_true rfl, Nat.le_of_ble_eq_true rfl⟩ rfl (Nat.le_of_ble_eq_true rfl) ⟨Nat.le_of_ble_eq_true rfl, Nat.le_of_ble_eq_true rfl⟩ dX6_span_60 rfl (st' := [.long r40]) rfl ?_
            refine j_goto X (tgt := 71) dX6_span_63 (by decide) ?_
            obtain ⟨er, es⟩ := rt_of hf43
            subst er
            exact j_retl X hr hlk (Nat.le_of_ble_eq_true rfl) (Nat.le_of_ble_eq_true rfl) rfl es.symm rfl dX6_span_71
        · have hf28 := br_y hf24 c26; clear hf24
          refine j_aload_n X dX6_span_45 0 rfl rfl ?_
          refine j_iload_n X dX6_span_46 1 rfl rfl ?_
          obtain ⟨h44, hf45⟩ := chk_of hf28; clear hf28
          obtain ⟨r46, σ47, h48, hf49⟩ := bc_of hf45; clear hf45
          refine j_callV0 X [.int a1] [] (c_X6_lowOf l D cs q a0 a1 σ20 _ _ h48) mk_X6_lowOf mv_X6_lowOf ml_X6_245 h44 rfl (by decide) ⟨rfl, rfl⟩ ⟨Nat.le_of_ble_eq_true rfl, Nat.le_of_ble_eq_true rfl⟩ rfl (Nat.le_of_ble_eq_true rfl) ⟨Nat.le_of_ble_eq_true rfl, Nat.le_of_ble_eq_true rfl⟩ dX6_span_47 rfl (st' := [.long r46]) rfl ?_
          refine j_goto X (tgt := 71) dX6_span_50 (by decide) ?_
          obtain ⟨er, es⟩ := rt_of hf49
          subst er
          exact j_retl X hr hlk (Nat.le_of_ble_eq_true rfl) (Nat.le_of_ble_eq_true rfl) rfl es.symm rfl dX6_span_71
      · have hf25 := br_y hf22 c23; clear hf22
        refine j_aload_n X dX6_span_32 0 rfl rfl ?_
        refine j_iload_n X dX6_span_33 1 rfl rfl ?_
        obtain ⟨h50, hf51⟩ := chk_of hf25; clear hf25
        obtain ⟨r52, σ53, h54, hf55⟩ := bc_of hf51; clear hf51
        refine j_callV0 X [.int a1] [] (c_X6_goesWay l D cs q a0 a1 σ20 _ _ h54) mk_X6_goesWay mv_X6_goesWay ml_X6_257 h50 rfl (by decide) ⟨rfl, rfl⟩ ⟨Nat.le_of_ble_eq_true rfl, Nat.le_of_ble_eq_true rfl⟩ rfl (Nat.le_of_ble_eq_true rfl) ⟨Nat.le_of_ble_eq_true rfl, Nat.le_of_ble_eq_true rfl⟩ dX6_span_34 rfl (st' := []) rfl ?_
        refine j_ldc2 X k_X6_239 dX6_span_37 ?_
        obtain ⟨er, es⟩ := rt_of hf55
        subst er
        exact j_retl X hr hlk (Nat.le_of_ble_eq_true rfl) (Nat.le_of_ble_eq_true rfl) rfl es.symm rfl dX6_span_40
    · have hf16 := br_y hf13 c14; clear hf13
      refine j_ldc2 X k_X6_198 dX6_span_20 ?_
      obtain ⟨er, es⟩ := rt_of hf16
      subst er
      exact j_retl X hr hlk (Nat.le_of_ble_eq_true rfl) (Nat.le_of_ble_eq_true rfl) rfl es.symm rfl dX6_span_23
def f_X6_split (a0 : Nat) (a1 : Int32) (a2 : Int32) (a3 : Int32) (a4 : Int32) (σ : HS) : Option (Int64 × HS) :=
  chk (isO σ 6 a0) (bc (f_X6_isFormula a0 a1 σ) fun r3 σ4 =>
  (if r3 = 0 then
  some ((-9223372036854775808 : Int64), σ4)
  else
  bc (f_X6_isSource a2 σ4) fun r10 σ11 =>
  (if r10 = 0 then
  some ((-9223372036854775808 : Int64), σ11)
  else
  chk (isO σ11 6 a0) (bc (f_X6_of a0 a2 (3 : Int32) σ11) fun r19 σ20 =>
  chk (isO σ20 6 a0) (bc (f_X6_of a0 a2 (4 : Int32) σ20) fun r25 σ26 =>
  bc (f_X6_isIn (a3).toInt64 (r19).toInt64 (r25).toInt64 σ26) fun r29 σ30 =>
  (if r29 = 0 then
  some ((-9223372036854775808 : Int64), σ30)
  else
  bc (f_X6_isIn (a4).toInt64 (0 : Int64) (2 : Int64) σ30) fun r36 σ37 =>
  (if r36 = 0 then
  some ((-9223372036854775808 : Int64), σ37)
  else
  chk (isO σ37 6 a0) (bc (f_X6_spansNow a0 a1 σ37) fun r45 σ46 =>
  (if r45 = 0 then
  some ((-9223372036854775807 : Int64), σ46)
  else
  chk (isO σ46 6 a0) (bc (f_X6_splits a0 a1 a2 a3 σ46) fun r54 σ55 =>
  chk (isO σ55 6 a0) (lt (sA σ55 a0 20 (0 : Int32)) fun σ60 =>
  lt (hB σ60 a0 34) fun v63 =>
  lt (hB σ60 a0 33) fun v65 =>
  bc (f_X6_less a0 v63 v65 σ60) fun r67 σ68 =>
  (if a4 = 0 then
  chk (isO σ68 6 a0) (lt (hB σ68 a0 33) fun v90 =>
  some (v90, σ68))
  else
  (if a4 = (1 : Int32) then
  chk (isO σ68 6 a0) (lt (hB σ68 a0 34) fun v86 =>
  some (v86, σ68))
  else
  chk (isO σ68 6 a0) (lt (hA σ68 a0 20) fun v79 =>
  (if v79 = 0 then
  some (r67, σ68)
  else
  some ((-9223372036854775807 : Int64), σ68))))))))))))))))
abbrev rm_X6_split : Room := { frames := 5, cells := 0, slots := 0, locals := 320 }
set_option maxHeartbeats 4000000 in
set_option maxRecDepth 100000 in
theorem c_X6_split (l : Launch) (D : va_G) (cs : Nat → ClassId) (q : Nat → Nat) (a0 : Nat) (a1 : Int32) (a2 : Int32) (a3 : Int32) (a4 : Int32) (σ σ0 : HS) (r0 : Int64) (hf0 : f_X6_split a0 a1 a2 a3 a4 σ = some (r0, σ0)) : MT l yX6_split (Cond.code yX6_split cX6_split 7 (some .long) :: lw_g) rm_X6_split D cs q σ σ0 [.ref (q a0), .int a1, .int a2, .int a3, .int a4] (fun z => z = q) (fun _ => some (.long r0)) 0 0 := by
  unfold f_X6_split at hf0
  refine MT_of (cc := cX6_split) (lv0 := [(0, .ref (q a0)), (1, .int a1), (2, .int a2), (3, .int a3), (4, .int a4)]) (by decide) (Nat.le_of_ble_eq_true rfl) rfl (fun p e s m args below meth c A X hr hlk hin => ?_)
  refine j_aload_n X dX6_split_0 0 rfl rfl ?_
  refine j_iload_n X dX6_split_1 1 rfl rfl ?_
  obtain ⟨h1, hf2⟩ := chk_of hf0; clear hf0
  obtain ⟨r3, σ4, h5, hf6⟩ := bc_of hf2; clear hf2
  refine j_callV0 X [.int a1] [] (c_X6_isFormula l D cs q a0 a1 σ _ _ h5) mk_X6_isFormula mv_X6_isFormula ml_X6_180 h1 rfl (by decide) ⟨rfl, rfl⟩ ⟨Nat.le_of_ble_eq_true rfl, Nat.le_of_ble_eq_true rfl⟩ rfl (Nat.le_of_ble_eq_true rfl) ⟨Nat.le_of_ble_eq_true rfl, Nat.le_of_ble_eq_true rfl⟩ dX6_split_2 rfl (st' := [.int r3]) rfl ?_
  refine j_if_eq X (tgt := 50) dX6_split_5 (by decide) (fun c7 => ?_) (fun c7 => ?_)
  · have hf8 := br_y hf6 c7; clear hf6
    refine j_ldc2 X k_X6_198 dX6_split_50 ?_
    obtain ⟨er, es⟩ := rt_of hf8
    subst er
    exact j_retl X hr hlk (Nat.le_of_ble_eq_true rfl) (Nat.le_of_ble_eq_true rfl) rfl es.symm rfl dX6_split_53
  · have hf9 := br_n hf6 c7; clear hf6
    refine j_iload_n X dX6_split_8 2 rfl rfl ?_
    obtain ⟨r10, σ11, h12, hf13⟩ := bc_of hf9; clear hf9
    refine j_callS0 X [.int a2] [] (c_X6_isSource l D cs q a2 σ4 _ _ h12) mk_X6_isSource ms_X6_isSource ml_X6_101 ⟨rfl, rfl⟩ ⟨Nat.le_of_ble_eq_true rfl, Nat.le_of_ble_eq_true rfl⟩ rfl (Nat.le_of_ble_eq_true rfl) ⟨Nat.le_of_ble_eq_true rfl, Nat.le_of_ble_eq_true rfl⟩ dX6_split_9 rfl (st' := [.int r10]) rfl ?_
    refine j_if_eq X (tgt := 50) dX6_split_12 (by decide) (fun c14 => ?_) (fun c14 => ?_)
    · have hf15 := br_y hf13 c14; clear hf13
      refine j_ldc2 X k_X6_198 dX6_split_50 ?_
      obtain ⟨er, es⟩ := rt_of hf15
      subst er
      exact j_retl X hr hlk (Nat.le_of_ble_eq_true rfl) (Nat.le_of_ble_eq_true rfl) rfl es.symm rfl dX6_split_53
    · have hf16 := br_n hf13 c14; clear hf13
      refine j_iload_n X dX6_split_15 3 rfl rfl ?_
      refine j_i2l X dX6_split_16 ?_
      refine j_aload_n X dX6_split_17 0 rfl rfl ?_
      refine j_iload_n X dX6_split_18 2 rfl rfl ?_
      refine j_iconst X (v := 3) dX6_split_19 (by decide) ?_
      obtain ⟨h17, hf18⟩ := chk_of hf16; clear hf16
      obtain ⟨r19, σ20, h21, hf22⟩ := bc_of hf18; clear hf18
      refine j_callV0 X [.int a2, .int (3 : Int32)] [.long (a3).toInt64] (c_X6_of l D cs q a0 a2 (3 : Int32) σ11 _ _ h21) mk_X6_of mv_X6_of ml_X6_280 h17 rfl (by decide) ⟨rfl, rfl⟩ ⟨Nat.le_of_ble_eq_true rfl, Nat.le_of_ble_eq_true rfl⟩ rfl (Nat.le_of_ble_eq_true rfl) ⟨Nat.le_of_ble_eq_true rfl, Nat.le_of_ble_eq_true rfl⟩ dX6_split_20 rfl (st' := [.int r19, .long (a3).toInt64]) rfl ?_
      refine j_i2l X dX6_split_23 ?_
      refine j_aload_n X dX6_split_24 0 rfl rfl ?_
      refine j_iload_n X dX6_split_25 2 rfl rfl ?_
      refine j_iconst X (v := 4) dX6_split_26 (by decide) ?_
      obtain ⟨h23, hf24⟩ := chk_of hf22; clear hf22
      obtain ⟨r25, σ26, h27, hf28⟩ := bc_of hf24; clear hf24
      refine j_callV0 X [.int a2, .int (4 : Int32)] [.long (r19).toInt64, .long (a3).toInt64] (c_X6_of l D cs q a0 a2 (4 : Int32) σ20 _ _ h27) mk_X6_of mv_X6_of ml_X6_280 h23 rfl (by decide) ⟨rfl, rfl⟩ ⟨Nat.le_of_ble_eq_true rfl, Nat.le_of_ble_eq_true rfl⟩ rfl (Nat.le_of_ble_eq_true rfl) ⟨Nat.le_of_ble_eq_true rfl, Nat.le_of_ble_eq_true rfl⟩ dX6_split_27 rfl (st' := [.int r25, .long (r19).toInt64, .long (a3).toInt64]) rfl ?_
      refine j_i2l X dX6_split_30 ?_
      obtain ⟨r29, σ30, h31, hf32⟩ := bc_of hf28; clear hf28
      refine j_callS0 X [.long (a3).toInt64, .long (r19).toInt64, .long (r25).toInt64] [] (c_X6_isIn l D cs q (a3).toInt64 (r19).toInt64 (r25).toInt64 σ26 _ _ h31) mk_X6_isIn ms_X6_isIn ml_X6_97 ⟨rfl, rfl⟩ ⟨Nat.le_of_ble_eq_true rfl, Nat.le_of_ble_eq_true rfl⟩ rfl (Nat.le_of_ble_eq_true rfl) ⟨Nat.le_of_ble_eq_true rfl, Nat.le_of_ble_eq_true rfl⟩ dX6_split_31 rfl (st' := [.int r29]) rfl ?_
      refine j_if_eq X (tgt := 50) dX6_split_34 (by decide) (fun c33 => ?_) (fun c33 => ?_)
      · have hf34 := br_y hf32 c33; clear hf32
        refine j_ldc2 X k_X6_198 dX6_split_50 ?_
        obtain ⟨er, es⟩ := rt_of hf34
        subst er
        exact j_retl X hr hlk (Nat.le_of_ble_eq_true rfl) (Nat.le_of_ble_eq_true rfl) rfl es.symm rfl dX6_split_53
      · have hf35 := br_n hf32 c33; clear hf32
        refine j_iload X dX6_split_37 4 rfl ?_
        refine j_i2l X dX6_split_39 ?_
        refine j_lconst X (v := 0) dX6_split_40 (by decide) ?_
        refine j_ldc2 X k_X6_105 dX6_split_41 ?_
        obtain ⟨r36, σ37, h38, hf39⟩ := bc_of hf35; clear hf35
        refine j_callS0 X [.long (a4).toInt64, .long (0 : Int64), .long (2 : Int64)] [] (c_X6_isIn l D cs q (a4).toInt64 (0 : Int64) (2 : Int64) σ30 _ _ h38) mk_X6_isIn ms_X6_isIn ml_X6_97 ⟨rfl, rfl⟩ ⟨Nat.le_of_ble_eq_true rfl, Nat.le_of_ble_eq_true rfl⟩ rfl (Nat.le_of_ble_eq_true rfl) ⟨Nat.le_of_ble_eq_true rfl, Nat.le_of_ble_eq_true rfl⟩ dX6_split_44 rfl (st' := [.int r36]) rfl ?_
        refine j_if_ne X (tgt := 54) dX6_split_47 (by decide) (fun c40 => ?_) (fun c40 => ?_)
        · have hf41 := br_n hf39 c40; clear hf39
          refine j_aload_n X dX6_split_54 0 rfl rfl ?_
          refine j_iload_n X dX6_split_55 1 rfl rfl ?_
          obtain ⟨h43, hf44⟩ := chk_of hf41; clear hf41
          obtain ⟨r45, σ46, h47, hf48⟩ := bc_of hf44; clear hf44
          refine j_callV0 X [.int a1] [] (c_X6_spansNow l D cs q a0 a1 σ37 _ _ h47) mk_X6_spansNow mv_X6_spansNow ml_X6_254 h43 rfl (by decide) ⟨rfl, rfl⟩ ⟨Nat.le_of_ble_eq_true rfl, Nat.le_of_ble_eq_true rfl⟩ rfl (Nat.le_of_ble_eq_true rfl) ⟨Nat.le_of_ble_eq_true rfl, Nat.le_of_ble_eq_true rfl⟩ dX6_split_56 rfl (st' := [.int r45]) rfl ?_
          refine j_if_ne X (tgt := 66) dX6_split_59 (by decide) (fun c49 => ?_) (fun c49 => ?_)
          · have hf50 := br_n hf48 c49; clear hf48
            refine j_aload_n X dX6_split_66 0 rfl rfl ?_
            refine j_iload_n X dX6_split_67 1 rfl rfl ?_
            refine j_iload_n X dX6_split_68 2 rfl rfl ?_
            refine j_iload_n X dX6_split_69 3 rfl rfl ?_
            obtain ⟨h52, hf53⟩ := chk_of hf50; clear hf50
            obtain ⟨r54, σ55, h56, hf57⟩ := bc_of hf53; clear hf53
            refine j_callV0 X [.int a1, .int a2, .int a3] [] (c_X6_splits l D cs q a0 a1 a2 a3 σ46 _ _ h56) mk_X6_splits mv_X6_splits ml_X6_283 h52 rfl (by decide) ⟨rfl, rfl⟩ ⟨Nat.le_of_ble_eq_true rfl, Nat.le_of_ble_eq_true rfl⟩ rfl (Nat.le_of_ble_eq_true rfl) ⟨Nat.le_of_ble_eq_true rfl, Nat.le_of_ble_eq_true rfl⟩ dX6_split_70 rfl (st' := []) rfl ?_
            refine j_aload_n X dX6_split_73 0 rfl rfl ?_
            refine j_iconst X (v := 0) dX6_split_74 (by decide) ?_
            obtain ⟨h58, hf59⟩ := chk_of hf57; clear hf57
            refine j_putz X fp_X6_193 h58 (Or.inl rfl) dX6_split_75 (fun σ60 eσ60 => ?_)
            replace hf59 := lt_of hf59 σ60 eσ60
            have h62 : isO σ60 6 a0 := by rw [eσ60]; exact h58
            refine j_aload_n X dX6_split_78 0 rfl rfl ?_
            refine j_aload_n X dX6_split_79 0 rfl rfl ?_
            refine j_getl X fd_X6_277 h62 dX6_split_80 (fun v63 ev63 => ?_)
            replace hf59 := lt_of hf59 v63 ev63
            refine j_aload_n X dX6_split_83 0 rfl rfl ?_
            refine j_getl X fd_X6_274 h62 dX6_split_84 (fun v65 ev65 => ?_)
            replace hf59 := lt_of hf59 v65 ev65
            obtain ⟨r67, σ68, h69, hf70⟩ := bc_of hf59; clear hf59
            refine j_callV0 X [.long v63, .long v65] [] (c_X6_less l D cs q a0 v63 v65 σ60 _ _ h69) mk_X6_less mv_X6_less ml_X6_220 h62 rfl (by decide) ⟨rfl, rfl⟩ ⟨Nat.le_of_ble_eq_true rfl, Nat.le_of_ble_eq_true rfl⟩ rfl (Nat.le_of_ble_eq_true rfl) ⟨Nat.le_of_ble_eq_true rfl, Nat.le_of_ble_eq_true rfl⟩ dX6_split_87 rfl (st' := [.long r67]) rfl ?_
            refine j_lstore X (lv' := [(5, .long r67), (0, .ref (q a0)), (1, .int a1), (2, .int a2), (3, .int a3), (4, .int a4)]) dX6_split_90 (by decide) rfl ?_
            refine j_iload X dX6_split_92 5 rfl ?_
            refine j_if_ne X (tgt := 104) dX6_split_94 (by decide) (fun c71 => ?_) (fun c71 => ?_)
            · have hf72 := br_n hf70 c71; clear hf70
              refine j_iload X dX6_split_104 5 rfl ?_
              refine j_iconst X (v := 1) dX6_split_106 (by decide) ?_
              refine j_icmp_ne X (tgt := 117) dX6_split_107 (by decide) (fun c74 => ?_) (fun c74 => ?_)
              · have hf75 := br_n hf72 c74; clear hf72
                refine j_aload_n X dX6_split_117 1 rfl rfl ?_
                obtain ⟨h77, hf78⟩ := chk_of hf75; clear hf75
                refine j_geti X fd_X6_193 h77 dX6_split_118 (fun v79 ev79 => ?_)
                replace hf78 := lt_of hf78 v79 ev79
                refine j_if_eq X (tgt := 130) dX6_split_121 (by decide) (fun c81 => ?_) (fun c81 => ?_)
                · have hf82 := br_y hf78 c81; clear hf78
                  refine j_lload X dX6_split_130 0 rfl ?_
                  obtain ⟨er, es⟩ := rt_of hf82
                  subst er
                  exact j_retl X hr hlk (Nat.le_of_ble_eq_true rfl) (Nat.le_of_ble_eq_true rfl) rfl es.symm rfl dX6_split_132
                · have hf83 := br_n hf78 c81; clear hf78
                  refine j_ldc2 X k_X6_239 dX6_split_124 ?_
                  refine j_goto X (tgt := 132) dX6_split_127 (by decide) ?_
                  obtain ⟨er, es⟩ := rt_of hf83
                  subst er
                  exact j_retl X hr hlk (Nat.le_of_ble_eq_true rfl) (Nat.le_of_ble_eq_true rfl) rfl es.symm rfl dX6_split_132
              · have hf76 := br_y hf72 c74; clear hf72
                refine j_aload_n X dX6_split_110 1 rfl rfl ?_
                obtain ⟨h84, hf85⟩ := chk_of hf76; clear hf76
                refine j_getl X fd_X6_277 h84 dX6_split_111 (fun v86 ev86 => ?_)
                replace hf85 := lt_of hf85 v86 ev86
                refine j_goto X (tgt := 132) dX6_split_114 (by decide) ?_
                obtain ⟨er, es⟩ := rt_of hf85
                subst er
                exact j_retl X hr hlk (Nat.le_of_ble_eq_true rfl) (Nat.le_of_ble_eq_true rfl) rfl es.symm rfl dX6_split_132
            · have hf73 := br_y hf70 c71; clear hf70
              refine j_aload_n X dX6_split_97 1 rfl rfl ?_
              obtain ⟨h88, hf89⟩ := chk_of hf73; clear hf73
              refine j_getl X fd_X6_274 h88 dX6_split_98 (fun v90 ev90 => ?_)
              replace hf89 := lt_of hf89 v90 ev90
              refine j_goto X (tgt := 132) dX6_split_101 (by decide) ?_
              obtain ⟨er, es⟩ := rt_of hf89
              subst er
              exact j_retl X hr hlk (Nat.le_of_ble_eq_true rfl) (Nat.le_of_ble_eq_true rfl) rfl es.symm rfl dX6_split_132
          · have hf51 := br_y hf48 c49; clear hf48
            refine j_ldc2 X k_X6_239 dX6_split_62 ?_
            obtain ⟨er, es⟩ := rt_of hf51
            subst er
            exact j_retl X hr hlk (Nat.le_of_ble_eq_true rfl) (Nat.le_of_ble_eq_true rfl) rfl es.symm rfl dX6_split_65
        · have hf42 := br_y hf39 c40; clear hf39
          refine j_ldc2 X k_X6_198 dX6_split_50 ?_
          obtain ⟨er, es⟩ := rt_of hf42
          subst er
          exact j_retl X hr hlk (Nat.le_of_ble_eq_true rfl) (Nat.le_of_ble_eq_true rfl) rfl es.symm rfl dX6_split_53
def lp_X6_tight_66_b (K36 : Nat → Int32 → Int32 → Int32 → HS → Option (Int64 × HS)) (K66 : Nat → Int32 → Int32 → Int32 → HS → Option (Int64 × HS)) (x0 : Nat) (x1 : Int32) (x2 : Int32) (x3 : Int32) (τ : HS) : Option (Int64 × HS) :=
  (if (6 : Int32) ≤ x3 then
  chk (isO τ 6 x0) (bc (f_X6_spans x0 x1 τ) fun r44 σ45 =>
  (if x2 = 0 then
  chk (isO σ45 6 x0) (bc (f_X6_lowOf x0 x1 σ45) fun r59 σ60 =>
  some (r59, σ60))
  else
  chk (isO σ45 6 x0) (bc (f_X6_highOf x0 x1 σ45) fun r53 σ54 =>
  some (r53, σ54))))
  else
  chk (isO τ 6 x0) (bd (hR τ x0 32) fun i65 =>
  chk (isO τ 10 i65 ∧ inb x3 (hlen τ i65)) (lt (hA τ i65 x3.toNatClampNeg) fun v70 =>
  (if v70 = (1 : Int32) then
  chk (isO τ 10 i65 ∧ inb x3 (hlen τ i65)) (lt (hA τ i65 x3.toNatClampNeg) fun v80 =>
  (if v80 = (1 : Int32) then
  (if x2 = 0 then
  (if (1 : Int32) = (1 : Int32) then
  bd (hR τ x0 21) fun i194 =>
  chk (isO τ 10 i194 ∧ inb x3 (hlen τ i194)) (lt (hA τ i194 x3.toNatClampNeg) fun v199 =>
  bc (f_X6_laysPoint x0 x3 v199 τ) fun r201 σ202 =>
  lt (x3 + (1 : Int32)) fun v205 =>
  K66 x0 x1 x2 v205 σ202)
  else
  bd (hR τ x0 22) fun i181 =>
  chk (isO τ 10 i181 ∧ inb x3 (hlen τ i181)) (lt (hA τ i181 x3.toNatClampNeg) fun v186 =>
  bc (f_X6_laysPoint x0 x3 v186 τ) fun r188 σ189 =>
  lt (x3 + (1 : Int32)) fun v192 =>
  K66 x0 x1 x2 v192 σ189))
  else
  (if (1 : Int32) = (0 : Int32) then
  bd (hR τ x0 21) fun i165 =>
  chk (isO τ 10 i165 ∧ inb x3 (hlen τ i165)) (lt (hA τ i165 x3.toNatClampNeg) fun v170 =>
  bc (f_X6_laysPoint x0 x3 v170 τ) fun r172 σ173 =>
  lt (x3 + (1 : Int32)) fun v176 =>
  K66 x0 x1 x2 v176 σ173)
  else
  bd (hR τ x0 22) fun i152 =>
  chk (isO τ 10 i152 ∧ inb x3 (hlen τ i152)) (lt (hA τ i152 x3.toNatClampNeg) fun v157 =>
  bc (f_X6_laysPoint x0 x3 v157 τ) fun r159 σ160 =>
  lt (x3 + (1 : Int32)) fun v163 =>
  K66 x0 x1 x2 v163 σ160)))
  else
  (if x2 = 0 then
  (if (0 : Int32) = (1 : Int32) then
  bd (hR τ x0 21) fun i133 =>
  chk (isO τ 10 i133 ∧ inb x3 (hlen τ i133)) (lt (hA τ i133 x3.toNatClampNeg) fun v138 =>
  bc (f_X6_laysPoint x0 x3 v138 τ) fun r140 σ141 =>
  lt (x3 + (1 : Int32)) fun v144 =>
  K66 x0 x1 x2 v144 σ141)
  else
  bd (hR τ x0 22) fun i120 =>
  chk (isO τ 10 i120 ∧ inb x3 (hlen τ i120)) (lt (hA τ i120 x3.toNatClampNeg) fun v125 =>
  bc (f_X6_laysPoint x0 x3 v125 τ) fun r127 σ128 =>
  lt (x3 + (1 : Int32)) fun v131 =>
  K66 x0 x1 x2 v131 σ128))
  else
  (if (0 : Int32) = (0 : Int32) then
  bd (hR τ x0 21) fun i104 =>
  chk (isO τ 10 i104 ∧ inb x3 (hlen τ i104)) (lt (hA τ i104 x3.toNatClampNeg) fun v109 =>
  bc (f_X6_laysPoint x0 x3 v109 τ) fun r111 σ112 =>
  lt (x3 + (1 : Int32)) fun v115 =>
  K66 x0 x1 x2 v115 σ112)
  else
  bd (hR τ x0 22) fun i91 =>
  chk (isO τ 10 i91 ∧ inb x3 (hlen τ i91)) (lt (hA τ i91 x3.toNatClampNeg) fun v96 =>
  bc (f_X6_laysPoint x0 x3 v96 τ) fun r98 σ99 =>
  lt (x3 + (1 : Int32)) fun v102 =>
  K66 x0 x1 x2 v102 σ99)))))
  else
  chk (isO τ 10 i65 ∧ inb x3 (hlen τ i65)) (lt (hA τ i65 x3.toNatClampNeg) fun v212 =>
  (if v212 = (2 : Int32) then
  chk (isO τ 10 i65 ∧ inb x3 (hlen τ i65)) (lt (hA τ i65 x3.toNatClampNeg) fun v224 =>
  (if v224 = (1 : Int32) then
  (if x2 = 0 then
  (if (1 : Int32) = (1 : Int32) then
  bd (hR τ x0 21) fun i338 =>
  chk (isO τ 10 i338 ∧ inb x3 (hlen τ i338)) (lt (hA τ i338 x3.toNatClampNeg) fun v343 =>
  bc (f_X6_laysPoint x0 x3 v343 τ) fun r345 σ346 =>
  lt (x3 + (1 : Int32)) fun v349 =>
  K66 x0 x1 x2 v349 σ346)
  else
  bd (hR τ x0 22) fun i325 =>
  chk (isO τ 10 i325 ∧ inb x3 (hlen τ i325)) (lt (hA τ i325 x3.toNatClampNeg) fun v330 =>
  bc (f_X6_laysPoint x0 x3 v330 τ) fun r332 σ333 =>
  lt (x3 + (1 : Int32)) fun v336 =>
  K66 x0 x1 x2 v336 σ333))
  else
  (if (1 : Int32) = (0 : Int32) then
  bd (hR τ x0 21) fun i309 =>
  chk (isO τ 10 i309 ∧ inb x3 (hlen τ i309)) (lt (hA τ i309 x3.toNatClampNeg) fun v314 =>
  bc (f_X6_laysPoint x0 x3 v314 τ) fun r316 σ317 =>
  lt (x3 + (1 : Int32)) fun v320 =>
  K66 x0 x1 x2 v320 σ317)
  else
  bd (hR τ x0 22) fun i296 =>
  chk (isO τ 10 i296 ∧ inb x3 (hlen τ i296)) (lt (hA τ i296 x3.toNatClampNeg) fun v301 =>
  bc (f_X6_laysPoint x0 x3 v301 τ) fun r303 σ304 =>
  lt (x3 + (1 : Int32)) fun v307 =>
  K66 x0 x1 x2 v307 σ304)))
  else
  (if x2 = 0 then
  (if (0 : Int32) = (1 : Int32) then
  bd (hR τ x0 21) fun i277 =>
  chk (isO τ 10 i277 ∧ inb x3 (hlen τ i277)) (lt (hA τ i277 x3.toNatClampNeg) fun v282 =>
  bc (f_X6_laysPoint x0 x3 v282 τ) fun r284 σ285 =>
  lt (x3 + (1 : Int32)) fun v288 =>
  K66 x0 x1 x2 v288 σ285)
  else
  bd (hR τ x0 22) fun i264 =>
  chk (isO τ 10 i264 ∧ inb x3 (hlen τ i264)) (lt (hA τ i264 x3.toNatClampNeg) fun v269 =>
  bc (f_X6_laysPoint x0 x3 v269 τ) fun r271 σ272 =>
  lt (x3 + (1 : Int32)) fun v275 =>
  K66 x0 x1 x2 v275 σ272))
  else
  (if (0 : Int32) = (0 : Int32) then
  bd (hR τ x0 21) fun i248 =>
  chk (isO τ 10 i248 ∧ inb x3 (hlen τ i248)) (lt (hA τ i248 x3.toNatClampNeg) fun v253 =>
  bc (f_X6_laysPoint x0 x3 v253 τ) fun r255 σ256 =>
  lt (x3 + (1 : Int32)) fun v259 =>
  K66 x0 x1 x2 v259 σ256)
  else
  bd (hR τ x0 22) fun i235 =>
  chk (isO τ 10 i235 ∧ inb x3 (hlen τ i235)) (lt (hA τ i235 x3.toNatClampNeg) fun v240 =>
  bc (f_X6_laysPoint x0 x3 v240 τ) fun r242 σ243 =>
  lt (x3 + (1 : Int32)) fun v246 =>
  K66 x0 x1 x2 v246 σ243)))))
  else
  lt (x3 + (1 : Int32)) fun v217 =>
  K66 x0 x1 x2 v217 τ))))))
def lp_X6_tight_66 (K36 : Nat → Int32 → Int32 → Int32 → HS → Option (Int64 × HS)) : Nat → Nat → Int32 → Int32 → Int32 → HS → Option (Int64 × HS)
  | 0 => fun _ _ _ _ _ => none
  | n + 1 => lp_X6_tight_66_b K36 (lp_X6_tight_66 K36 n)
def lp_X6_tight_36_b  (K36 : Nat → Int32 → Int32 → Int32 → HS → Option (Int64 × HS)) (x0 : Nat) (x1 : Int32) (x2 : Int32) (x3 : Int32) (τ : HS) : Option (Int64 × HS) :=
  (if (6 : Int32) ≤ x3 then
  chk (isO τ 6 x0) (bc (f_X6_laysBox x0 τ) fun r33 σ34 =>
  lt ((0 : Int32)) fun v37 =>
  lp_X6_tight_66 (K36) 1000 x0 x1 x2 v37 σ34)
  else
  chk (isO τ 6 x0) (bd (hR τ x0 32) fun i353 =>
  bc (f_X6_changeOf x0 x1 x3 τ) fun r356 σ357 =>
  chk (isO σ357 10 i353 ∧ inb x3 (hlen σ357 i353)) (lt (sA σ357 i353 x3.toNatClampNeg r356) fun σ362 =>
  lt (x3 + (1 : Int32)) fun v364 =>
  K36 x0 x1 x2 v364 σ362)))
def lp_X6_tight_36  : Nat → Nat → Int32 → Int32 → Int32 → HS → Option (Int64 × HS)
  | 0 => fun _ _ _ _ _ => none
  | n + 1 => lp_X6_tight_36_b  (lp_X6_tight_36  n)
def f_X6_tight (a0 : Nat) (a1 : Int32) (a2 : Int32) (σ : HS) : Option (Int64 × HS) :=
  chk (isO σ 6 a0) (bc (f_X6_isFormula a0 a1 σ) fun r3 σ4 =>
  (if r3 = 0 then
  some ((-9223372036854775808 : Int64), σ4)
  else
  bc (f_X6_isIn (a2).toInt64 (0 : Int64) (1 : Int64) σ4) fun r10 σ11 =>
  (if r10 = 0 then
  some ((-9223372036854775808 : Int64), σ11)
  else
  chk (isO σ11 6 a0) (bc (f_X6_spansNow a0 a1 σ11) fun r19 σ20 =>
  (if r19 = 0 then
  some ((-9223372036854775807 : Int64), σ20)
  else
  lt ((0 : Int32)) fun v26 =>
  lp_X6_tight_36  1000 a0 a1 a2 v26 σ20)))))
abbrev rm_X6_tight : Room := { frames := 6, cells := 0, slots := 0, locals := 384 }
set_option maxHeartbeats 4000000 in
set_option maxRecDepth 100000 in
theorem c_X6_tight (l : Launch) (D : va_G) (cs : Nat → ClassId) (q : Nat → Nat) (a0 : Nat) (a1 : Int32) (a2 : Int32) (σ σ0 : HS) (r0 : Int64) (hf0 : f_X6_tight a0 a1 a2 σ = some (r0, σ0)) : MT l yX6_tight (Cond.code yX6_tight cX6_tight 4 (some .long) :: lw_g) rm_X6_tight D cs q σ σ0 [.ref (q a0), .int a1, .int a2] (fun z => z = q) (fun _ => some (.long r0)) 0 0 := by
  unfold f_X6_tight at hf0
  refine MT_of (cc := cX6_tight) (lv0 := [(0, .ref (q a0)), (1, .int a1), (2, .int a2)]) (by decide) (Nat.le_of_ble_eq_true rfl) rfl (fun p e s m args below meth c A X hr hlk hin => ?_)
  have L66 : ∀ (K36 : Nat → Int32 → Int32 → Int32 → HS → Option (Int64 × HS)) (hK36 : ∀ (x0 : Nat) (x1 : Int32) (x2 : Int32) (x3 : Int32) (τ : HS), K36 x0 x1 x2 x3 τ = some (r0, σ0) → J p l e rm_X6_tight s m args below meth c 4 D cs A s.heap 0 0 (MQ below (hQ D cs (fun z => z = q) (fun _ => some (.long r0)) σ0 A) args s 0 0 A) q τ [(0, .ref (q x0)), (1, .int x1), (2, .int x2), (3, .int x3)] 36 []), ∀ (nk : Nat) (x0 : Nat) (x1 : Int32) (x2 : Int32) (x3 : Int32) (τ : HS), lp_X6_tight_66 K36 nk x0 x1 x2 x3 τ = some (r0, σ0) → J p l e rm_X6_tight s m args below meth c 4 D cs A s.heap 0 0 (MQ below (hQ D cs (fun z => z = q) (fun _ => some (.long r0)) σ0 A) args s 0 0 A) q τ [(0, .ref (q x0)), (1, .int x1), (2, .int x2), (3, .int x3)] 66 [] := by
    intro K36 hK36
    intro nk
    induction nk with
    | zero => intro x0 x1 x2 x3 τ hf0; have hf1 : (none : Option (Int64 × HS)) = some (r0, σ0) := hf0; cases hf1
    | succ nk ih =>
      intro x0 x1 x2 x3 τ hf0
      replace hf0 : lp_X6_tight_66_b K36 (lp_X6_tight_66 K36 nk) x0 x1 x2 x3 τ = some (r0, σ0) := hf0
      unfold lp_X6_tight_66_b at hf0
      refine j_iload_n X dX6_tight_66 3 rfl rfl ?_
      refine j_bipush X (v := 6) dX6_tight_67 (by decide) ?_
      refine j_icmp_ge X (tgt := 145) dX6_tight_69 (by decide) (fun c39 => ?_) (fun c39 => ?_)
      · have hf40 := br_y hf0 c39; clear hf0
        refine j_aload_n X dX6_tight_145 0 rfl rfl ?_
        refine j_iload_n X dX6_tight_146 1 rfl rfl ?_
        obtain ⟨h42, hf43⟩ := chk_of hf40; clear hf40
        obtain ⟨r44, σ45, h46, hf47⟩ := bc_of hf43; clear hf43
        refine j_callV0 X [.int x1] [] (c_X6_spans l D cs q x0 x1 τ _ _ h46) mk_X6_spans mv_X6_spans ml_X6_236 h42 rfl (by decide) ⟨rfl, rfl⟩ ⟨Nat.le_of_ble_eq_true rfl, Nat.le_of_ble_eq_true rfl⟩ rfl (Nat.le_of_ble_eq_true rfl) ⟨Nat.le_of_ble_eq_true rfl, Nat.le_of_ble_eq_true rfl⟩ dX6_tight_147 rfl (st' := [.int r44]) rfl ?_
        refine j_istore_n X (lv' := [(3, .int r44), (0, .ref (q x0)), (1, .int x1), (2, .int x2)]) dX6_tight_150 rfl (by decide) rfl ?_
        refine j_iload_n X dX6_tight_151 3 rfl rfl ?_
        refine j_if_ne X (tgt := 163) dX6_tight_152 (by decide) (fun c48 => ?_) (fun c48 => ?_)
        · have hf49 := br_n hf47 c48; clear hf47
          refine j_aload_n X dX6_tight_163 1 rfl rfl ?_
          refine j_iload_n X dX6_tight_164 2 rfl rfl ?_
          obtain ⟨h51, hf52⟩ := chk_of hf49; clear hf49
          obtain ⟨r53, σ54, h55, hf56⟩ := bc_of hf52; clear hf52
          refine j_callV0 X [.int x1] [] (c_X6_highOf l D cs q x0 x1 σ45 _ _ h55) mk_X6_highOf mv_X6_highOf ml_X6_241 h51 rfl (by decide) ⟨rfl, rfl⟩ ⟨Nat.le_of_ble_eq_true rfl, Nat.le_of_ble_eq_true rfl⟩ rfl (Nat.le_of_ble_eq_true rfl) ⟨Nat.le_of_ble_eq_true rfl, Nat.le_of_ble_eq_true rfl⟩ dX6_tight_165 rfl (st' := [.long r53]) rfl ?_
          obtain ⟨er, es⟩ := rt_of hf56
          subst er
          exact j_retl X hr hlk (Nat.le_of_ble_eq_true rfl) (Nat.le_of_ble_eq_true rfl) rfl es.symm rfl dX6_tight_168
        · have hf50 := br_y hf47 c48; clear hf47
          refine j_aload_n X dX6_tight_155 1 rfl rfl ?_
          refine j_iload_n X dX6_tight_156 2 rfl rfl ?_
          obtain ⟨h57, hf58⟩ := chk_of hf50; clear hf50
          obtain ⟨r59, σ60, h61, hf62⟩ := bc_of hf58; clear hf58
          refine j_callV0 X [.int x1] [] (c_X6_lowOf l D cs q x0 x1 σ45 _ _ h61) mk_X6_lowOf mv_X6_lowOf ml_X6_245 h57 rfl (by decide) ⟨rfl, rfl⟩ ⟨Nat.le_of_ble_eq_true rfl, Nat.le_of_ble_eq_true rfl⟩ rfl (Nat.le_of_ble_eq_true rfl) ⟨Nat.le_of_ble_eq_true rfl, Nat.le_of_ble_eq_true rfl⟩ dX6_tight_157 rfl (st' := [.long r59]) rfl ?_
          refine j_goto X (tgt := 168) dX6_tight_160 (by decide) ?_
          obtain ⟨er, es⟩ := rt_of hf62
          subst er
          exact j_retl X hr hlk (Nat.le_of_ble_eq_true rfl) (Nat.le_of_ble_eq_true rfl) rfl es.symm rfl dX6_tight_168
      · have hf41 := br_n hf0 c39; clear hf0
        refine j_aload_n X dX6_tight_72 0 rfl rfl ?_
        obtain ⟨h63, hf64⟩ := chk_of hf41; clear hf41
        obtain ⟨i65, h66, hf67⟩ := bd_of hf64; clear hf64
        refine j_getr X fd_X6_77 h63 h66 dX6_tight_73 ?_
        refine j_iload_n X dX6_tight_76 3 rfl rfl ?_
        obtain ⟨h68, hf69⟩ := chk_of hf67; clear hf67
        refine j_iald X h68 dX6_tight_77 (fun v70 ev70 => ?_)
        replace hf69 := lt_of hf69 v70 ev70
        refine j_iconst X (v := 1) dX6_tight_78 (by decide) ?_
        refine j_icmp_eq X (tgt := 92) dX6_tight_79 (by decide) (fun c72 => ?_) (fun c72 => ?_)
        · have hf73 := br_y hf69 c72; clear hf69
          refine j_aload_n X dX6_tight_92 0 rfl rfl ?_
          refine j_iload_n X dX6_tight_93 3 rfl rfl ?_
          refine j_aload_n X dX6_tight_94 0 rfl rfl ?_
          refine j_getr X fd_X6_77 h63 h66 dX6_tight_95 ?_
          refine j_iload_n X dX6_tight_98 3 rfl rfl ?_
          obtain ⟨h78, hf79⟩ := chk_of hf73; clear hf73
          refine j_iald X h78 dX6_tight_99 (fun v80 ev80 => ?_)
          replace hf79 := lt_of hf79 v80 ev80
          refine j_iconst X (v := 1) dX6_tight_100 (by decide) ?_
          refine j_icmp_ne X (tgt := 108) dX6_tight_101 (by decide) (fun c82 => ?_) (fun c82 => ?_)
          · have hf83 := br_n hf79 c82; clear hf79
            refine j_iconst X (v := 0) dX6_tight_108 (by decide) ?_
            refine j_iload_n X dX6_tight_109 2 rfl rfl ?_
            refine j_if_ne X (tgt := 117) dX6_tight_110 (by decide) (fun c85 => ?_) (fun c85 => ?_)
            · have hf86 := br_n hf83 c85; clear hf83
              refine j_iconst X (v := 0) dX6_tight_117 (by decide) ?_
              refine j_icmp_ne X (tgt := 130) dX6_tight_118 (by decide) (fun c88 => ?_) (fun c88 => ?_)
              · have hf89 := br_n hf86 c88; clear hf86
                refine j_aload_n X dX6_tight_130 0 rfl rfl ?_
                obtain ⟨i91, h92, hf93⟩ := bd_of hf89; clear hf89
                refine j_getr X fd_X6_54 h63 h92 dX6_tight_131 ?_
                refine j_iload_n X dX6_tight_134 3 rfl rfl ?_
                obtain ⟨h94, hf95⟩ := chk_of hf93; clear hf93
                refine j_iald X h94 dX6_tight_135 (fun v96 ev96 => ?_)
                replace hf95 := lt_of hf95 v96 ev96
                obtain ⟨r98, σ99, h100, hf101⟩ := bc_of hf95; clear hf95
                refine j_callV0 X [.int x3, .int v96] [] (c_X6_laysPoint l D cs q x0 x3 v96 τ _ _ h100) mk_X6_laysPoint mv_X6_laysPoint ml_X6_264 h63 rfl (by decide) ⟨rfl, rfl⟩ ⟨Nat.le_of_ble_eq_true rfl, Nat.le_of_ble_eq_true rfl⟩ rfl (Nat.le_of_ble_eq_true rfl) ⟨Nat.le_of_ble_eq_true rfl, Nat.le_of_ble_eq_true rfl⟩ dX6_tight_136 rfl (st' := []) rfl ?_
                obtain ⟨v102, ev102⟩ : ∃ y : Int32, y = x3 + (1 : Int32) := ⟨_, rfl⟩
                replace hf101 := lt_of hf101 v102 ev102
                refine j_iinc X (v := v102) (lv' := [(3, .int v102), (0, .ref (q x0)), (1, .int x1), (2, .int x2)]) dX6_tight_139 3 rfl (by rw [ev102]; rfl) (by decide) rfl ?_
                refine j_goto X (tgt := 66) dX6_tight_142 (by decide) ?_
                refine j_lvsub [1, 2, 3, 0] (lv' := [(0, .ref (q x0)), (1, .int x1), (2, .int x2), (3, .int v102)]) rfl ?_
                exact ih x0 x1 x2 v102 σ99 hf101
              · have hf90 := br_y hf86 c88; clear hf86
                refine j_aload_n X dX6_tight_121 0 rfl rfl ?_
                obtain ⟨i104, h105, hf106⟩ := bd_of hf90; clear hf90
                refine j_getr X fd_X6_51 h63 h105 dX6_tight_122 ?_
                refine j_iload_n X dX6_tight_125 3 rfl rfl ?_
                obtain ⟨h107, hf108⟩ := chk_of hf106; clear hf106
                refine j_iald X h107 dX6_tight_126 (fun v109 ev109 => ?_)
                replace hf108 := lt_of hf108 v109 ev109
                refine j_goto X (tgt := 136) dX6_tight_127 (by decide) ?_
                obtain ⟨r111, σ112, h113, hf114⟩ := bc_of hf108; clear hf108
                refine j_callV0 X [.int x3, .int v109] [] (c_X6_laysPoint l D cs q x0 x3 v109 τ _ _ h113) mk_X6_laysPoint mv_X6_laysPoint ml_X6_264 h63 rfl (by decide) ⟨rfl, rfl⟩ ⟨Nat.le_of_ble_eq_true rfl, Nat.le_of_ble_eq_true rfl⟩ rfl (Nat.le_of_ble_eq_true rfl) ⟨Nat.le_of_ble_eq_true rfl, Nat.le_of_ble_eq_true rfl⟩ dX6_tight_136 rfl (st' := []) rfl ?_
                obtain ⟨v115, ev115⟩ : ∃ y : Int32, y = x3 + (1 : Int32) := ⟨_, rfl⟩
                replace hf114 := lt_of hf114 v115 ev115
                refine j_iinc X (v := v115) (lv' := [(3, .int v115), (0, .ref (q x0)), (1, .int x1), (2, .int x2)]) dX6_tight_139 3 rfl (by rw [ev115]; rfl) (by decide) rfl ?_
                refine j_goto X (tgt := 66) dX6_tight_142 (by decide) ?_
                refine j_lvsub [1, 2, 3, 0] (lv' := [(0, .ref (q x0)), (1, .int x1), (2, .int x2), (3, .int v115)]) rfl ?_
                exact ih x0 x1 x2 v115 σ112 hf114
            · have hf87 := br_y hf83 c85; clear hf83
              refine j_iconst X (v := 1) dX6_tight_113 (by decide) ?_
              refine j_goto X (tgt := 118) dX6_tight_114 (by decide) ?_
              refine j_icmp_ne X (tgt := 130) dX6_tight_118 (by decide) (fun c117 => ?_) (fun c117 => ?_)
              · have hf118 := br_n hf87 c117; clear hf87
                refine j_aload_n X dX6_tight_130 0 rfl rfl ?_
                obtain ⟨i120, h121, hf122⟩ := bd_of hf118; clear hf118
                refine j_getr X fd_X6_54 h63 h121 dX6_tight_131 ?_
                refine j_iload_n X dX6_tight_134 3 rfl rfl ?_
                obtain ⟨h123, hf124⟩ := chk_of hf122; clear hf122
                refine j_iald X h123 dX6_tight_135 (fun v125 ev125 => ?_)
                replace hf124 := lt_of hf124 v125 ev125
                obtain ⟨r127, σ128, h129, hf130⟩ := bc_of hf124; clear hf124
                refine j_callV0 X [.int x3, .int v125] [] (c_X6_laysPoint l D cs q x0 x3 v125 τ _ _ h129) mk_X6_laysPoint mv_X6_laysPoint ml_X6_264 h63 rfl (by decide) ⟨rfl, rfl⟩ ⟨Nat.le_of_ble_eq_true rfl, Nat.le_of_ble_eq_true rfl⟩ rfl (Nat.le_of_ble_eq_true rfl) ⟨Nat.le_of_ble_eq_true rfl, Nat.le_of_ble_eq_true rfl⟩ dX6_tight_136 rfl (st' := []) rfl ?_
                obtain ⟨v131, ev131⟩ : ∃ y : Int32, y = x3 + (1 : Int32) := ⟨_, rfl⟩
                replace hf130 := lt_of hf130 v131 ev131
                refine j_iinc X (v := v131) (lv' := [(3, .int v131), (0, .ref (q x0)), (1, .int x1), (2, .int x2)]) dX6_tight_139 3 rfl (by rw [ev131]; rfl) (by decide) rfl ?_
                refine j_goto X (tgt := 66) dX6_tight_142 (by decide) ?_
                refine j_lvsub [1, 2, 3, 0] (lv' := [(0, .ref (q x0)), (1, .int x1), (2, .int x2), (3, .int v131)]) rfl ?_
                exact ih x0 x1 x2 v131 σ128 hf130
              · have hf119 := br_y hf87 c117; clear hf87
                refine j_aload_n X dX6_tight_121 0 rfl rfl ?_
                obtain ⟨i133, h134, hf135⟩ := bd_of hf119; clear hf119
                refine j_getr X fd_X6_51 h63 h134 dX6_tight_122 ?_
                refine j_iload_n X dX6_tight_125 3 rfl rfl ?_
                obtain ⟨h136, hf137⟩ := chk_of hf135; clear hf135
                refine j_iald X h136 dX6_tight_126 (fun v138 ev138 => ?_)
                replace hf137 := lt_of hf137 v138 ev138
                refine j_goto X (tgt := 136) dX6_tight_127 (by decide) ?_
                obtain ⟨r140, σ141, h142, hf143⟩ := bc_of hf137; clear hf137
                refine j_callV0 X [.int x3, .int v138] [] (c_X6_laysPoint l D cs q x0 x3 v138 τ _ _ h142) mk_X6_laysPoint mv_X6_laysPoint ml_X6_264 h63 rfl (by decide) ⟨rfl, rfl⟩ ⟨Nat.le_of_ble_eq_true rfl, Nat.le_of_ble_eq_true rfl⟩ rfl (Nat.le_of_ble_eq_true rfl) ⟨Nat.le_of_ble_eq_true rfl, Nat.le_of_ble_eq_true rfl⟩ dX6_tight_136 rfl (st' := []) rfl ?_
                obtain ⟨v144, ev144⟩ : ∃ y : Int32, y = x3 + (1 : Int32) := ⟨_, rfl⟩
                replace hf143 := lt_of hf143 v144 ev144
                refine j_iinc X (v := v144) (lv' := [(3, .int v144), (0, .ref (q x0)), (1, .int x1), (2, .int x2)]) dX6_tight_139 3 rfl (by rw [ev144]; rfl) (by decide) rfl ?_
                refine j_goto X (tgt := 66) dX6_tight_142 (by decide) ?_
                refine j_lvsub [1, 2, 3, 0] (lv' := [(0, .ref (q x0)), (1, .int x1), (2, .int x2), (3, .int v144)]) rfl ?_
                exact ih x0 x1 x2 v144 σ141 hf143
          · have hf84 := br_y hf79 c82; clear hf79
            refine j_iconst X (v := 1) dX6_tight_104 (by decide) ?_
            refine j_goto X (tgt := 109) dX6_tight_105 (by decide) ?_
            refine j_iload_n X dX6_tight_109 2 rfl rfl ?_
            refine j_if_ne X (tgt := 117) dX6_tight_110 (by decide) (fun c146 => ?_) (fun c146 => ?_)
            · have hf147 := br_n hf84 c146; clear hf84
              refine j_iconst X (v := 0) dX6_tight_117 (by decide) ?_
              refine j_icmp_ne X (tgt := 130) dX6_tight_118 (by decide) (fun c149 => ?_) (fun c149 => ?_)
              · have hf150 := br_n hf147 c149; clear hf147
                refine j_aload_n X dX6_tight_130 0 rfl rfl ?_
                obtain ⟨i152, h153, hf154⟩ := bd_of hf150; clear hf150
                refine j_getr X fd_X6_54 h63 h153 dX6_tight_131 ?_
                refine j_iload_n X dX6_tight_134 3 rfl rfl ?_
                obtain ⟨h155, hf156⟩ := chk_of hf154; clear hf154
                refine j_iald X h155 dX6_tight_135 (fun v157 ev157 => ?_)
                replace hf156 := lt_of hf156 v157 ev157
                obtain ⟨r159, σ160, h161, hf162⟩ := bc_of hf156; clear hf156
                refine j_callV0 X [.int x3, .int v157] [] (c_X6_laysPoint l D cs q x0 x3 v157 τ _ _ h161) mk_X6_laysPoint mv_X6_laysPoint ml_X6_264 h63 rfl (by decide) ⟨rfl, rfl⟩ ⟨Nat.le_of_ble_eq_true rfl, Nat.le_of_ble_eq_true rfl⟩ rfl (Nat.le_of_ble_eq_true rfl) ⟨Nat.le_of_ble_eq_true rfl, Nat.le_of_ble_eq_true rfl⟩ dX6_tight_136 rfl (st' := []) rfl ?_
                obtain ⟨v163, ev163⟩ : ∃ y : Int32, y = x3 + (1 : Int32) := ⟨_, rfl⟩
                replace hf162 := lt_of hf162 v163 ev163
                refine j_iinc X (v := v163) (lv' := [(3, .int v163), (0, .ref (q x0)), (1, .int x1), (2, .int x2)]) dX6_tight_139 3 rfl (by rw [ev163]; rfl) (by decide) rfl ?_
                refine j_goto X (tgt := 66) dX6_tight_142 (by decide) ?_
                refine j_lvsub [1, 2, 3, 0] (lv' := [(0, .ref (q x0)), (1, .int x1), (2, .int x2), (3, .int v163)]) rfl ?_
                exact ih x0 x1 x2 v163 σ160 hf162
              · have hf151 := br_y hf147 c149; clear hf147
                refine j_aload_n X dX6_tight_121 0 rfl rfl ?_
                obtain ⟨i165, h166, hf167⟩ := bd_of hf151; clear hf151
                refine j_getr X fd_X6_51 h63 h166 dX6_tight_122 ?_
                refine j_iload_n X dX6_tight_125 3 rfl rfl ?_
                obtain ⟨h168, hf169⟩ := chk_of hf167; clear hf167
                refine j_iald X h168 dX6_tight_126 (fun v170 ev170 => ?_)
                replace hf169 := lt_of hf169 v170 ev170
                refine j_goto X (tgt := 136) dX6_tight_127 (by decide) ?_
                obtain ⟨r172, σ173, h174, hf175⟩ := bc_of hf169; clear hf169
                refine j_callV0 X [.int x3, .int v170] [] (c_X6_laysPoint l D cs q x0 x3 v170 τ _ _ h174) mk_X6_laysPoint mv_X6_laysPoint ml_X6_264 h63 rfl (by decide) ⟨rfl, rfl⟩ ⟨Nat.le_of_ble_eq_true rfl, Nat.le_of_ble_eq_true rfl⟩ rfl (Nat.le_of_ble_eq_true rfl) ⟨Nat.le_of_ble_eq_true rfl, Nat.le_of_ble_eq_true rfl⟩ dX6_tight_136 rfl (st' := []) rfl ?_
                obtain ⟨v176, ev176⟩ : ∃ y : Int32, y = x3 + (1 : Int32) := ⟨_, rfl⟩
                replace hf175 := lt_of hf175 v176 ev176
                refine j_iinc X (v := v176) (lv' := [(3, .int v176), (0, .ref (q x0)), (1, .int x1), (2, .int x2)]) dX6_tight_139 3 rfl (by rw [ev176]; rfl) (by decide) rfl ?_
                refine j_goto X (tgt := 66) dX6_tight_142 (by decide) ?_
                refine j_lvsub [1, 2, 3, 0] (lv' := [(0, .ref (q x0)), (1, .int x1), (2, .int x2), (3, .int v176)]) rfl ?_
                exact ih x0 x1 x2 v176 σ173 hf175
            · have hf148 := br_y hf84 c146; clear hf84
              refine j_iconst X (v := 1) dX6_tight_113 (by decide) ?_
              refine j_goto X (tgt := 118) dX6_tight_114 (by decide) ?_
              refine j_icmp_ne X (tgt := 130) dX6_tight_118 (by decide) (fun c178 => ?_) (fun c178 => ?_)
              · have hf179 := br_n hf148 c178; clear hf148
                refine j_aload_n X dX6_tight_130 0 rfl rfl ?_
                obtain ⟨i181, h182, hf183⟩ := bd_of hf179; clear hf179
                refine j_getr X fd_X6_54 h63 h182 dX6_tight_131 ?_
                refine j_iload_n X dX6_tight_134 3 rfl rfl ?_
                obtain ⟨h184, hf185⟩ := chk_of hf183; clear hf183
                refine j_iald X h184 dX6_tight_135 (fun v186 ev186 => ?_)
                replace hf185 := lt_of hf185 v186 ev186
                obtain ⟨r188, σ189, h190, hf191⟩ := bc_of hf185; clear hf185
                refine j_callV0 X [.int x3, .int v186] [] (c_X6_laysPoint l D cs q x0 x3 v186 τ _ _ h190) mk_X6_laysPoint mv_X6_laysPoint ml_X6_264 h63 rfl (by decide) ⟨rfl, rfl⟩ ⟨Nat.le_of_ble_eq_true rfl, Nat.le_of_ble_eq_true rfl⟩ rfl (Nat.le_of_ble_eq_true rfl) ⟨Nat.le_of_ble_eq_true rfl, Nat.le_of_ble_eq_true rfl⟩ dX6_tight_136 rfl (st' := []) rfl ?_
                obtain ⟨v192, ev192⟩ : ∃ y : Int32, y = x3 + (1 : Int32) := ⟨_, rfl⟩
                replace hf191 := lt_of hf191 v192 ev192
                refine j_iinc X (v := v192) (lv' := [(3, .int v192), (0, .ref (q x0)), (1, .int x1), (2, .int x2)]) dX6_tight_139 3 rfl (by rw [ev192]; rfl) (by decide) rfl ?_
                refine j_goto X (tgt := 66) dX6_tight_142 (by decide) ?_
                refine j_lvsub [1, 2, 3, 0] (lv' := [(0, .ref (q x0)), (1, .int x1), (2, .int x2), (3, .int v192)]) rfl ?_
                exact ih x0 x1 x2 v192 σ189 hf191
              · have hf180 := br_y hf148 c178; clear hf148
                refine j_aload_n X dX6_tight_121 0 rfl rfl ?_
                obtain ⟨i194, h195, hf196⟩ := bd_of hf180; clear hf180
                refine j_getr X fd_X6_51 h63 h195 dX6_tight_122 ?_
                refine j_iload_n X dX6_tight_125 3 rfl rfl ?_
                obtain ⟨h197, hf198⟩ := chk_of hf196; clear hf196
                refine j_iald X h197 dX6_tight_126 (fun v199 ev199 => ?_)
                replace hf198 := lt_of hf198 v199 ev199
                refine j_goto X (tgt := 136) dX6_tight_127 (by decide) ?_
                obtain ⟨r201, σ202, h203, hf204⟩ := bc_of hf198; clear hf198
                refine j_callV0 X [.int x3, .int v199] [] (c_X6_laysPoint l D cs q x0 x3 v199 τ _ _ h203) mk_X6_laysPoint mv_X6_laysPoint ml_X6_264 h63 rfl (by decide) ⟨rfl, rfl⟩ ⟨Nat.le_of_ble_eq_true rfl, Nat.le_of_ble_eq_true rfl⟩ rfl (Nat.le_of_ble_eq_true rfl) ⟨Nat.le_of_ble_eq_true rfl, Nat.le_of_ble_eq_true rfl⟩ dX6_tight_136 rfl (st' := []) rfl ?_
                obtain ⟨v205, ev205⟩ : ∃ y : Int32, y = x3 + (1 : Int32) := ⟨_, rfl⟩
                replace hf204 := lt_of hf204 v205 ev205
                refine j_iinc X (v := v205) (lv' := [(3, .int v205), (0, .ref (q x0)), (1, .int x1), (2, .int x2)]) dX6_tight_139 3 rfl (by rw [ev205]; rfl) (by decide) rfl ?_
                refine j_goto X (tgt := 66) dX6_tight_142 (by decide) ?_
                refine j_lvsub [1, 2, 3, 0] (lv' := [(0, .ref (q x0)), (1, .int x1), (2, .int x2), (3, .int v205)]) rfl ?_
                exact ih x0 x1 x2 v205 σ202 hf204
        · have hf74 := br_n hf69 c72; clear hf69
          refine j_aload_n X dX6_tight_82 0 rfl rfl ?_
          refine j_getr X fd_X6_77 h63 h66 dX6_tight_83 ?_
          refine j_iload_n X dX6_tight_86 3 rfl rfl ?_
          obtain ⟨h210, hf211⟩ := chk_of hf74; clear hf74
          refine j_iald X h210 dX6_tight_87 (fun v212 ev212 => ?_)
          replace hf211 := lt_of hf211 v212 ev212
          refine j_iconst X (v := 2) dX6_tight_88 (by decide) ?_
          refine j_icmp_ne X (tgt := 139) dX6_tight_89 (by decide) (fun c214 => ?_) (fun c214 => ?_)
          · have hf215 := br_n hf211 c214; clear hf211
            obtain ⟨v217, ev217⟩ : ∃ y : Int32, y = x3 + (1 : Int32) := ⟨_, rfl⟩
            replace hf215 := lt_of hf215 v217 ev217
            refine j_iinc X (v := v217) (lv' := [(3, .int v217), (0, .ref (q x0)), (1, .int x1), (2, .int x2)]) dX6_tight_139 3 rfl (by rw [ev217]; rfl) (by decide) rfl ?_
            refine j_goto X (tgt := 66) dX6_tight_142 (by decide) ?_
            refine j_lvsub [1, 2, 3, 0] (lv' := [(0, .ref (q x0)), (1, .int x1), (2, .int x2), (3, .int v217)]) rfl ?_
            exact ih x0 x1 x2 v217 τ hf215
          · have hf216 := br_y hf211 c214; clear hf211
            refine j_aload_n X dX6_tight_92 0 rfl rfl ?_
            refine j_iload_n X dX6_tight_93 3 rfl rfl ?_
            refine j_aload_n X dX6_tight_94 0 rfl rfl ?_
            refine j_getr X fd_X6_77 h63 h66 dX6_tight_95 ?_
            refine j_iload_n X dX6_tight_98 3 rfl rfl ?_
            obtain ⟨h222, hf223⟩ := chk_of hf216; clear hf216
            refine j_iald X h222 dX6_tight_99 (fun v224 ev224 => ?_)
            replace hf223 := lt_of hf223 v224 ev224
            refine j_iconst X (v := 1) dX6_tight_100 (by decide) ?_
            refine j_icmp_ne X (tgt := 108) dX6_tight_101 (by decide) (fun c226 => ?_) (fun c226 => ?_)
            · have hf227 := br_n hf223 c226; clear hf223
              refine j_iconst X (v := 0) dX6_tight_108 (by decide) ?_
              refine j_iload_n X dX6_tight_109 2 rfl rfl ?_
              refine j_if_ne X (tgt := 117) dX6_tight_110 (by decide) (fun c229 => ?_) (fun c229 => ?_)
              · have hf230 := br_n hf227 c229; clear hf227
                refine j_iconst X (v := 0) dX6_tight_117 (by decide) ?_
                refine j_icmp_ne X (tgt := 130) dX6_tight_118 (by decide) (fun c232 => ?_) (fun c232 => ?_)
                · have hf233 := br_n hf230 c232; clear hf230
                  refine j_aload_n X dX6_tight_130 0 rfl rfl ?_
                  obtain ⟨i235, h236, hf237⟩ := bd_of hf233; clear hf233
                  refine j_getr X fd_X6_54 h63 h236 dX6_tight_131 ?_
                  refine j_iload_n X dX6_tight_134 3 rfl rfl ?_
                  obtain ⟨h238, hf239⟩ := chk_of hf237; clear hf237
                  refine j_iald X h238 dX6_tight_135 (fun v240 ev240 => ?_)
                  replace hf239 := lt_of hf239 v240 ev240
                  obtain ⟨r242, σ243, h244, hf245⟩ := bc_of hf239; clear hf239
                  refine j_callV0 X [.int x3, .int v240] [] (c_X6_laysPoint l D cs q x0 x3 v240 τ _ _ h244) mk_X6_laysPoint mv_X6_laysPoint ml_X6_264 h63 rfl (by decide) ⟨rfl, rfl⟩ ⟨Nat.le_of_ble_eq_true rfl, Nat.le_of_ble_eq_true rfl⟩ rfl (Nat.le_of_ble_eq_true rfl) ⟨Nat.le_of_ble_eq_true rfl, Nat.le_of_ble_eq_true rfl⟩ dX6_tight_136 rfl (st' := []) rfl ?_
                  obtain ⟨v246, ev246⟩ : ∃ y : Int32, y = x3 + (1 : Int32) := ⟨_, rfl⟩
                  replace hf245 := lt_of hf245 v246 ev246
                  refine j_iinc X (v := v246) (lv' := [(3, .int v246), (0, .ref (q x0)), (1, .int x1), (2, .int x2)]) dX6_tight_139 3 rfl (by rw [ev246]; rfl) (by decide) rfl ?_
                  refine j_goto X (tgt := 66) dX6_tight_142 (by decide) ?_
                  refine j_lvsub [1, 2, 3, 0] (lv' := [(0, .ref (q x0)), (1, .int x1), (2, .int x2), (3, .int v246)]) rfl ?_
                  exact ih x0 x1 x2 v246 σ243 hf245
                · have hf234 := br_y hf230 c232; clear hf230
                  refine j_aload_n X dX6_tight_121 0 rfl rfl ?_
                  obtain ⟨i248, h249, hf250⟩ := bd_of hf234; clear hf234
                  refine j_getr X fd_X6_51 h63 h249 dX6_tight_122 ?_
                  refine j_iload_n X dX6_tight_125 3 rfl rfl ?_
                  obtain ⟨h251, hf252⟩ := chk_of hf250; clear hf250
                  refine j_iald X h251 dX6_tight_126 (fun v253 ev253 => ?_)
                  replace hf252 := lt_of hf252 v253 ev253
                  refine j_goto X (tgt := 136) dX6_tight_127 (by decide) ?_
                  obtain ⟨r255, σ256, h257, hf258⟩ := bc_of hf252; clear hf252
                  refine j_callV0 X [.int x3, .int v253] [] (c_X6_laysPoint l D cs q x0 x3 v253 τ _ _ h257) mk_X6_laysPoint mv_X6_laysPoint ml_X6_264 h63 rfl (by decide) ⟨rfl, rfl⟩ ⟨Nat.le_of_ble_eq_true rfl, Nat.le_of_ble_eq_true rfl⟩ rfl (Nat.le_of_ble_eq_true rfl) ⟨Nat.le_of_ble_eq_true rfl, Nat.le_of_ble_eq_true rfl⟩ dX6_tight_136 rfl (st' := []) rfl ?_
                  obtain ⟨v259, ev259⟩ : ∃ y : Int32, y = x3 + (1 : Int32) := ⟨_, rfl⟩
                  replace hf258 := lt_of hf258 v259 ev259
                  refine j_iinc X (v := v259) (lv' := [(3, .int v259), (0, .ref (q x0)), (1, .int x1), (2, .int x2)]) dX6_tight_139 3 rfl (by rw [ev259]; rfl) (by decide) rfl ?_
                  refine j_goto X (tgt := 66) dX6_tight_142 (by decide) ?_
                  refine j_lvsub [1, 2, 3, 0] (lv' := [(0, .ref (q x0)), (1, .int x1), (2, .int x2), (3, .int v259)]) rfl ?_
                  exact ih x0 x1 x2 v259 σ256 hf258
              · have hf231 := br_y hf227 c229; clear hf227
                refine j_iconst X (v := 1) dX6_tight_113 (by decide) ?_
                refine j_goto X (tgt := 118) dX6_tight_114 (by decide) ?_
                refine j_icmp_ne X (tgt := 130) dX6_tight_118 (by decide) (fun c261 => ?_) (fun c261 => ?_)
                · have hf262 := br_n hf231 c261; clear hf231
                  refine j_aload_n X dX6_tight_130 0 rfl rfl ?_
                  obtain ⟨i264, h265, hf266⟩ := bd_of hf262; clear hf262
                  refine j_getr X fd_X6_54 h63 h265 dX6_tight_131 ?_
                  refine j_iload_n X dX6_tight_134 3 rfl rfl ?_
                  obtain ⟨h267, hf268⟩ := chk_of hf266; clear hf266
                  refine j_iald X h267 dX6_tight_135 (fun v269 ev269 => ?_)
                  replace hf268 := lt_of hf268 v269 ev269
                  obtain ⟨r271, σ272, h273, hf274⟩ := bc_of hf268; clear hf268
                  refine j_callV0 X [.int x3, .int v269] [] (c_X6_laysPoint l D cs q x0 x3 v269 τ _ _ h273) mk_X6_laysPoint mv_X6_laysPoint ml_X6_264 h63 rfl (by decide) ⟨rfl, rfl⟩ ⟨Nat.le_of_ble_eq_true rfl, Nat.le_of_ble_eq_true rfl⟩ rfl (Nat.le_of_ble_eq_true rfl) ⟨Nat.le_of_ble_eq_true rfl, Nat.le_of_ble_eq_true rfl⟩ dX6_tight_136 rfl (st' := []) rfl ?_
                  obtain ⟨v275, ev275⟩ : ∃ y : Int32, y = x3 + (1 : Int32) := ⟨_, rfl⟩
                  replace hf274 := lt_of hf274 v275 ev275
                  refine j_iinc X (v := v275) (lv' := [(3, .int v275), (0, .ref (q x0)), (1, .int x1), (2, .int x2)]) dX6_tight_139 3 rfl (by rw [ev275]; rfl) (by decide) rfl ?_
                  refine j_goto X (tgt := 66) dX6_tight_142 (by decide) ?_
                  refine j_lvsub [1, 2, 3, 0] (lv' := [(0, .ref (q x0)), (1, .int x1), (2, .int x2), (3, .int v275)]) rfl ?_
                  exact ih x0 x1 x2 v275 σ272 hf274
                · have hf263 := br_y hf231 c261; clear hf231
                  refine j_aload_n X dX6_tight_121 0 rfl rfl ?_
                  obtain ⟨i277, h278, hf279⟩ := bd_of hf263; clear hf263
                  refine j_getr X fd_X6_51 h63 h278 dX6_tight_122 ?_
                  refine j_iload_n X dX6_tight_125 3 rfl rfl ?_
                  obtain ⟨h280, hf281⟩ := chk_of hf279; clear hf279
                  refine j_iald X h280 dX6_tight_126 (fun v282 ev282 => ?_)
                  replace hf281 := lt_of hf281 v282 ev282
                  refine j_goto X (tgt := 136) dX6_tight_127 (by decide) ?_
                  obtain ⟨r284, σ285, h286, hf287⟩ := bc_of hf281; clear hf281
                  refine j_callV0 X [.int x3, .int v282] [] (c_X6_laysPoint l D cs q x0 x3 v282 τ _ _ h286) mk_X6_laysPoint mv_X6_laysPoint ml_X6_264 h63 rfl (by decide) ⟨rfl, rfl⟩ ⟨Nat.le_of_ble_eq_true rfl, Nat.le_of_ble_eq_true rfl⟩ rfl (Nat.le_of_ble_eq_true rfl) ⟨Nat.le_of_ble_eq_true rfl, Nat.le_of_ble_eq_true rfl⟩ dX6_tight_136 rfl (st' := []) rfl ?_
                  obtain ⟨v288, ev288⟩ : ∃ y : Int32, y = x3 + (1 : Int32) := ⟨_, rfl⟩
                  replace hf287 := lt_of hf287 v288 ev288
                  refine j_iinc X (v := v288) (lv' := [(3, .int v288), (0, .ref (q x0)), (1, .int x1), (2, .int x2)]) dX6_tight_139 3 rfl (by rw [ev288]; rfl) (by decide) rfl ?_
                  refine j_goto X (tgt := 66) dX6_tight_142 (by decide) ?_
                  refine j_lvsub [1, 2, 3, 0] (lv' := [(0, .ref (q x0)), (1, .int x1), (2, .int x2), (3, .int v288)]) rfl ?_
                  exact ih x0 x1 x2 v288 σ285 hf287
            · have hf228 := br_y hf223 c226; clear hf223
              refine j_iconst X (v := 1) dX6_tight_104 (by decide) ?_
              refine j_goto X (tgt := 109) dX6_tight_105 (by decide) ?_
              refine j_iload_n X dX6_tight_109 2 rfl rfl ?_
              refine j_if_ne X (tgt := 117) dX6_tight_110 (by decide) (fun c290 => ?_) (fun c290 => ?_)
              · have hf291 := br_n hf228 c290; clear hf228
                refine j_iconst X (v := 0) dX6_tight_117 (by decide) ?_
                refine j_icmp_ne X (tgt := 130) dX6_tight_118 (by decide) (fun c293 => ?_) (fun c293 => ?_)
                · have hf294 := br_n hf291 c293; clear hf291
                  refine j_aload_n X dX6_tight_130 0 rfl rfl ?_
                  obtain ⟨i296, h297, hf298⟩ := bd_of hf294; clear hf294
                  refine j_getr X fd_X6_54 h63 h297 dX6_tight_131 ?_
                  refine j_iload_n X dX6_tight_134 3 rfl rfl ?_
                  obtain ⟨h299, hf300⟩ := chk_of hf298; clear hf298
                  refine j_iald X h299 dX6_tight_135 (fun v301 ev301 => ?_)
                  replace hf300 := lt_of hf300 v301 ev301
                  obtain ⟨r303, σ304, h305, hf306⟩ := bc_of hf300; clear hf300
                  refine j_callV0 X [.int x3, .int v301] [] (c_X6_laysPoint l D cs q x0 x3 v301 τ _ _ h305) mk_X6_laysPoint mv_X6_laysPoint ml_X6_264 h63 rfl (by decide) ⟨rfl, rfl⟩ ⟨Nat.le_of_ble_eq_true rfl, Nat.le_of_ble_eq_true rfl⟩ rfl (Nat.le_of_ble_eq_true rfl) ⟨Nat.le_of_ble_eq_true rfl, Nat.le_of_ble_eq_true rfl⟩ dX6_tight_136 rfl (st' := []) rfl ?_
                  obtain ⟨v307, ev307⟩ : ∃ y : Int32, y = x3 + (1 : Int32) := ⟨_, rfl⟩
                  replace hf306 := lt_of hf306 v307 ev307
                  refine j_iinc X (v := v307) (lv' := [(3, .int v307), (0, .ref (q x0)), (1, .int x1), (2, .int x2)]) dX6_tight_139 3 rfl (by rw [ev307]; rfl) (by decide) rfl ?_
                  refine j_goto X (tgt := 66) dX6_tight_142 (by decide) ?_
                  refine j_lvsub [1, 2, 3, 0] (lv' := [(0, .ref (q x0)), (1, .int x1), (2, .int x2), (3, .int v307)]) rfl ?_
                  exact ih x0 x1 x2 v307 σ304 hf306
                · have hf295 := br_y hf291 c293; clear hf291
                  refine j_aload_n X dX6_tight_121 0 rfl rfl ?_
                  obtain ⟨i309, h310, hf311⟩ := bd_of hf295; clear hf295
                  refine j_getr X fd_X6_51 h63 h310 dX6_tight_122 ?_
                  refine j_iload_n X dX6_tight_125 3 rfl rfl ?_
                  obtain ⟨h312, hf313⟩ := chk_of hf311; clear hf311
                  refine j_iald X h312 dX6_tight_126 (fun v314 ev314 => ?_)
                  replace hf313 := lt_of hf313 v314 ev314
                  refine j_goto X (tgt := 136) dX6_tight_127 (by decide) ?_
                  obtain ⟨r316, σ317, h318, hf319⟩ := bc_of hf313; clear hf313
                  refine j_callV0 X [.int x3, .int v314] [] (c_X6_laysPoint l D cs q x0 x3 v314 τ _ _ h318) mk_X6_laysPoint mv_X6_laysPoint ml_X6_264 h63 rfl (by decide) ⟨rfl, rfl⟩ ⟨Nat.le_of_ble_eq_true rfl, Nat.le_of_ble_eq_true rfl⟩ rfl (Nat.le_of_ble_eq_true rfl) ⟨Nat.le_of_ble_eq_true rfl, Nat.le_of_ble_eq_true rfl⟩ dX6_tight_136 rfl (st' := []) rfl ?_
                  obtain ⟨v320, ev320⟩ : ∃ y : Int32, y = x3 + (1 : Int32) := ⟨_, rfl⟩
                  replace hf319 := lt_of hf319 v320 ev320
                  refine j_iinc X (v := v320) (lv' := [(3, .int v320), (0, .ref (q x0)), (1, .int x1), (2, .int x2)]) dX6_tight_139 3 rfl (by rw [ev320]; rfl) (by decide) rfl ?_
                  refine j_goto X (tgt := 66) dX6_tight_142 (by decide) ?_
                  refine j_lvsub [1, 2, 3, 0] (lv' := [(0, .ref (q x0)), (1, .int x1), (2, .int x2), (3, .int v320)]) rfl ?_
                  exact ih x0 x1 x2 v320 σ317 hf319
              · have hf292 := br_y hf228 c290; clear hf228
                refine j_iconst X (v := 1) dX6_tight_113 (by decide) ?_
                refine j_goto X (tgt := 118) dX6_tight_114 (by decide) ?_
                refine j_icmp_ne X (tgt := 130) dX6_tight_118 (by decide) (fun c322 => ?_) (fun c322 => ?_)
                · have hf323 := br_n hf292 c322; clear hf292
                  refine j_aload_n X dX6_tight_130 0 rfl rfl ?_
                  obtain ⟨i325, h326, hf327⟩ := bd_of hf323; clear hf323
                  refine j_getr X fd_X6_54 h63 h326 dX6_tight_131 ?_
                  refine j_iload_n X dX6_tight_134 3 rfl rfl ?_
                  obtain ⟨h328, hf329⟩ := chk_of hf327; clear hf327
                  refine j_iald X h328 dX6_tight_135 (fun v330 ev330 => ?_)
                  replace hf329 := lt_of hf329 v330 ev330
                  obtain ⟨r332, σ333, h334, hf335⟩ := bc_of hf329; clear hf329
                  refine j_callV0 X [.int x3, .int v330] [] (c_X6_laysPoint l D cs q x0 x3 v330 τ _ _ h334) mk_X6_laysPoint mv_X6_laysPoint ml_X6_264 h63 rfl (by decide) ⟨rfl, rfl⟩ ⟨Nat.le_of_ble_eq_true rfl, Nat.le_of_ble_eq_true rfl⟩ rfl (Nat.le_of_ble_eq_true rfl) ⟨Nat.le_of_ble_eq_true rfl, Nat.le_of_ble_eq_true rfl⟩ dX6_tight_136 rfl (st' := []) rfl ?_
                  obtain ⟨v336, ev336⟩ : ∃ y : Int32, y = x3 + (1 : Int32) := ⟨_, rfl⟩
                  replace hf335 := lt_of hf335 v336 ev336
                  refine j_iinc X (v := v336) (lv' := [(3, .int v336), (0, .ref (q x0)), (1, .int x1), (2, .int x2)]) dX6_tight_139 3 rfl (by rw [ev336]; rfl) (by decide) rfl ?_
                  refine j_goto X (tgt := 66) dX6_tight_142 (by decide) ?_
                  refine j_lvsub [1, 2, 3, 0] (lv' := [(0, .ref (q x0)), (1, .int x1), (2, .int x2), (3, .int v336)]) rfl ?_
                  exact ih x0 x1 x2 v336 σ333 hf335
                · have hf324 := br_y hf292 c322; clear hf292
                  refine j_aload_n X dX6_tight_121 0 rfl rfl ?_
                  obtain ⟨i338, h339, hf340⟩ := bd_of hf324; clear hf324
                  refine j_getr X fd_X6_51 h63 h339 dX6_tight_122 ?_
                  refine j_iload_n X dX6_tight_125 3 rfl rfl ?_
                  obtain ⟨h341, hf342⟩ := chk_of hf340; clear hf340
                  refine j_iald X h341 dX6_tight_126 (fun v343 ev343 => ?_)
                  replace hf342 := lt_of hf342 v343 ev343
                  refine j_goto X (tgt := 136) dX6_tight_127 (by decide) ?_
                  obtain ⟨r345, σ346, h347, hf348⟩ := bc_of hf342; clear hf342
                  refine j_callV0 X [.int x3, .int v343] [] (c_X6_laysPoint l D cs q x0 x3 v343 τ _ _ h347) mk_X6_laysPoint mv_X6_laysPoint ml_X6_264 h63 rfl (by decide) ⟨rfl, rfl⟩ ⟨Nat.le_of_ble_eq_true rfl, Nat.le_of_ble_eq_true rfl⟩ rfl (Nat.le_of_ble_eq_true rfl) ⟨Nat.le_of_ble_eq_true rfl, Nat.le_of_ble_eq_true rfl⟩ dX6_tight_136 rfl (st' := []) rfl ?_
                  obtain ⟨v349, ev349⟩ : ∃ y : Int32, y = x3 + (1 : Int32) := ⟨_, rfl⟩
                  replace hf348 := lt_of hf348 v349 ev349
                  refine j_iinc X (v := v349) (lv' := [(3, .int v349), (0, .ref (q x0)), (1, .int x1), (2, .int x2)]) dX6_tight_139 3 rfl (by rw [ev349]; rfl) (by decide) rfl ?_
                  refine j_goto X (tgt := 66) dX6_tight_142 (by decide) ?_
                  refine j_lvsub [1, 2, 3, 0] (lv' := [(0, .ref (q x0)), (1, .int x1), (2, .int x2), (3, .int v349)]) rfl ?_
                  exact ih x0 x1 x2 v349 σ346 hf348
  have L36 : ∀ (nk : Nat) (x0 : Nat) (x1 : Int32) (x2 : Int32) (x3 : Int32) (τ : HS), lp_X6_tight_36  nk x0 x1 x2 x3 τ = some (r0, σ0) → J p l e rm_X6_tight s m args below meth c 4 D cs A s.heap 0 0 (MQ below (hQ D cs (fun z => z = q) (fun _ => some (.long r0)) σ0 A) args s 0 0 A) q τ [(0, .ref (q x0)), (1, .int x1), (2, .int x2), (3, .int x3)] 36 [] := by
    intro nk
    induction nk with
    | zero => intro x0 x1 x2 x3 τ hf0; have hf1 : (none : Option (Int64 × HS)) = some (r0, σ0) := hf0; cases hf1
    | succ nk ih =>
      intro x0 x1 x2 x3 τ hf0
      replace hf0 : lp_X6_tight_36_b  (lp_X6_tight_36  nk) x0 x1 x2 x3 τ = some (r0, σ0) := hf0
      unfold lp_X6_tight_36_b at hf0
      refine j_iload_n X dX6_tight_36 3 rfl rfl ?_
      refine j_bipush X (v := 6) dX6_tight_37 (by decide) ?_
      refine j_icmp_ge X (tgt := 60) dX6_tight_39 (by decide) (fun c28 => ?_) (fun c28 => ?_)
      · have hf29 := br_y hf0 c28; clear hf0
        refine j_aload_n X dX6_tight_60 0 rfl rfl ?_
        obtain ⟨h31, hf32⟩ := chk_of hf29; clear hf29
        obtain ⟨r33, σ34, h35, hf36⟩ := bc_of hf32; clear hf32
        refine j_callV0 X [] [] (c_X6_laysBox l D cs q x0 τ _ _ h35) mk_X6_laysBox mv_X6_laysBox ml_X6_233 h31 rfl (by decide) ⟨rfl, rfl⟩ ⟨Nat.le_of_ble_eq_true rfl, Nat.le_of_ble_eq_true rfl⟩ rfl (Nat.le_of_ble_eq_true rfl) ⟨Nat.le_of_ble_eq_true rfl, Nat.le_of_ble_eq_true rfl⟩ dX6_tight_61 rfl (st' := []) rfl ?_
        refine j_iconst X (v := 0) dX6_tight_64 (by decide) ?_
        refine j_nmi (fun v37 ev37 => ?_)
        replace hf36 := lt_of hf36 v37 ev37
        refine j_istore_n X (lv' := [(3, .int v37), (0, .ref (q x0)), (1, .int x1), (2, .int x2)]) dX6_tight_65 rfl (by decide) rfl ?_
        refine j_lvsub [1, 2, 3, 0] (lv' := [(0, .ref (q x0)), (1, .int x1), (2, .int x2), (3, .int v37)]) rfl ?_
        exact L66 (K36) (ih) 1000 x0 x1 x2 v37 σ34 hf36
      · have hf30 := br_n hf0 c28; clear hf0
        refine j_aload_n X dX6_tight_42 0 rfl rfl ?_
        obtain ⟨h351, hf352⟩ := chk_of hf30; clear hf30
        obtain ⟨i353, h354, hf355⟩ := bd_of hf352; clear hf352
        refine j_getr X fd_X6_77 h351 h354 dX6_tight_43 ?_
        refine j_iload_n X dX6_tight_46 3 rfl rfl ?_
        refine j_aload_n X dX6_tight_47 0 rfl rfl ?_
        refine j_iload_n X dX6_tight_48 1 rfl rfl ?_
        refine j_iload_n X dX6_tight_49 3 rfl rfl ?_
        obtain ⟨r356, σ357, h358, hf359⟩ := bc_of hf355; clear hf355
        refine j_callV0 X [.int x1, .int x3] [.int x3, .ref (q i353)] (c_X6_changeOf l D cs q x0 x1 x3 τ _ _ h358) mk_X6_changeOf mv_X6_changeOf ml_X6_271 h351 rfl (by decide) ⟨rfl, rfl⟩ ⟨Nat.le_of_ble_eq_true rfl, Nat.le_of_ble_eq_true rfl⟩ rfl (Nat.le_of_ble_eq_true rfl) ⟨Nat.le_of_ble_eq_true rfl, Nat.le_of_ble_eq_true rfl⟩ dX6_tight_50 rfl (st' := [.int r356, .int x3, .ref (q i353)]) rfl ?_
        obtain ⟨h360, hf361⟩ := chk_of hf359; clear hf359
        refine j_iast X h360 dX6_tight_53 (fun σ362 eσ362 => ?_)
        replace hf361 := lt_of hf361 σ362 eσ362
        obtain ⟨v364, ev364⟩ : ∃ y : Int32, y = x3 + (1 : Int32) := ⟨_, rfl⟩
        replace hf361 := lt_of hf361 v364 ev364
        refine j_iinc X (v := v364) (lv' := [(3, .int v364), (0, .ref (q x0)), (1, .int x1), (2, .int x2)]) dX6_tight_54 3 rfl (by rw [ev364]; rfl) (by decide) rfl ?_
        refine j_goto X (tgt := 36) dX6_tight_57 (by decide) ?_
        refine j_lvsub [1, 2, 3, 0] (lv' := [(0, .ref (q x0)), (1, .int x1), (2, .int x2), (3, .int v364)]) rfl ?_
        exact ih x0 x1 x2 v364 σ362 hf361
  refine j_aload_n X dX6_tight_0 0 rfl rfl ?_
  refine j_iload_n X dX6_tight_1 1 rfl rfl ?_
  obtain ⟨h1, hf2⟩ := chk_of hf0; clear hf0
  obtain ⟨r3, σ4, h5, hf6⟩ := bc_of hf2; clear hf2
  refine j_callV0 X [.int a1] [] (c_X6_isFormula l D cs q a0 a1 σ _ _ h5) mk_X6_isFormula mv_X6_isFormula ml_X6_180 h1 rfl (by decide) ⟨rfl, rfl⟩ ⟨Nat.le_of_ble_eq_true rfl, Nat.le_of_ble_eq_true rfl⟩ rfl (Nat.le_of_ble_eq_true rfl) ⟨Nat.le_of_ble_eq_true rfl, Nat.le_of_ble_eq_true rfl⟩ dX6_tight_2 rfl (st' := [.int r3]) rfl ?_
  refine j_if_eq X (tgt := 18) dX6_tight_5 (by decide) (fun c7 => ?_) (fun c7 => ?_)
  · have hf8 := br_y hf6 c7; clear hf6
    refine j_ldc2 X k_X6_198 dX6_tight_18 ?_
    obtain ⟨er, es⟩ := rt_of hf8
    subst er
    exact j_retl X hr hlk (Nat.le_of_ble_eq_true rfl) (Nat.le_of_ble_eq_true rfl) rfl es.symm rfl dX6_tight_21
  · have hf9 := br_n hf6 c7; clear hf6
    refine j_iload_n X dX6_tight_8 2 rfl rfl ?_
    refine j_i2l X dX6_tight_9 ?_
    refine j_lconst X (v := 0) dX6_tight_10 (by decide) ?_
    refine j_lconst X (v := 1) dX6_tight_11 (by decide) ?_
    obtain ⟨r10, σ11, h12, hf13⟩ := bc_of hf9; clear hf9
    refine j_callS0 X [.long (a2).toInt64, .long (0 : Int64), .long (1 : Int64)] [] (c_X6_isIn l D cs q (a2).toInt64 (0 : Int64) (1 : Int64) σ4 _ _ h12) mk_X6_isIn ms_X6_isIn ml_X6_97 ⟨rfl, rfl⟩ ⟨Nat.le_of_ble_eq_true rfl, Nat.le_of_ble_eq_true rfl⟩ rfl (Nat.le_of_ble_eq_true rfl) ⟨Nat.le_of_ble_eq_true rfl, Nat.le_of_ble_eq_true rfl⟩ dX6_tight_12 rfl (st' := [.int r10]) rfl ?_
    refine j_if_ne X (tgt := 22) dX6_tight_15 (by decide) (fun c14 => ?_) (fun c14 => ?_)
    · have hf15 := br_n hf13 c14; clear hf13
      refine j_aload_n X dX6_tight_22 0 rfl rfl ?_
      refine j_iload_n X dX6_tight_23 1 rfl rfl ?_
      obtain ⟨h17, hf18⟩ := chk_of hf15; clear hf15
      obtain ⟨r19, σ20, h21, hf22⟩ := bc_of hf18; clear hf18
      refine j_callV0 X [.int a1] [] (c_X6_spansNow l D cs q a0 a1 σ11 _ _ h21) mk_X6_spansNow mv_X6_spansNow ml_X6_254 h17 rfl (by decide) ⟨rfl, rfl⟩ ⟨Nat.le_of_ble_eq_true rfl, Nat.le_of_ble_eq_true rfl⟩ rfl (Nat.le_of_ble_eq_true rfl) ⟨Nat.le_of_ble_eq_true rfl, Nat.le_of_ble_eq_true rfl⟩ dX6_tight_24 rfl (st' := [.int r19]) rfl ?_
      refine j_if_ne X (tgt := 34) dX6_tight_27 (by decide) (fun c23 => ?_) (fun c23 => ?_)
      · have hf24 := br_n hf22 c23; clear hf22
        refine j_iconst X (v := 0) dX6_tight_34 (by decide) ?_
        refine j_nmi (fun v26 ev26 => ?_)
        replace hf24 := lt_of hf24 v26 ev26
        refine j_istore_n X (lv' := [(3, .int v26), (0, .ref (q a0)), (1, .int a1), (2, .int a2)]) dX6_tight_35 rfl (by decide) rfl ?_
        refine j_lvsub [1, 2, 3, 0] (lv' := [(0, .ref (q a0)), (1, .int a1), (2, .int a2), (3, .int v26)]) rfl ?_
        exact L36  1000 a0 a1 a2 v26 σ20 hf24
      · have hf25 := br_y hf22 c23; clear hf22
        refine j_ldc2 X k_X6_239 dX6_tight_30 ?_
        obtain ⟨er, es⟩ := rt_of hf25
        subst er
        exact j_retl X hr hlk (Nat.le_of_ble_eq_true rfl) (Nat.le_of_ble_eq_true rfl) rfl es.symm rfl dX6_tight_33
    · have hf16 := br_y hf13 c14; clear hf13
      refine j_ldc2 X k_X6_198 dX6_tight_18 ?_
      obtain ⟨er, es⟩ := rt_of hf16
      subst er
      exact j_retl X hr hlk (Nat.le_of_ble_eq_true rfl) (Nat.le_of_ble_eq_true rfl) rfl es.symm rfl dX6_tight_21
def f_X6_undo (a0 : Nat) (σ : HS) : Option (Int32 × HS) :=
  chk (isO σ 6 a0) (lt (hA σ a0 14) fun v3 =>
  (if v3 = 0 then
  some ((-3 : Int32), σ)
  else
  bd (hR σ a0 1) fun i8 =>
  bd (hR σ a0 0) fun i11 =>
  bc (f_X6_copies i8 i11 (18 : Int32) σ) fun r14 σ15 =>
  chk (isO σ15 6 a0) (bd (hR σ15 a0 8) fun i20 =>
  bd (hR σ15 a0 2) fun i23 =>
  bc (f_X6_copies i20 i23 (360 : Int32) σ15) fun r26 σ27 =>
  chk (isO σ27 6 a0) (bd (hR σ27 a0 9) fun i32 =>
  bd (hR σ27 a0 3) fun i35 =>
  bc (f_X6_copies i32 i35 (360 : Int32) σ27) fun r38 σ39 =>
  chk (isO σ39 6 a0) (bd (hR σ39 a0 10) fun i44 =>
  bd (hR σ39 a0 4) fun i47 =>
  bc (f_X6_copies i44 i47 (360 : Int32) σ39) fun r50 σ51 =>
  chk (isO σ51 6 a0) (bd (hR σ51 a0 11) fun i56 =>
  bd (hR σ51 a0 5) fun i59 =>
  bc (f_X6_copies i56 i59 (360 : Int32) σ51) fun r62 σ63 =>
  chk (isO σ63 6 a0) (bd (hR σ63 a0 12) fun i68 =>
  bd (hR σ63 a0 6) fun i71 =>
  bc (f_X6_copies i68 i71 (6 : Int32) σ63) fun r74 σ75 =>
  chk (isO σ75 6 a0) (bd (hR σ75 a0 37) fun i80 =>
  bd (hR σ75 a0 35) fun i83 =>
  bc (f_X6_copies i80 i83 (24 : Int32) σ75) fun r86 σ87 =>
  chk (isO σ87 6 a0) (lt (hA σ87 a0 13) fun v92 =>
  lt (sA σ87 a0 7 v92) fun σ94 =>
  lt (hA σ94 a0 38) fun v97 =>
  lt (sA σ94 a0 36 v97) fun σ99 =>
  lt (hA σ99 a0 7) fun v102 =>
  some (v102, σ99))))))))))
abbrev rm_X6_undo : Room := { frames := 2, cells := 0, slots := 0, locals := 128 }
set_option maxHeartbeats 4000000 in
set_option maxRecDepth 100000 in
theorem c_X6_undo (l : Launch) (D : va_G) (cs : Nat → ClassId) (q : Nat → Nat) (a0 : Nat) (σ σ0 : HS) (r0 : Int32) (hf0 : f_X6_undo a0 σ = some (r0, σ0)) : MT l yX6_undo (Cond.code yX6_undo cX6_undo 1 (some .int) :: lw_g) rm_X6_undo D cs q σ σ0 [.ref (q a0)] (fun z => z = q) (fun _ => some (.int r0)) 0 0 := by
  unfold f_X6_undo at hf0
  refine MT_of (cc := cX6_undo) (lv0 := [(0, .ref (q a0))]) (by decide) (Nat.le_of_ble_eq_true rfl) rfl (fun p e s m args below meth c A X hr hlk hin => ?_)
  refine j_aload_n X dX6_undo_0 0 rfl rfl ?_
  obtain ⟨h1, hf2⟩ := chk_of hf0; clear hf0
  refine j_geti X fd_X6_321 h1 dX6_undo_1 (fun v3 ev3 => ?_)
  replace hf2 := lt_of hf2 v3 ev3
  refine j_if_ne X (tgt := 10) dX6_undo_4 (by decide) (fun c5 => ?_) (fun c5 => ?_)
  · have hf6 := br_n hf2 c5; clear hf2
    refine j_aload_n X dX6_undo_10 0 rfl rfl ?_
    obtain ⟨i8, h9, hf10⟩ := bd_of hf6; clear hf6
    refine j_getr X fd_X6_15 h1 h9 dX6_undo_11 ?_
    refine j_aload_n X dX6_undo_14 0 rfl rfl ?_
    obtain ⟨i11, h12, hf13⟩ := bd_of hf10; clear hf10
    refine j_getr X fd_X6_11 h1 h12 dX6_undo_15 ?_
    refine j_bipush X (v := 18) dX6_undo_18 (by decide) ?_
    obtain ⟨r14, σ15, h16, hf17⟩ := bc_of hf13; clear hf13
    refine j_callS0 X [.ref (q i8), .ref (q i11), .int (18 : Int32)] [] (c_X6_copies l D cs q i8 i11 (18 : Int32) σ _ _ h16) mk_X6_copies ms_X6_copies ml_X6_311 ⟨rfl, rfl⟩ ⟨Nat.le_of_ble_eq_true rfl, Nat.le_of_ble_eq_true rfl⟩ rfl (Nat.le_of_ble_eq_true rfl) ⟨Nat.le_of_ble_eq_true rfl, Nat.le_of_ble_eq_true rfl⟩ dX6_undo_20 rfl (st' := []) rfl ?_
    refine j_aload_n X dX6_undo_23 0 rfl rfl ?_
    obtain ⟨h18, hf19⟩ := chk_of hf17; clear hf17
    obtain ⟨i20, h21, hf22⟩ := bd_of hf19; clear hf19
    refine j_getr X fd_X6_33 h18 h21 dX6_undo_24 ?_
    refine j_aload_n X dX6_undo_27 0 rfl rfl ?_
    obtain ⟨i23, h24, hf25⟩ := bd_of hf22; clear hf22
    refine j_getr X fd_X6_18 h18 h24 dX6_undo_28 ?_
    refine j_sipush X (v := 360) dX6_undo_31 (by decide) ?_
    obtain ⟨r26, σ27, h28, hf29⟩ := bc_of hf25; clear hf25
    refine j_callS0 X [.ref (q i20), .ref (q i23), .int (360 : Int32)] [] (c_X6_copies l D cs q i20 i23 (360 : Int32) σ15 _ _ h28) mk_X6_copies ms_X6_copies ml_X6_311 ⟨rfl, rfl⟩ ⟨Nat.le_of_ble_eq_true rfl, Nat.le_of_ble_eq_true rfl⟩ rfl (Nat.le_of_ble_eq_true rfl) ⟨Nat.le_of_ble_eq_true rfl, Nat.le_of_ble_eq_true rfl⟩ dX6_undo_34 rfl (st' := []) rfl ?_
    refine j_aload_n X dX6_undo_37 0 rfl rfl ?_
    obtain ⟨h30, hf31⟩ := chk_of hf29; clear hf29
    obtain ⟨i32, h33, hf34⟩ := bd_of hf31; clear hf31
    refine j_getr X fd_X6_36 h30 h33 dX6_undo_38 ?_
    refine j_aload_n X dX6_undo_41 0 rfl rfl ?_
    obtain ⟨i35, h36, hf37⟩ := bd_of hf34; clear hf34
    refine j_getr X fd_X6_21 h30 h36 dX6_undo_42 ?_
    refine j_sipush X (v := 360) dX6_undo_45 (by decide) ?_
    obtain ⟨r38, σ39, h40, hf41⟩ := bc_of hf37; clear hf37
    refine j_callS0 X [.ref (q i32), .ref (q i35), .int (360 : Int32)] [] (c_X6_copies l D cs q i32 i35 (360 : Int32) σ27 _ _ h40) mk_X6_copies ms_X6_copies ml_X6_311 ⟨rfl, rfl⟩ ⟨Nat.le_of_ble_eq_true rfl, Nat.le_of_ble_eq_true rfl⟩ rfl (Nat.le_of_ble_eq_true rfl) ⟨Nat.le_of_ble_eq_true rfl, Nat.le_of_ble_eq_true rfl⟩ dX6_undo_48 rfl (st' := []) rfl ?_
    refine j_aload_n X dX6_undo_51 0 rfl rfl ?_
    obtain ⟨h42, hf43⟩ := chk_of hf41; clear hf41
    obtain ⟨i44, h45, hf46⟩ := bd_of hf43; clear hf43
    refine j_getr X fd_X6_39 h42 h45 dX6_undo_52 ?_
    refine j_aload_n X dX6_undo_55 0 rfl rfl ?_
    obtain ⟨i47, h48, hf49⟩ := bd_of hf46; clear hf46
    refine j_getr X fd_X6_24 h42 h48 dX6_undo_56 ?_
    refine j_sipush X (v := 360) dX6_undo_59 (by decide) ?_
    obtain ⟨r50, σ51, h52, hf53⟩ := bc_of hf49; clear hf49
    refine j_callS0 X [.ref (q i44), .ref (q i47), .int (360 : Int32)] [] (c_X6_copies l D cs q i44 i47 (360 : Int32) σ39 _ _ h52) mk_X6_copies ms_X6_copies ml_X6_311 ⟨rfl, rfl⟩ ⟨Nat.le_of_ble_eq_true rfl, Nat.le_of_ble_eq_true rfl⟩ rfl (Nat.le_of_ble_eq_true rfl) ⟨Nat.le_of_ble_eq_true rfl, Nat.le_of_ble_eq_true rfl⟩ dX6_undo_62 rfl (st' := []) rfl ?_
    refine j_aload_n X dX6_undo_65 0 rfl rfl ?_
    obtain ⟨h54, hf55⟩ := chk_of hf53; clear hf53
    obtain ⟨i56, h57, hf58⟩ := bd_of hf55; clear hf55
    refine j_getr X fd_X6_42 h54 h57 dX6_undo_66 ?_
    refine j_aload_n X dX6_undo_69 0 rfl rfl ?_
    obtain ⟨i59, h60, hf61⟩ := bd_of hf58; clear hf58
    refine j_getr X fd_X6_27 h54 h60 dX6_undo_70 ?_
    refine j_sipush X (v := 360) dX6_undo_73 (by decide) ?_
    obtain ⟨r62, σ63, h64, hf65⟩ := bc_of hf61; clear hf61
    refine j_callS0 X [.ref (q i56), .ref (q i59), .int (360 : Int32)] [] (c_X6_copies l D cs q i56 i59 (360 : Int32) σ51 _ _ h64) mk_X6_copies ms_X6_copies ml_X6_311 ⟨rfl, rfl⟩ ⟨Nat.le_of_ble_eq_true rfl, Nat.le_of_ble_eq_true rfl⟩ rfl (Nat.le_of_ble_eq_true rfl) ⟨Nat.le_of_ble_eq_true rfl, Nat.le_of_ble_eq_true rfl⟩ dX6_undo_76 rfl (st' := []) rfl ?_
    refine j_aload_n X dX6_undo_79 0 rfl rfl ?_
    obtain ⟨h66, hf67⟩ := chk_of hf65; clear hf65
    obtain ⟨i68, h69, hf70⟩ := bd_of hf67; clear hf67
    refine j_getr X fd_X6_45 h66 h69 dX6_undo_80 ?_
    refine j_aload_n X dX6_undo_83 0 rfl rfl ?_
    obtain ⟨i71, h72, hf73⟩ := bd_of hf70; clear hf70
    refine j_getr X fd_X6_30 h66 h72 dX6_undo_84 ?_
    refine j_bipush X (v := 6) dX6_undo_87 (by decide) ?_
    obtain ⟨r74, σ75, h76, hf77⟩ := bc_of hf73; clear hf73
    refine j_callS0 X [.ref (q i68), .ref (q i71), .int (6 : Int32)] [] (c_X6_copies l D cs q i68 i71 (6 : Int32) σ63 _ _ h76) mk_X6_copies ms_X6_copies ml_X6_311 ⟨rfl, rfl⟩ ⟨Nat.le_of_ble_eq_true rfl, Nat.le_of_ble_eq_true rfl⟩ rfl (Nat.le_of_ble_eq_true rfl) ⟨Nat.le_of_ble_eq_true rfl, Nat.le_of_ble_eq_true rfl⟩ dX6_undo_89 rfl (st' := []) rfl ?_
    refine j_aload_n X dX6_undo_92 0 rfl rfl ?_
    obtain ⟨h78, hf79⟩ := chk_of hf77; clear hf77
    obtain ⟨i80, h81, hf82⟩ := bd_of hf79; clear hf79
    refine j_getr X fd_X6_83 h78 h81 dX6_undo_93 ?_
    refine j_aload_n X dX6_undo_96 0 rfl rfl ?_
    obtain ⟨i83, h84, hf85⟩ := bd_of hf82; clear hf82
    refine j_getr X fd_X6_80 h78 h84 dX6_undo_97 ?_
    refine j_bipush X (v := 24) dX6_undo_100 (by decide) ?_
    obtain ⟨r86, σ87, h88, hf89⟩ := bc_of hf85; clear hf85
    refine j_callS0 X [.ref (q i80), .ref (q i83), .int (24 : Int32)] [] (c_X6_copies l D cs q i80 i83 (24 : Int32) σ75 _ _ h88) mk_X6_copies ms_X6_copies ml_X6_311 ⟨rfl, rfl⟩ ⟨Nat.le_of_ble_eq_true rfl, Nat.le_of_ble_eq_true rfl⟩ rfl (Nat.le_of_ble_eq_true rfl) ⟨Nat.le_of_ble_eq_true rfl, Nat.le_of_ble_eq_true rfl⟩ dX6_undo_102 rfl (st' := []) rfl ?_
    refine j_aload_n X dX6_undo_105 0 rfl rfl ?_
    refine j_aload_n X dX6_undo_106 0 rfl rfl ?_
    obtain ⟨h90, hf91⟩ := chk_of hf89; clear hf89
    refine j_geti X fd_X6_315 h90 dX6_undo_107 (fun v92 ev92 => ?_)
    replace hf91 := lt_of hf91 v92 ev92
    refine j_puti X fp_X6_122 h90 dX6_undo_110 (fun σ94 eσ94 => ?_)
    replace hf91 := lt_of hf91 σ94 eσ94
    have h96 : isO σ94 6 a0 := by rw [eσ94]; exact h90
    refine j_aload_n X dX6_undo_113 0 rfl rfl ?_
    refine j_aload_n X dX6_undo_114 0 rfl rfl ?_
    refine j_geti X fd_X6_318 h96 dX6_undo_115 (fun v97 ev97 => ?_)
    replace hf91 := lt_of hf91 v97 ev97
    refine j_puti X fp_X6_297 h96 dX6_undo_118 (fun σ99 eσ99 => ?_)
    replace hf91 := lt_of hf91 σ99 eσ99
    have h101 : isO σ99 6 a0 := by rw [eσ99]; exact h96
    refine j_aload_n X dX6_undo_121 0 rfl rfl ?_
    refine j_geti X fd_X6_122 h101 dX6_undo_122 (fun v102 ev102 => ?_)
    replace hf91 := lt_of hf91 v102 ev102
    obtain ⟨er, es⟩ := rt_of hf91
    subst er
    exact j_reti X hr hlk (Nat.le_of_ble_eq_true rfl) (Nat.le_of_ble_eq_true rfl) rfl es.symm rfl dX6_undo_125
  · have hf7 := br_y hf2 c5; clear hf2
    refine j_bipush X (v := -3) dX6_undo_7 (by decide) ?_
    obtain ⟨er, es⟩ := rt_of hf7
    subst er
    exact j_reti X hr hlk (Nat.le_of_ble_eq_true rfl) (Nat.le_of_ble_eq_true rfl) rfl es.symm rfl dX6_undo_9
def f_X6_way (a0 : Nat) (a1 : Int32) (σ : HS) : Option (Int32 × HS) :=
  (if a1 = (-1 : Int32) then
  chk (isO σ 6 a0) (lt (hA σ a0 29) fun v26 =>
  some (v26, σ))
  else
  chk (isO σ 6 a0) (lt (hA σ a0 29) fun v6 =>
  bc (f_X6_isIn (a1).toInt64 (0 : Int64) ((v6 - (1 : Int32))).toInt64 σ) fun r8 σ9 =>
  (if r8 = 0 then
  some ((-1 : Int32), σ9)
  else
  chk (isO σ9 6 a0) (bd (hR σ9 a0 28) fun i17 =>
  chk (isO σ9 10 i17 ∧ inb a1 (hlen σ9 i17)) (lt (hA σ9 i17 a1.toNatClampNeg) fun v22 =>
  some (v22, σ9))))))
abbrev rm_X6_way : Room := { frames := 1, cells := 0, slots := 0, locals := 64 }
set_option maxHeartbeats 4000000 in
set_option maxRecDepth 100000 in
theorem c_X6_way (l : Launch) (D : va_G) (cs : Nat → ClassId) (q : Nat → Nat) (a0 : Nat) (a1 : Int32) (σ σ0 : HS) (r0 : Int32) (hf0 : f_X6_way a0 a1 σ = some (r0, σ0)) : MT l yX6_way (Cond.code yX6_way cX6_way 2 (some .int) :: lw_g) rm_X6_way D cs q σ σ0 [.ref (q a0), .int a1] (fun z => z = q) (fun _ => some (.int r0)) 0 0 := by
  unfold f_X6_way at hf0
  refine MT_of (cc := cX6_way) (lv0 := [(0, .ref (q a0)), (1, .int a1)]) (by decide) (Nat.le_of_ble_eq_true rfl) rfl (fun p e s m args below meth c A X hr hlk hin => ?_)
  refine j_iload_n X dX6_way_0 1 rfl rfl ?_
  refine j_iconst X (v := -1) dX6_way_1 (by decide) ?_
  refine j_icmp_ne X (tgt := 12) dX6_way_2 (by decide) (fun c1 => ?_) (fun c1 => ?_)
  · have hf2 := br_n hf0 c1; clear hf0
    refine j_iload_n X dX6_way_12 1 rfl rfl ?_
    refine j_i2l X dX6_way_13 ?_
    refine j_lconst X (v := 0) dX6_way_14 (by decide) ?_
    refine j_aload_n X dX6_way_15 0 rfl rfl ?_
    obtain ⟨h4, hf5⟩ := chk_of hf2; clear hf2
    refine j_geti X fd_X6_251 h4 dX6_way_16 (fun v6 ev6 => ?_)
    replace hf5 := lt_of hf5 v6 ev6
    refine j_iconst X (v := 1) dX6_way_19 (by decide) ?_
    refine j_isub X dX6_way_20 ?_
    refine j_i2l X dX6_way_21 ?_
    obtain ⟨r8, σ9, h10, hf11⟩ := bc_of hf5; clear hf5
    refine j_callS0 X [.long (a1).toInt64, .long (0 : Int64), .long ((v6 - (1 : Int32))).toInt64] [] (c_X6_isIn l D cs q (a1).toInt64 (0 : Int64) ((v6 - (1 : Int32))).toInt64 σ _ _ h10) mk_X6_isIn ms_X6_isIn ml_X6_97 ⟨rfl, rfl⟩ ⟨Nat.le_of_ble_eq_true rfl, Nat.le_of_ble_eq_true rfl⟩ rfl (Nat.le_of_ble_eq_true rfl) ⟨Nat.le_of_ble_eq_true rfl, Nat.le_of_ble_eq_true rfl⟩ dX6_way_22 rfl (st' := [.int r8]) rfl ?_
    refine j_if_eq X (tgt := 37) dX6_way_25 (by decide) (fun c12 => ?_) (fun c12 => ?_)
    · have hf13 := br_y hf11 c12; clear hf11
      refine j_iconst X (v := -1) dX6_way_37 (by decide) ?_
      obtain ⟨er, es⟩ := rt_of hf13
      subst er
      exact j_reti X hr hlk (Nat.le_of_ble_eq_true rfl) (Nat.le_of_ble_eq_true rfl) rfl es.symm rfl dX6_way_38
    · have hf14 := br_n hf11 c12; clear hf11
      refine j_aload_n X dX6_way_28 0 rfl rfl ?_
      obtain ⟨h15, hf16⟩ := chk_of hf14; clear hf14
      obtain ⟨i17, h18, hf19⟩ := bd_of hf16; clear hf16
      refine j_getr X fd_X6_68 h15 h18 dX6_way_29 ?_
      refine j_iload_n X dX6_way_32 1 rfl rfl ?_
      obtain ⟨h20, hf21⟩ := chk_of hf19; clear hf19
      refine j_iald X h20 dX6_way_33 (fun v22 ev22 => ?_)
      replace hf21 := lt_of hf21 v22 ev22
      refine j_goto X (tgt := 38) dX6_way_34 (by decide) ?_
      obtain ⟨er, es⟩ := rt_of hf21
      subst er
      exact j_reti X hr hlk (Nat.le_of_ble_eq_true rfl) (Nat.le_of_ble_eq_true rfl) rfl es.symm rfl dX6_way_38
  · have hf3 := br_y hf0 c1; clear hf0
    refine j_aload_n X dX6_way_5 0 rfl rfl ?_
    obtain ⟨h24, hf25⟩ := chk_of hf3; clear hf3
    refine j_geti X fd_X6_251 h24 dX6_way_6 (fun v26 ev26 => ?_)
    replace hf25 := lt_of hf25 v26 ev26
    refine j_goto X (tgt := 38) dX6_way_9 (by decide) ?_
    obtain ⟨er, es⟩ := rt_of hf25
    subst er
    exact j_reti X hr hlk (Nat.le_of_ble_eq_true rfl) (Nat.le_of_ble_eq_true rfl) rfl es.symm rfl dX6_way_38
def lp_X6_widest_33_b  (K33 : Nat → Int32 → Int32 → Int64 → Int32 → HS → Option (Int32 × HS)) (x0 : Nat) (x1 : Int32) (x2 : Int32) (x3 : Int64) (x5 : Int32) (τ : HS) : Option (Int32 × HS) :=
  (if (6 : Int32) ≤ x5 then
  some (x2, τ)
  else
  chk (isO τ 6 x0) (bc (f_X6_spanOf x0 x5 τ) fun r30 σ31 =>
  (if r30 = 0 then
  lt (x5 + (1 : Int32)) fun v73 =>
  K33 x0 x1 x2 x3 v73 σ31
  else
  chk (isO σ31 6 x0) (bc (f_X6_laysBox x0 σ31) fun r39 σ40 =>
  chk (isO σ40 6 x0) (bc (f_X6_valueOf x0 x5 σ40) fun r45 σ46 =>
  chk (isO σ46 6 x0) (bc (f_X6_laysPoint x0 x5 r45 σ46) fun r51 σ52 =>
  chk (isO σ52 6 x0) (bc (f_X6_widthBy x0 x1 σ52) fun r57 σ58 =>
  (if x2 = (-5 : Int32) then
  lt (x5 + (1 : Int32)) fun v64 =>
  K33 x0 x1 x5 r57 v64 σ58
  else
  (if 0 ≤ (lg_cmp r57 x3) then
  lt (x5 + (1 : Int32)) fun v69 =>
  K33 x0 x1 x2 x3 v69 σ58
  else
  lt (x5 + (1 : Int32)) fun v71 =>
  K33 x0 x1 x5 r57 v71 σ58)))))))))
def lp_X6_widest_33  : Nat → Nat → Int32 → Int32 → Int64 → Int32 → HS → Option (Int32 × HS)
  | 0 => fun _ _ _ _ _ _ => none
  | n + 1 => lp_X6_widest_33_b  (lp_X6_widest_33  n)
def f_X6_widest (a0 : Nat) (a1 : Int32) (σ : HS) : Option (Int32 × HS) :=
  chk (isO σ 6 a0) (bc (f_X6_isFormula a0 a1 σ) fun r3 σ4 =>
  (if r3 = 0 then
  some ((-1 : Int32), σ4)
  else
  chk (isO σ4 6 a0) (bc (f_X6_widthNow a0 a1 σ4) fun r12 σ13 =>
  (if (lg_cmp r12 (-9223372036854775807 : Int64)) = 0 then
  some ((-6 : Int32), σ13)
  else
  lt ((-5 : Int32)) fun v19 =>
  lt ((0 : Int64)) fun v21 =>
  lt ((0 : Int32)) fun v23 =>
  lp_X6_widest_33  1000 a0 a1 v19 v21 v23 σ13))))
abbrev rm_X6_widest : Room := { frames := 6, cells := 0, slots := 0, locals := 384 }
set_option maxHeartbeats 4000000 in
set_option maxRecDepth 100000 in
theorem c_X6_widest (l : Launch) (D : va_G) (cs : Nat → ClassId) (q : Nat → Nat) (a0 : Nat) (a1 : Int32) (σ σ0 : HS) (r0 : Int32) (hf0 : f_X6_widest a0 a1 σ = some (r0, σ0)) : MT l yX6_widest (Cond.code yX6_widest cX6_widest 8 (some .int) :: lw_g) rm_X6_widest D cs q σ σ0 [.ref (q a0), .int a1] (fun z => z = q) (fun _ => some (.int r0)) 0 0 := by
  unfold f_X6_widest at hf0
  refine MT_of (cc := cX6_widest) (lv0 := [(0, .ref (q a0)), (1, .int a1)]) (by decide) (Nat.le_of_ble_eq_true rfl) rfl (fun p e s m args below meth c A X hr hlk hin => ?_)
  have L33 : ∀ (nk : Nat) (x0 : Nat) (x1 : Int32) (x2 : Int32) (x3 : Int64) (x5 : Int32) (τ : HS), lp_X6_widest_33  nk x0 x1 x2 x3 x5 τ = some (r0, σ0) → J p l e rm_X6_widest s m args below meth c 8 D cs A s.heap 0 0 (MQ below (hQ D cs (fun z => z = q) (fun _ => some (.int r0)) σ0 A) args s 0 0 A) q τ [(0, .ref (q x0)), (1, .int x1), (2, .int x2), (3, .long x3), (5, .int x5)] 33 [] := by
    intro nk
    induction nk with
    | zero => intro x0 x1 x2 x3 x5 τ hf0; have hf1 : (none : Option (Int32 × HS)) = some (r0, σ0) := hf0; cases hf1
    | succ nk ih =>
      intro x0 x1 x2 x3 x5 τ hf0
      replace hf0 : lp_X6_widest_33_b  (lp_X6_widest_33  nk) x0 x1 x2 x3 x5 τ = some (r0, σ0) := hf0
      unfold lp_X6_widest_33_b at hf0
      refine j_iload X dX6_widest_33 4 rfl ?_
      refine j_bipush X (v := 6) dX6_widest_35 (by decide) ?_
      refine j_icmp_ge X (tgt := 100) dX6_widest_37 (by decide) (fun c25 => ?_) (fun c25 => ?_)
      · have hf26 := br_y hf0 c25; clear hf0
        refine j_iload_n X dX6_widest_100 2 rfl rfl ?_
        obtain ⟨er, es⟩ := rt_of hf26
        subst er
        exact j_reti X hr hlk (Nat.le_of_ble_eq_true rfl) (Nat.le_of_ble_eq_true rfl) rfl es.symm rfl dX6_widest_101
      · have hf27 := br_n hf0 c25; clear hf0
        refine j_aload_n X dX6_widest_40 0 rfl rfl ?_
        refine j_iload X dX6_widest_41 4 rfl ?_
        obtain ⟨h28, hf29⟩ := chk_of hf27; clear hf27
        obtain ⟨r30, σ31, h32, hf33⟩ := bc_of hf29; clear hf29
        refine j_callV0 X [.int x5] [] (c_X6_spanOf l D cs q x0 x5 τ _ _ h32) mk_X6_spanOf mv_X6_spanOf ml_X6_119 h28 rfl (by decide) ⟨rfl, rfl⟩ ⟨Nat.le_of_ble_eq_true rfl, Nat.le_of_ble_eq_true rfl⟩ rfl (Nat.le_of_ble_eq_true rfl) ⟨Nat.le_of_ble_eq_true rfl, Nat.le_of_ble_eq_true rfl⟩ dX6_widest_43 rfl (st' := [.int r30]) rfl ?_
        refine j_if_ne X (tgt := 52) dX6_widest_46 (by decide) (fun c34 => ?_) (fun c34 => ?_)
        · have hf35 := br_n hf33 c34; clear hf33
          refine j_aload_n X dX6_widest_52 0 rfl rfl ?_
          obtain ⟨h37, hf38⟩ := chk_of hf35; clear hf35
          obtain ⟨r39, σ40, h41, hf42⟩ := bc_of hf38; clear hf38
          refine j_callV0 X [] [] (c_X6_laysBox l D cs q x0 σ31 _ _ h41) mk_X6_laysBox mv_X6_laysBox ml_X6_233 h37 rfl (by decide) ⟨rfl, rfl⟩ ⟨Nat.le_of_ble_eq_true rfl, Nat.le_of_ble_eq_true rfl⟩ rfl (Nat.le_of_ble_eq_true rfl) ⟨Nat.le_of_ble_eq_true rfl, Nat.le_of_ble_eq_true rfl⟩ dX6_widest_53 rfl (st' := []) rfl ?_
          refine j_aload_n X dX6_widest_56 0 rfl rfl ?_
          refine j_iload X dX6_widest_57 4 rfl ?_
          refine j_aload_n X dX6_widest_59 0 rfl rfl ?_
          refine j_iload X dX6_widest_60 4 rfl ?_
          obtain ⟨h43, hf44⟩ := chk_of hf42; clear hf42
          obtain ⟨r45, σ46, h47, hf48⟩ := bc_of hf44; clear hf44
          refine j_callV0 X [.int x5] [.int x5, .ref (q x0)] (c_X6_valueOf l D cs q x0 x5 σ40 _ _ h47) mk_X6_valueOf mv_X6_valueOf ml_X6_115 h43 rfl (by decide) ⟨rfl, rfl⟩ ⟨Nat.le_of_ble_eq_true rfl, Nat.le_of_ble_eq_true rfl⟩ rfl (Nat.le_of_ble_eq_true rfl) ⟨Nat.le_of_ble_eq_true rfl, Nat.le_of_ble_eq_true rfl⟩ dX6_widest_62 rfl (st' := [.int r45, .int x5, .ref (q x0)]) rfl ?_
          obtain ⟨h49, hf50⟩ := chk_of hf48; clear hf48
          obtain ⟨r51, σ52, h53, hf54⟩ := bc_of hf50; clear hf50
          refine j_callV0 X [.int x5, .int r45] [] (c_X6_laysPoint l D cs q x0 x5 r45 σ46 _ _ h53) mk_X6_laysPoint mv_X6_laysPoint ml_X6_264 h49 rfl (by decide) ⟨rfl, rfl⟩ ⟨Nat.le_of_ble_eq_true rfl, Nat.le_of_ble_eq_true rfl⟩ rfl (Nat.le_of_ble_eq_true rfl) ⟨Nat.le_of_ble_eq_true rfl, Nat.le_of_ble_eq_true rfl⟩ dX6_widest_65 rfl (st' := []) rfl ?_
          refine j_aload_n X dX6_widest_68 0 rfl rfl ?_
          refine j_iload_n X dX6_widest_69 1 rfl rfl ?_
          obtain ⟨h55, hf56⟩ := chk_of hf54; clear hf54
          obtain ⟨r57, σ58, h59, hf60⟩ := bc_of hf56; clear hf56
          refine j_callV0 X [.int x1] [] (c_X6_widthBy l D cs q x0 x1 σ52 _ _ h59) mk_X6_widthBy mv_X6_widthBy ml_X6_248 h55 rfl (by decide) ⟨rfl, rfl⟩ ⟨Nat.le_of_ble_eq_true rfl, Nat.le_of_ble_eq_true rfl⟩ rfl (Nat.le_of_ble_eq_true rfl) ⟨Nat.le_of_ble_eq_true rfl, Nat.le_of_ble_eq_true rfl⟩ dX6_widest_70 rfl (st' := [.long r57]) rfl ?_
          refine j_lstore X (lv' := [(6, .long r57), (0, .ref (q x0)), (1, .int x1), (2, .int x2), (3, .long x3), (5, .int x5)]) dX6_widest_73 (by decide) rfl ?_
          refine j_iload_n X dX6_widest_75 3 rfl rfl ?_
          refine j_bipush X (v := -5) dX6_widest_76 (by decide) ?_
          refine j_icmp_eq X (tgt := 88) dX6_widest_78 (by decide) (fun c61 => ?_) (fun c61 => ?_)
          · have hf62 := br_y hf60 c61; clear hf60
            refine j_iload X dX6_widest_88 5 rfl ?_
            refine j_istore_n X (lv' := [(2, .int x5), (6, .long r57), (0, .ref (q x0)), (1, .int x1), (3, .long x3), (5, .int x5)]) dX6_widest_90 rfl (by decide) rfl ?_
            refine j_lload X dX6_widest_91 1 rfl ?_
            refine j_lstore_n X (lv' := [(3, .long r57), (2, .int x5), (6, .long r57), (0, .ref (q x0)), (1, .int x1), (5, .int x5)]) dX6_widest_93 rfl (by decide) rfl ?_
            obtain ⟨v64, ev64⟩ : ∃ y : Int32, y = x5 + (1 : Int32) := ⟨_, rfl⟩
            replace hf62 := lt_of hf62 v64 ev64
            refine j_iinc X (v := v64) (lv' := [(5, .int v64), (3, .long r57), (2, .int x5), (6, .long r57), (0, .ref (q x0)), (1, .int x1)]) dX6_widest_94 5 rfl (by rw [ev64]; rfl) (by decide) rfl ?_
            refine j_goto X (tgt := 33) dX6_widest_97 (by decide) ?_
            refine j_lvsub [4, 5, 2, 1, 0] (lv' := [(0, .ref (q x0)), (1, .int x1), (2, .int x5), (3, .long r57), (5, .int v64)]) rfl ?_
            exact ih x0 x1 x5 r57 v64 σ58 hf62
          · have hf63 := br_n hf60 c61; clear hf60
            refine j_lload X dX6_widest_81 0 rfl ?_
            refine j_lload_n X dX6_widest_83 4 rfl rfl ?_
            refine j_lcmp X dX6_widest_84 ?_
            refine j_if_ge X (tgt := 94) dX6_widest_85 (by decide) (fun c66 => ?_) (fun c66 => ?_)
            · have hf67 := br_y hf63 c66; clear hf63
              obtain ⟨v69, ev69⟩ : ∃ y : Int32, y = x5 + (1 : Int32) := ⟨_, rfl⟩
              replace hf67 := lt_of hf67 v69 ev69
              refine j_iinc X (v := v69) (lv' := [(5, .int v69), (6, .long r57), (0, .ref (q x0)), (1, .int x1), (2, .int x2), (3, .long x3)]) dX6_widest_94 5 rfl (by rw [ev69]; rfl) (by decide) rfl ?_
              refine j_goto X (tgt := 33) dX6_widest_97 (by decide) ?_
              refine j_lvsub [2, 3, 4, 5, 0] (lv' := [(0, .ref (q x0)), (1, .int x1), (2, .int x2), (3, .long x3), (5, .int v69)]) rfl ?_
              exact ih x0 x1 x2 x3 v69 σ58 hf67
            · have hf68 := br_n hf63 c66; clear hf63
              refine j_iload X dX6_widest_88 5 rfl ?_
              refine j_istore_n X (lv' := [(2, .int x5), (6, .long r57), (0, .ref (q x0)), (1, .int x1), (3, .long x3), (5, .int x5)]) dX6_widest_90 rfl (by decide) rfl ?_
              refine j_lload X dX6_widest_91 1 rfl ?_
              refine j_lstore_n X (lv' := [(3, .long r57), (2, .int x5), (6, .long r57), (0, .ref (q x0)), (1, .int x1), (5, .int x5)]) dX6_widest_93 rfl (by decide) rfl ?_
              obtain ⟨v71, ev71⟩ : ∃ y : Int32, y = x5 + (1 : Int32) := ⟨_, rfl⟩
              replace hf68 := lt_of hf68 v71 ev71
              refine j_iinc X (v := v71) (lv' := [(5, .int v71), (3, .long r57), (2, .int x5), (6, .long r57), (0, .ref (q x0)), (1, .int x1)]) dX6_widest_94 5 rfl (by rw [ev71]; rfl) (by decide) rfl ?_
              refine j_goto X (tgt := 33) dX6_widest_97 (by decide) ?_
              refine j_lvsub [4, 5, 2, 1, 0] (lv' := [(0, .ref (q x0)), (1, .int x1), (2, .int x5), (3, .long r57), (5, .int v71)]) rfl ?_
              exact ih x0 x1 x5 r57 v71 σ58 hf68
        · have hf36 := br_y hf33 c34; clear hf33
          refine j_goto X (tgt := 94) dX6_widest_49 (by decide) ?_
          obtain ⟨v73, ev73⟩ : ∃ y : Int32, y = x5 + (1 : Int32) := ⟨_, rfl⟩
          replace hf36 := lt_of hf36 v73 ev73
          refine j_iinc X (v := v73) (lv' := [(5, .int v73), (0, .ref (q x0)), (1, .int x1), (2, .int x2), (3, .long x3)]) dX6_widest_94 4 rfl (by rw [ev73]; rfl) (by decide) rfl ?_
          refine j_goto X (tgt := 33) dX6_widest_97 (by decide) ?_
          refine j_lvsub [1, 2, 3, 4, 0] (lv' := [(0, .ref (q x0)), (1, .int x1), (2, .int x2), (3, .long x3), (5, .int v73)]) rfl ?_
          exact ih x0 x1 x2 x3 v73 σ31 hf36
  refine j_aload_n X dX6_widest_0 0 rfl rfl ?_
  refine j_iload_n X dX6_widest_1 1 rfl rfl ?_
  obtain ⟨h1, hf2⟩ := chk_of hf0; clear hf0
  obtain ⟨r3, σ4, h5, hf6⟩ := bc_of hf2; clear hf2
  refine j_callV0 X [.int a1] [] (c_X6_isFormula l D cs q a0 a1 σ _ _ h5) mk_X6_isFormula mv_X6_isFormula ml_X6_180 h1 rfl (by decide) ⟨rfl, rfl⟩ ⟨Nat.le_of_ble_eq_true rfl, Nat.le_of_ble_eq_true rfl⟩ rfl (Nat.le_of_ble_eq_true rfl) ⟨Nat.le_of_ble_eq_true rfl, Nat.le_of_ble_eq_true rfl⟩ dX6_widest_2 rfl (st' := [.int r3]) rfl ?_
  refine j_if_ne X (tgt := 10) dX6_widest_5 (by decide) (fun c7 => ?_) (fun c7 => ?_)
  · have hf8 := br_n hf6 c7; clear hf6
    refine j_aload_n X dX6_widest_10 0 rfl rfl ?_
    refine j_iload_n X dX6_widest_11 1 rfl rfl ?_
    obtain ⟨h10, hf11⟩ := chk_of hf8; clear hf8
    obtain ⟨r12, σ13, h14, hf15⟩ := bc_of hf11; clear hf11
    refine j_callV0 X [.int a1] [] (c_X6_widthNow l D cs q a0 a1 σ4 _ _ h14) mk_X6_widthNow mv_X6_widthNow ml_X6_261 h10 rfl (by decide) ⟨rfl, rfl⟩ ⟨Nat.le_of_ble_eq_true rfl, Nat.le_of_ble_eq_true rfl⟩ rfl (Nat.le_of_ble_eq_true rfl) ⟨Nat.le_of_ble_eq_true rfl, Nat.le_of_ble_eq_true rfl⟩ dX6_widest_12 rfl (st' := [.long r12]) rfl ?_
    refine j_ldc2 X k_X6_239 dX6_widest_15 ?_
    refine j_lcmp X dX6_widest_18 ?_
    refine j_if_ne X (tgt := 25) dX6_widest_19 (by decide) (fun c16 => ?_) (fun c16 => ?_)
    · have hf17 := br_n hf15 c16; clear hf15
      refine j_bipush X (v := -5) dX6_widest_25 (by decide) ?_
      refine j_nmi (fun v19 ev19 => ?_)
      replace hf17 := lt_of hf17 v19 ev19
      refine j_istore_n X (lv' := [(2, .int v19), (0, .ref (q a0)), (1, .int a1)]) dX6_widest_27 rfl (by decide) rfl ?_
      refine j_lconst X (v := 0) dX6_widest_28 (by decide) ?_
      refine j_nml (fun v21 ev21 => ?_)
      replace hf17 := lt_of hf17 v21 ev21
      refine j_lstore_n X (lv' := [(3, .long v21), (2, .int v19), (0, .ref (q a0)), (1, .int a1)]) dX6_widest_29 rfl (by decide) rfl ?_
      refine j_iconst X (v := 0) dX6_widest_30 (by decide) ?_
      refine j_nmi (fun v23 ev23 => ?_)
      replace hf17 := lt_of hf17 v23 ev23
      refine j_istore X (lv' := [(5, .int v23), (3, .long v21), (2, .int v19), (0, .ref (q a0)), (1, .int a1)]) dX6_widest_31 (by decide) rfl ?_
      refine j_lvsub [3, 4, 2, 1, 0] (lv' := [(0, .ref (q a0)), (1, .int a1), (2, .int v19), (3, .long v21), (5, .int v23)]) rfl ?_
      exact L33  1000 a0 a1 v19 v21 v23 σ13 hf17
    · have hf18 := br_y hf15 c16; clear hf15
      refine j_bipush X (v := -6) dX6_widest_22 (by decide) ?_
      obtain ⟨er, es⟩ := rt_of hf18
      subst er
      exact j_reti X hr hlk (Nat.le_of_ble_eq_true rfl) (Nat.le_of_ble_eq_true rfl) rfl es.symm rfl dX6_widest_24
  · have hf9 := br_y hf6 c7; clear hf6
    refine j_iconst X (v := -1) dX6_widest_8 (by decide) ?_
    obtain ⟨er, es⟩ := rt_of hf9
    subst er
    exact j_reti X hr hlk (Nat.le_of_ble_eq_true rfl) (Nat.le_of_ble_eq_true rfl) rfl es.symm rfl dX6_widest_9
