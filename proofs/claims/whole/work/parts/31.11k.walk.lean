abbrev rm_X6_odds : Room := { frames := 5, cells := 0, slots := 0, locals := 320 }
set_option maxHeartbeats 4000000 in
set_option maxRecDepth 100000 in
theorem c_X6_odds (l : Launch) (D : va_G) (cs : Nat → ClassId) (q : Nat → Nat) (a0 : Nat) (a1 : Int32) (a2 : Int32) (a3 : Int32) (a4 : Int64) (a6 : Int64) (a8 : Int32) (σ σ0 : HS) (r0 : Int64) (hf0 : f_X6_odds a0 a1 a2 a3 a4 a6 a8 σ = some (r0, σ0)) : MT l yX6_odds (Cond.code yX6_odds cX6_odds 13 (some .long) :: lw_g) rm_X6_odds D cs q σ σ0 [.ref (q a0), .int a1, .int a2, .int a3, .long a4, .long a6, .int a8] (fun z => z = q) (fun _ => some (.long r0)) 0 0 := by
  unfold f_X6_odds at hf0
  refine MT_of (cc := cX6_odds) (lv0 := [(0, .ref (q a0)), (1, .int a1), (2, .int a2), (3, .int a3), (4, .long a4), (6, .long a6), (8, .int a8)]) (by decide) (Nat.le_of_ble_eq_true rfl) rfl (fun p e s m args below meth c A X hr hlk hin => ?_)
  have L68 : ∀ (K53 : Nat → Int32 → Int32 → Int32 → Int64 → Int64 → Int32 → Int32 → Int32 → HS → Option (Int64 × HS)) (hK53 : ∀ (x0 : Nat) (x1 : Int32) (x2 : Int32) (x3 : Int32) (x4 : Int64) (x6 : Int64) (x8 : Int32) (x9 : Int32) (x10 : Int32) (τ : HS), K53 x0 x1 x2 x3 x4 x6 x8 x9 x10 τ = some (r0, σ0) → J p l e rm_X6_odds s m args below meth c 13 D cs A s.heap 0 0 (MQ below (hQ D cs (fun z => z = q) (fun _ => some (.long r0)) σ0 A) args s 0 0 A) q τ [(0, .ref (q x0)), (1, .int x1), (2, .int x2), (3, .int x3), (4, .long x4), (6, .long x6), (8, .int x8), (9, .int x9), (10, .int x10)] 53 []), ∀ (nk : Nat) (x0 : Nat) (x1 : Int32) (x2 : Int32) (x3 : Int32) (x4 : Int64) (x6 : Int64) (x8 : Int32) (x9 : Int32) (x10 : Int32) (x11 : Int32) (x12 : Int32) (τ : HS), lp_X6_odds_68 K53 nk x0 x1 x2 x3 x4 x6 x8 x9 x10 x11 x12 τ = some (r0, σ0) → J p l e rm_X6_odds s m args below meth c 13 D cs A s.heap 0 0 (MQ below (hQ D cs (fun z => z = q) (fun _ => some (.long r0)) σ0 A) args s 0 0 A) q τ [(0, .ref (q x0)), (1, .int x1), (2, .int x2), (3, .int x3), (4, .long x4), (6, .long x6), (8, .int x8), (9, .int x9), (10, .int x10), (11, .int x11), (12, .int x12)] 68 [] := by
    intro K53 hK53
    intro nk
    induction nk with
    | zero => intro x0 x1 x2 x3 x4 x6 x8 x9 x10 x11 x12 τ hf0; have hf1 : (none : Option (Int64 × HS)) = some (r0, σ0) := hf0; cases hf1
    | succ nk ih =>
      intro x0 x1 x2 x3 x4 x6 x8 x9 x10 x11 x12 τ hf0
      replace hf0 : lp_X6_odds_68_b K53 (lp_X6_odds_68 K53 nk) x0 x1 x2 x3 x4 x6 x8 x9 x10 x11 x12 τ = some (r0, σ0) := hf0
      unfold lp_X6_odds_68_b at hf0
      refine j_iload X dX6_odds_68 10 rfl ?_
      refine j_bipush X (v := 6) dX6_odds_70 (by decide) ?_
      refine j_icmp_ge X (tgt := 134) dX6_odds_72 (by decide) (fun c48 => ?_) (fun c48 => ?_)
      · have hf49 := br_y hf0 c48; clear hf0
        refine j_aload_n X dX6_odds_134 0 rfl rfl ?_
        refine j_iload_n X dX6_odds_135 1 rfl rfl ?_
        obtain ⟨h51, hf52⟩ := chk_of hf49; clear hf49
        obtain ⟨r53, σ54, h55, hf56⟩ := bc_of hf52; clear hf52
        refine j_callV0 X [.int x1] [] (c_X6_spans l D cs q x0 x1 τ _ _ h55) mk_X6_spans mv_X6_spans ml_X6_236 h51 rfl (by decide) ⟨rfl, rfl⟩ ⟨Nat.le_of_ble_eq_true rfl, Nat.le_of_ble_eq_true rfl⟩ rfl (Nat.le_of_ble_eq_true rfl) ⟨Nat.le_of_ble_eq_true rfl, Nat.le_of_ble_eq_true rfl⟩ dX6_odds_136 rfl (st' := [.int r53]) rfl ?_
        refine j_istore X (lv' := [(12, .int r53), (0, .ref (q x0)), (1, .int x1), (2, .int x2), (3, .int x3), (4, .long x4), (6, .long x6), (8, .int x8), (9, .int x9), (10, .int x10), (11, .int x11)]) dX6_odds_139 (by decide) rfl ?_
        refine j_iload X dX6_odds_141 8 rfl ?_
        refine j_aload_n X dX6_odds_143 1 rfl rfl ?_
        refine j_iload_n X dX6_odds_144 2 rfl rfl ?_
        obtain ⟨h57, hf58⟩ := chk_of hf56; clear hf56
        obtain ⟨r59, σ60, h61, hf62⟩ := bc_of hf58; clear hf58
        refine j_callV0 X [.int x1] [.int x9] (c_X6_lowOf l D cs q x0 x1 σ54 _ _ h61) mk_X6_lowOf mv_X6_lowOf ml_X6_245 h57 rfl (by decide) ⟨rfl, rfl⟩ ⟨Nat.le_of_ble_eq_true rfl, Nat.le_of_ble_eq_true rfl⟩ rfl (Nat.le_of_ble_eq_true rfl) ⟨Nat.le_of_ble_eq_true rfl, Nat.le_of_ble_eq_true rfl⟩ dX6_odds_145 rfl (st' := [.long r59, .int x9]) rfl ?_
        refine j_lload X dX6_odds_148 5 rfl ?_
        refine j_lload X dX6_odds_150 6 rfl ?_
        obtain ⟨r63, σ64, h65, hf66⟩ := bc_of hf62; clear hf62
        refine j_callS0 X [.long r59, .long x4, .long x6] [.int x9] (c_X6_isIn l D cs q r59 x4 x6 σ60 _ _ h65) mk_X6_isIn ms_X6_isIn ml_X6_97 ⟨rfl, rfl⟩ ⟨Nat.le_of_ble_eq_true rfl, Nat.le_of_ble_eq_true rfl⟩ rfl (Nat.le_of_ble_eq_true rfl) ⟨Nat.le_of_ble_eq_true rfl, Nat.le_of_ble_eq_true rfl⟩ dX6_odds_152 rfl (st' := [.int r63, .int x9]) rfl ?_
        refine j_if_eq X (tgt := 162) dX6_odds_155 (by decide) (fun c67 => ?_) (fun c67 => ?_)
        · have hf68 := br_y hf66 c67; clear hf66
          refine j_iconst X (v := 0) dX6_odds_162 (by decide) ?_
          refine j_iadd X dX6_odds_163 ?_
          refine j_nmi (fun v70 ev70 => ?_)
          replace hf68 := lt_of hf68 v70 ev70
          refine j_istore X (lv' := [(9, .int v70), (12, .int r53), (0, .ref (q x0)), (1, .int x1), (2, .int x2), (3, .int x3), (4, .long x4), (6, .long x6), (8, .int x8), (10, .int x10), (11, .int x11)]) dX6_odds_164 (by decide) rfl ?_
          obtain ⟨v72, ev72⟩ : ∃ y : Int32, y = x10 + (1 : Int32) := ⟨_, rfl⟩
          replace hf68 := lt_of hf68 v72 ev72
          refine j_iinc X (v := v72) (lv' := [(10, .int v72), (9, .int v70), (12, .int r53), (0, .ref (q x0)), (1, .int x1), (2, .int x2), (3, .int x3), (4, .long x4), (6, .long x6), (8, .int x8), (11, .int x11)]) dX6_odds_166 9 rfl (by rw [ev72]; rfl) (by decide) rfl ?_
          refine j_goto X (tgt := 53) dX6_odds_169 (by decide) ?_
          refine j_lvsub [3, 4, 5, 6, 7, 8, 9, 1, 0] (lv' := [(0, .ref (q x0)), (1, .int x1), (2, .int x2), (3, .int x3), (4, .long x4), (6, .long x6), (8, .int x8), (9, .int v70), (10, .int v72)]) rfl ?_
          exact hK53 x0 x1 x2 x3 x4 x6 x8 v70 v72 σ64 hf68
        · have hf69 := br_n hf66 c67; clear hf66
          refine j_iconst X (v := 1) dX6_odds_158 (by decide) ?_
          refine j_goto X (tgt := 163) dX6_odds_159 (by decide) ?_
          refine j_iadd X dX6_odds_163 ?_
          refine j_nmi (fun v74 ev74 => ?_)
          replace hf69 := lt_of hf69 v74 ev74
          refine j_istore X (lv' := [(9, .int v74), (12, .int r53), (0, .ref (q x0)), (1, .int x1), (2, .int x2), (3, .int x3), (4, .long x4), (6, .long x6), (8, .int x8), (10, .int x10), (11, .int x11)]) dX6_odds_164 (by decide) rfl ?_
          obtain ⟨v76, ev76⟩ : ∃ y : Int32, y = x10 + (1 : Int32) := ⟨_, rfl⟩
          replace hf69 := lt_of hf69 v76 ev76
          refine j_iinc X (v := v76) (lv' := [(10, .int v76), (9, .int v74), (12, .int r53), (0, .ref (q x0)), (1, .int x1), (2, .int x2), (3, .int x3), (4, .long x4), (6, .long x6), (8, .int x8), (11, .int x11)]) dX6_odds_166 9 rfl (by rw [ev76]; rfl) (by decide) rfl ?_
          refine j_goto X (tgt := 53) dX6_odds_169 (by decide) ?_
          refine j_lvsub [3, 4, 5, 6, 7, 8, 9, 1, 0] (lv' := [(0, .ref (q x0)), (1, .int x1), (2, .int x2), (3, .int x3), (4, .long x4), (6, .long x6), (8, .int x8), (9, .int v74), (10, .int v76)]) rfl ?_
          exact hK53 x0 x1 x2 x3 x4 x6 x8 v74 v76 σ64 hf69
      · have hf50 := br_n hf0 c48; clear hf0
        refine j_iload X dX6_odds_75 9 rfl ?_
        refine j_ldcw X k_X6_290 dX6_odds_77 ?_
        refine j_imul X dX6_odds_80 ?_
        refine j_sipush X (v := 12345) dX6_odds_81 (by decide) ?_
        refine j_iadd X dX6_odds_84 ?_
        refine j_nmi (fun v78 ev78 => ?_)
        replace hf50 := lt_of hf50 v78 ev78
        refine j_istore X (lv' := [(11, .int v78), (0, .ref (q x0)), (1, .int x1), (2, .int x2), (3, .int x3), (4, .long x4), (6, .long x6), (8, .int x8), (9, .int x9), (10, .int x10), (12, .int x12)]) dX6_odds_85 (by decide) rfl ?_
        refine j_aload_n X dX6_odds_87 1 rfl rfl ?_
        refine j_iload X dX6_odds_88 10 rfl ?_
        refine j_aload_n X dX6_odds_90 1 rfl rfl ?_
        refine j_iload X dX6_odds_91 10 rfl ?_
        obtain ⟨h80, hf81⟩ := chk_of hf50; clear hf50
        obtain ⟨r82, σ83, h84, hf85⟩ := bc_of hf81; clear hf81
        refine j_callV0 X [.int x12] [.int x12, .ref (q x0)] (c_X6_valueOf l D cs q x0 x12 τ _ _ h84) mk_X6_valueOf mv_X6_valueOf ml_X6_115 h80 rfl (by decide) ⟨rfl, rfl⟩ ⟨Nat.le_of_ble_eq_true rfl, Nat.le_of_ble_eq_true rfl⟩ rfl (Nat.le_of_ble_eq_true rfl) ⟨Nat.le_of_ble_eq_true rfl, Nat.le_of_ble_eq_true rfl⟩ dX6_odds_93 rfl (st' := [.int r82, .int x12, .ref (q x0)]) rfl ?_
        refine j_aload_n X dX6_odds_96 1 rfl rfl ?_
        refine j_iload X dX6_odds_97 10 rfl ?_
        obtain ⟨h86, hf87⟩ := chk_of hf85; clear hf85
        obtain ⟨r88, σ89, h90, hf91⟩ := bc_of hf87; clear hf87
        refine j_callV0 X [.int x12] [.int r82, .int x12, .ref (q x0)] (c_X6_spanOf l D cs q x0 x12 σ83 _ _ h90) mk_X6_spanOf mv_X6_spanOf ml_X6_119 h86 rfl (by decide) ⟨rfl, rfl⟩ ⟨Nat.le_of_ble_eq_true rfl, Nat.le_of_ble_eq_true rfl⟩ rfl (Nat.le_of_ble_eq_true rfl) ⟨Nat.le_of_ble_eq_true rfl, Nat.le_of_ble_eq_true rfl⟩ dX6_odds_99 rfl (st' := [.int r88, .int r82, .int x12, .ref (q x0)]) rfl ?_
        refine j_isub X dX6_odds_102 ?_
        refine j_iload X dX6_odds_103 0 rfl ?_
        refine j_ldcw X k_X6_291 dX6_odds_105 ?_
        refine j_iand X dX6_odds_108 ?_
        refine j_ldcw X k_X6_292 dX6_odds_109 ?_
        refine j_idiv X dX6_odds_112 (by decide) ?_
        refine j_iconst X (v := 2) dX6_odds_113 (by decide) ?_
        refine j_aload_n X dX6_odds_114 1 rfl rfl ?_
        refine j_iload X dX6_odds_115 10 rfl ?_
        obtain ⟨h92, hf93⟩ := chk_of hf91; clear hf91
        obtain ⟨r94, σ95, h96, hf97⟩ := bc_of hf93; clear hf93
        refine j_callV0 X [.int x12] [.int (2 : Int32), .int ((v78 &&& (2147483647 : Int32)) / (65536 : Int32)), .int (r82 - r88), .int x12, .ref (q x0)] (c_X6_spanOf l D cs q x0 x12 σ89 _ _ h96) mk_X6_spanOf mv_X6_spanOf ml_X6_119 h92 rfl (by decide) ⟨rfl, rfl⟩ ⟨Nat.le_of_ble_eq_true rfl, Nat.le_of_ble_eq_true rfl⟩ rfl (Nat.le_of_ble_eq_true rfl) ⟨Nat.le_of_ble_eq_true rfl, Nat.le_of_ble_eq_true rfl⟩ dX6_odds_117 rfl (st' := [.int r94, .int (2 : Int32), .int ((v78 &&& (2147483647 : Int32)) / (65536 : Int32)), .int (r82 - r88), .int x12, .ref (q x0)]) rfl ?_
        refine j_imul X dX6_odds_120 ?_
        refine j_iconst X (v := 1) dX6_odds_121 (by decide) ?_
        refine j_iadd X dX6_odds_122 ?_
        obtain ⟨h98, hf99⟩ := chk_of hf97; clear hf97
        refine j_irem X dX6_odds_123 h98 ?_
        refine j_iadd X dX6_odds_124 ?_
        obtain ⟨h100, hf101⟩ := chk_of hf99; clear hf99
        obtain ⟨r102, σ103, h104, hf105⟩ := bc_of hf101; clear hf101
        refine j_callV0 X [.int x12, .int ((r82 - r88) + (((v78 &&& (2147483647 : Int32)) / (65536 : Int32)) - ((v78 &&& (2147483647 : Int32)) / (65536 : Int32)) / (((2 : Int32) * r94) + (1 : Int32)) * (((2 : Int32) * r94) + (1 : Int32))))] [] (c_X6_laysPoint l D cs q x0 x12 ((r82 - r88) + (((v78 &&& (2147483647 : Int32)) / (65536 : Int32)) - ((v78 &&& (2147483647 : Int32)) / (65536 : Int32)) / (((2 : Int32) * r94) + (1 : Int32)) * (((2 : Int32) * r94) + (1 : Int32)))) σ95 _ _ h104) mk_X6_laysPoint mv_X6_laysPoint ml_X6_264 h100 rfl (by decide) ⟨rfl, rfl⟩ ⟨Nat.le_of_ble_eq_true rfl, Nat.le_of_ble_eq_true rfl⟩ rfl (Nat.le_of_ble_eq_true rfl) ⟨Nat.le_of_ble_eq_true rfl, Nat.le_of_ble_eq_true rfl⟩ dX6_odds_125 rfl (st' := []) rfl ?_
        obtain ⟨v106, ev106⟩ : ∃ y : Int32, y = x12 + (1 : Int32) := ⟨_, rfl⟩
        replace hf105 := lt_of hf105 v106 ev106
        refine j_iinc X (v := v106) (lv' := [(12, .int v106), (11, .int v78), (0, .ref (q x0)), (1, .int x1), (2, .int x2), (3, .int x3), (4, .long x4), (6, .long x6), (8, .int x8), (9, .int x9), (10, .int x10)]) dX6_odds_128 10 rfl (by rw [ev106]; rfl) (by decide) rfl ?_
        refine j_goto X (tgt := 68) dX6_odds_131 (by decide) ?_
        refine j_lvsub [2, 3, 4, 5, 6, 7, 8, 9, 10, 1, 0] (lv' := [(0, .ref (q x0)), (1, .int x1), (2, .int x2), (3, .int x3), (4, .long x4), (6, .long x6), (8, .int x8), (9, .int x9), (10, .int x10), (11, .int v78), (12, .int v106)]) rfl ?_
        exact ih x0 x1 x2 x3 x4 x6 x8 x9 x10 v78 v106 σ103 hf105
  have L53 : ∀ (nk : Nat) (x0 : Nat) (x1 : Int32) (x2 : Int32) (x3 : Int32) (x4 : Int64) (x6 : Int64) (x8 : Int32) (x9 : Int32) (x10 : Int32) (τ : HS), lp_X6_odds_53  nk x0 x1 x2 x3 x4 x6 x8 x9 x10 τ = some (r0, σ0) → J p l e rm_X6_odds s m args below meth c 13 D cs A s.heap 0 0 (MQ below (hQ D cs (fun z => z = q) (fun _ => some (.long r0)) σ0 A) args s 0 0 A) q τ [(0, .ref (q x0)), (1, .int x1), (2, .int x2), (3, .int x3), (4, .long x4), (6, .long x6), (8, .int x8), (9, .int x9), (10, .int x10)] 53 [] := by
    intro nk
    induction nk with
    | zero => intro x0 x1 x2 x3 x4 x6 x8 x9 x10 τ hf0; have hf1 : (none : Option (Int64 × HS)) = some (r0, σ0) := hf0; cases hf1
    | succ nk ih =>
      intro x0 x1 x2 x3 x4 x6 x8 x9 x10 τ hf0
      replace hf0 : lp_X6_odds_53_b  (lp_X6_odds_53  nk) x0 x1 x2 x3 x4 x6 x8 x9 x10 τ = some (r0, σ0) := hf0
      unfold lp_X6_odds_53_b at hf0
      refine j_iload X dX6_odds_53 8 rfl ?_
      refine j_iload_n X dX6_odds_55 3 rfl rfl ?_
      refine j_icmp_ge X (tgt := 172) dX6_odds_56 (by decide) (fun c37 => ?_) (fun c37 => ?_)
      · have hf38 := br_y hf0 c37; clear hf0
        refine j_iload X dX6_odds_172 7 rfl ?_
        refine j_i2l X dX6_odds_174 ?_
        refine j_iload_n X dX6_odds_175 3 rfl rfl ?_
        refine j_i2l X dX6_odds_176 ?_
        refine j_iload X dX6_odds_177 6 rfl ?_
        obtain ⟨r40, σ41, h42, hf43⟩ := bc_of hf38; clear hf38
        refine j_callS0 X [.long (x9).toInt64, .long (x3).toInt64, .int x8] [] (c_X6_lowest l D cs q (x9).toInt64 (x3).toInt64 x8 τ _ _ h42) mk_X6_lowest ms_X6_lowest ml_X6_293 ⟨rfl, rfl⟩ ⟨Nat.le_of_ble_eq_true rfl, Nat.le_of_ble_eq_true rfl⟩ rfl (Nat.le_of_ble_eq_true rfl) ⟨Nat.le_of_ble_eq_true rfl, Nat.le_of_ble_eq_true rfl⟩ dX6_odds_179 rfl (st' := [.long r40]) rfl ?_
        obtain ⟨er, es⟩ := rt_of hf43
        subst er
        exact j_retl X hr hlk (Nat.le_of_ble_eq_true rfl) (Nat.le_of_ble_eq_true rfl) rfl es.symm rfl dX6_odds_182
      · have hf39 := br_n hf0 c37; clear hf0
        refine j_iload_n X dX6_odds_59 2 rfl rfl ?_
        refine j_iload X dX6_odds_60 8 rfl ?_
        refine j_iadd X dX6_odds_62 ?_
        refine j_nmi (fun v44 ev44 => ?_)
        replace hf39 := lt_of hf39 v44 ev44
        refine j_istore X (lv' := [(11, .int v44), (0, .ref (q x0)), (1, .int x1), (2, .int x2), (3, .int x3), (4, .long x4), (6, .long x6), (8, .int x8), (9, .int x9), (10, .int x10)]) dX6_odds_63 (by decide) rfl ?_
        refine j_iconst X (v := 0) dX6_odds_65 (by decide) ?_
        refine j_nmi (fun v46 ev46 => ?_)
        replace hf39 := lt_of hf39 v46 ev46
        refine j_istore X (lv' := [(12, .int v46), (11, .int v44), (0, .ref (q x0)), (1, .int x1), (2, .int x2), (3, .int x3), (4, .long x4), (6, .long x6), (8, .int x8), (9, .int x9), (10, .int x10)]) dX6_odds_66 (by decide) rfl ?_
        refine j_lvsub [2, 3, 4, 5, 6, 7, 8, 9, 10, 1, 0] (lv' := [(0, .ref (q x0)), (1, .int x1), (2, .int x2), (3, .int x3), (4, .long x4), (6, .long x6), (8, .int x8), (9, .int x9), (10, .int x10), (11, .int v44), (12, .int v46)]) rfl ?_
        exact L68 _ (ih) 1000 x0 x1 x2 x3 x4 x6 x8 x9 x10 v44 v46 τ hf39
  refine j_aload_n X dX6_odds_0 0 rfl rfl ?_
  refine j_iload_n X dX6_odds_1 1 rfl rfl ?_
  obtain ⟨h1, hf2⟩ := chk_of hf0; clear hf0
  obtain ⟨r3, σ4, h5, hf6⟩ := bc_of hf2; clear hf2
  refine j_callV0 X [.int a1] [] (c_X6_isFormula l D cs q a0 a1 σ _ _ h5) mk_X6_isFormula mv_X6_isFormula ml_X6_180 h1 rfl (by decide) ⟨rfl, rfl⟩ ⟨Nat.le_of_ble_eq_true rfl, Nat.le_of_ble_eq_true rfl⟩ rfl (Nat.le_of_ble_eq_true rfl) ⟨Nat.le_of_ble_eq_true rfl, Nat.le_of_ble_eq_true rfl⟩ dX6_odds_2 rfl (st' := [.int r3]) rfl ?_
  refine j_if_eq X (tgt := 31) dX6_odds_5 (by decide) (fun c7 => ?_) (fun c7 => ?_)
  · have hf8 := br_y hf6 c7; clear hf6
    refine j_ldc2 X k_X6_198 dX6_odds_31 ?_
    obtain ⟨er, es⟩ := rt_of hf8
    subst er
    exact j_retl X hr hlk (Nat.le_of_ble_eq_true rfl) (Nat.le_of_ble_eq_true rfl) rfl es.symm rfl dX6_odds_34
  · have hf9 := br_n hf6 c7; clear hf6
    refine j_iload_n X dX6_odds_8 3 rfl rfl ?_
    refine j_i2l X dX6_odds_9 ?_
    refine j_lconst X (v := 1) dX6_odds_10 (by decide) ?_
    refine j_ldc2 X k_X6_288 dX6_odds_11 ?_
    obtain ⟨r10, σ11, h12, hf13⟩ := bc_of hf9; clear hf9
    refine j_callS0 X [.long (a3).toInt64, .long (1 : Int64), .long (30 : Int64)] [] (c_X6_isIn l D cs q (a3).toInt64 (1 : Int64) (30 : Int64) σ4 _ _ h12) mk_X6_isIn ms_X6_isIn ml_X6_97 ⟨rfl, rfl⟩ ⟨Nat.le_of_ble_eq_true rfl, Nat.le_of_ble_eq_true rfl⟩ rfl (Nat.le_of_ble_eq_true rfl) ⟨Nat.le_of_ble_eq_true rfl, Nat.le_of_ble_eq_true rfl⟩ dX6_odds_14 rfl (st' := [.int r10]) rfl ?_
    refine j_if_eq X (tgt := 31) dX6_odds_17 (by decide) (fun c14 => ?_) (fun c14 => ?_)
    · have hf15 := br_y hf13 c14; clear hf13
      refine j_ldc2 X k_X6_198 dX6_odds_31 ?_
      obtain ⟨er, es⟩ := rt_of hf15
      subst er
      exact j_retl X hr hlk (Nat.le_of_ble_eq_true rfl) (Nat.le_of_ble_eq_true rfl) rfl es.symm rfl dX6_odds_34
    · have hf16 := br_n hf13 c14; clear hf13
      refine j_iload X dX6_odds_20 6 rfl ?_
      refine j_i2l X dX6_odds_22 ?_
      refine j_lconst X (v := 0) dX6_odds_23 (by decide) ?_
      refine j_lconst X (v := 1) dX6_odds_24 (by decide) ?_
      obtain ⟨r17, σ18, h19, hf20⟩ := bc_of hf16; clear hf16
      refine j_callS0 X [.long (a8).toInt64, .long (0 : Int64), .long (1 : Int64)] [] (c_X6_isIn l D cs q (a8).toInt64 (0 : Int64) (1 : Int64) σ11 _ _ h19) mk_X6_isIn ms_X6_isIn ml_X6_97 ⟨rfl, rfl⟩ ⟨Nat.le_of_ble_eq_true rfl, Nat.le_of_ble_eq_true rfl⟩ rfl (Nat.le_of_ble_eq_true rfl) ⟨Nat.le_of_ble_eq_true rfl, Nat.le_of_ble_eq_true rfl⟩ dX6_odds_25 rfl (st' := [.int r17]) rfl ?_
      refine j_if_ne X (tgt := 35) dX6_odds_28 (by decide) (fun c21 => ?_) (fun c21 => ?_)
      · have hf22 := br_n hf20 c21; clear hf20
        refine j_aload_n X dX6_odds_35 0 rfl rfl ?_
        refine j_iload_n X dX6_odds_36 1 rfl rfl ?_
        obtain ⟨h24, hf25⟩ := chk_of hf22; clear hf22
        obtain ⟨r26, σ27, h28, hf29⟩ := bc_of hf25; clear hf25
        refine j_callV0 X [.int a1] [] (c_X6_spansNow l D cs q a0 a1 σ18 _ _ h28) mk_X6_spansNow mv_X6_spansNow ml_X6_254 h24 rfl (by decide) ⟨rfl, rfl⟩ ⟨Nat.le_of_ble_eq_true rfl, Nat.le_of_ble_eq_true rfl⟩ rfl (Nat.le_of_ble_eq_true rfl) ⟨Nat.le_of_ble_eq_true rfl, Nat.le_of_ble_eq_true rfl⟩ dX6_odds_37 rfl (st' := [.int r26]) rfl ?_
        refine j_if_ne X (tgt := 47) dX6_odds_40 (by decide) (fun c30 => ?_) (fun c30 => ?_)
        · have hf31 := br_n hf29 c30; clear hf29
          refine j_iconst X (v := 0) dX6_odds_47 (by decide) ?_
          refine j_nmi (fun v33 ev33 => ?_)
          replace hf31 := lt_of hf31 v33 ev33
          refine j_istore X (lv' := [(9, .int v33), (0, .ref (q a0)), (1, .int a1), (2, .int a2), (3, .int a3), (4, .long a4), (6, .long a6), (8, .int a8)]) dX6_odds_48 (by decide) rfl ?_
          refine j_iconst X (v := 0) dX6_odds_50 (by decide) ?_
          refine j_nmi (fun v35 ev35 => ?_)
          replace hf31 := lt_of hf31 v35 ev35
          refine j_istore X (lv' := [(10, .int v35), (9, .int v33), (0, .ref (q a0)), (1, .int a1), (2, .int a2), (3, .int a3), (4, .long a4), (6, .long a6), (8, .int a8)]) dX6_odds_51 (by decide) rfl ?_
          refine j_lvsub [2, 3, 4, 5, 6, 7, 8, 1, 0] (lv' := [(0, .ref (q a0)), (1, .int a1), (2, .int a2), (3, .int a3), (4, .long a4), (6, .long a6), (8, .int a8), (9, .int v33), (10, .int v35)]) rfl ?_
          exact L53  1000 a0 a1 a2 a3 a4 a6 a8 v33 v35 σ27 hf31
        · have hf32 := br_y hf29 c30; clear hf29
          refine j_ldc2 X k_X6_239 dX6_odds_43 ?_
          obtain ⟨er, es⟩ := rt_of hf32
          subst er
          exact j_retl X hr hlk (Nat.le_of_ble_eq_true rfl) (Nat.le_of_ble_eq_true rfl) rfl es.symm rfl dX6_odds_46
      · have hf23 := br_y hf20 c21; clear hf20
        refine j_ldc2 X k_X6_198 dX6_odds_31 ?_
        obtain ⟨er, es⟩ := rt_of hf23
        subst er
        exact j_retl X hr hlk (Nat.le_of_ble_eq_true rfl) (Nat.le_of_ble_eq_true rfl) rfl es.symm rfl dX6_odds_34
abbrev rm_X6_parts : Room := { frames := 67, cells := 0, slots := 0, locals := 4288 }
set_option maxHeartbeats 4000000 in
set_option maxRecDepth 100000 in
theorem c_X6_parts (l : Launch) (D : va_G) (cs : Nat → ClassId) (q : Nat → Nat) (a0 : Nat) (a1 : Int32) (a2 : Int32) (σ σ0 : HS) (r0 : Int32) (hf0 : f_X6_parts a0 a1 a2 σ = some (r0, σ0)) : MT l yX6_parts (Cond.code yX6_parts cX6_parts 3 (some .int) :: lw_g) rm_X6_parts D cs q σ σ0 [.ref (q a0), .int a1, .int a2] (fun z => z = q) (fun _ => some (.int r0)) 0 0 := by
  unfold f_X6_parts at hf0
  refine MT_of (cc := cX6_parts) (lv0 := [(0, .ref (q a0)), (1, .int a1), (2, .int a2)]) (by decide) (Nat.le_of_ble_eq_true rfl) rfl (fun p e s m args below meth c A X hr hlk hin => ?_)
  refine j_aload_n X dX6_parts_0 0 rfl rfl ?_
  refine j_iload_n X dX6_parts_1 1 rfl rfl ?_
  obtain ⟨h1, hf2⟩ := chk_of hf0; clear hf0
  obtain ⟨r3, σ4, h5, hf6⟩ := bc_of hf2; clear hf2
  refine j_callV0 X [.int a1] [] (c_X6_isFormula l D cs q a0 a1 σ _ _ h5) mk_X6_isFormula mv_X6_isFormula ml_X6_180 h1 rfl (by decide) ⟨rfl, rfl⟩ ⟨Nat.le_of_ble_eq_true rfl, Nat.le_of_ble_eq_true rfl⟩ rfl (Nat.le_of_ble_eq_true rfl) ⟨Nat.le_of_ble_eq_true rfl, Nat.le_of_ble_eq_true rfl⟩ dX6_parts_2 rfl (st' := [.int r3]) rfl ?_
  refine j_if_ne X (tgt := 10) dX6_parts_5 (by decide) (fun c7 => ?_) (fun c7 => ?_)
  · have hf8 := br_n hf6 c7; clear hf6
    refine j_iload_n X dX6_parts_10 2 rfl rfl ?_
    by_cases c10 : a2 = (0 : Int32)
    · have hf11 := br_y hf8 c10; clear hf8
      refine j_tabIn X (v := 0) (tgt := 44) dX6_parts_11 c10 (by decide) (by decide) rfl (by decide) ?_
      refine j_aload_n X dX6_parts_44 0 rfl rfl ?_
      obtain ⟨h13, hf14⟩ := chk_of hf11; clear hf11
      obtain ⟨i15, h16, hf17⟩ := bd_of hf14; clear hf14
      refine j_getr X fd_X6_30 h13 h16 dX6_parts_45 ?_
      refine j_iload_n X dX6_parts_48 1 rfl rfl ?_
      obtain ⟨h18, hf19⟩ := chk_of hf17; clear hf17
      refine j_iald X h18 dX6_parts_49 (fun v20 ev20 => ?_)
      replace hf19 := lt_of hf19 v20 ev20
      obtain ⟨er, es⟩ := rt_of hf19
      subst er
      exact j_reti X hr hlk (Nat.le_of_ble_eq_true rfl) (Nat.le_of_ble_eq_true rfl) rfl es.symm rfl dX6_parts_50
    · have hf12 := br_n hf8 c10; clear hf8
      by_cases c22 : a2 = (1 : Int32)
      · have hf23 := br_y hf12 c22; clear hf12
        refine j_tabIn X (v := 1) (tgt := 51) dX6_parts_11 c22 (by decide) (by decide) rfl (by decide) ?_
        refine j_aload_n X dX6_parts_51 0 rfl rfl ?_
        refine j_iload_n X dX6_parts_52 1 rfl rfl ?_
        refine j_iload_n X dX6_parts_53 2 rfl rfl ?_
        refine j_iconst X (v := 2) dX6_parts_54 (by decide) ?_
        refine j_icmp_ne X (tgt := 62) dX6_parts_55 (by decide) (fun c25 => ?_) (fun c25 => ?_)
        · have hf26 := br_n hf23 c25; clear hf23
          refine j_iconst X (v := 0) dX6_parts_62 (by decide) ?_
          obtain ⟨h28, hf29⟩ := chk_of hf26; clear hf26
          obtain ⟨r30, σ31, h32, hf33⟩ := bc_of hf29; clear hf29
          refine j_callV0 X [.int a1, .int (0 : Int32)] [] (c_X6_likeOf l D cs q a0 a1 (0 : Int32) σ4 _ _ h32) mk_X6_likeOf mv_X6_likeOf ml_X6_183 h28 rfl (by decide) ⟨rfl, rfl⟩ ⟨Nat.le_of_ble_eq_true rfl, Nat.le_of_ble_eq_true rfl⟩ rfl (Nat.le_of_ble_eq_true rfl) ⟨Nat.le_of_ble_eq_true rfl, Nat.le_of_ble_eq_true rfl⟩ dX6_parts_63 rfl (st' := [.int r30]) rfl ?_
          obtain ⟨er, es⟩ := rt_of hf33
          subst er
          exact j_reti X hr hlk (Nat.le_of_ble_eq_true rfl) (Nat.le_of_ble_eq_true rfl) rfl es.symm rfl dX6_parts_66
        · have hf27 := br_y hf23 c25; clear hf23
          refine j_iconst X (v := 1) dX6_parts_58 (by decide) ?_
          refine j_goto X (tgt := 63) dX6_parts_59 (by decide) ?_
          obtain ⟨h34, hf35⟩ := chk_of hf27; clear hf27
          obtain ⟨r36, σ37, h38, hf39⟩ := bc_of hf35; clear hf35
          refine j_callV0 X [.int a1, .int (1 : Int32)] [] (c_X6_likeOf l D cs q a0 a1 (1 : Int32) σ4 _ _ h38) mk_X6_likeOf mv_X6_likeOf ml_X6_183 h34 rfl (by decide) ⟨rfl, rfl⟩ ⟨Nat.le_of_ble_eq_true rfl, Nat.le_of_ble_eq_true rfl⟩ rfl (Nat.le_of_ble_eq_true rfl) ⟨Nat.le_of_ble_eq_true rfl, Nat.le_of_ble_eq_true rfl⟩ dX6_parts_63 rfl (st' := [.int r36]) rfl ?_
          obtain ⟨er, es⟩ := rt_of hf39
          subst er
          exact j_reti X hr hlk (Nat.le_of_ble_eq_true rfl) (Nat.le_of_ble_eq_true rfl) rfl es.symm rfl dX6_parts_66
      · have hf24 := br_n hf12 c22; clear hf12
        by_cases c40 : a2 = (2 : Int32)
        · have hf41 := br_y hf24 c40; clear hf24
          refine j_tabIn X (v := 2) (tgt := 51) dX6_parts_11 c40 (by decide) (by decide) rfl (by decide) ?_
          refine j_aload_n X dX6_parts_51 0 rfl rfl ?_
          refine j_iload_n X dX6_parts_52 1 rfl rfl ?_
          refine j_iload_n X dX6_parts_53 2 rfl rfl ?_
          refine j_iconst X (v := 2) dX6_parts_54 (by decide) ?_
          refine j_icmp_ne X (tgt := 62) dX6_parts_55 (by decide) (fun c43 => ?_) (fun c43 => ?_)
          · have hf44 := br_n hf41 c43; clear hf41
            refine j_iconst X (v := 0) dX6_parts_62 (by decide) ?_
            obtain ⟨h46, hf47⟩ := chk_of hf44; clear hf44
            obtain ⟨r48, σ49, h50, hf51⟩ := bc_of hf47; clear hf47
            refine j_callV0 X [.int a1, .int (0 : Int32)] [] (c_X6_likeOf l D cs q a0 a1 (0 : Int32) σ4 _ _ h50) mk_X6_likeOf mv_X6_likeOf ml_X6_183 h46 rfl (by decide) ⟨rfl, rfl⟩ ⟨Nat.le_of_ble_eq_true rfl, Nat.le_of_ble_eq_true rfl⟩ rfl (Nat.le_of_ble_eq_true rfl) ⟨Nat.le_of_ble_eq_true rfl, Nat.le_of_ble_eq_true rfl⟩ dX6_parts_63 rfl (st' := [.int r48]) rfl ?_
            obtain ⟨er, es⟩ := rt_of hf51
            subst er
            exact j_reti X hr hlk (Nat.le_of_ble_eq_true rfl) (Nat.le_of_ble_eq_true rfl) rfl es.symm rfl dX6_parts_66
          · have hf45 := br_y hf41 c43; clear hf41
            refine j_iconst X (v := 1) dX6_parts_58 (by decide) ?_
            refine j_goto X (tgt := 63) dX6_parts_59 (by decide) ?_
            obtain ⟨h52, hf53⟩ := chk_of hf45; clear hf45
            obtain ⟨r54, σ55, h56, hf57⟩ := bc_of hf53; clear hf53
            refine j_callV0 X [.int a1, .int (1 : Int32)] [] (c_X6_likeOf l D cs q a0 a1 (1 : Int32) σ4 _ _ h56) mk_X6_likeOf mv_X6_likeOf ml_X6_183 h52 rfl (by decide) ⟨rfl, rfl⟩ ⟨Nat.le_of_ble_eq_true rfl, Nat.le_of_ble_eq_true rfl⟩ rfl (Nat.le_of_ble_eq_true rfl) ⟨Nat.le_of_ble_eq_true rfl, Nat.le_of_ble_eq_true rfl⟩ dX6_parts_63 rfl (st' := [.int r54]) rfl ?_
            obtain ⟨er, es⟩ := rt_of hf57
            subst er
            exact j_reti X hr hlk (Nat.le_of_ble_eq_true rfl) (Nat.le_of_ble_eq_true rfl) rfl es.symm rfl dX6_parts_66
        · have hf42 := br_n hf24 c40; clear hf24
          by_cases c58 : a2 = (3 : Int32)
          · have hf59 := br_y hf42 c58; clear hf42
            refine j_tabIn X (v := 3) (tgt := 67) dX6_parts_11 c58 (by decide) (by decide) rfl (by decide) ?_
            refine j_aload_n X dX6_parts_67 0 rfl rfl ?_
            refine j_iload_n X dX6_parts_68 1 rfl rfl ?_
            obtain ⟨h61, hf62⟩ := chk_of hf59; clear hf59
            obtain ⟨r63, σ64, h65, hf66⟩ := bc_of hf62; clear hf62
            refine j_callV0 X [.int a1] [] (c_X6_lettersOf l D cs q a0 a1 σ4 _ _ h65) mk_X6_lettersOf mv_X6_lettersOf ml_X6_187 h61 rfl (by decide) ⟨rfl, rfl⟩ ⟨Nat.le_of_ble_eq_true rfl, Nat.le_of_ble_eq_true rfl⟩ rfl (Nat.le_of_ble_eq_true rfl) ⟨Nat.le_of_ble_eq_true rfl, Nat.le_of_ble_eq_true rfl⟩ dX6_parts_69 rfl (st' := [.int r63]) rfl ?_
            obtain ⟨er, es⟩ := rt_of hf66
            subst er
            exact j_reti X hr hlk (Nat.le_of_ble_eq_true rfl) (Nat.le_of_ble_eq_true rfl) rfl es.symm rfl dX6_parts_72
          · have hf60 := br_n hf42 c58; clear hf42
            by_cases c67 : a2 = (4 : Int32)
            · have hf68 := br_y hf60 c67; clear hf60
              refine j_tabIn X (v := 4) (tgt := 73) dX6_parts_11 c67 (by decide) (by decide) rfl (by decide) ?_
              refine j_aload_n X dX6_parts_73 0 rfl rfl ?_
              refine j_iload_n X dX6_parts_74 1 rfl rfl ?_
              refine j_aload_n X dX6_parts_75 0 rfl rfl ?_
              refine j_iload_n X dX6_parts_76 1 rfl rfl ?_
              obtain ⟨h70, hf71⟩ := chk_of hf68; clear hf68
              obtain ⟨r72, σ73, h74, hf75⟩ := bc_of hf71; clear hf71
              refine j_callV0 X [.int a1] [.int a1, .ref (q a0)] (c_X6_rootOf l D cs q a0 a1 σ4 _ _ h74) mk_X6_rootOf mv_X6_rootOf ml_X6_190 h70 rfl (by decide) ⟨rfl, rfl⟩ ⟨Nat.le_of_ble_eq_true rfl, Nat.le_of_ble_eq_true rfl⟩ rfl (Nat.le_of_ble_eq_true rfl) ⟨Nat.le_of_ble_eq_true rfl, Nat.le_of_ble_eq_true rfl⟩ dX6_parts_77 rfl (st' := [.int r72, .int a1, .ref (q a0)]) rfl ?_
              obtain ⟨h76, hf77⟩ := chk_of hf75; clear hf75
              obtain ⟨r78, σ79, h80, hf81⟩ := bc_of hf77; clear hf77
              refine j_callV0 X [.int a1, .int r72] [] (c_X6_depthOf l D cs q a0 a1 r72 σ73 _ _ h80) mk_X6_depthOf mv_X6_depthOf ml_X6_172 h76 rfl (by decide) ⟨rfl, rfl⟩ ⟨Nat.le_of_ble_eq_true rfl, Nat.le_of_ble_eq_true rfl⟩ rfl (Nat.le_of_ble_eq_true rfl) ⟨Nat.le_of_ble_eq_true rfl, Nat.le_of_ble_eq_true rfl⟩ dX6_parts_80 rfl (st' := [.int r78]) rfl ?_
              obtain ⟨er, es⟩ := rt_of hf81
              subst er
              exact j_reti X hr hlk (Nat.le_of_ble_eq_true rfl) (Nat.le_of_ble_eq_true rfl) rfl es.symm rfl dX6_parts_83
            · have hf69 := br_n hf60 c67; clear hf60
              refine j_tabOut X (tgt := 84) dX6_parts_11 (by have z0 := lv_neT c10 (show ((0 : Int32)).toInt = 0 from rfl); have z1 := lv_neT c22 (show ((1 : Int32)).toInt = 1 from rfl); have z2 := lv_neT c40 (show ((2 : Int32)).toInt = 2 from rfl); have z3 := lv_neT c58 (show ((3 : Int32)).toInt = 3 from rfl); have z4 := lv_neT c67 (show ((4 : Int32)).toInt = 4 from rfl); omega) (by decide) ?_
              refine j_iconst X (v := -1) dX6_parts_84 (by decide) ?_
              obtain ⟨er, es⟩ := rt_of hf69
              subst er
              exact j_reti X hr hlk (Nat.le_of_ble_eq_true rfl) (Nat.le_of_ble_eq_true rfl) rfl es.symm rfl dX6_parts_85
  · have hf9 := br_y hf6 c7; clear hf6
    refine j_iconst X (v := -1) dX6_parts_8 (by decide) ?_
    obtain ⟨er, es⟩ := rt_of hf9
    subst er
    exact j_reti X hr hlk (Nat.le_of_ble_eq_true rfl) (Nat.le_of_ble_eq_true rfl) rfl es.symm rfl dX6_parts_9
abbrev rm_X6_plan : Room := { frames := 2, cells := 0, slots := 0, locals := 128 }
set_option maxHeartbeats 4000000 in
set_option maxRecDepth 100000 in
theorem c_X6_plan (l : Launch) (D : va_G) (cs : Nat → ClassId) (q : Nat → Nat) (a0 : Nat) (a1 : Int32) (a2 : Int32) (a3 : Int32) (σ σ0 : HS) (r0 : Int32) (hf0 : f_X6_plan a0 a1 a2 a3 σ = some (r0, σ0)) : MT l yX6_plan (Cond.code yX6_plan cX6_plan 4 (some .int) :: lw_g) rm_X6_plan D cs q σ σ0 [.ref (q a0), .int a1, .int a2, .int a3] (fun z => z = q) (fun _ => some (.int r0)) 0 0 := by
  unfold f_X6_plan at hf0
  refine MT_of (cc := cX6_plan) (lv0 := [(0, .ref (q a0)), (1, .int a1), (2, .int a2), (3, .int a3)]) (by decide) (Nat.le_of_ble_eq_true rfl) rfl (fun p e s m args below meth c A X hr hlk hin => ?_)
  refine j_iload_n X dX6_plan_0 1 rfl rfl ?_
  refine j_iconst X (v := -1) dX6_plan_1 (by decide) ?_
  refine j_icmp_ne X (tgt := 12) dX6_plan_2 (by decide) (fun c1 => ?_) (fun c1 => ?_)
  · have hf2 := br_n hf0 c1; clear hf0
    refine j_iload_n X dX6_plan_12 1 rfl rfl ?_
    obtain ⟨r4, σ5, h6, hf7⟩ := bc_of hf2; clear hf2
    refine j_callS0 X [.int a1] [] (c_X6_isSource l D cs q a1 σ _ _ h6) mk_X6_isSource ms_X6_isSource ml_X6_101 ⟨rfl, rfl⟩ ⟨Nat.le_of_ble_eq_true rfl, Nat.le_of_ble_eq_true rfl⟩ rfl (Nat.le_of_ble_eq_true rfl) ⟨Nat.le_of_ble_eq_true rfl, Nat.le_of_ble_eq_true rfl⟩ dX6_plan_13 rfl (st' := [.int r4]) rfl ?_
    refine j_if_eq X (tgt := 31) dX6_plan_16 (by decide) (fun c8 => ?_) (fun c8 => ?_)
    · have hf9 := br_y hf7 c8; clear hf7
      refine j_iconst X (v := -1) dX6_plan_31 (by decide) ?_
      obtain ⟨er, es⟩ := rt_of hf9
      subst er
      exact j_reti X hr hlk (Nat.le_of_ble_eq_true rfl) (Nat.le_of_ble_eq_true rfl) rfl es.symm rfl dX6_plan_32
    · have hf10 := br_n hf7 c8; clear hf7
      refine j_iload_n X dX6_plan_19 2 rfl rfl ?_
      refine j_i2l X dX6_plan_20 ?_
      refine j_lconst X (v := 0) dX6_plan_21 (by decide) ?_
      refine j_ldc2 X k_X6_105 dX6_plan_22 ?_
      obtain ⟨r11, σ12, h13, hf14⟩ := bc_of hf10; clear hf10
      refine j_callS0 X [.long (a2).toInt64, .long (0 : Int64), .long (2 : Int64)] [] (c_X6_isIn l D cs q (a2).toInt64 (0 : Int64) (2 : Int64) σ5 _ _ h13) mk_X6_isIn ms_X6_isIn ml_X6_97 ⟨rfl, rfl⟩ ⟨Nat.le_of_ble_eq_true rfl, Nat.le_of_ble_eq_true rfl⟩ rfl (Nat.le_of_ble_eq_true rfl) ⟨Nat.le_of_ble_eq_true rfl, Nat.le_of_ble_eq_true rfl⟩ dX6_plan_25 rfl (st' := [.int r11]) rfl ?_
      refine j_if_ne X (tgt := 33) dX6_plan_28 (by decide) (fun c15 => ?_) (fun c15 => ?_)
      · have hf16 := br_n hf14 c15; clear hf14
        refine j_iload_n X dX6_plan_33 2 rfl rfl ?_
        refine j_if_ne X (tgt := 54) dX6_plan_34 (by decide) (fun c18 => ?_) (fun c18 => ?_)
        · have hf19 := br_n hf16 c18; clear hf16
          refine j_iload_n X dX6_plan_54 2 rfl rfl ?_
          refine j_iconst X (v := 1) dX6_plan_55 (by decide) ?_
          refine j_icmp_ne X (tgt := 74) dX6_plan_56 (by decide) (fun c21 => ?_) (fun c21 => ?_)
          · have hf22 := br_n hf19 c21; clear hf19
            refine j_iload_n X dX6_plan_74 3 rfl rfl ?_
            refine j_i2l X dX6_plan_75 ?_
            refine j_lconst X (v := 0) dX6_plan_76 (by decide) ?_
            refine j_ldc2 X k_X6_113 dX6_plan_77 ?_
            obtain ⟨r24, σ25, h26, hf27⟩ := bc_of hf22; clear hf22
            refine j_callS0 X [.long (a3).toInt64, .long (0 : Int64), .long (4 : Int64)] [] (c_X6_isIn l D cs q (a3).toInt64 (0 : Int64) (4 : Int64) σ12 _ _ h26) mk_X6_isIn ms_X6_isIn ml_X6_97 ⟨rfl, rfl⟩ ⟨Nat.le_of_ble_eq_true rfl, Nat.le_of_ble_eq_true rfl⟩ rfl (Nat.le_of_ble_eq_true rfl) ⟨Nat.le_of_ble_eq_true rfl, Nat.le_of_ble_eq_true rfl⟩ dX6_plan_80 rfl (st' := [.int r24]) rfl ?_
            refine j_if_ne X (tgt := 89) dX6_plan_83 (by decide) (fun c28 => ?_) (fun c28 => ?_)
            · have hf29 := br_n hf27 c28; clear hf27
              refine j_aload_n X dX6_plan_89 0 rfl rfl ?_
              obtain ⟨h31, hf32⟩ := chk_of hf29; clear hf29
              refine j_geti X fd_X6_297 h31 dX6_plan_90 (fun v33 ev33 => ?_)
              replace hf32 := lt_of hf32 v33 ev33
              refine j_bipush X (v := 8) dX6_plan_93 (by decide) ?_
              refine j_icmp_ne X (tgt := 101) dX6_plan_95 (by decide) (fun c35 => ?_) (fun c35 => ?_)
              · have hf36 := br_n hf32 c35; clear hf32
                refine j_aload_n X dX6_plan_101 0 rfl rfl ?_
                obtain ⟨i38, h39, hf40⟩ := bd_of hf36; clear hf36
                refine j_getr X fd_X6_80 h31 h39 dX6_plan_102 ?_
                refine j_iconst X (v := 3) dX6_plan_105 (by decide) ?_
                refine j_aload_n X dX6_plan_106 0 rfl rfl ?_
                refine j_geti X fd_X6_297 h31 dX6_plan_107 (fun v41 ev41 => ?_)
                replace hf40 := lt_of hf40 v41 ev41
                refine j_imul X dX6_plan_110 ?_
                refine j_iload_n X dX6_plan_111 1 rfl rfl ?_
                obtain ⟨h43, hf44⟩ := chk_of hf40; clear hf40
                refine j_iast X h43 dX6_plan_112 (fun σ45 eσ45 => ?_)
                replace hf44 := lt_of hf44 σ45 eσ45
                have h47 : isO σ45 6 a0 := by rw [eσ45]; exact h31
                refine j_aload_n X dX6_plan_113 0 rfl rfl ?_
                obtain ⟨i48, h49, hf50⟩ := bd_of hf44; clear hf44
                refine j_getr X fd_X6_80 h47 h49 dX6_plan_114 ?_
                refine j_iconst X (v := 3) dX6_plan_117 (by decide) ?_
                refine j_aload_n X dX6_plan_118 0 rfl rfl ?_
                refine j_geti X fd_X6_297 h47 dX6_plan_119 (fun v51 ev51 => ?_)
                replace hf50 := lt_of hf50 v51 ev51
                refine j_imul X dX6_plan_122 ?_
                refine j_iconst X (v := 1) dX6_plan_123 (by decide) ?_
                refine j_iadd X dX6_plan_124 ?_
                refine j_iload_n X dX6_plan_125 2 rfl rfl ?_
                obtain ⟨h53, hf54⟩ := chk_of hf50; clear hf50
                refine j_iast X h53 dX6_plan_126 (fun σ55 eσ55 => ?_)
                replace hf54 := lt_of hf54 σ55 eσ55
                have h57 : isO σ55 6 a0 := by rw [eσ55]; exact h47
                refine j_aload_n X dX6_plan_127 0 rfl rfl ?_
                obtain ⟨i58, h59, hf60⟩ := bd_of hf54; clear hf54
                refine j_getr X fd_X6_80 h57 h59 dX6_plan_128 ?_
                refine j_iconst X (v := 3) dX6_plan_131 (by decide) ?_
                refine j_aload_n X dX6_plan_132 0 rfl rfl ?_
                refine j_geti X fd_X6_297 h57 dX6_plan_133 (fun v61 ev61 => ?_)
                replace hf60 := lt_of hf60 v61 ev61
                refine j_imul X dX6_plan_136 ?_
                refine j_iconst X (v := 2) dX6_plan_137 (by decide) ?_
                refine j_iadd X dX6_plan_138 ?_
                refine j_iload_n X dX6_plan_139 3 rfl rfl ?_
                obtain ⟨h63, hf64⟩ := chk_of hf60; clear hf60
                refine j_iast X h63 dX6_plan_140 (fun σ65 eσ65 => ?_)
                replace hf64 := lt_of hf64 σ65 eσ65
                have h67 : isO σ65 6 a0 := by rw [eσ65]; exact h57
                refine j_aload_n X dX6_plan_141 0 rfl rfl ?_
                refine j_dup X dX6_plan_142 rfl ?_
                refine j_geti X fd_X6_297 h67 dX6_plan_143 (fun v68 ev68 => ?_)
                replace hf64 := lt_of hf64 v68 ev68
                refine j_iconst X (v := 1) dX6_plan_146 (by decide) ?_
                refine j_iadd X dX6_plan_147 ?_
                refine j_puti X fp_X6_297 h67 dX6_plan_148 (fun σ70 eσ70 => ?_)
                replace hf64 := lt_of hf64 σ70 eσ70
                have h72 : isO σ70 6 a0 := by rw [eσ70]; exact h67
                refine j_aload_n X dX6_plan_151 0 rfl rfl ?_
                refine j_geti X fd_X6_297 h72 dX6_plan_152 (fun v73 ev73 => ?_)
                replace hf64 := lt_of hf64 v73 ev73
                obtain ⟨er, es⟩ := rt_of hf64
                subst er
                exact j_reti X hr hlk (Nat.le_of_ble_eq_true rfl) (Nat.le_of_ble_eq_true rfl) rfl es.symm rfl dX6_plan_155
              · have hf37 := br_y hf32 c35; clear hf32
                refine j_bipush X (v := -4) dX6_plan_98 (by decide) ?_
                obtain ⟨er, es⟩ := rt_of hf37
                subst er
                exact j_reti X hr hlk (Nat.le_of_ble_eq_true rfl) (Nat.le_of_ble_eq_true rfl) rfl es.symm rfl dX6_plan_100
            · have hf30 := br_y hf27 c28; clear hf27
              refine j_bipush X (v := -2) dX6_plan_86 (by decide) ?_
              obtain ⟨er, es⟩ := rt_of hf30
              subst er
              exact j_reti X hr hlk (Nat.le_of_ble_eq_true rfl) (Nat.le_of_ble_eq_true rfl) rfl es.symm rfl dX6_plan_88
          · have hf23 := br_y hf19 c21; clear hf19
            refine j_iload_n X dX6_plan_59 3 rfl rfl ?_
            refine j_i2l X dX6_plan_60 ?_
            refine j_lconst X (v := 0) dX6_plan_61 (by decide) ?_
            refine j_ldc2 X k_X6_111 dX6_plan_62 ?_
            obtain ⟨r75, σ76, h77, hf78⟩ := bc_of hf23; clear hf23
            refine j_callS0 X [.long (a3).toInt64, .long (0 : Int64), .long (20 : Int64)] [] (c_X6_isIn l D cs q (a3).toInt64 (0 : Int64) (20 : Int64) σ12 _ _ h77) mk_X6_isIn ms_X6_isIn ml_X6_97 ⟨rfl, rfl⟩ ⟨Nat.le_of_ble_eq_true rfl, Nat.le_of_ble_eq_true rfl⟩ rfl (Nat.le_of_ble_eq_true rfl) ⟨Nat.le_of_ble_eq_true rfl, Nat.le_of_ble_eq_true rfl⟩ dX6_plan_65 rfl (st' := [.int r75]) rfl ?_
            refine j_if_eq X (tgt := 86) dX6_plan_68 (by decide) (fun c79 => ?_) (fun c79 => ?_)
            · have hf80 := br_y hf78 c79; clear hf78
              refine j_bipush X (v := -2) dX6_plan_86 (by decide) ?_
              obtain ⟨er, es⟩ := rt_of hf80
              subst er
              exact j_reti X hr hlk (Nat.le_of_ble_eq_true rfl) (Nat.le_of_ble_eq_true rfl) rfl es.symm rfl dX6_plan_88
            · have hf81 := br_n hf78 c79; clear hf78
              refine j_goto X (tgt := 89) dX6_plan_71 (by decide) ?_
              refine j_aload_n X dX6_plan_89 0 rfl rfl ?_
              obtain ⟨h82, hf83⟩ := chk_of hf81; clear hf81
              refine j_geti X fd_X6_297 h82 dX6_plan_90 (fun v84 ev84 => ?_)
              replace hf83 := lt_of hf83 v84 ev84
              refine j_bipush X (v := 8) dX6_plan_93 (by decide) ?_
              refine j_icmp_ne X (tgt := 101) dX6_plan_95 (by decide) (fun c86 => ?_) (fun c86 => ?_)
              · have hf87 := br_n hf83 c86; clear hf83
                refine j_aload_n X dX6_plan_101 0 rfl rfl ?_
                obtain ⟨i89, h90, hf91⟩ := bd_of hf87; clear hf87
                refine j_getr X fd_X6_80 h82 h90 dX6_plan_102 ?_
                refine j_iconst X (v := 3) dX6_plan_105 (by decide) ?_
                refine j_aload_n X dX6_plan_106 0 rfl rfl ?_
                refine j_geti X fd_X6_297 h82 dX6_plan_107 (fun v92 ev92 => ?_)
                replace hf91 := lt_of hf91 v92 ev92
                refine j_imul X dX6_plan_110 ?_
                refine j_iload_n X dX6_plan_111 1 rfl rfl ?_
                obtain ⟨h94, hf95⟩ := chk_of hf91; clear hf91
                refine j_iast X h94 dX6_plan_112 (fun σ96 eσ96 => ?_)
                replace hf95 := lt_of hf95 σ96 eσ96
                have h98 : isO σ96 6 a0 := by rw [eσ96]; exact h82
                refine j_aload_n X dX6_plan_113 0 rfl rfl ?_
                obtain ⟨i99, h100, hf101⟩ := bd_of hf95; clear hf95
                refine j_getr X fd_X6_80 h98 h100 dX6_plan_114 ?_
                refine j_iconst X (v := 3) dX6_plan_117 (by decide) ?_
                refine j_aload_n X dX6_plan_118 0 rfl rfl ?_
                refine j_geti X fd_X6_297 h98 dX6_plan_119 (fun v102 ev102 => ?_)
                replace hf101 := lt_of hf101 v102 ev102
                refine j_imul X dX6_plan_122 ?_
                refine j_iconst X (v := 1) dX6_plan_123 (by decide) ?_
                refine j_iadd X dX6_plan_124 ?_
                refine j_iload_n X dX6_plan_125 2 rfl rfl ?_
                obtain ⟨h104, hf105⟩ := chk_of hf101; clear hf101
                refine j_iast X h104 dX6_plan_126 (fun σ106 eσ106 => ?_)
                replace hf105 := lt_of hf105 σ106 eσ106
                have h108 : isO σ106 6 a0 := by rw [eσ106]; exact h98
                refine j_aload_n X dX6_plan_127 0 rfl rfl ?_
                obtain ⟨i109, h110, hf111⟩ := bd_of hf105; clear hf105
                refine j_getr X fd_X6_80 h108 h110 dX6_plan_128 ?_
                refine j_iconst X (v := 3) dX6_plan_131 (by decide) ?_
                refine j_aload_n X dX6_plan_132 0 rfl rfl ?_
                refine j_geti X fd_X6_297 h108 dX6_plan_133 (fun v112 ev112 => ?_)
                replace hf111 := lt_of hf111 v112 ev112
                refine j_imul X dX6_plan_136 ?_
                refine j_iconst X (v := 2) dX6_plan_137 (by decide) ?_
                refine j_iadd X dX6_plan_138 ?_
                refine j_iload_n X dX6_plan_139 3 rfl rfl ?_
                obtain ⟨h114, hf115⟩ := chk_of hf111; clear hf111
                refine j_iast X h114 dX6_plan_140 (fun σ116 eσ116 => ?_)
                replace hf115 := lt_of hf115 σ116 eσ116
                have h118 : isO σ116 6 a0 := by rw [eσ116]; exact h108
                refine j_aload_n X dX6_plan_141 0 rfl rfl ?_
                refine j_dup X dX6_plan_142 rfl ?_
                refine j_geti X fd_X6_297 h118 dX6_plan_143 (fun v119 ev119 => ?_)
                replace hf115 := lt_of hf115 v119 ev119
                refine j_iconst X (v := 1) dX6_plan_146 (by decide) ?_
                refine j_iadd X dX6_plan_147 ?_
                refine j_puti X fp_X6_297 h118 dX6_plan_148 (fun σ121 eσ121 => ?_)
                replace hf115 := lt_of hf115 σ121 eσ121
                have h123 : isO σ121 6 a0 := by rw [eσ121]; exact h118
                refine j_aload_n X dX6_plan_151 0 rfl rfl ?_
                refine j_geti X fd_X6_297 h123 dX6_plan_152 (fun v124 ev124 => ?_)
                replace hf115 := lt_of hf115 v124 ev124
                obtain ⟨er, es⟩ := rt_of hf115
                subst er
                exact j_reti X hr hlk (Nat.le_of_ble_eq_true rfl) (Nat.le_of_ble_eq_true rfl) rfl es.symm rfl dX6_plan_155
              · have hf88 := br_y hf83 c86; clear hf83
                refine j_bipush X (v := -4) dX6_plan_98 (by decide) ?_
                obtain ⟨er, es⟩ := rt_of hf88
                subst er
                exact j_reti X hr hlk (Nat.le_of_ble_eq_true rfl) (Nat.le_of_ble_eq_true rfl) rfl es.symm rfl dX6_plan_100
        · have hf20 := br_y hf16 c18; clear hf16
          refine j_iload_n X dX6_plan_37 3 rfl rfl ?_
          refine j_i2l X dX6_plan_38 ?_
          refine j_ldc2 X k_X6_107 dX6_plan_39 ?_
          refine j_ldc2 X k_X6_109 dX6_plan_42 ?_
          obtain ⟨r126, σ127, h128, hf129⟩ := bc_of hf20; clear hf20
          refine j_callS0 X [.long (a3).toInt64, .long (-99 : Int64), .long (99 : Int64)] [] (c_X6_isIn l D cs q (a3).toInt64 (-99 : Int64) (99 : Int64) σ12 _ _ h128) mk_X6_isIn ms_X6_isIn ml_X6_97 ⟨rfl, rfl⟩ ⟨Nat.le_of_ble_eq_true rfl, Nat.le_of_ble_eq_true rfl⟩ rfl (Nat.le_of_ble_eq_true rfl) ⟨Nat.le_of_ble_eq_true rfl, Nat.le_of_ble_eq_true rfl⟩ dX6_plan_45 rfl (st' := [.int r126]) rfl ?_
          refine j_if_eq X (tgt := 86) dX6_plan_48 (by decide) (fun c130 => ?_) (fun c130 => ?_)
          · have hf131 := br_y hf129 c130; clear hf129
            refine j_bipush X (v := -2) dX6_plan_86 (by decide) ?_
            obtain ⟨er, es⟩ := rt_of hf131
            subst er
            exact j_reti X hr hlk (Nat.le_of_ble_eq_true rfl) (Nat.le_of_ble_eq_true rfl) rfl es.symm rfl dX6_plan_88
          · have hf132 := br_n hf129 c130; clear hf129
            refine j_goto X (tgt := 89) dX6_plan_51 (by decide) ?_
            refine j_aload_n X dX6_plan_89 0 rfl rfl ?_
            obtain ⟨h133, hf134⟩ := chk_of hf132; clear hf132
            refine j_geti X fd_X6_297 h133 dX6_plan_90 (fun v135 ev135 => ?_)
            replace hf134 := lt_of hf134 v135 ev135
            refine j_bipush X (v := 8) dX6_plan_93 (by decide) ?_
            refine j_icmp_ne X (tgt := 101) dX6_plan_95 (by decide) (fun c137 => ?_) (fun c137 => ?_)
            · have hf138 := br_n hf134 c137; clear hf134
              refine j_aload_n X dX6_plan_101 0 rfl rfl ?_
              obtain ⟨i140, h141, hf142⟩ := bd_of hf138; clear hf138
              refine j_getr X fd_X6_80 h133 h141 dX6_plan_102 ?_
              refine j_iconst X (v := 3) dX6_plan_105 (by decide) ?_
              refine j_aload_n X dX6_plan_106 0 rfl rfl ?_
              refine j_geti X fd_X6_297 h133 dX6_plan_107 (fun v143 ev143 => ?_)
              replace hf142 := lt_of hf142 v143 ev143
              refine j_imul X dX6_plan_110 ?_
              refine j_iload_n X dX6_plan_111 1 rfl rfl ?_
              obtain ⟨h145, hf146⟩ := chk_of hf142; clear hf142
              refine j_iast X h145 dX6_plan_112 (fun σ147 eσ147 => ?_)
              replace hf146 := lt_of hf146 σ147 eσ147
              have h149 : isO σ147 6 a0 := by rw [eσ147]; exact h133
              refine j_aload_n X dX6_plan_113 0 rfl rfl ?_
              obtain ⟨i150, h151, hf152⟩ := bd_of hf146; clear hf146
              refine j_getr X fd_X6_80 h149 h151 dX6_plan_114 ?_
              refine j_iconst X (v := 3) dX6_plan_117 (by decide) ?_
              refine j_aload_n X dX6_plan_118 0 rfl rfl ?_
              refine j_geti X fd_X6_297 h149 dX6_plan_119 (fun v153 ev153 => ?_)
              replace hf152 := lt_of hf152 v153 ev153
              refine j_imul X dX6_plan_122 ?_
              refine j_iconst X (v := 1) dX6_plan_123 (by decide) ?_
              refine j_iadd X dX6_plan_124 ?_
              refine j_iload_n X dX6_plan_125 2 rfl rfl ?_
              obtain ⟨h155, hf156⟩ := chk_of hf152; clear hf152
              refine j_iast X h155 dX6_plan_126 (fun σ157 eσ157 => ?_)
              replace hf156 := lt_of hf156 σ157 eσ157
              have h159 : isO σ157 6 a0 := by rw [eσ157]; exact h149
              refine j_aload_n X dX6_plan_127 0 rfl rfl ?_
              obtain ⟨i160, h161, hf162⟩ := bd_of hf156; clear hf156
              refine j_getr X fd_X6_80 h159 h161 dX6_plan_128 ?_
              refine j_iconst X (v := 3) dX6_plan_131 (by decide) ?_
              refine j_aload_n X dX6_plan_132 0 rfl rfl ?_
              refine j_geti X fd_X6_297 h159 dX6_plan_133 (fun v163 ev163 => ?_)
              replace hf162 := lt_of hf162 v163 ev163
              refine j_imul X dX6_plan_136 ?_
              refine j_iconst X (v := 2) dX6_plan_137 (by decide) ?_
              refine j_iadd X dX6_plan_138 ?_
              refine j_iload_n X dX6_plan_139 3 rfl rfl ?_
              obtain ⟨h165, hf166⟩ := chk_of hf162; clear hf162
              refine j_iast X h165 dX6_plan_140 (fun σ167 eσ167 => ?_)
              replace hf166 := lt_of hf166 σ167 eσ167
              have h169 : isO σ167 6 a0 := by rw [eσ167]; exact h159
              refine j_aload_n X dX6_plan_141 0 rfl rfl ?_
              refine j_dup X dX6_plan_142 rfl ?_
              refine j_geti X fd_X6_297 h169 dX6_plan_143 (fun v170 ev170 => ?_)
              replace hf166 := lt_of hf166 v170 ev170
              refine j_iconst X (v := 1) dX6_plan_146 (by decide) ?_
              refine j_iadd X dX6_plan_147 ?_
              refine j_puti X fp_X6_297 h169 dX6_plan_148 (fun σ172 eσ172 => ?_)
              replace hf166 := lt_of hf166 σ172 eσ172
              have h174 : isO σ172 6 a0 := by rw [eσ172]; exact h169
              refine j_aload_n X dX6_plan_151 0 rfl rfl ?_
              refine j_geti X fd_X6_297 h174 dX6_plan_152 (fun v175 ev175 => ?_)
              replace hf166 := lt_of hf166 v175 ev175
              obtain ⟨er, es⟩ := rt_of hf166
              subst er
              exact j_reti X hr hlk (Nat.le_of_ble_eq_true rfl) (Nat.le_of_ble_eq_true rfl) rfl es.symm rfl dX6_plan_155
            · have hf139 := br_y hf134 c137; clear hf134
              refine j_bipush X (v := -4) dX6_plan_98 (by decide) ?_
              obtain ⟨er, es⟩ := rt_of hf139
              subst er
              exact j_reti X hr hlk (Nat.le_of_ble_eq_true rfl) (Nat.le_of_ble_eq_true rfl) rfl es.symm rfl dX6_plan_100
      · have hf17 := br_y hf14 c15; clear hf14
        refine j_iconst X (v := -1) dX6_plan_31 (by decide) ?_
        obtain ⟨er, es⟩ := rt_of hf17
        subst er
        exact j_reti X hr hlk (Nat.le_of_ble_eq_true rfl) (Nat.le_of_ble_eq_true rfl) rfl es.symm rfl dX6_plan_32
  · have hf3 := br_y hf0 c1; clear hf0
    refine j_aload_n X dX6_plan_5 0 rfl rfl ?_
    refine j_iconst X (v := 0) dX6_plan_6 (by decide) ?_
    obtain ⟨h177, hf178⟩ := chk_of hf3; clear hf3
    refine j_puti X fp_X6_297 h177 dX6_plan_7 (fun σ179 eσ179 => ?_)
    replace hf178 := lt_of hf178 σ179 eσ179
    have h181 : isO σ179 6 a0 := by rw [eσ179]; exact h177
    refine j_iconst X (v := 0) dX6_plan_10 (by decide) ?_
    obtain ⟨er, es⟩ := rt_of hf178
    subst er
    exact j_reti X hr hlk (Nat.le_of_ble_eq_true rfl) (Nat.le_of_ble_eq_true rfl) rfl es.symm rfl dX6_plan_11
abbrev rm_X6_put : Room := { frames := 2, cells := 0, slots := 0, locals := 128 }
set_option maxHeartbeats 4000000 in
set_option maxRecDepth 100000 in
theorem c_X6_put (l : Launch) (D : va_G) (cs : Nat → ClassId) (q : Nat → Nat) (a0 : Nat) (a1 : Int32) (a2 : Int32) (a3 : Int64) (σ σ0 : HS) (r0 : Int32) (hf0 : f_X6_put a0 a1 a2 a3 σ = some (r0, σ0)) : MT l yX6_put (Cond.code yX6_put cX6_put 5 (some .int) :: lw_g) rm_X6_put D cs q σ σ0 [.ref (q a0), .int a1, .int a2, .long a3] (fun z => z = q) (fun _ => some (.int r0)) 0 0 := by
  unfold f_X6_put at hf0
  refine MT_of (cc := cX6_put) (lv0 := [(0, .ref (q a0)), (1, .int a1), (2, .int a2), (3, .long a3)]) (by decide) (Nat.le_of_ble_eq_true rfl) rfl (fun p e s m args below meth c A X hr hlk hin => ?_)
  refine j_iload_n X dX6_put_0 1 rfl rfl ?_
  obtain ⟨r1, σ2, h3, hf4⟩ := bc_of hf0; clear hf0
  refine j_callS0 X [.int a1] [] (c_X6_isList l D cs q a1 σ _ _ h3) mk_X6_isList ms_X6_isList ml_X6_308 ⟨rfl, rfl⟩ ⟨Nat.le_of_ble_eq_true rfl, Nat.le_of_ble_eq_true rfl⟩ rfl (Nat.le_of_ble_eq_true rfl) ⟨Nat.le_of_ble_eq_true rfl, Nat.le_of_ble_eq_true rfl⟩ dX6_put_1 rfl (st' := [.int r1]) rfl ?_
  refine j_if_ne X (tgt := 9) dX6_put_4 (by decide) (fun c5 => ?_) (fun c5 => ?_)
  · have hf6 := br_n hf4 c5; clear hf4
    refine j_aload_n X dX6_put_9 0 rfl rfl ?_
    obtain ⟨h8, hf9⟩ := chk_of hf6; clear hf6
    obtain ⟨i10, h11, hf12⟩ := bd_of hf9; clear hf9
    refine j_getr X fd_X6_89 h8 h11 dX6_put_10 ?_
    refine j_iload_n X dX6_put_13 1 rfl rfl ?_
    obtain ⟨h13, hf14⟩ := chk_of hf12; clear hf12
    refine j_iald X h13 dX6_put_14 (fun v15 ev15 => ?_)
    replace hf14 := lt_of hf14 v15 ev15
    refine j_iconst X (v := -1) dX6_put_15 (by decide) ?_
    refine j_icmp_ne X (tgt := 22) dX6_put_16 (by decide) (fun c17 => ?_) (fun c17 => ?_)
    · have hf18 := br_n hf14 c17; clear hf14
      refine j_iload_n X dX6_put_22 2 rfl rfl ?_
      refine j_i2l X dX6_put_23 ?_
      refine j_lconst X (v := 0) dX6_put_24 (by decide) ?_
      refine j_aload_n X dX6_put_25 0 rfl rfl ?_
      refine j_getr X fd_X6_89 h8 h11 dX6_put_26 ?_
      refine j_iload_n X dX6_put_29 1 rfl rfl ?_
      obtain ⟨h23, hf24⟩ := chk_of hf18; clear hf18
      refine j_iald X h23 dX6_put_30 (fun v25 ev25 => ?_)
      replace hf24 := lt_of hf24 v25 ev25
      refine j_iconst X (v := 1) dX6_put_31 (by decide) ?_
      refine j_isub X dX6_put_32 ?_
      refine j_i2l X dX6_put_33 ?_
      obtain ⟨r27, σ28, h29, hf30⟩ := bc_of hf24; clear hf24
      refine j_callS0 X [.long (a2).toInt64, .long (0 : Int64), .long ((v25 - (1 : Int32))).toInt64] [] (c_X6_isIn l D cs q (a2).toInt64 (0 : Int64) ((v25 - (1 : Int32))).toInt64 σ2 _ _ h29) mk_X6_isIn ms_X6_isIn ml_X6_97 ⟨rfl, rfl⟩ ⟨Nat.le_of_ble_eq_true rfl, Nat.le_of_ble_eq_true rfl⟩ rfl (Nat.le_of_ble_eq_true rfl) ⟨Nat.le_of_ble_eq_true rfl, Nat.le_of_ble_eq_true rfl⟩ dX6_put_34 rfl (st' := [.int r27]) rfl ?_
      refine j_if_ne X (tgt := 43) dX6_put_37 (by decide) (fun c31 => ?_) (fun c31 => ?_)
      · have hf32 := br_n hf30 c31; clear hf30
        refine j_aload_n X dX6_put_43 0 rfl rfl ?_
        obtain ⟨h34, hf35⟩ := chk_of hf32; clear hf32
        obtain ⟨i36, h37, hf38⟩ := bd_of hf35; clear hf35
        refine j_getr X fd_X6_92 h34 h37 dX6_put_44 ?_
        refine j_bipush X (v := 8) dX6_put_47 (by decide) ?_
        refine j_iload_n X dX6_put_49 1 rfl rfl ?_
        refine j_imul X dX6_put_50 ?_
        refine j_iload_n X dX6_put_51 2 rfl rfl ?_
        refine j_iadd X dX6_put_52 ?_
        refine j_lload_n X dX6_put_53 3 rfl rfl ?_
        obtain ⟨h39, hf40⟩ := chk_of hf38; clear hf38
        refine j_last X h39 dX6_put_54 (fun σ41 eσ41 => ?_)
        replace hf40 := lt_of hf40 σ41 eσ41
        have h43 : isO σ41 6 a0 := by rw [eσ41]; exact h34
        refine j_iconst X (v := 1) dX6_put_55 (by decide) ?_
        obtain ⟨er, es⟩ := rt_of hf40
        subst er
        exact j_reti X hr hlk (Nat.le_of_ble_eq_true rfl) (Nat.le_of_ble_eq_true rfl) rfl es.symm rfl dX6_put_56
      · have hf33 := br_y hf30 c31; clear hf30
        refine j_bipush X (v := -13) dX6_put_40 (by decide) ?_
        obtain ⟨er, es⟩ := rt_of hf33
        subst er
        exact j_reti X hr hlk (Nat.le_of_ble_eq_true rfl) (Nat.le_of_ble_eq_true rfl) rfl es.symm rfl dX6_put_42
    · have hf19 := br_y hf14 c17; clear hf14
      refine j_bipush X (v := -11) dX6_put_19 (by decide) ?_
      obtain ⟨er, es⟩ := rt_of hf19
      subst er
      exact j_reti X hr hlk (Nat.le_of_ble_eq_true rfl) (Nat.le_of_ble_eq_true rfl) rfl es.symm rfl dX6_put_21
  · have hf7 := br_y hf4 c5; clear hf4
    refine j_iconst X (v := -1) dX6_put_7 (by decide) ?_
    obtain ⟨er, es⟩ := rt_of hf7
    subst er
    exact j_reti X hr hlk (Nat.le_of_ble_eq_true rfl) (Nat.le_of_ble_eq_true rfl) rfl es.symm rfl dX6_put_8
abbrev rm_X6_rises : Room := { frames := 6, cells := 0, slots := 0, locals := 384 }
set_option maxHeartbeats 4000000 in
set_option maxRecDepth 100000 in
theorem c_X6_rises (l : Launch) (D : va_G) (cs : Nat → ClassId) (q : Nat → Nat) (a0 : Nat) (a1 : Int32) (a2 : Int32) (σ σ0 : HS) (r0 : Int32) (hf0 : f_X6_rises a0 a1 a2 σ = some (r0, σ0)) : MT l yX6_rises (Cond.code yX6_rises cX6_rises 3 (some .int) :: lw_g) rm_X6_rises D cs q σ σ0 [.ref (q a0), .int a1, .int a2] (fun z => z = q) (fun _ => some (.int r0)) 0 0 := by
  unfold f_X6_rises at hf0
  refine MT_of (cc := cX6_rises) (lv0 := [(0, .ref (q a0)), (1, .int a1), (2, .int a2)]) (by decide) (Nat.le_of_ble_eq_true rfl) rfl (fun p e s m args below meth c A X hr hlk hin => ?_)
  refine j_aload_n X dX6_rises_0 0 rfl rfl ?_
  refine j_iload_n X dX6_rises_1 1 rfl rfl ?_
  obtain ⟨h1, hf2⟩ := chk_of hf0; clear hf0
  obtain ⟨r3, σ4, h5, hf6⟩ := bc_of hf2; clear hf2
  refine j_callV0 X [.int a1] [] (c_X6_isFormula l D cs q a0 a1 σ _ _ h5) mk_X6_isFormula mv_X6_isFormula ml_X6_180 h1 rfl (by decide) ⟨rfl, rfl⟩ ⟨Nat.le_of_ble_eq_true rfl, Nat.le_of_ble_eq_true rfl⟩ rfl (Nat.le_of_ble_eq_true rfl) ⟨Nat.le_of_ble_eq_true rfl, Nat.le_of_ble_eq_true rfl⟩ dX6_rises_2 rfl (st' := [.int r3]) rfl ?_
  refine j_if_eq X (tgt := 15) dX6_rises_5 (by decide) (fun c7 => ?_) (fun c7 => ?_)
  · have hf8 := br_y hf6 c7; clear hf6
    refine j_iconst X (v := -1) dX6_rises_15 (by decide) ?_
    obtain ⟨er, es⟩ := rt_of hf8
    subst er
    exact j_reti X hr hlk (Nat.le_of_ble_eq_true rfl) (Nat.le_of_ble_eq_true rfl) rfl es.symm rfl dX6_rises_16
  · have hf9 := br_n hf6 c7; clear hf6
    refine j_iload_n X dX6_rises_8 2 rfl rfl ?_
    obtain ⟨r10, σ11, h12, hf13⟩ := bc_of hf9; clear hf9
    refine j_callS0 X [.int a2] [] (c_X6_isSource l D cs q a2 σ4 _ _ h12) mk_X6_isSource ms_X6_isSource ml_X6_101 ⟨rfl, rfl⟩ ⟨Nat.le_of_ble_eq_true rfl, Nat.le_of_ble_eq_true rfl⟩ rfl (Nat.le_of_ble_eq_true rfl) ⟨Nat.le_of_ble_eq_true rfl, Nat.le_of_ble_eq_true rfl⟩ dX6_rises_9 rfl (st' := [.int r10]) rfl ?_
    refine j_if_ne X (tgt := 17) dX6_rises_12 (by decide) (fun c14 => ?_) (fun c14 => ?_)
    · have hf15 := br_n hf13 c14; clear hf13
      refine j_aload_n X dX6_rises_17 0 rfl rfl ?_
      refine j_iload_n X dX6_rises_18 1 rfl rfl ?_
      obtain ⟨h17, hf18⟩ := chk_of hf15; clear hf15
      obtain ⟨r19, σ20, h21, hf22⟩ := bc_of hf18; clear hf18
      refine j_callV0 X [.int a1] [] (c_X6_spansNow l D cs q a0 a1 σ11 _ _ h21) mk_X6_spansNow mv_X6_spansNow ml_X6_254 h17 rfl (by decide) ⟨rfl, rfl⟩ ⟨Nat.le_of_ble_eq_true rfl, Nat.le_of_ble_eq_true rfl⟩ rfl (Nat.le_of_ble_eq_true rfl) ⟨Nat.le_of_ble_eq_true rfl, Nat.le_of_ble_eq_true rfl⟩ dX6_rises_19 rfl (st' := [.int r19]) rfl ?_
      refine j_if_eq X (tgt := 34) dX6_rises_22 (by decide) (fun c23 => ?_) (fun c23 => ?_)
      · have hf24 := br_y hf22 c23; clear hf22
        refine j_bipush X (v := -6) dX6_rises_34 (by decide) ?_
        obtain ⟨er, es⟩ := rt_of hf24
        subst er
        exact j_reti X hr hlk (Nat.le_of_ble_eq_true rfl) (Nat.le_of_ble_eq_true rfl) rfl es.symm rfl dX6_rises_36
      · have hf25 := br_n hf22 c23; clear hf22
        refine j_aload_n X dX6_rises_25 0 rfl rfl ?_
        refine j_iload_n X dX6_rises_26 1 rfl rfl ?_
        refine j_iload_n X dX6_rises_27 2 rfl rfl ?_
        obtain ⟨h26, hf27⟩ := chk_of hf25; clear hf25
        obtain ⟨r28, σ29, h30, hf31⟩ := bc_of hf27; clear hf27
        refine j_callV0 X [.int a1, .int a2] [] (c_X6_changeOf l D cs q a0 a1 a2 σ20 _ _ h30) mk_X6_changeOf mv_X6_changeOf ml_X6_271 h26 rfl (by decide) ⟨rfl, rfl⟩ ⟨Nat.le_of_ble_eq_true rfl, Nat.le_of_ble_eq_true rfl⟩ rfl (Nat.le_of_ble_eq_true rfl) ⟨Nat.le_of_ble_eq_true rfl, Nat.le_of_ble_eq_true rfl⟩ dX6_rises_28 rfl (st' := [.int r28]) rfl ?_
        refine j_goto X (tgt := 36) dX6_rises_31 (by decide) ?_
        obtain ⟨er, es⟩ := rt_of hf31
        subst er
        exact j_reti X hr hlk (Nat.le_of_ble_eq_true rfl) (Nat.le_of_ble_eq_true rfl) rfl es.symm rfl dX6_rises_36
    · have hf16 := br_y hf13 c14; clear hf13
      refine j_iconst X (v := -1) dX6_rises_15 (by decide) ?_
      obtain ⟨er, es⟩ := rt_of hf16
      subst er
      exact j_reti X hr hlk (Nat.le_of_ble_eq_true rfl) (Nat.le_of_ble_eq_true rfl) rfl es.symm rfl dX6_rises_16
abbrev rm_X6_set : Room := { frames := 2, cells := 0, slots := 0, locals := 128 }
set_option maxHeartbeats 4000000 in
set_option maxRecDepth 100000 in
theorem c_X6_set (l : Launch) (D : va_G) (cs : Nat → ClassId) (q : Nat → Nat) (a0 : Nat) (a1 : Int32) (a2 : Int32) (a3 : Int32) (σ σ0 : HS) (r0 : Int32) (hf0 : f_X6_set a0 a1 a2 a3 σ = some (r0, σ0)) : MT l yX6_set (Cond.code yX6_set cX6_set 5 (some .int) :: lw_g) rm_X6_set D cs q σ σ0 [.ref (q a0), .int a1, .int a2, .int a3] (fun z => z = q) (fun _ => some (.int r0)) 0 0 := by
  unfold f_X6_set at hf0
  refine MT_of (cc := cX6_set) (lv0 := [(0, .ref (q a0)), (1, .int a1), (2, .int a2), (3, .int a3)]) (by decide) (Nat.le_of_ble_eq_true rfl) rfl (fun p e s m args below meth c A X hr hlk hin => ?_)
  refine j_iload_n X dX6_set_0 1 rfl rfl ?_
  obtain ⟨r1, σ2, h3, hf4⟩ := bc_of hf0; clear hf0
  refine j_callS0 X [.int a1] [] (c_X6_isSource l D cs q a1 σ _ _ h3) mk_X6_isSource ms_X6_isSource ml_X6_101 ⟨rfl, rfl⟩ ⟨Nat.le_of_ble_eq_true rfl, Nat.le_of_ble_eq_true rfl⟩ rfl (Nat.le_of_ble_eq_true rfl) ⟨Nat.le_of_ble_eq_true rfl, Nat.le_of_ble_eq_true rfl⟩ dX6_set_1 rfl (st' := [.int r1]) rfl ?_
  refine j_if_eq X (tgt := 19) dX6_set_4 (by decide) (fun c5 => ?_) (fun c5 => ?_)
  · have hf6 := br_y hf4 c5; clear hf4
    refine j_sipush X (v := -1000) dX6_set_19 (by decide) ?_
    obtain ⟨er, es⟩ := rt_of hf6
    subst er
    exact j_reti X hr hlk (Nat.le_of_ble_eq_true rfl) (Nat.le_of_ble_eq_true rfl) rfl es.symm rfl dX6_set_22
  · have hf7 := br_n hf4 c5; clear hf4
    refine j_iload_n X dX6_set_7 2 rfl rfl ?_
    refine j_i2l X dX6_set_8 ?_
    refine j_lconst X (v := 0) dX6_set_9 (by decide) ?_
    refine j_ldc2 X k_X6_105 dX6_set_10 ?_
    obtain ⟨r8, σ9, h10, hf11⟩ := bc_of hf7; clear hf7
    refine j_callS0 X [.long (a2).toInt64, .long (0 : Int64), .long (2 : Int64)] [] (c_X6_isIn l D cs q (a2).toInt64 (0 : Int64) (2 : Int64) σ2 _ _ h10) mk_X6_isIn ms_X6_isIn ml_X6_97 ⟨rfl, rfl⟩ ⟨Nat.le_of_ble_eq_true rfl, Nat.le_of_ble_eq_true rfl⟩ rfl (Nat.le_of_ble_eq_true rfl) ⟨Nat.le_of_ble_eq_true rfl, Nat.le_of_ble_eq_true rfl⟩ dX6_set_13 rfl (st' := [.int r8]) rfl ?_
    refine j_if_ne X (tgt := 23) dX6_set_16 (by decide) (fun c12 => ?_) (fun c12 => ?_)
    · have hf13 := br_n hf11 c12; clear hf11
      refine j_iload_n X dX6_set_23 2 rfl rfl ?_
      refine j_if_ne X (tgt := 44) dX6_set_24 (by decide) (fun c15 => ?_) (fun c15 => ?_)
      · have hf16 := br_n hf13 c15; clear hf13
        refine j_iload_n X dX6_set_44 2 rfl rfl ?_
        refine j_iconst X (v := 1) dX6_set_45 (by decide) ?_
        refine j_icmp_ne X (tgt := 64) dX6_set_46 (by decide) (fun c18 => ?_) (fun c18 => ?_)
        · have hf19 := br_n hf16 c18; clear hf16
          refine j_iload_n X dX6_set_64 3 rfl rfl ?_
          refine j_i2l X dX6_set_65 ?_
          refine j_lconst X (v := 0) dX6_set_66 (by decide) ?_
          refine j_ldc2 X k_X6_109 dX6_set_67 ?_
          obtain ⟨r21, σ22, h23, hf24⟩ := bc_of hf19; clear hf19
          refine j_callS0 X [.long (a3).toInt64, .long (0 : Int64), .long (99 : Int64)] [] (c_X6_isIn l D cs q (a3).toInt64 (0 : Int64) (99 : Int64) σ9 _ _ h23) mk_X6_isIn ms_X6_isIn ml_X6_97 ⟨rfl, rfl⟩ ⟨Nat.le_of_ble_eq_true rfl, Nat.le_of_ble_eq_true rfl⟩ rfl (Nat.le_of_ble_eq_true rfl) ⟨Nat.le_of_ble_eq_true rfl, Nat.le_of_ble_eq_true rfl⟩ dX6_set_70 rfl (st' := [.int r21]) rfl ?_
          refine j_if_ne X (tgt := 80) dX6_set_73 (by decide) (fun c25 => ?_) (fun c25 => ?_)
          · have hf26 := br_n hf24 c25; clear hf24
            refine j_aload_n X dX6_set_80 0 rfl rfl ?_
            obtain ⟨h28, hf29⟩ := chk_of hf26; clear hf26
            obtain ⟨i30, h31, hf32⟩ := bd_of hf29; clear hf29
            refine j_getr X fd_X6_11 h28 h31 dX6_set_81 ?_
            refine j_iconst X (v := 3) dX6_set_84 (by decide) ?_
            refine j_iload_n X dX6_set_85 1 rfl rfl ?_
            refine j_imul X dX6_set_86 ?_
            refine j_iload_n X dX6_set_87 2 rfl rfl ?_
            refine j_iadd X dX6_set_88 ?_
            obtain ⟨h33, hf34⟩ := chk_of hf32; clear hf32
            refine j_iald X h33 dX6_set_89 (fun v35 ev35 => ?_)
            replace hf34 := lt_of hf34 v35 ev35
            refine j_istore X (lv' := [(4, .int v35), (0, .ref (q a0)), (1, .int a1), (2, .int a2), (3, .int a3)]) dX6_set_90 (by decide) rfl ?_
            refine j_aload_n X dX6_set_92 1 rfl rfl ?_
            refine j_getr X fd_X6_11 h28 h31 dX6_set_93 ?_
            refine j_iconst X (v := 3) dX6_set_96 (by decide) ?_
            refine j_iload_n X dX6_set_97 2 rfl rfl ?_
            refine j_imul X dX6_set_98 ?_
            refine j_iload_n X dX6_set_99 3 rfl rfl ?_
            refine j_iadd X dX6_set_100 ?_
            refine j_iload_n X dX6_set_101 4 rfl rfl ?_
            obtain ⟨h40, hf41⟩ := chk_of hf34; clear hf34
            refine j_iast X h40 dX6_set_102 (fun σ42 eσ42 => ?_)
            replace hf41 := lt_of hf41 σ42 eσ42
            have h44 : isO σ42 6 a0 := by rw [eσ42]; exact h28
            refine j_iload X dX6_set_103 0 rfl ?_
            obtain ⟨er, es⟩ := rt_of hf41
            subst er
            exact j_reti X hr hlk (Nat.le_of_ble_eq_true rfl) (Nat.le_of_ble_eq_true rfl) rfl es.symm rfl dX6_set_105
          · have hf27 := br_y hf24 c25; clear hf24
            refine j_sipush X (v := -1001) dX6_set_76 (by decide) ?_
            obtain ⟨er, es⟩ := rt_of hf27
            subst er
            exact j_reti X hr hlk (Nat.le_of_ble_eq_true rfl) (Nat.le_of_ble_eq_true rfl) rfl es.symm rfl dX6_set_79
        · have hf20 := br_y hf16 c18; clear hf16
          refine j_iload_n X dX6_set_49 3 rfl rfl ?_
          refine j_i2l X dX6_set_50 ?_
          refine j_lconst X (v := 0) dX6_set_51 (by decide) ?_
          refine j_ldc2 X k_X6_111 dX6_set_52 ?_
          obtain ⟨r45, σ46, h47, hf48⟩ := bc_of hf20; clear hf20
          refine j_callS0 X [.long (a3).toInt64, .long (0 : Int64), .long (20 : Int64)] [] (c_X6_isIn l D cs q (a3).toInt64 (0 : Int64) (20 : Int64) σ9 _ _ h47) mk_X6_isIn ms_X6_isIn ml_X6_97 ⟨rfl, rfl⟩ ⟨Nat.le_of_ble_eq_true rfl, Nat.le_of_ble_eq_true rfl⟩ rfl (Nat.le_of_ble_eq_true rfl) ⟨Nat.le_of_ble_eq_true rfl, Nat.le_of_ble_eq_true rfl⟩ dX6_set_55 rfl (st' := [.int r45]) rfl ?_
          refine j_if_eq X (tgt := 76) dX6_set_58 (by decide) (fun c49 => ?_) (fun c49 => ?_)
          · have hf50 := br_y hf48 c49; clear hf48
            refine j_sipush X (v := -1001) dX6_set_76 (by decide) ?_
            obtain ⟨er, es⟩ := rt_of hf50
            subst er
            exact j_reti X hr hlk (Nat.le_of_ble_eq_true rfl) (Nat.le_of_ble_eq_true rfl) rfl es.symm rfl dX6_set_79
          · have hf51 := br_n hf48 c49; clear hf48
            refine j_goto X (tgt := 80) dX6_set_61 (by decide) ?_
            refine j_aload_n X dX6_set_80 0 rfl rfl ?_
            obtain ⟨h52, hf53⟩ := chk_of hf51; clear hf51
            obtain ⟨i54, h55, hf56⟩ := bd_of hf53; clear hf53
            refine j_getr X fd_X6_11 h52 h55 dX6_set_81 ?_
            refine j_iconst X (v := 3) dX6_set_84 (by decide) ?_
            refine j_iload_n X dX6_set_85 1 rfl rfl ?_
            refine j_imul X dX6_set_86 ?_
            refine j_iload_n X dX6_set_87 2 rfl rfl ?_
            refine j_iadd X dX6_set_88 ?_
            obtain ⟨h57, hf58⟩ := chk_of hf56; clear hf56
            refine j_iald X h57 dX6_set_89 (fun v59 ev59 => ?_)
            replace hf58 := lt_of hf58 v59 ev59
            refine j_istore X (lv' := [(4, .int v59), (0, .ref (q a0)), (1, .int a1), (2, .int a2), (3, .int a3)]) dX6_set_90 (by decide) rfl ?_
            refine j_aload_n X dX6_set_92 1 rfl rfl ?_
            refine j_getr X fd_X6_11 h52 h55 dX6_set_93 ?_
            refine j_iconst X (v := 3) dX6_set_96 (by decide) ?_
            refine j_iload_n X dX6_set_97 2 rfl rfl ?_
            refine j_imul X dX6_set_98 ?_
            refine j_iload_n X dX6_set_99 3 rfl rfl ?_
            refine j_iadd X dX6_set_100 ?_
            refine j_iload_n X dX6_set_101 4 rfl rfl ?_
            obtain ⟨h64, hf65⟩ := chk_of hf58; clear hf58
            refine j_iast X h64 dX6_set_102 (fun σ66 eσ66 => ?_)
            replace hf65 := lt_of hf65 σ66 eσ66
            have h68 : isO σ66 6 a0 := by rw [eσ66]; exact h52
            refine j_iload X dX6_set_103 0 rfl ?_
            obtain ⟨er, es⟩ := rt_of hf65
            subst er
            exact j_reti X hr hlk (Nat.le_of_ble_eq_true rfl) (Nat.le_of_ble_eq_true rfl) rfl es.symm rfl dX6_set_105
      · have hf17 := br_y hf13 c15; clear hf13
        refine j_iload_n X dX6_set_27 3 rfl rfl ?_
        refine j_i2l X dX6_set_28 ?_
        refine j_ldc2 X k_X6_107 dX6_set_29 ?_
        refine j_ldc2 X k_X6_109 dX6_set_32 ?_
        obtain ⟨r69, σ70, h71, hf72⟩ := bc_of hf17; clear hf17
        refine j_callS0 X [.long (a3).toInt64, .long (-99 : Int64), .long (99 : Int64)] [] (c_X6_isIn l D cs q (a3).toInt64 (-99 : Int64) (99 : Int64) σ9 _ _ h71) mk_X6_isIn ms_X6_isIn ml_X6_97 ⟨rfl, rfl⟩ ⟨Nat.le_of_ble_eq_true rfl, Nat.le_of_ble_eq_true rfl⟩ rfl (Nat.le_of_ble_eq_true rfl) ⟨Nat.le_of_ble_eq_true rfl, Nat.le_of_ble_eq_true rfl⟩ dX6_set_35 rfl (st' := [.int r69]) rfl ?_
        refine j_if_eq X (tgt := 76) dX6_set_38 (by decide) (fun c73 => ?_) (fun c73 => ?_)
        · have hf74 := br_y hf72 c73; clear hf72
          refine j_sipush X (v := -1001) dX6_set_76 (by decide) ?_
          obtain ⟨er, es⟩ := rt_of hf74
          subst er
          exact j_reti X hr hlk (Nat.le_of_ble_eq_true rfl) (Nat.le_of_ble_eq_true rfl) rfl es.symm rfl dX6_set_79
        · have hf75 := br_n hf72 c73; clear hf72
          refine j_goto X (tgt := 80) dX6_set_41 (by decide) ?_
          refine j_aload_n X dX6_set_80 0 rfl rfl ?_
          obtain ⟨h76, hf77⟩ := chk_of hf75; clear hf75
          obtain ⟨i78, h79, hf80⟩ := bd_of hf77; clear hf77
          refine j_getr X fd_X6_11 h76 h79 dX6_set_81 ?_
          refine j_iconst X (v := 3) dX6_set_84 (by decide) ?_
          refine j_iload_n X dX6_set_85 1 rfl rfl ?_
          refine j_imul X dX6_set_86 ?_
          refine j_iload_n X dX6_set_87 2 rfl rfl ?_
          refine j_iadd X dX6_set_88 ?_
          obtain ⟨h81, hf82⟩ := chk_of hf80; clear hf80
          refine j_iald X h81 dX6_set_89 (fun v83 ev83 => ?_)
          replace hf82 := lt_of hf82 v83 ev83
          refine j_istore X (lv' := [(4, .int v83), (0, .ref (q a0)), (1, .int a1), (2, .int a2), (3, .int a3)]) dX6_set_90 (by decide) rfl ?_
          refine j_aload_n X dX6_set_92 1 rfl rfl ?_
          refine j_getr X fd_X6_11 h76 h79 dX6_set_93 ?_
          refine j_iconst X (v := 3) dX6_set_96 (by decide) ?_
          refine j_iload_n X dX6_set_97 2 rfl rfl ?_
          refine j_imul X dX6_set_98 ?_
          refine j_iload_n X dX6_set_99 3 rfl rfl ?_
          refine j_iadd X dX6_set_100 ?_
          refine j_iload_n X dX6_set_101 4 rfl rfl ?_
          obtain ⟨h88, hf89⟩ := chk_of hf82; clear hf82
          refine j_iast X h88 dX6_set_102 (fun σ90 eσ90 => ?_)
          replace hf89 := lt_of hf89 σ90 eσ90
          have h92 : isO σ90 6 a0 := by rw [eσ90]; exact h76
          refine j_iload X dX6_set_103 0 rfl ?_
          obtain ⟨er, es⟩ := rt_of hf89
          subst er
          exact j_reti X hr hlk (Nat.le_of_ble_eq_true rfl) (Nat.le_of_ble_eq_true rfl) rfl es.symm rfl dX6_set_105
    · have hf14 := br_y hf11 c12; clear hf11
      refine j_sipush X (v := -1000) dX6_set_19 (by decide) ?_
      obtain ⟨er, es⟩ := rt_of hf14
      subst er
      exact j_reti X hr hlk (Nat.le_of_ble_eq_true rfl) (Nat.le_of_ble_eq_true rfl) rfl es.symm rfl dX6_set_22
abbrev rm_X6_span : Room := { frames := 6, cells := 0, slots := 0, locals := 384 }
set_option maxHeartbeats 4000000 in
set_option maxRecDepth 100000 in
theorem c_X6_span (l : Launch) (D : va_G) (cs : Nat → ClassId) (q : Nat → Nat) (a0 : Nat) (a1 : Int32) (a2 : Int32) (σ σ0 : HS) (r0 : Int64) (hf0 : f_X6_span a0 a1 a2 σ = some (r0, σ0)) : MT l yX6_span (Cond.code yX6_span cX6_span 3 (some .long) :: lw_g) rm_X6_span D cs q σ σ0 [.ref (q a0), .int a1, .int a2] (fun z => z = q) (fun _ => some (.long r0)) 0 0 := by
  unfold f_X6_span at hf0
  refine MT_of (cc := cX6_span) (lv0 := [(0, .ref (q a0)), (1, .int a1), (2, .int a2)]) (by decide) (Nat.le_of_ble_eq_true rfl) rfl (fun p e s m args below meth c A X hr hlk hin => ?_)
  refine j_aload_n X dX6_span_0 0 rfl rfl ?_
  refine j_iload_n X dX6_span_1 1 rfl rfl ?_
  obtain ⟨h1, hf2⟩ := chk_of hf0; clear hf0
  obtain ⟨r3, σ4, h5, hf6⟩ := bc_of hf2; clear hf2
  refine j_callV0 X [.int a1] [] (c_X6_isFormula l D cs q a0 a1 σ _ _ h5) mk_X6_isFormula mv_X6_isFormula ml_X6_180 h1 rfl (by decide) ⟨rfl, rfl⟩ ⟨Nat.le_of_ble_eq_true rfl, Nat.le_of_ble_eq_true rfl⟩ rfl (Nat.le_of_ble_eq_true rfl) ⟨Nat.le_of_ble_eq_true rfl, Nat.le_of_ble_eq_true rfl⟩ dX6_span_2 rfl (st' := [.int r3]) rfl ?_
  refine j_if_eq X (tgt := 20) dX6_span_5 (by decide) (fun c7 => ?_) (fun c7 => ?_)
  · have hf8 := br_y hf6 c7; clear hf6
    refine j_ldc2 X k_X6_198 dX6_span_20 ?_
    obtain ⟨er, es⟩ := rt_of hf8
    subst er
    exact j_retl X hr hlk (Nat.le_of_ble_eq_true rfl) (Nat.le_of_ble_eq_true rfl) rfl es.symm rfl dX6_span_23
  · have hf9 := br_n hf6 c7; clear hf6
    refine j_iload_n X dX6_span_8 2 rfl rfl ?_
    refine j_i2l X dX6_span_9 ?_
    refine j_lconst X (v := 0) dX6_span_10 (by decide) ?_
    refine j_ldc2 X k_X6_105 dX6_span_11 ?_
    obtain ⟨r10, σ11, h12, hf13⟩ := bc_of hf9; clear hf9
    refine j_callS0 X [.long (a2).toInt64, .long (0 : Int64), .long (2 : Int64)] [] (c_X6_isIn l D cs q (a2).toInt64 (0 : Int64) (2 : Int64) σ4 _ _ h12) mk_X6_isIn ms_X6_isIn ml_X6_97 ⟨rfl, rfl⟩ ⟨Nat.le_of_ble_eq_true rfl, Nat.le_of_ble_eq_true rfl⟩ rfl (Nat.le_of_ble_eq_true rfl) ⟨Nat.le_of_ble_eq_true rfl, Nat.le_of_ble_eq_true rfl⟩ dX6_span_14 rfl (st' := [.int r10]) rfl ?_
    refine j_if_ne X (tgt := 24) dX6_span_17 (by decide) (fun c14 => ?_) (fun c14 => ?_)
    · have hf15 := br_n hf13 c14; clear hf13
      refine j_aload_n X dX6_span_24 0 rfl rfl ?_
      refine j_iload_n X dX6_span_25 1 rfl rfl ?_
      obtain ⟨h17, hf18⟩ := chk_of hf15; clear hf15
      obtain ⟨r19, σ20, h21, hf22⟩ := bc_of hf18; clear hf18
      refine j_callV0 X [.int a1] [] (c_X6_spansNow l D cs q a0 a1 σ11 _ _ h21) mk_X6_spansNow mv_X6_spansNow ml_X6_254 h17 rfl (by decide) ⟨rfl, rfl⟩ ⟨Nat.le_of_ble_eq_true rfl, Nat.le_of_ble_eq_true rfl⟩ rfl (Nat.le_of_ble_eq_true rfl) ⟨Nat.le_of_ble_eq_true rfl, Nat.le_of_ble_eq_true rfl⟩ dX6_span_26 rfl (st' := [.int r19]) rfl ?_
      refine j_if_ne X (tgt := 41) dX6_span_29 (by decide) (fun c23 => ?_) (fun c23 => ?_)
      · have hf24 := br_n hf22 c23; clear hf22
        refine j_iload_n X dX6_span_41 2 rfl rfl ?_
        refine j_if_ne X (tgt := 53) dX6_span_42 (by decide) (fun c26 => ?_) (fun c26 => ?_)
        · have hf27 := br_n hf24 c26; clear hf24
          refine j_iload_n X dX6_span_53 2 rfl rfl ?_
          refine j_iconst X (v := 1) dX6_span_54 (by decide) ?_
          refine j_icmp_ne X (tgt := 66) dX6_span_55 (by decide) (fun c29 => ?_) (fun c29 => ?_)
          · have hf30 := br_n hf27 c29; clear hf27
            refine j_aload_n X dX6_span_66 0 rfl rfl ?_
            refine j_iload_n X dX6_span_67 1 rfl rfl ?_
            obtain ⟨h32, hf33⟩ := chk_of hf30; clear hf30
            obtain ⟨r34, σ35, h36, hf37⟩ := bc_of hf33; clear hf33
            refine j_callV0 X [.int a1] [] (c_X6_widthNow l D cs q a0 a1 σ20 _ _ h36) mk_X6_widthNow mv_X6_widthNow ml_X6_261 h32 rfl (by decide) ⟨rfl, rfl⟩ ⟨Nat.le_of_ble_eq_true rfl, Nat.le_of_ble_eq_true rfl⟩ rfl (Nat.le_of_ble_eq_true rfl) ⟨Nat.le_of_ble_eq_true rfl, Nat.le_of_ble_eq_true rfl⟩ dX6_span_68 rfl (st' := [.long r34]) rfl ?_
            obtain ⟨er, es⟩ := rt_of hf37
            subst er
            exact j_retl X hr hlk (Nat.le_of_ble_eq_true rfl) (Nat.le_of_ble_eq_true rfl) rfl es.symm rfl dX6_span_71
          · have hf31 := br_y hf27 c29; clear hf27
            refine j_aload_n X dX6_span_58 0 rfl rfl ?_
            refine j_iload_n X dX6_span_59 1 rfl rfl ?_
            obtain ⟨h38, hf39⟩ := chk_of hf31; clear hf31
            obtain ⟨r40, σ41, h42, hf43⟩ := bc_of hf39; clear hf39
            refine j_callV0 X [.int a1] [] (c_X6_highOf l D cs q a0 a1 σ20 _ _ h42) mk_X6_highOf mv_X6_highOf ml_X6_241 h38 rfl (by decide) ⟨rfl, rfl⟩ ⟨Nat.le_of_ble_eq_true rfl, Nat.le_of_ble_eq_true rfl⟩ rfl (Nat.le_of_ble_eq_true rfl) ⟨Nat.le_of_ble_eq_true rfl, Nat.le_of_ble_eq_true rfl⟩ dX6_span_60 rfl (st' := [.long r40]) rfl ?_
            refine j_goto X (tgt := 71) dX6_span_63 (by decide) ?_
            obtain ⟨er, es⟩ := rt_of hf43
            subst er
            exact j_retl X hr hlk (Nat.le_of_ble_eq_true rfl) (Nat.le_of_ble_eq_true rfl) rfl es.symm rfl dX6_span_71
        · have hf28 := br_y hf24 c26; clear hf24
          refine j_aload_n X dX6_span_45 0 rfl rfl ?_
          refine j_iload_n X dX6_span_46 1 rfl rfl ?_
          obtain ⟨h44, hf45⟩ := chk_of hf28; clear hf28
          obtain ⟨r46, σ47, h48, hf49⟩ := bc_of hf45; clear hf45
          refine j_callV0 X [.int a1] [] (c_X6_lowOf l D cs q a0 a1 σ20 _ _ h48) mk_X6_lowOf mv_X6_lowOf ml_X6_245 h44 rfl (by decide) ⟨rfl, rfl⟩ ⟨Nat.le_of_ble_eq_true rfl, Nat.le_of_ble_eq_true rfl⟩ rfl (Nat.le_of_ble_eq_true rfl) ⟨Nat.le_of_ble_eq_true rfl, Nat.le_of_ble_eq_true rfl⟩ dX6_span_47 rfl (st' := [.long r46]) rfl ?_
          refine j_goto X (tgt := 71) dX6_span_50 (by decide) ?_
          obtain ⟨er, es⟩ := rt_of hf49
          subst er
          exact j_retl X hr hlk (Nat.le_of_ble_eq_true rfl) (Nat.le_of_ble_eq_true rfl) rfl es.symm rfl dX6_span_71
      · have hf25 := br_y hf22 c23; clear hf22
        refine j_aload_n X dX6_span_32 0 rfl rfl ?_
        refine j_iload_n X dX6_span_33 1 rfl rfl ?_
        obtain ⟨h50, hf51⟩ := chk_of hf25; clear hf25
        obtain ⟨r52, σ53, h54, hf55⟩ := bc_of hf51; clear hf51
        refine j_callV0 X [.int a1] [] (c_X6_goesWay l D cs q a0 a1 σ20 _ _ h54) mk_X6_goesWay mv_X6_goesWay ml_X6_257 h50 rfl (by decide) ⟨rfl, rfl⟩ ⟨Nat.le_of_ble_eq_true rfl, Nat.le_of_ble_eq_true rfl⟩ rfl (Nat.le_of_ble_eq_true rfl) ⟨Nat.le_of_ble_eq_true rfl, Nat.le_of_ble_eq_true rfl⟩ dX6_span_34 rfl (st' := []) rfl ?_
        refine j_ldc2 X k_X6_239 dX6_span_37 ?_
        obtain ⟨er, es⟩ := rt_of hf55
        subst er
        exact j_retl X hr hlk (Nat.le_of_ble_eq_true rfl) (Nat.le_of_ble_eq_true rfl) rfl es.symm rfl dX6_span_40
    · have hf16 := br_y hf13 c14; clear hf13
      refine j_ldc2 X k_X6_198 dX6_span_20 ?_
      obtain ⟨er, es⟩ := rt_of hf16
      subst er
      exact j_retl X hr hlk (Nat.le_of_ble_eq_true rfl) (Nat.le_of_ble_eq_true rfl) rfl es.symm rfl dX6_span_23
abbrev rm_X6_split : Room := { frames := 5, cells := 0, slots := 0, locals := 320 }
set_option maxHeartbeats 4000000 in
set_option maxRecDepth 100000 in
theorem c_X6_split (l : Launch) (D : va_G) (cs : Nat → ClassId) (q : Nat → Nat) (a0 : Nat) (a1 : Int32) (a2 : Int32) (a3 : Int32) (a4 : Int32) (σ σ0 : HS) (r0 : Int64) (hf0 : f_X6_split a0 a1 a2 a3 a4 σ = some (r0, σ0)) : MT l yX6_split (Cond.code yX6_split cX6_split 7 (some .long) :: lw_g) rm_X6_split D cs q σ σ0 [.ref (q a0), .int a1, .int a2, .int a3, .int a4] (fun z => z = q) (fun _ => some (.long r0)) 0 0 := by
  unfold f_X6_split at hf0
  refine MT_of (cc := cX6_split) (lv0 := [(0, .ref (q a0)), (1, .int a1), (2, .int a2), (3, .int a3), (4, .int a4)]) (by decide) (Nat.le_of_ble_eq_true rfl) rfl (fun p e s m args below meth c A X hr hlk hin => ?_)
  refine j_aload_n X dX6_split_0 0 rfl rfl ?_
  refine j_iload_n X dX6_split_1 1 rfl rfl ?_
  obtain ⟨h1, hf2⟩ := chk_of hf0; clear hf0
  obtain ⟨r3, σ4, h5, hf6⟩ := bc_of hf2; clear hf2
  refine j_callV0 X [.int a1] [] (c_X6_isFormula l D cs q a0 a1 σ _ _ h5) mk_X6_isFormula mv_X6_isFormula ml_X6_180 h1 rfl (by decide) ⟨rfl, rfl⟩ ⟨Nat.le_of_ble_eq_true rfl, Nat.le_of_ble_eq_true rfl⟩ rfl (Nat.le_of_ble_eq_true rfl) ⟨Nat.le_of_ble_eq_true rfl, Nat.le_of_ble_eq_true rfl⟩ dX6_split_2 rfl (st' := [.int r3]) rfl ?_
  refine j_if_eq X (tgt := 50) dX6_split_5 (by decide) (fun c7 => ?_) (fun c7 => ?_)
  · have hf8 := br_y hf6 c7; clear hf6
    refine j_ldc2 X k_X6_198 dX6_split_50 ?_
    obtain ⟨er, es⟩ := rt_of hf8
    subst er
    exact j_retl X hr hlk (Nat.le_of_ble_eq_true rfl) (Nat.le_of_ble_eq_true rfl) rfl es.symm rfl dX6_split_53
  · have hf9 := br_n hf6 c7; clear hf6
    refine j_iload_n X dX6_split_8 2 rfl rfl ?_
    obtain ⟨r10, σ11, h12, hf13⟩ := bc_of hf9; clear hf9
    refine j_callS0 X [.int a2] [] (c_X6_isSource l D cs q a2 σ4 _ _ h12) mk_X6_isSource ms_X6_isSource ml_X6_101 ⟨rfl, rfl⟩ ⟨Nat.le_of_ble_eq_true rfl, Nat.le_of_ble_eq_true rfl⟩ rfl (Nat.le_of_ble_eq_true rfl) ⟨Nat.le_of_ble_eq_true rfl, Nat.le_of_ble_eq_true rfl⟩ dX6_split_9 rfl (st' := [.int r10]) rfl ?_
    refine j_if_eq X (tgt := 50) dX6_split_12 (by decide) (fun c14 => ?_) (fun c14 => ?_)
    · have hf15 := br_y hf13 c14; clear hf13
      refine j_ldc2 X k_X6_198 dX6_split_50 ?_
      obtain ⟨er, es⟩ := rt_of hf15
      subst er
      exact j_retl X hr hlk (Nat.le_of_ble_eq_true rfl) (Nat.le_of_ble_eq_true rfl) rfl es.symm rfl dX6_split_53
    · have hf16 := br_n hf13 c14; clear hf13
      refine j_iload_n X dX6_split_15 3 rfl rfl ?_
      refine j_i2l X dX6_split_16 ?_
      refine j_aload_n X dX6_split_17 0 rfl rfl ?_
      refine j_iload_n X dX6_split_18 2 rfl rfl ?_
      refine j_iconst X (v := 3) dX6_split_19 (by decide) ?_
      obtain ⟨h17, hf18⟩ := chk_of hf16; clear hf16
      obtain ⟨r19, σ20, h21, hf22⟩ := bc_of hf18; clear hf18
      refine j_callV0 X [.int a2, .int (3 : Int32)] [.long (a3).toInt64] (c_X6_of l D cs q a0 a2 (3 : Int32) σ11 _ _ h21) mk_X6_of mv_X6_of ml_X6_280 h17 rfl (by decide) ⟨rfl, rfl⟩ ⟨Nat.le_of_ble_eq_true rfl, Nat.le_of_ble_eq_true rfl⟩ rfl (Nat.le_of_ble_eq_true rfl) ⟨Nat.le_of_ble_eq_true rfl, Nat.le_of_ble_eq_true rfl⟩ dX6_split_20 rfl (st' := [.int r19, .long (a3).toInt64]) rfl ?_
      refine j_i2l X dX6_split_23 ?_
      refine j_aload_n X dX6_split_24 0 rfl rfl ?_
      refine j_iload_n X dX6_split_25 2 rfl rfl ?_
      refine j_iconst X (v := 4) dX6_split_26 (by decide) ?_
      obtain ⟨h23, hf24⟩ := chk_of hf22; clear hf22
      obtain ⟨r25, σ26, h27, hf28⟩ := bc_of hf24; clear hf24
      refine j_callV0 X [.int a2, .int (4 : Int32)] [.long (r19).toInt64, .long (a3).toInt64] (c_X6_of l D cs q a0 a2 (4 : Int32) σ20 _ _ h27) mk_X6_of mv_X6_of ml_X6_280 h23 rfl (by decide) ⟨rfl, rfl⟩ ⟨Nat.le_of_ble_eq_true rfl, Nat.le_of_ble_eq_true rfl⟩ rfl (Nat.le_of_ble_eq_true rfl) ⟨Nat.le_of_ble_eq_true rfl, Nat.le_of_ble_eq_true rfl⟩ dX6_split_27 rfl (st' := [.int r25, .long (r19).toInt64, .long (a3).toInt64]) rfl ?_
      refine j_i2l X dX6_split_30 ?_
      obtain ⟨r29, σ30, h31, hf32⟩ := bc_of hf28; clear hf28
      refine j_callS0 X [.long (a3).toInt64, .long (r19).toInt64, .long (r25).toInt64] [] (c_X6_isIn l D cs q (a3).toInt64 (r19).toInt64 (r25).toInt64 σ26 _ _ h31) mk_X6_isIn ms_X6_isIn ml_X6_97 ⟨rfl, rfl⟩ ⟨Nat.le_of_ble_eq_true rfl, Nat.le_of_ble_eq_true rfl⟩ rfl (Nat.le_of_ble_eq_true rfl) ⟨Nat.le_of_ble_eq_true rfl, Nat.le_of_ble_eq_true rfl⟩ dX6_split_31 rfl (st' := [.int r29]) rfl ?_
      refine j_if_eq X (tgt := 50) dX6_split_34 (by decide) (fun c33 => ?_) (fun c33 => ?_)
      · have hf34 := br_y hf32 c33; clear hf32
        refine j_ldc2 X k_X6_198 dX6_split_50 ?_
        obtain ⟨er, es⟩ := rt_of hf34
        subst er
        exact j_retl X hr hlk (Nat.le_of_ble_eq_true rfl) (Nat.le_of_ble_eq_true rfl) rfl es.symm rfl dX6_split_53
      · have hf35 := br_n hf32 c33; clear hf32
        refine j_iload X dX6_split_37 4 rfl ?_
        refine j_i2l X dX6_split_39 ?_
        refine j_lconst X (v := 0) dX6_split_40 (by decide) ?_
        refine j_ldc2 X k_X6_105 dX6_split_41 ?_
        obtain ⟨r36, σ37, h38, hf39⟩ := bc_of hf35; clear hf35
        refine j_callS0 X [.long (a4).toInt64, .long (0 : Int64), .long (2 : Int64)] [] (c_X6_isIn l D cs q (a4).toInt64 (0 : Int64) (2 : Int64) σ30 _ _ h38) mk_X6_isIn ms_X6_isIn ml_X6_97 ⟨rfl, rfl⟩ ⟨Nat.le_of_ble_eq_true rfl, Nat.le_of_ble_eq_true rfl⟩ rfl (Nat.le_of_ble_eq_true rfl) ⟨Nat.le_of_ble_eq_true rfl, Nat.le_of_ble_eq_true rfl⟩ dX6_split_44 rfl (st' := [.int r36]) rfl ?_
        refine j_if_ne X (tgt := 54) dX6_split_47 (by decide) (fun c40 => ?_) (fun c40 => ?_)
        · have hf41 := br_n hf39 c40; clear hf39
          refine j_aload_n X dX6_split_54 0 rfl rfl ?_
          refine j_iload_n X dX6_split_55 1 rfl rfl ?_
          obtain ⟨h43, hf44⟩ := chk_of hf41; clear hf41
          obtain ⟨r45, σ46, h47, hf48⟩ := bc_of hf44; clear hf44
          refine j_callV0 X [.int a1] [] (c_X6_spansNow l D cs q a0 a1 σ37 _ _ h47) mk_X6_spansNow mv_X6_spansNow ml_X6_254 h43 rfl (by decide) ⟨rfl, rfl⟩ ⟨Nat.le_of_ble_eq_true rfl, Nat.le_of_ble_eq_true rfl⟩ rfl (Nat.le_of_ble_eq_true rfl) ⟨Nat.le_of_ble_eq_true rfl, Nat.le_of_ble_eq_true rfl⟩ dX6_split_56 rfl (st' := [.int r45]) rfl ?_
          refine j_if_ne X (tgt := 66) dX6_split_59 (by decide) (fun c49 => ?_) (fun c49 => ?_)
          · have hf50 := br_n hf48 c49; clear hf48
            refine j_aload_n X dX6_split_66 0 rfl rfl ?_
            refine j_iload_n X dX6_split_67 1 rfl rfl ?_
            refine j_iload_n X dX6_split_68 2 rfl rfl ?_
            refine j_iload_n X dX6_split_69 3 rfl rfl ?_
            obtain ⟨h52, hf53⟩ := chk_of hf50; clear hf50
            obtain ⟨r54, σ55, h56, hf57⟩ := bc_of hf53; clear hf53
            refine j_callV0 X [.int a1, .int a2, .int a3] [] (c_X6_splits l D cs q a0 a1 a2 a3 σ46 _ _ h56) mk_X6_splits mv_X6_splits ml_X6_283 h52 rfl (by decide) ⟨rfl, rfl⟩ ⟨Nat.le_of_ble_eq_true rfl, Nat.le_of_ble_eq_true rfl⟩ rfl (Nat.le_of_ble_eq_true rfl) ⟨Nat.le_of_ble_eq_true rfl, Nat.le_of_ble_eq_true rfl⟩ dX6_split_70 rfl (st' := []) rfl ?_
            refine j_aload_n X dX6_split_73 0 rfl rfl ?_
            refine j_iconst X (v := 0) dX6_split_74 (by decide) ?_
            obtain ⟨h58, hf59⟩ := chk_of hf57; clear hf57
            refine j_putz X fp_X6_193 h58 (Or.inl rfl) dX6_split_75 (fun σ60 eσ60 => ?_)
            replace hf59 := lt_of hf59 σ60 eσ60
            have h62 : isO σ60 6 a0 := by rw [eσ60]; exact h58
            refine j_aload_n X dX6_split_78 0 rfl rfl ?_
            refine j_aload_n X dX6_split_79 0 rfl rfl ?_
            refine j_getl X fd_X6_277 h62 dX6_split_80 (fun v63 ev63 => ?_)
            replace hf59 := lt_of hf59 v63 ev63
            refine j_aload_n X dX6_split_83 0 rfl rfl ?_
            refine j_getl X fd_X6_274 h62 dX6_split_84 (fun v65 ev65 => ?_)
            replace hf59 := lt_of hf59 v65 ev65
            obtain ⟨r67, σ68, h69, hf70⟩ := bc_of hf59; clear hf59
            refine j_callV0 X [.long v63, .long v65] [] (c_X6_less l D cs q a0 v63 v65 σ60 _ _ h69) mk_X6_less mv_X6_less ml_X6_220 h62 rfl (by decide) ⟨rfl, rfl⟩ ⟨Nat.le_of_ble_eq_true rfl, Nat.le_of_ble_eq_true rfl⟩ rfl (Nat.le_of_ble_eq_true rfl) ⟨Nat.le_of_ble_eq_true rfl, Nat.le_of_ble_eq_true rfl⟩ dX6_split_87 rfl (st' := [.long r67]) rfl ?_
            refine j_lstore X (lv' := [(5, .long r67), (0, .ref (q a0)), (1, .int a1), (2, .int a2), (3, .int a3), (4, .int a4)]) dX6_split_90 (by decide) rfl ?_
            refine j_iload X dX6_split_92 5 rfl ?_
            refine j_if_ne X (tgt := 104) dX6_split_94 (by decide) (fun c71 => ?_) (fun c71 => ?_)
            · have hf72 := br_n hf70 c71; clear hf70
              refine j_iload X dX6_split_104 5 rfl ?_
              refine j_iconst X (v := 1) dX6_split_106 (by decide) ?_
              refine j_icmp_ne X (tgt := 117) dX6_split_107 (by decide) (fun c74 => ?_) (fun c74 => ?_)
              · have hf75 := br_n hf72 c74; clear hf72
                refine j_aload_n X dX6_split_117 1 rfl rfl ?_
                obtain ⟨h77, hf78⟩ := chk_of hf75; clear hf75
                refine j_geti X fd_X6_193 h77 dX6_split_118 (fun v79 ev79 => ?_)
                replace hf78 := lt_of hf78 v79 ev79
                refine j_if_eq X (tgt := 130) dX6_split_121 (by decide) (fun c81 => ?_) (fun c81 => ?_)
                · have hf82 := br_y hf78 c81; clear hf78
                  refine j_lload X dX6_split_130 0 rfl ?_
                  obtain ⟨er, es⟩ := rt_of hf82
                  subst er
                  exact j_retl X hr hlk (Nat.le_of_ble_eq_true rfl) (Nat.le_of_ble_eq_true rfl) rfl es.symm rfl dX6_split_132
                · have hf83 := br_n hf78 c81; clear hf78
                  refine j_ldc2 X k_X6_239 dX6_split_124 ?_
                  refine j_goto X (tgt := 132) dX6_split_127 (by decide) ?_
                  obtain ⟨er, es⟩ := rt_of hf83
                  subst er
                  exact j_retl X hr hlk (Nat.le_of_ble_eq_true rfl) (Nat.le_of_ble_eq_true rfl) rfl es.symm rfl dX6_split_132
              · have hf76 := br_y hf72 c74; clear hf72
                refine j_aload_n X dX6_split_110 1 rfl rfl ?_
                obtain ⟨h84, hf85⟩ := chk_of hf76; clear hf76
                refine j_getl X fd_X6_277 h84 dX6_split_111 (fun v86 ev86 => ?_)
                replace hf85 := lt_of hf85 v86 ev86
                refine j_goto X (tgt := 132) dX6_split_114 (by decide) ?_
                obtain ⟨er, es⟩ := rt_of hf85
                subst er
                exact j_retl X hr hlk (Nat.le_of_ble_eq_true rfl) (Nat.le_of_ble_eq_true rfl) rfl es.symm rfl dX6_split_132
            · have hf73 := br_y hf70 c71; clear hf70
              refine j_aload_n X dX6_split_97 1 rfl rfl ?_
              obtain ⟨h88, hf89⟩ := chk_of hf73; clear hf73
              refine j_getl X fd_X6_274 h88 dX6_split_98 (fun v90 ev90 => ?_)
              replace hf89 := lt_of hf89 v90 ev90
              refine j_goto X (tgt := 132) dX6_split_101 (by decide) ?_
              obtain ⟨er, es⟩ := rt_of hf89
              subst er
              exact j_retl X hr hlk (Nat.le_of_ble_eq_true rfl) (Nat.le_of_ble_eq_true rfl) rfl es.symm rfl dX6_split_132
          · have hf51 := br_y hf48 c49; clear hf48
            refine j_ldc2 X k_X6_239 dX6_split_62 ?_
            obtain ⟨er, es⟩ := rt_of hf51
            subst er
            exact j_retl X hr hlk (Nat.le_of_ble_eq_true rfl) (Nat.le_of_ble_eq_true rfl) rfl es.symm rfl dX6_split_65
        · have hf42 := br_y hf39 c40; clear hf39
          refine j_ldc2 X k_X6_198 dX6_split_50 ?_
          obtain ⟨er, es⟩ := rt_of hf42
          subst er
          exact j_retl X hr hlk (Nat.le_of_ble_eq_true rfl) (Nat.le_of_ble_eq_true rfl) rfl es.symm rfl dX6_split_53
abbrev rm_X6_tight : Room := { frames := 6, cells := 0, slots := 0, locals := 384 }
set_option maxHeartbeats 4000000 in
set_option maxRecDepth 100000 in
theorem c_X6_tight (l : Launch) (D : va_G) (cs : Nat → ClassId) (q : Nat → Nat) (a0 : Nat) (a1 : Int32) (a2 : Int32) (σ σ0 : HS) (r0 : Int64) (hf0 : f_X6_tight a0 a1 a2 σ = some (r0, σ0)) : MT l yX6_tight (Cond.code yX6_tight cX6_tight 4 (some .long) :: lw_g) rm_X6_tight D cs q σ σ0 [.ref (q a0), .int a1, .int a2] (fun z => z = q) (fun _ => some (.long r0)) 0 0 := by
  unfold f_X6_tight at hf0
  refine MT_of (cc := cX6_tight) (lv0 := [(0, .ref (q a0)), (1, .int a1), (2, .int a2)]) (by decide) (Nat.le_of_ble_eq_true rfl) rfl (fun p e s m args below meth c A X hr hlk hin => ?_)
  have L66 : ∀ (K36 : Nat → Int32 → Int32 → Int32 → HS → Option (Int64 × HS)) (hK36 : ∀ (x0 : Nat) (x1 : Int32) (x2 : Int32) (x3 : Int32) (τ : HS), K36 x0 x1 x2 x3 τ = some (r0, σ0) → J p l e rm_X6_tight s m args below meth c 4 D cs A s.heap 0 0 (MQ below (hQ D cs (fun z => z = q) (fun _ => some (.long r0)) σ0 A) args s 0 0 A) q τ [(0, .ref (q x0)), (1, .int x1), (2, .int x2), (3, .int x3)] 36 []), ∀ (nk : Nat) (x0 : Nat) (x1 : Int32) (x2 : Int32) (x3 : Int32) (τ : HS), lp_X6_tight_66 K36 nk x0 x1 x2 x3 τ = some (r0, σ0) → J p l e rm_X6_tight s m args below meth c 4 D cs A s.heap 0 0 (MQ below (hQ D cs (fun z => z = q) (fun _ => some (.long r0)) σ0 A) args s 0 0 A) q τ [(0, .ref (q x0)), (1, .int x1), (2, .int x2), (3, .int x3)] 66 [] := by
    intro K36 hK36
    intro nk
    induction nk with
    | zero => intro x0 x1 x2 x3 τ hf0; have hf1 : (none : Option (Int64 × HS)) = some (r0, σ0) := hf0; cases hf1
    | succ nk ih =>
      intro x0 x1 x2 x3 τ hf0
      replace hf0 : lp_X6_tight_66_b K36 (lp_X6_tight_66 K36 nk) x0 x1 x2 x3 τ = some (r0, σ0) := hf0
      unfold lp_X6_tight_66_b at hf0
      refine j_iload_n X dX6_tight_66 3 rfl rfl ?_
      refine j_bipush X (v := 6) dX6_tight_67 (by decide) ?_
      refine j_icmp_ge X (tgt := 145) dX6_tight_69 (by decide) (fun c39 => ?_) (fun c39 => ?_)
      · have hf40 := br_y hf0 c39; clear hf0
        refine j_aload_n X dX6_tight_145 0 rfl rfl ?_
        refine j_iload_n X dX6_tight_146 1 rfl rfl ?_
        obtain ⟨h42, hf43⟩ := chk_of hf40; clear hf40
        obtain ⟨r44, σ45, h46, hf47⟩ := bc_of hf43; clear hf43
        refine j_callV0 X [.int x1] [] (c_X6_spans l D cs q x0 x1 τ _ _ h46) mk_X6_spans mv_X6_spans ml_X6_236 h42 rfl (by decide) ⟨rfl, rfl⟩ ⟨Nat.le_of_ble_eq_true rfl, Nat.le_of_ble_eq_true rfl⟩ rfl (Nat.le_of_ble_eq_true rfl) ⟨Nat.le_of_ble_eq_true rfl, Nat.le_of_ble_eq_true rfl⟩ dX6_tight_147 rfl (st' := [.int r44]) rfl ?_
        refine j_istore_n X (lv' := [(3, .int r44), (0, .ref (q x0)), (1, .int x1), (2, .int x2)]) dX6_tight_150 rfl (by decide) rfl ?_
        refine j_iload_n X dX6_tight_151 3 rfl rfl ?_
        refine j_if_ne X (tgt := 163) dX6_tight_152 (by decide) (fun c48 => ?_) (fun c48 => ?_)
        · have hf49 := br_n hf47 c48; clear hf47
          refine j_aload_n X dX6_tight_163 1 rfl rfl ?_
          refine j_iload_n X dX6_tight_164 2 rfl rfl ?_
          obtain ⟨h51, hf52⟩ := chk_of hf49; clear hf49
          obtain ⟨r53, σ54, h55, hf56⟩ := bc_of hf52; clear hf52
          refine j_callV0 X [.int x1] [] (c_X6_highOf l D cs q x0 x1 σ45 _ _ h55) mk_X6_highOf mv_X6_highOf ml_X6_241 h51 rfl (by decide) ⟨rfl, rfl⟩ ⟨Nat.le_of_ble_eq_true rfl, Nat.le_of_ble_eq_true rfl⟩ rfl (Nat.le_of_ble_eq_true rfl) ⟨Nat.le_of_ble_eq_true rfl, Nat.le_of_ble_eq_true rfl⟩ dX6_tight_165 rfl (st' := [.long r53]) rfl ?_
          obtain ⟨er, es⟩ := rt_of hf56
          subst er
          exact j_retl X hr hlk (Nat.le_of_ble_eq_true rfl) (Nat.le_of_ble_eq_true rfl) rfl es.symm rfl dX6_tight_168
        · have hf50 := br_y hf47 c48; clear hf47
          refine j_aload_n X dX6_tight_155 1 rfl rfl ?_
          refine j_iload_n X dX6_tight_156 2 rfl rfl ?_
          obtain ⟨h57, hf58⟩ := chk_of hf50; clear hf50
          obtain ⟨r59, σ60, h61, hf62⟩ := bc_of hf58; clear hf58
          refine j_callV0 X [.int x1] [] (c_X6_lowOf l D cs q x0 x1 σ45 _ _ h61) mk_X6_lowOf mv_X6_lowOf ml_X6_245 h57 rfl (by decide) ⟨rfl, rfl⟩ ⟨Nat.le_of_ble_eq_true rfl, Nat.le_of_ble_eq_true rfl⟩ rfl (Nat.le_of_ble_eq_true rfl) ⟨Nat.le_of_ble_eq_true rfl, Nat.le_of_ble_eq_true rfl⟩ dX6_tight_157 rfl (st' := [.long r59]) rfl ?_
          refine j_goto X (tgt := 168) dX6_tight_160 (by decide) ?_
          obtain ⟨er, es⟩ := rt_of hf62
          subst er
          exact j_retl X hr hlk (Nat.le_of_ble_eq_true rfl) (Nat.le_of_ble_eq_true rfl) rfl es.symm rfl dX6_tight_168
      · have hf41 := br_n hf0 c39; clear hf0
        refine j_aload_n X dX6_tight_72 0 rfl rfl ?_
        obtain ⟨h63, hf64⟩ := chk_of hf41; clear hf41
        obtain ⟨i65, h66, hf67⟩ := bd_of hf64; clear hf64
        refine j_getr X fd_X6_77 h63 h66 dX6_tight_73 ?_
        refine j_iload_n X dX6_tight_76 3 rfl rfl ?_
        obtain ⟨h68, hf69⟩ := chk_of hf67; clear hf67
        refine j_iald X h68 dX6_tight_77 (fun v70 ev70 => ?_)
        replace hf69 := lt_of hf69 v70 ev70
        refine j_iconst X (v := 1) dX6_tight_78 (by decide) ?_
        refine j_icmp_eq X (tgt := 92) dX6_tight_79 (by decide) (fun c72 => ?_) (fun c72 => ?_)
        · have hf73 := br_y hf69 c72; clear hf69
          refine j_aload_n X dX6_tight_92 0 rfl rfl ?_
          refine j_iload_n X dX6_tight_93 3 rfl rfl ?_
          refine j_aload_n X dX6_tight_94 0 rfl rfl ?_
          refine j_getr X fd_X6_77 h63 h66 dX6_tight_95 ?_
          refine j_iload_n X dX6_tight_98 3 rfl rfl ?_
          obtain ⟨h78, hf79⟩ := chk_of hf73; clear hf73
          refine j_iald X h78 dX6_tight_99 (fun v80 ev80 => ?_)
          replace hf79 := lt_of hf79 v80 ev80
          refine j_iconst X (v := 1) dX6_tight_100 (by decide) ?_
          refine j_icmp_ne X (tgt := 108) dX6_tight_101 (by decide) (fun c82 => ?_) (fun c82 => ?_)
          · have hf83 := br_n hf79 c82; clear hf79
            refine j_iconst X (v := 0) dX6_tight_108 (by decide) ?_
            refine j_iload_n X dX6_tight_109 2 rfl rfl ?_
            refine j_if_ne X (tgt := 117) dX6_tight_110 (by decide) (fun c85 => ?_) (fun c85 => ?_)
            · have hf86 := br_n hf83 c85; clear hf83
              refine j_iconst X (v := 0) dX6_tight_117 (by decide) ?_
              refine j_icmp_ne X (tgt := 130) dX6_tight_118 (by decide) (fun c88 => ?_) (fun c88 => ?_)
              · have hf89 := br_n hf86 c88; clear hf86
                refine j_aload_n X dX6_tight_130 0 rfl rfl ?_
                obtain ⟨i91, h92, hf93⟩ := bd_of hf89; clear hf89
                refine j_getr X fd_X6_54 h63 h92 dX6_tight_131 ?_
                refine j_iload_n X dX6_tight_134 3 rfl rfl ?_
                obtain ⟨h94, hf95⟩ := chk_of hf93; clear hf93
                refine j_iald X h94 dX6_tight_135 (fun v96 ev96 => ?_)
                replace hf95 := lt_of hf95 v96 ev96
                obtain ⟨r98, σ99, h100, hf101⟩ := bc_of hf95; clear hf95
                refine j_callV0 X [.int x3, .int v96] [] (c_X6_laysPoint l D cs q x0 x3 v96 τ _ _ h100) mk_X6_laysPoint mv_X6_laysPoint ml_X6_264 h63 rfl (by decide) ⟨rfl, rfl⟩ ⟨Nat.le_of_ble_eq_true rfl, Nat.le_of_ble_eq_true rfl⟩ rfl (Nat.le_of_ble_eq_true rfl) ⟨Nat.le_of_ble_eq_true rfl, Nat.le_of_ble_eq_true rfl⟩ dX6_tight_136 rfl (st' := []) rfl ?_
                obtain ⟨v102, ev102⟩ : ∃ y : Int32, y = x3 + (1 : Int32) := ⟨_, rfl⟩
                replace hf101 := lt_of hf101 v102 ev102
                refine j_iinc X (v := v102) (lv' := [(3, .int v102), (0, .ref (q x0)), (1, .int x1), (2, .int x2)]) dX6_tight_139 3 rfl (by rw [ev102]; rfl) (by decide) rfl ?_
                refine j_goto X (tgt := 66) dX6_tight_142 (by decide) ?_
                refine j_lvsub [1, 2, 3, 0] (lv' := [(0, .ref (q x0)), (1, .int x1), (2, .int x2), (3, .int v102)]) rfl ?_
                exact ih x0 x1 x2 v102 σ99 hf101
              · have hf90 := br_y hf86 c88; clear hf86
                refine j_aload_n X dX6_tight_121 0 rfl rfl ?_
                obtain ⟨i104, h105, hf106⟩ := bd_of hf90; clear hf90
                refine j_getr X fd_X6_51 h63 h105 dX6_tight_122 ?_
                refine j_iload_n X dX6_tight_125 3 rfl rfl ?_
                obtain ⟨h107, hf108⟩ := chk_of hf106; clear hf106
                refine j_iald X h107 dX6_tight_126 (fun v109 ev109 => ?_)
                replace hf108 := lt_of hf108 v109 ev109
                refine j_goto X (tgt := 136) dX6_tight_127 (by decide) ?_
                obtain ⟨r111, σ112, h113, hf114⟩ := bc_of hf108; clear hf108
                refine j_callV0 X [.int x3, .int v109] [] (c_X6_laysPoint l D cs q x0 x3 v109 τ _ _ h113) mk_X6_laysPoint mv_X6_laysPoint ml_X6_264 h63 rfl (by decide) ⟨rfl, rfl⟩ ⟨Nat.le_of_ble_eq_true rfl, Nat.le_of_ble_eq_true rfl⟩ rfl (Nat.le_of_ble_eq_true rfl) ⟨Nat.le_of_ble_eq_true rfl, Nat.le_of_ble_eq_true rfl⟩ dX6_tight_136 rfl (st' := []) rfl ?_
                obtain ⟨v115, ev115⟩ : ∃ y : Int32, y = x3 + (1 : Int32) := ⟨_, rfl⟩
                replace hf114 := lt_of hf114 v115 ev115
                refine j_iinc X (v := v115) (lv' := [(3, .int v115), (0, .ref (q x0)), (1, .int x1), (2, .int x2)]) dX6_tight_139 3 rfl (by rw [ev115]; rfl) (by decide) rfl ?_
                refine j_goto X (tgt := 66) dX6_tight_142 (by decide) ?_
                refine j_lvsub [1, 2, 3, 0] (lv' := [(0, .ref (q x0)), (1, .int x1), (2, .int x2), (3, .int v115)]) rfl ?_
                exact ih x0 x1 x2 v115 σ112 hf114
            · have hf87 := br_y hf83 c85; clear hf83
              refine j_iconst X (v := 1) dX6_tight_113 (by decide) ?_
              refine j_goto X (tgt := 118) dX6_tight_114 (by decide) ?_
              refine j_icmp_ne X (tgt := 130) dX6_tight_118 (by decide) (fun c117 => ?_) (fun c117 => ?_)
              · have hf118 := br_n hf87 c117; clear hf87
                refine j_aload_n X dX6_tight_130 0 rfl rfl ?_
                obtain ⟨i120, h121, hf122⟩ := bd_of hf118; clear hf118
                refine j_getr X fd_X6_54 h63 h121 dX6_tight_131 ?_
                refine j_iload_n X dX6_tight_134 3 rfl rfl ?_
                obtain ⟨h123, hf124⟩ := chk_of hf122; clear hf122
                refine j_iald X h123 dX6_tight_135 (fun v125 ev125 => ?_)
                replace hf124 := lt_of hf124 v125 ev125
                obtain ⟨r127, σ128, h129, hf130⟩ := bc_of hf124; clear hf124
                refine j_callV0 X [.int x3, .int v125] [] (c_X6_laysPoint l D cs q x0 x3 v125 τ _ _ h129) mk_X6_laysPoint mv_X6_laysPoint ml_X6_264 h63 rfl (by decide) ⟨rfl, rfl⟩ ⟨Nat.le_of_ble_eq_true rfl, Nat.le_of_ble_eq_true rfl⟩ rfl (Nat.le_of_ble_eq_true rfl) ⟨Nat.le_of_ble_eq_true rfl, Nat.le_of_ble_eq_true rfl⟩ dX6_tight_136 rfl (st' := []) rfl ?_
                obtain ⟨v131, ev131⟩ : ∃ y : Int32, y = x3 + (1 : Int32) := ⟨_, rfl⟩
                replace hf130 := lt_of hf130 v131 ev131
                refine j_iinc X (v := v131) (lv' := [(3, .int v131), (0, .ref (q x0)), (1, .int x1), (2, .int x2)]) dX6_tight_139 3 rfl (by rw [ev131]; rfl) (by decide) rfl ?_
                refine j_goto X (tgt := 66) dX6_tight_142 (by decide) ?_
                refine j_lvsub [1, 2, 3, 0] (lv' := [(0, .ref (q x0)), (1, .int x1), (2, .int x2), (3, .int v131)]) rfl ?_
                exact ih x0 x1 x2 v131 σ128 hf130
              · have hf119 := br_y hf87 c117; clear hf87
                refine j_aload_n X dX6_tight_121 0 rfl rfl ?_
                obtain ⟨i133, h134, hf135⟩ := bd_of hf119; clear hf119
                refine j_getr X fd_X6_51 h63 h134 dX6_tight_122 ?_
                refine j_iload_n X dX6_tight_125 3 rfl rfl ?_
                obtain ⟨h136, hf137⟩ := chk_of hf135; clear hf135
                refine j_iald X h136 dX6_tight_126 (fun v138 ev138 => ?_)
                replace hf137 := lt_of hf137 v138 ev138
                refine j_goto X (tgt := 136) dX6_tight_127 (by decide) ?_
                obtain ⟨r140, σ141, h142, hf143⟩ := bc_of hf137; clear hf137
                refine j_callV0 X [.int x3, .int v138] [] (c_X6_laysPoint l D cs q x0 x3 v138 τ _ _ h142) mk_X6_laysPoint mv_X6_laysPoint ml_X6_264 h63 rfl (by decide) ⟨rfl, rfl⟩ ⟨Nat.le_of_ble_eq_true rfl, Nat.le_of_ble_eq_true rfl⟩ rfl (Nat.le_of_ble_eq_true rfl) ⟨Nat.le_of_ble_eq_true rfl, Nat.le_of_ble_eq_true rfl⟩ dX6_tight_136 rfl (st' := []) rfl ?_
                obtain ⟨v144, ev144⟩ : ∃ y : Int32, y = x3 + (1 : Int32) := ⟨_, rfl⟩
                replace hf143 := lt_of hf143 v144 ev144
                refine j_iinc X (v := v144) (lv' := [(3, .int v144), (0, .ref (q x0)), (1, .int x1), (2, .int x2)]) dX6_tight_139 3 rfl (by rw [ev144]; rfl) (by decide) rfl ?_
                refine j_goto X (tgt := 66) dX6_tight_142 (by decide) ?_
                refine j_lvsub [1, 2, 3, 0] (lv' := [(0, .ref (q x0)), (1, .int x1), (2, .int x2), (3, .int v144)]) rfl ?_
                exact ih x0 x1 x2 v144 σ141 hf143
          · have hf84 := br_y hf79 c82; clear hf79
            refine j_iconst X (v := 1) dX6_tight_104 (by decide) ?_
            refine j_goto X (tgt := 109) dX6_tight_105 (by decide) ?_
            refine j_iload_n X dX6_tight_109 2 rfl rfl ?_
            refine j_if_ne X (tgt := 117) dX6_tight_110 (by decide) (fun c146 => ?_) (fun c146 => ?_)
            · have hf147 := br_n hf84 c146; clear hf84
              refine j_iconst X (v := 0) dX6_tight_117 (by decide) ?_
              refine j_icmp_ne X (tgt := 130) dX6_tight_118 (by decide) (fun c149 => ?_) (fun c149 => ?_)
              · have hf150 := br_n hf147 c149; clear hf147
                refine j_aload_n X dX6_tight_130 0 rfl rfl ?_
                obtain ⟨i152, h153, hf154⟩ := bd_of hf150; clear hf150
                refine j_getr X fd_X6_54 h63 h153 dX6_tight_131 ?_
                refine j_iload_n X dX6_tight_134 3 rfl rfl ?_
                obtain ⟨h155, hf156⟩ := chk_of hf154; clear hf154
                refine j_iald X h155 dX6_tight_135 (fun v157 ev157 => ?_)
                replace hf156 := lt_of hf156 v157 ev157
                obtain ⟨r159, σ160, h161, hf162⟩ := bc_of hf156; clear hf156
                refine j_callV0 X [.int x3, .int v157] [] (c_X6_laysPoint l D cs q x0 x3 v157 τ _ _ h161) mk_X6_laysPoint mv_X6_laysPoint ml_X6_264 h63 rfl (by decide) ⟨rfl, rfl⟩ ⟨Nat.le_of_ble_eq_true rfl, Nat.le_of_ble_eq_true rfl⟩ rfl (Nat.le_of_ble_eq_true rfl) ⟨Nat.le_of_ble_eq_true rfl, Nat.le_of_ble_eq_true rfl⟩ dX6_tight_136 rfl (st' := []) rfl ?_
                obtain ⟨v163, ev163⟩ : ∃ y : Int32, y = x3 + (1 : Int32) := ⟨_, rfl⟩
                replace hf162 := lt_of hf162 v163 ev163
                refine j_iinc X (v := v163) (lv' := [(3, .int v163), (0, .ref (q x0)), (1, .int x1), (2, .int x2)]) dX6_tight_139 3 rfl (by rw [ev163]; rfl) (by decide) rfl ?_
                refine j_goto X (tgt := 66) dX6_tight_142 (by decide) ?_
                refine j_lvsub [1, 2, 3, 0] (lv' := [(0, .ref (q x0)), (1, .int x1), (2, .int x2), (3, .int v163)]) rfl ?_
                exact ih x0 x1 x2 v163 σ160 hf162
              · have hf151 := br_y hf147 c149; clear hf147
                refine j_aload_n X dX6_tight_121 0 rfl rfl ?_
                obtain ⟨i165, h166, hf167⟩ := bd_of hf151; clear hf151
                refine j_getr X fd_X6_51 h63 h166 dX6_tight_122 ?_
                refine j_iload_n X dX6_tight_125 3 rfl rfl ?_
                obtain ⟨h168, hf169⟩ := chk_of hf167; clear hf167
                refine j_iald X h168 dX6_tight_126 (fun v170 ev170 => ?_)
                replace hf169 := lt_of hf169 v170 ev170
                refine j_goto X (tgt := 136) dX6_tight_127 (by decide) ?_
                obtain ⟨r172, σ173, h174, hf175⟩ := bc_of hf169; clear hf169
                refine j_callV0 X [.int x3, .int v170] [] (c_X6_laysPoint l D cs q x0 x3 v170 τ _ _ h174) mk_X6_laysPoint mv_X6_laysPoint ml_X6_264 h63 rfl (by decide) ⟨rfl, rfl⟩ ⟨Nat.le_of_ble_eq_true rfl, Nat.le_of_ble_eq_true rfl⟩ rfl (Nat.le_of_ble_eq_true rfl) ⟨Nat.le_of_ble_eq_true rfl, Nat.le_of_ble_eq_true rfl⟩ dX6_tight_136 rfl (st' := []) rfl ?_
                obtain ⟨v176, ev176⟩ : ∃ y : Int32, y = x3 + (1 : Int32) := ⟨_, rfl⟩
                replace hf175 := lt_of hf175 v176 ev176
                refine j_iinc X (v := v176) (lv' := [(3, .int v176), (0, .ref (q x0)), (1, .int x1), (2, .int x2)]) dX6_tight_139 3 rfl (by rw [ev176]; rfl) (by decide) rfl ?_
                refine j_goto X (tgt := 66) dX6_tight_142 (by decide) ?_
                refine j_lvsub [1, 2, 3, 0] (lv' := [(0, .ref (q x0)), (1, .int x1), (2, .int x2), (3, .int v176)]) rfl ?_
                exact ih x0 x1 x2 v176 σ173 hf175
            · have hf148 := br_y hf84 c146; clear hf84
              refine j_iconst X (v := 1) dX6_tight_113 (by decide) ?_
              refine j_goto X (tgt := 118) dX6_tight_114 (by decide) ?_
              refine j_icmp_ne X (tgt := 130) dX6_tight_118 (by decide) (fun c178 => ?_) (fun c178 => ?_)
              · have hf179 := br_n hf148 c178; clear hf148
                refine j_aload_n X dX6_tight_130 0 rfl rfl ?_
                obtain ⟨i181, h182, hf183⟩ := bd_of hf179; clear hf179
                refine j_getr X fd_X6_54 h63 h182 dX6_tight_131 ?_
                refine j_iload_n X dX6_tight_134 3 rfl rfl ?_
                obtain ⟨h184, hf185⟩ := chk_of hf183; clear hf183
                refine j_iald X h184 dX6_tight_135 (fun v186 ev186 => ?_)
                replace hf185 := lt_of hf185 v186 ev186
                obtain ⟨r188, σ189, h190, hf191⟩ := bc_of hf185; clear hf185
                refine j_callV0 X [.int x3, .int v186] [] (c_X6_laysPoint l D cs q x0 x3 v186 τ _ _ h190) mk_X6_laysPoint mv_X6_laysPoint ml_X6_264 h63 rfl (by decide) ⟨rfl, rfl⟩ ⟨Nat.le_of_ble_eq_true rfl, Nat.le_of_ble_eq_true rfl⟩ rfl (Nat.le_of_ble_eq_true rfl) ⟨Nat.le_of_ble_eq_true rfl, Nat.le_of_ble_eq_true rfl⟩ dX6_tight_136 rfl (st' := []) rfl ?_
                obtain ⟨v192, ev192⟩ : ∃ y : Int32, y = x3 + (1 : Int32) := ⟨_, rfl⟩
                replace hf191 := lt_of hf191 v192 ev192
                refine j_iinc X (v := v192) (lv' := [(3, .int v192), (0, .ref (q x0)), (1, .int x1), (2, .int x2)]) dX6_tight_139 3 rfl (by rw [ev192]; rfl) (by decide) rfl ?_
                refine j_goto X (tgt := 66) dX6_tight_142 (by decide) ?_
                refine j_lvsub [1, 2, 3, 0] (lv' := [(0, .ref (q x0)), (1, .int x1), (2, .int x2), (3, .int v192)]) rfl ?_
                exact ih x0 x1 x2 v192 σ189 hf191
              · have hf180 := br_y hf148 c178; clear hf148
                refine j_aload_n X dX6_tight_121 0 rfl rfl ?_
                obtain ⟨i194, h195, hf196⟩ := bd_of hf180; clear hf180
                refine j_getr X fd_X6_51 h63 h195 dX6_tight_122 ?_
                refine j_iload_n X dX6_tight_125 3 rfl rfl ?_
                obtain ⟨h197, hf198⟩ := chk_of hf196; clear hf196
                refine j_iald X h197 dX6_tight_126 (fun v199 ev199 => ?_)
                replace hf198 := lt_of hf198 v199 ev199
                refine j_goto X (tgt := 136) dX6_tight_127 (by decide) ?_
                obtain ⟨r201, σ202, h203, hf204⟩ := bc_of hf198; clear hf198
                refine j_callV0 X [.int x3, .int v199] [] (c_X6_laysPoint l D cs q x0 x3 v199 τ _ _ h203) mk_X6_laysPoint mv_X6_laysPoint ml_X6_264 h63 rfl (by decide) ⟨rfl, rfl⟩ ⟨Nat.le_of_ble_eq_true rfl, Nat.le_of_ble_eq_true rfl⟩ rfl (Nat.le_of_ble_eq_true rfl) ⟨Nat.le_of_ble_eq_true rfl, Nat.le_of_ble_eq_true rfl⟩ dX6_tight_136 rfl (st' := []) rfl ?_
                obtain ⟨v205, ev205⟩ : ∃ y : Int32, y = x3 + (1 : Int32) := ⟨_, rfl⟩
                replace hf204 := lt_of hf204 v205 ev205
                refine j_iinc X (v := v205) (lv' := [(3, .int v205), (0, .ref (q x0)), (1, .int x1), (2, .int x2)]) dX6_tight_139 3 rfl (by rw [ev205]; rfl) (by decide) rfl ?_
                refine j_goto X (tgt := 66) dX6_tight_142 (by decide) ?_
                refine j_lvsub [1, 2, 3, 0] (lv' := [(0, .ref (q x0)), (1, .int x1), (2, .int x2), (3, .int v205)]) rfl ?_
                exact ih x0 x1 x2 v205 σ202 hf204
        · have hf74 := br_n hf69 c72; clear hf69
          refine j_aload_n X dX6_tight_82 0 rfl rfl ?_
          refine j_getr X fd_X6_77 h63 h66 dX6_tight_83 ?_
          refine j_iload_n X dX6_tight_86 3 rfl rfl ?_
          obtain ⟨h210, hf211⟩ := chk_of hf74; clear hf74
          refine j_iald X h210 dX6_tight_87 (fun v212 ev212 => ?_)
          replace hf211 := lt_of hf211 v212 ev212
          refine j_iconst X (v := 2) dX6_tight_88 (by decide) ?_
          refine j_icmp_ne X (tgt := 139) dX6_tight_89 (by decide) (fun c214 => ?_) (fun c214 => ?_)
          · have hf215 := br_n hf211 c214; clear hf211
            obtain ⟨v217, ev217⟩ : ∃ y : Int32, y = x3 + (1 : Int32) := ⟨_, rfl⟩
            replace hf215 := lt_of hf215 v217 ev217
            refine j_iinc X (v := v217) (lv' := [(3, .int v217), (0, .ref (q x0)), (1, .int x1), (2, .int x2)]) dX6_tight_139 3 rfl (by rw [ev217]; rfl) (by decide) rfl ?_
            refine j_goto X (tgt := 66) dX6_tight_142 (by decide) ?_
            refine j_lvsub [1, 2, 3, 0] (lv' := [(0, .ref (q x0)), (1, .int x1), (2, .int x2), (3, .int v217)]) rfl ?_
            exact ih x0 x1 x2 v217 τ hf215
          · have hf216 := br_y hf211 c214; clear hf211
            refine j_aload_n X dX6_tight_92 0 rfl rfl ?_
            refine j_iload_n X dX6_tight_93 3 rfl rfl ?_
            refine j_aload_n X dX6_tight_94 0 rfl rfl ?_
            refine j_getr X fd_X6_77 h63 h66 dX6_tight_95 ?_
            refine j_iload_n X dX6_tight_98 3 rfl rfl ?_
            obtain ⟨h222, hf223⟩ := chk_of hf216; clear hf216
            refine j_iald X h222 dX6_tight_99 (fun v224 ev224 => ?_)
            replace hf223 := lt_of hf223 v224 ev224
            refine j_iconst X (v := 1) dX6_tight_100 (by decide) ?_
            refine j_icmp_ne X (tgt := 108) dX6_tight_101 (by decide) (fun c226 => ?_) (fun c226 => ?_)
            · have hf227 := br_n hf223 c226; clear hf223
              refine j_iconst X (v := 0) dX6_tight_108 (by decide) ?_
              refine j_iload_n X dX6_tight_109 2 rfl rfl ?_
              refine j_if_ne X (tgt := 117) dX6_tight_110 (by decide) (fun c229 => ?_) (fun c229 => ?_)
              · have hf230 := br_n hf227 c229; clear hf227
                refine j_iconst X (v := 0) dX6_tight_117 (by decide) ?_
                refine j_icmp_ne X (tgt := 130) dX6_tight_118 (by decide) (fun c232 => ?_) (fun c232 => ?_)
                · have hf233 := br_n hf230 c232; clear hf230
                  refine j_aload_n X dX6_tight_130 0 rfl rfl ?_
                  obtain ⟨i235, h236, hf237⟩ := bd_of hf233; clear hf233
                  refine j_getr X fd_X6_54 h63 h236 dX6_tight_131 ?_
                  refine j_iload_n X dX6_tight_134 3 rfl rfl ?_
                  obtain ⟨h238, hf239⟩ := chk_of hf237; clear hf237
                  refine j_iald X h238 dX6_tight_135 (fun v240 ev240 => ?_)
                  replace hf239 := lt_of hf239 v240 ev240
                  obtain ⟨r242, σ243, h244, hf245⟩ := bc_of hf239; clear hf239
                  refine j_callV0 X [.int x3, .int v240] [] (c_X6_laysPoint l D cs q x0 x3 v240 τ _ _ h244) mk_X6_laysPoint mv_X6_laysPoint ml_X6_264 h63 rfl (by decide) ⟨rfl, rfl⟩ ⟨Nat.le_of_ble_eq_true rfl, Nat.le_of_ble_eq_true rfl⟩ rfl (Nat.le_of_ble_eq_true rfl) ⟨Nat.le_of_ble_eq_true rfl, Nat.le_of_ble_eq_true rfl⟩ dX6_tight_136 rfl (st' := []) rfl ?_
                  obtain ⟨v246, ev246⟩ : ∃ y : Int32, y = x3 + (1 : Int32) := ⟨_, rfl⟩
                  replace hf245 := lt_of hf245 v246 ev246
                  refine j_iinc X (v := v246) (lv' := [(3, .int v246), (0, .ref (q x0)), (1, .int x1), (2, .int x2)]) dX6_tight_139 3 rfl (by rw [ev246]; rfl) (by decide) rfl ?_
                  refine j_goto X (tgt := 66) dX6_tight_142 (by decide) ?_
                  refine j_lvsub [1, 2, 3, 0] (lv' := [(0, .ref (q x0)), (1, .int x1), (2, .int x2), (3, .int v246)]) rfl ?_
                  exact ih x0 x1 x2 v246 σ243 hf245
                · have hf234 := br_y hf230 c232; clear hf230
                  refine j_aload_n X dX6_tight_121 0 rfl rfl ?_
                  obtain ⟨i248, h249, hf250⟩ := bd_of hf234; clear hf234
                  refine j_getr X fd_X6_51 h63 h249 dX6_tight_122 ?_
                  refine j_iload_n X dX6_tight_125 3 rfl rfl ?_
                  obtain ⟨h251, hf252⟩ := chk_of hf250; clear hf250
                  refine j_iald X h251 dX6_tight_126 (fun v253 ev253 => ?_)
                  replace hf252 := lt_of hf252 v253 ev253
                  refine j_goto X (tgt := 136) dX6_tight_127 (by decide) ?_
                  obtain ⟨r255, σ256, h257, hf258⟩ := bc_of hf252; clear hf252
                  refine j_callV0 X [.int x3, .int v253] [] (c_X6_laysPoint l D cs q x0 x3 v253 τ _ _ h257) mk_X6_laysPoint mv_X6_laysPoint ml_X6_264 h63 rfl (by decide) ⟨rfl, rfl⟩ ⟨Nat.le_of_ble_eq_true rfl, Nat.le_of_ble_eq_true rfl⟩ rfl (Nat.le_of_ble_eq_true rfl) ⟨Nat.le_of_ble_eq_true rfl, Nat.le_of_ble_eq_true rfl⟩ dX6_tight_136 rfl (st' := []) rfl ?_
                  obtain ⟨v259, ev259⟩ : ∃ y : Int32, y = x3 + (1 : Int32) := ⟨_, rfl⟩
                  replace hf258 := lt_of hf258 v259 ev259
                  refine j_iinc X (v := v259) (lv' := [(3, .int v259), (0, .ref (q x0)), (1, .int x1), (2, .int x2)]) dX6_tight_139 3 rfl (by rw [ev259]; rfl) (by decide) rfl ?_
                  refine j_goto X (tgt := 66) dX6_tight_142 (by decide) ?_
                  refine j_lvsub [1, 2, 3, 0] (lv' := [(0, .ref (q x0)), (1, .int x1), (2, .int x2), (3, .int v259)]) rfl ?_
                  exact ih x0 x1 x2 v259 σ256 hf258
              · have hf231 := br_y hf227 c229; clear hf227
                refine j_iconst X (v := 1) dX6_tight_113 (by decide) ?_
                refine j_goto X (tgt := 118) dX6_tight_114 (by decide) ?_
                refine j_icmp_ne X (tgt := 130) dX6_tight_118 (by decide) (fun c261 => ?_) (fun c261 => ?_)
                · have hf262 := br_n hf231 c261; clear hf231
                  refine j_aload_n X dX6_tight_130 0 rfl rfl ?_
                  obtain ⟨i264, h265, hf266⟩ := bd_of hf262; clear hf262
                  refine j_getr X fd_X6_54 h63 h265 dX6_tight_131 ?_
                  refine j_iload_n X dX6_tight_134 3 rfl rfl ?_
                  obtain ⟨h267, hf268⟩ := chk_of hf266; clear hf266
                  refine j_iald X h267 dX6_tight_135 (fun v269 ev269 => ?_)
                  replace hf268 := lt_of hf268 v269 ev269
                  obtain ⟨r271, σ272, h273, hf274⟩ := bc_of hf268; clear hf268
                  refine j_callV0 X [.int x3, .int v269] [] (c_X6_laysPoint l D cs q x0 x3 v269 τ _ _ h273) mk_X6_laysPoint mv_X6_laysPoint ml_X6_264 h63 rfl (by decide) ⟨rfl, rfl⟩ ⟨Nat.le_of_ble_eq_true rfl, Nat.le_of_ble_eq_true rfl⟩ rfl (Nat.le_of_ble_eq_true rfl) ⟨Nat.le_of_ble_eq_true rfl, Nat.le_of_ble_eq_true rfl⟩ dX6_tight_136 rfl (st' := []) rfl ?_
                  obtain ⟨v275, ev275⟩ : ∃ y : Int32, y = x3 + (1 : Int32) := ⟨_, rfl⟩
                  replace hf274 := lt_of hf274 v275 ev275
                  refine j_iinc X (v := v275) (lv' := [(3, .int v275), (0, .ref (q x0)), (1, .int x1), (2, .int x2)]) dX6_tight_139 3 rfl (by rw [ev275]; rfl) (by decide) rfl ?_
                  refine j_goto X (tgt := 66) dX6_tight_142 (by decide) ?_
                  refine j_lvsub [1, 2, 3, 0] (lv' := [(0, .ref (q x0)), (1, .int x1), (2, .int x2), (3, .int v275)]) rfl ?_
                  exact ih x0 x1 x2 v275 σ272 hf274
                · have hf263 := br_y hf231 c261; clear hf231
                  refine j_aload_n X dX6_tight_121 0 rfl rfl ?_
                  obtain ⟨i277, h278, hf279⟩ := bd_of hf263; clear hf263
                  refine j_getr X fd_X6_51 h63 h278 dX6_tight_122 ?_
                  refine j_iload_n X dX6_tight_125 3 rfl rfl ?_
                  obtain ⟨h280, hf281⟩ := chk_of hf279; clear hf279
                  refine j_iald X h280 dX6_tight_126 (fun v282 ev282 => ?_)
                  replace hf281 := lt_of hf281 v282 ev282
                  refine j_goto X (tgt := 136) dX6_tight_127 (by decide) ?_
                  obtain ⟨r284, σ285, h286, hf287⟩ := bc_of hf281; clear hf281
                  refine j_callV0 X [.int x3, .int v282] [] (c_X6_laysPoint l D cs q x0 x3 v282 τ _ _ h286) mk_X6_laysPoint mv_X6_laysPoint ml_X6_264 h63 rfl (by decide) ⟨rfl, rfl⟩ ⟨Nat.le_of_ble_eq_true rfl, Nat.le_of_ble_eq_true rfl⟩ rfl (Nat.le_of_ble_eq_true rfl) ⟨Nat.le_of_ble_eq_true rfl, Nat.le_of_ble_eq_true rfl⟩ dX6_tight_136 rfl (st' := []) rfl ?_
                  obtain ⟨v288, ev288⟩ : ∃ y : Int32, y = x3 + (1 : Int32) := ⟨_, rfl⟩
                  replace hf287 := lt_of hf287 v288 ev288
                  refine j_iinc X (v := v288) (lv' := [(3, .int v288), (0, .ref (q x0)), (1, .int x1), (2, .int x2)]) dX6_tight_139 3 rfl (by rw [ev288]; rfl) (by decide) rfl ?_
                  refine j_goto X (tgt := 66) dX6_tight_142 (by decide) ?_
                  refine j_lvsub [1, 2, 3, 0] (lv' := [(0, .ref (q x0)), (1, .int x1), (2, .int x2), (3, .int v288)]) rfl ?_
                  exact ih x0 x1 x2 v288 σ285 hf287
            · have hf228 := br_y hf223 c226; clear hf223
              refine j_iconst X (v := 1) dX6_tight_104 (by decide) ?_
              refine j_goto X (tgt := 109) dX6_tight_105 (by decide) ?_
              refine j_iload_n X dX6_tight_109 2 rfl rfl ?_
              refine j_if_ne X (tgt := 117) dX6_tight_110 (by decide) (fun c290 => ?_) (fun c290 => ?_)
              · have hf291 := br_n hf228 c290; clear hf228
                refine j_iconst X (v := 0) dX6_tight_117 (by decide) ?_
                refine j_icmp_ne X (tgt := 130) dX6_tight_118 (by decide) (fun c293 => ?_) (fun c293 => ?_)
                · have hf294 := br_n hf291 c293; clear hf291
                  refine j_aload_n X dX6_tight_130 0 rfl rfl ?_
                  obtain ⟨i296, h297, hf298⟩ := bd_of hf294; clear hf294
                  refine j_getr X fd_X6_54 h63 h297 dX6_tight_131 ?_
                  refine j_iload_n X dX6_tight_134 3 rfl rfl ?_
                  obtain ⟨h299, hf300⟩ := chk_of hf298; clear hf298
                  refine j_iald X h299 dX6_tight_135 (fun v301 ev301 => ?_)
                  replace hf300 := lt_of hf300 v301 ev301
                  obtain ⟨r303, σ304, h305, hf306⟩ := bc_of hf300; clear hf300
                  refine j_callV0 X [.int x3, .int v301] [] (c_X6_laysPoint l D cs q x0 x3 v301 τ _ _ h305) mk_X6_laysPoint mv_X6_laysPoint ml_X6_264 h63 rfl (by decide) ⟨rfl, rfl⟩ ⟨Nat.le_of_ble_eq_true rfl, Nat.le_of_ble_eq_true rfl⟩ rfl (Nat.le_of_ble_eq_true rfl) ⟨Nat.le_of_ble_eq_true rfl, Nat.le_of_ble_eq_true rfl⟩ dX6_tight_136 rfl (st' := []) rfl ?_
                  obtain ⟨v307, ev307⟩ : ∃ y : Int32, y = x3 + (1 : Int32) := ⟨_, rfl⟩
                  replace hf306 := lt_of hf306 v307 ev307
                  refine j_iinc X (v := v307) (lv' := [(3, .int v307), (0, .ref (q x0)), (1, .int x1), (2, .int x2)]) dX6_tight_139 3 rfl (by rw [ev307]; rfl) (by decide) rfl ?_
                  refine j_goto X (tgt := 66) dX6_tight_142 (by decide) ?_
                  refine j_lvsub [1, 2, 3, 0] (lv' := [(0, .ref (q x0)), (1, .int x1), (2, .int x2), (3, .int v307)]) rfl ?_
                  exact ih x0 x1 x2 v307 σ304 hf306
                · have hf295 := br_y hf291 c293; clear hf291
                  refine j_aload_n X dX6_tight_121 0 rfl rfl ?_
                  obtain ⟨i309, h310, hf311⟩ := bd_of hf295; clear hf295
                  refine j_getr X fd_X6_51 h63 h310 dX6_tight_122 ?_
                  refine j_iload_n X dX6_tight_125 3 rfl rfl ?_
                  obtain ⟨h312, hf313⟩ := chk_of hf311; clear hf311
                  refine j_iald X h312 dX6_tight_126 (fun v314 ev314 => ?_)
                  replace hf313 := lt_of hf313 v314 ev314
                  refine j_goto X (tgt := 136) dX6_tight_127 (by decide) ?_
                  obtain ⟨r316, σ317, h318, hf319⟩ := bc_of hf313; clear hf313
                  refine j_callV0 X [.int x3, .int v314] [] (c_X6_laysPoint l D cs q x0 x3 v314 τ _ _ h318) mk_X6_laysPoint mv_X6_laysPoint ml_X6_264 h63 rfl (by decide) ⟨rfl, rfl⟩ ⟨Nat.le_of_ble_eq_true rfl, Nat.le_of_ble_eq_true rfl⟩ rfl (Nat.le_of_ble_eq_true rfl) ⟨Nat.le_of_ble_eq_true rfl, Nat.le_of_ble_eq_true rfl⟩ dX6_tight_136 rfl (st' := []) rfl ?_
                  obtain ⟨v320, ev320⟩ : ∃ y : Int32, y = x3 + (1 : Int32) := ⟨_, rfl⟩
                  replace hf319 := lt_of hf319 v320 ev320
                  refine j_iinc X (v := v320) (lv' := [(3, .int v320), (0, .ref (q x0)), (1, .int x1), (2, .int x2)]) dX6_tight_139 3 rfl (by rw [ev320]; rfl) (by decide) rfl ?_
                  refine j_goto X (tgt := 66) dX6_tight_142 (by decide) ?_
                  refine j_lvsub [1, 2, 3, 0] (lv' := [(0, .ref (q x0)), (1, .int x1), (2, .int x2), (3, .int v320)]) rfl ?_
                  exact ih x0 x1 x2 v320 σ317 hf319
              · have hf292 := br_y hf228 c290; clear hf228
                refine j_iconst X (v := 1) dX6_tight_113 (by decide) ?_
                refine j_goto X (tgt := 118) dX6_tight_114 (by decide) ?_
                refine j_icmp_ne X (tgt := 130) dX6_tight_118 (by decide) (fun c322 => ?_) (fun c322 => ?_)
                · have hf323 := br_n hf292 c322; clear hf292
                  refine j_aload_n X dX6_tight_130 0 rfl rfl ?_
                  obtain ⟨i325, h326, hf327⟩ := bd_of hf323; clear hf323
                  refine j_getr X fd_X6_54 h63 h326 dX6_tight_131 ?_
                  refine j_iload_n X dX6_tight_134 3 rfl rfl ?_
                  obtain ⟨h328, hf329⟩ := chk_of hf327; clear hf327
                  refine j_iald X h328 dX6_tight_135 (fun v330 ev330 => ?_)
                  replace hf329 := lt_of hf329 v330 ev330
                  obtain ⟨r332, σ333, h334, hf335⟩ := bc_of hf329; clear hf329
                  refine j_callV0 X [.int x3, .int v330] [] (c_X6_laysPoint l D cs q x0 x3 v330 τ _ _ h334) mk_X6_laysPoint mv_X6_laysPoint ml_X6_264 h63 rfl (by decide) ⟨rfl, rfl⟩ ⟨Nat.le_of_ble_eq_true rfl, Nat.le_of_ble_eq_true rfl⟩ rfl (Nat.le_of_ble_eq_true rfl) ⟨Nat.le_of_ble_eq_true rfl, Nat.le_of_ble_eq_true rfl⟩ dX6_tight_136 rfl (st' := []) rfl ?_
                  obtain ⟨v336, ev336⟩ : ∃ y : Int32, y = x3 + (1 : Int32) := ⟨_, rfl⟩
                  replace hf335 := lt_of hf335 v336 ev336
                  refine j_iinc X (v := v336) (lv' := [(3, .int v336), (0, .ref (q x0)), (1, .int x1), (2, .int x2)]) dX6_tight_139 3 rfl (by rw [ev336]; rfl) (by decide) rfl ?_
                  refine j_goto X (tgt := 66) dX6_tight_142 (by decide) ?_
                  refine j_lvsub [1, 2, 3, 0] (lv' := [(0, .ref (q x0)), (1, .int x1), (2, .int x2), (3, .int v336)]) rfl ?_
                  exact ih x0 x1 x2 v336 σ333 hf335
                · have hf324 := br_y hf292 c322; clear hf292
                  refine j_aload_n X dX6_tight_121 0 rfl rfl ?_
                  obtain ⟨i338, h339, hf340⟩ := bd_of hf324; clear hf324
                  refine j_getr X fd_X6_51 h63 h339 dX6_tight_122 ?_
                  refine j_iload_n X dX6_tight_125 3 rfl rfl ?_
                  obtain ⟨h341, hf342⟩ := chk_of hf340; clear hf340
                  refine j_iald X h341 dX6_tight_126 (fun v343 ev343 => ?_)
                  replace hf342 := lt_of hf342 v343 ev343
                  refine j_goto X (tgt := 136) dX6_tight_127 (by decide) ?_
                  obtain ⟨r345, σ346, h347, hf348⟩ := bc_of hf342; clear hf342
                  refine j_callV0 X [.int x3, .int v343] [] (c_X6_laysPoint l D cs q x0 x3 v343 τ _ _ h347) mk_X6_laysPoint mv_X6_laysPoint ml_X6_264 h63 rfl (by decide) ⟨rfl, rfl⟩ ⟨Nat.le_of_ble_eq_true rfl, Nat.le_of_ble_eq_true rfl⟩ rfl (Nat.le_of_ble_eq_true rfl) ⟨Nat.le_of_ble_eq_true rfl, Nat.le_of_ble_eq_true rfl⟩ dX6_tight_136 rfl (st' := []) rfl ?_
                  obtain ⟨v349, ev349⟩ : ∃ y : Int32, y = x3 + (1 : Int32) := ⟨_, rfl⟩
                  replace hf348 := lt_of hf348 v349 ev349
                  refine j_iinc X (v := v349) (lv' := [(3, .int v349), (0, .ref (q x0)), (1, .int x1), (2, .int x2)]) dX6_tight_139 3 rfl (by rw [ev349]; rfl) (by decide) rfl ?_
                  refine j_goto X (tgt := 66) dX6_tight_142 (by decide) ?_
                  refine j_lvsub [1, 2, 3, 0] (lv' := [(0, .ref (q x0)), (1, .int x1), (2, .int x2), (3, .int v349)]) rfl ?_
                  exact ih x0 x1 x2 v349 σ346 hf348
  have L36 : ∀ (nk : Nat) (x0 : Nat) (x1 : Int32) (x2 : Int32) (x3 : Int32) (τ : HS), lp_X6_tight_36  nk x0 x1 x2 x3 τ = some (r0, σ0) → J p l e rm_X6_tight s m args below meth c 4 D cs A s.heap 0 0 (MQ below (hQ D cs (fun z => z = q) (fun _ => some (.long r0)) σ0 A) args s 0 0 A) q τ [(0, .ref (q x0)), (1, .int x1), (2, .int x2), (3, .int x3)] 36 [] := by
    intro nk
    induction nk with
    | zero => intro x0 x1 x2 x3 τ hf0; have hf1 : (none : Option (Int64 × HS)) = some (r0, σ0) := hf0; cases hf1
    | succ nk ih =>
      intro x0 x1 x2 x3 τ hf0
      replace hf0 : lp_X6_tight_36_b  (lp_X6_tight_36  nk) x0 x1 x2 x3 τ = some (r0, σ0) := hf0
      unfold lp_X6_tight_36_b at hf0
      refine j_iload_n X dX6_tight_36 3 rfl rfl ?_
      refine j_bipush X (v := 6) dX6_tight_37 (by decide) ?_
      refine j_icmp_ge X (tgt := 60) dX6_tight_39 (by decide) (fun c28 => ?_) (fun c28 => ?_)
      · have hf29 := br_y hf0 c28; clear hf0
        refine j_aload_n X dX6_tight_60 0 rfl rfl ?_
        obtain ⟨h31, hf32⟩ := chk_of hf29; clear hf29
        obtain ⟨r33, σ34, h35, hf36⟩ := bc_of hf32; clear hf32
        refine j_callV0 X [] [] (c_X6_laysBox l D cs q x0 τ _ _ h35) mk_X6_laysBox mv_X6_laysBox ml_X6_233 h31 rfl (by decide) ⟨rfl, rfl⟩ ⟨Nat.le_of_ble_eq_true rfl, Nat.le_of_ble_eq_true rfl⟩ rfl (Nat.le_of_ble_eq_true rfl) ⟨Nat.le_of_ble_eq_true rfl, Nat.le_of_ble_eq_true rfl⟩ dX6_tight_61 rfl (st' := []) rfl ?_
        refine j_iconst X (v := 0) dX6_tight_64 (by decide) ?_
        refine j_nmi (fun v37 ev37 => ?_)
        replace hf36 := lt_of hf36 v37 ev37
        refine j_istore_n X (lv' := [(3, .int v37), (0, .ref (q x0)), (1, .int x1), (2, .int x2)]) dX6_tight_65 rfl (by decide) rfl ?_
        refine j_lvsub [1, 2, 3, 0] (lv' := [(0, .ref (q x0)), (1, .int x1), (2, .int x2), (3, .int v37)]) rfl ?_
        exact L66 _ (ih) 1000 x0 x1 x2 v37 σ34 hf36
      · have hf30 := br_n hf0 c28; clear hf0
        refine j_aload_n X dX6_tight_42 0 rfl rfl ?_
        obtain ⟨h351, hf352⟩ := chk_of hf30; clear hf30
        obtain ⟨i353, h354, hf355⟩ := bd_of hf352; clear hf352
        refine j_getr X fd_X6_77 h351 h354 dX6_tight_43 ?_
        refine j_iload_n X dX6_tight_46 3 rfl rfl ?_
        refine j_aload_n X dX6_tight_47 0 rfl rfl ?_
        refine j_iload_n X dX6_tight_48 1 rfl rfl ?_
        refine j_iload_n X dX6_tight_49 3 rfl rfl ?_
        obtain ⟨r356, σ357, h358, hf359⟩ := bc_of hf355; clear hf355
        refine j_callV0 X [.int x1, .int x3] [.int x3, .ref (q i353)] (c_X6_changeOf l D cs q x0 x1 x3 τ _ _ h358) mk_X6_changeOf mv_X6_changeOf ml_X6_271 h351 rfl (by decide) ⟨rfl, rfl⟩ ⟨Nat.le_of_ble_eq_true rfl, Nat.le_of_ble_eq_true rfl⟩ rfl (Nat.le_of_ble_eq_true rfl) ⟨Nat.le_of_ble_eq_true rfl, Nat.le_of_ble_eq_true rfl⟩ dX6_tight_50 rfl (st' := [.int r356, .int x3, .ref (q i353)]) rfl ?_
        obtain ⟨h360, hf361⟩ := chk_of hf359; clear hf359
        refine j_iast X h360 dX6_tight_53 (fun σ362 eσ362 => ?_)
        replace hf361 := lt_of hf361 σ362 eσ362
        obtain ⟨v364, ev364⟩ : ∃ y : Int32, y = x3 + (1 : Int32) := ⟨_, rfl⟩
        replace hf361 := lt_of hf361 v364 ev364
        refine j_iinc X (v := v364) (lv' := [(3, .int v364), (0, .ref (q x0)), (1, .int x1), (2, .int x2)]) dX6_tight_54 3 rfl (by rw [ev364]; rfl) (by decide) rfl ?_
        refine j_goto X (tgt := 36) dX6_tight_57 (by decide) ?_
        refine j_lvsub [1, 2, 3, 0] (lv' := [(0, .ref (q x0)), (1, .int x1), (2, .int x2), (3, .int v364)]) rfl ?_
        exact ih x0 x1 x2 v364 σ362 hf361
  refine j_aload_n X dX6_tight_0 0 rfl rfl ?_
  refine j_iload_n X dX6_tight_1 1 rfl rfl ?_
  obtain ⟨h1, hf2⟩ := chk_of hf0; clear hf0
  obtain ⟨r3, σ4, h5, hf6⟩ := bc_of hf2; clear hf2
  refine j_callV0 X [.int a1] [] (c_X6_isFormula l D cs q a0 a1 σ _ _ h5) mk_X6_isFormula mv_X6_isFormula ml_X6_180 h1 rfl (by decide) ⟨rfl, rfl⟩ ⟨Nat.le_of_ble_eq_true rfl, Nat.le_of_ble_eq_true rfl⟩ rfl (Nat.le_of_ble_eq_true rfl) ⟨Nat.le_of_ble_eq_true rfl, Nat.le_of_ble_eq_true rfl⟩ dX6_tight_2 rfl (st' := [.int r3]) rfl ?_
  refine j_if_eq X (tgt := 18) dX6_tight_5 (by decide) (fun c7 => ?_) (fun c7 => ?_)
  · have hf8 := br_y hf6 c7; clear hf6
    refine j_ldc2 X k_X6_198 dX6_tight_18 ?_
    obtain ⟨er, es⟩ := rt_of hf8
    subst er
    exact j_retl X hr hlk (Nat.le_of_ble_eq_true rfl) (Nat.le_of_ble_eq_true rfl) rfl es.symm rfl dX6_tight_21
  · have hf9 := br_n hf6 c7; clear hf6
    refine j_iload_n X dX6_tight_8 2 rfl rfl ?_
    refine j_i2l X dX6_tight_9 ?_
    refine j_lconst X (v := 0) dX6_tight_10 (by decide) ?_
    refine j_lconst X (v := 1) dX6_tight_11 (by decide) ?_
    obtain ⟨r10, σ11, h12, hf13⟩ := bc_of hf9; clear hf9
    refine j_callS0 X [.long (a2).toInt64, .long (0 : Int64), .long (1 : Int64)] [] (c_X6_isIn l D cs q (a2).toInt64 (0 : Int64) (1 : Int64) σ4 _ _ h12) mk_X6_isIn ms_X6_isIn ml_X6_97 ⟨rfl, rfl⟩ ⟨Nat.le_of_ble_eq_true rfl, Nat.le_of_ble_eq_true rfl⟩ rfl (Nat.le_of_ble_eq_true rfl) ⟨Nat.le_of_ble_eq_true rfl, Nat.le_of_ble_eq_true rfl⟩ dX6_tight_12 rfl (st' := [.int r10]) rfl ?_
    refine j_if_ne X (tgt := 22) dX6_tight_15 (by decide) (fun c14 => ?_) (fun c14 => ?_)
    · have hf15 := br_n hf13 c14; clear hf13
      refine j_aload_n X dX6_tight_22 0 rfl rfl ?_
      refine j_iload_n X dX6_tight_23 1 rfl rfl ?_
      obtain ⟨h17, hf18⟩ := chk_of hf15; clear hf15
      obtain ⟨r19, σ20, h21, hf22⟩ := bc_of hf18; clear hf18
      refine j_callV0 X [.int a1] [] (c_X6_spansNow l D cs q a0 a1 σ11 _ _ h21) mk_X6_spansNow mv_X6_spansNow ml_X6_254 h17 rfl (by decide) ⟨rfl, rfl⟩ ⟨Nat.le_of_ble_eq_true rfl, Nat.le_of_ble_eq_true rfl⟩ rfl (Nat.le_of_ble_eq_true rfl) ⟨Nat.le_of_ble_eq_true rfl, Nat.le_of_ble_eq_true rfl⟩ dX6_tight_24 rfl (st' := [.int r19]) rfl ?_
      refine j_if_ne X (tgt := 34) dX6_tight_27 (by decide) (fun c23 => ?_) (fun c23 => ?_)
      · have hf24 := br_n hf22 c23; clear hf22
        refine j_iconst X (v := 0) dX6_tight_34 (by decide) ?_
        refine j_nmi (fun v26 ev26 => ?_)
        replace hf24 := lt_of hf24 v26 ev26
        refine j_istore_n X (lv' := [(3, .int v26), (0, .ref (q a0)), (1, .int a1), (2, .int a2)]) dX6_tight_35 rfl (by decide) rfl ?_
        refine j_lvsub [1, 2, 3, 0] (lv' := [(0, .ref (q a0)), (1, .int a1), (2, .int a2), (3, .int v26)]) rfl ?_
        exact L36  1000 a0 a1 a2 v26 σ20 hf24
      · have hf25 := br_y hf22 c23; clear hf22
        refine j_ldc2 X k_X6_239 dX6_tight_30 ?_
        obtain ⟨er, es⟩ := rt_of hf25
        subst er
        exact j_retl X hr hlk (Nat.le_of_ble_eq_true rfl) (Nat.le_of_ble_eq_true rfl) rfl es.symm rfl dX6_tight_33
    · have hf16 := br_y hf13 c14; clear hf13
      refine j_ldc2 X k_X6_198 dX6_tight_18 ?_
      obtain ⟨er, es⟩ := rt_of hf16
      subst er
      exact j_retl X hr hlk (Nat.le_of_ble_eq_true rfl) (Nat.le_of_ble_eq_true rfl) rfl es.symm rfl dX6_tight_21
