set_option maxHeartbeats 40000000 in
set_option maxRecDepth 100000 in
theorem law_loop {p : Program} {l : Launch} {e : Env} {s : State} {m : MethodId} {below : List Frame} {meth : Method} {c : Code} {D : va_G} {cs : Nat → ClassId} {b L : Nat} {xs : Nat → Int32} {σ0 : HS} (X : Cx p s m #[Value.ref b] c code 4 RL D cs (fun z => s.heap.size ≤ z) s.heap) (hr : meth.sig.returnType = ret) (hlk : meth.locks = false) (hX : va_X b L xs s s.heap) (hbl : b < s.heap.size) (hbA : ¬ s.heap.size ≤ b) :
    ∀ (nk k : Nat) (hk : k + nk ≤ 1000) (q1 : Nat → Nat) (x1 : Nat) (x2 : Nat) (x3 : Int32) (τ : HS), lp_L_law_18 L xs nk x1 x2 x3 τ = some (1, σ0) → J p l e room_1 s m #[Value.ref b] below meth c 4 D cs (fun z => s.heap.size ≤ z) s.heap (100 + 9 * k) (8000 + 490 * k) (lw_Z below #[Value.ref b] s) q1 τ [(0, .ref b), (1, .ref (q1 x1)), (2, .ref (q1 x2)), (3, .int x3)] 18 [] := by
  intro nk
  induction nk with
  | zero => intro k hk q1 x1 x2 x3 τ hf0; have hf1 : (none : Option (Int32 × HS)) = some (1, σ0) := hf0; cases hf1
  | succ nk ih =>
    intro k hk q1 x1 x2 x3 τ hf0
    replace hf0 : lp_L_law_18_b L xs (lp_L_law_18 L xs nk) x1 x2 x3 τ = some (1, σ0) := hf0
    unfold lp_L_law_18_b at hf0
    refine j_iload_n X dL_law_18 3 rfl rfl ?_
    refine j_aload_n X dL_law_19 0 rfl rfl ?_
    refine j_slen X hX hbl hbA dL_law_20 (fun v29 ev29 => ?_)
    replace hf0 := lt_of hf0 v29 ev29
    refine j_bipush X (v := 9) dL_law_21 (by decide) ?_
    refine j_isub X dL_law_23 ?_
    refine j_icmp_gt X (tgt := 1225) dL_law_24 (by decide) (fun c31 => ?_) (fun c31 => ?_)
    · have hf32 := br_y hf0 c31; clear hf0
      refine j_iconst X (v := 1) dL_law_1225 (by decide) ?_
      exact lw_fin X hr hlk (by first | decide | omega) (by first | decide | omega) dL_law_1226
    · have hf33 := br_n hf0 c31; clear hf0
      refine j_aload_n X dL_law_27 0 rfl rfl ?_
      refine j_iload_n X dL_law_28 3 rfl rfl ?_
      obtain ⟨h34, hf35⟩ := chk_of hf33; clear hf33
      refine j_sld X hX hbl hbA h34 dL_law_29 (fun v36 ev36 => ?_)
      replace hf35 := lt_of hf35 v36 ev36
      refine j_bipush X (v := 31) dL_law_30 (by decide) ?_
      refine j_iand X dL_law_32 ?_
      refine j_nmi (fun v38 ev38 => ?_)
      replace hf35 := lt_of hf35 v38 ev38
      by_cases c40 : v38 = (0 : Int32)
      · have hf41 := br_y hf35 c40; clear hf35
        refine j_tabIn X (v := 0) (tgt := 160) dL_law_33 c40 (by decide) (by decide) rfl (by decide) ?_
        refine j_aload_n X dL_law_160 1 rfl rfl ?_
        refine j_aload_n X dL_law_161 0 rfl rfl ?_
        refine j_iload_n X dL_law_162 3 rfl rfl ?_
        refine j_iconst X (v := 1) dL_law_163 (by decide) ?_
        refine j_iadd X dL_law_164 ?_
        obtain ⟨h43, hf44⟩ := chk_of hf41; clear hf41
        refine j_sld X hX hbl hbA h43 dL_law_165 (fun v45 ev45 => ?_)
        replace hf44 := lt_of hf44 v45 ev45
        refine j_aload_n X dL_law_166 0 rfl rfl ?_
        refine j_iload_n X dL_law_167 3 rfl rfl ?_
        refine j_iconst X (v := 2) dL_law_168 (by decide) ?_
        refine j_iadd X dL_law_169 ?_
        obtain ⟨h47, hf48⟩ := chk_of hf44; clear hf44
        refine j_sld X hX hbl hbA h47 dL_law_170 (fun v49 ev49 => ?_)
        replace hf48 := lt_of hf48 v49 ev49
        refine j_aload_n X dL_law_171 0 rfl rfl ?_
        refine j_iload_n X dL_law_172 3 rfl rfl ?_
        refine j_iconst X (v := 3) dL_law_173 (by decide) ?_
        refine j_iadd X dL_law_174 ?_
        obtain ⟨h51, hf52⟩ := chk_of hf48; clear hf48
        refine j_sld X hX hbl hbA h51 dL_law_175 (fun v53 ev53 => ?_)
        replace hf52 := lt_of hf52 v53 ev53
        obtain ⟨h55, hf56⟩ := chk_of hf52; clear hf52
        obtain ⟨r57, σ58, h59, hf60⟩ := bc_of hf56; clear hf56
        refine j_callV0 X [.int v45, .int v49, .int v53] [] (c_X5_set l D cs q1 x1 v45 v49 v53 τ _ _ h59) mk_X5_set mv_X5_set ml_L_13 h55 rfl (by decide) ⟨rfl, rfl⟩ ⟨Nat.le_of_ble_eq_true rfl, Nat.le_of_ble_eq_true rfl⟩ rfl (Nat.le_of_ble_eq_true rfl) ⟨(by show _ ≤ 808171; omega), (by show _ ≤ 6677735; omega)⟩ dL_law_176 rfl (st' := [.int r57]) rfl ?_
        obtain ⟨h61, hf62⟩ := chk_of hf60; clear hf60
        refine j_aload_n X dL_law_179 2 rfl rfl ?_
        refine j_aload_n X dL_law_180 0 rfl rfl ?_
        refine j_iload_n X dL_law_181 3 rfl rfl ?_
        refine j_iconst X (v := 1) dL_law_182 (by decide) ?_
        refine j_iadd X dL_law_183 ?_
        obtain ⟨h63, hf64⟩ := chk_of hf62; clear hf62
        refine j_sld X hX hbl hbA h63 dL_law_184 (fun v65 ev65 => ?_)
        replace hf64 := lt_of hf64 v65 ev65
        refine j_aload_n X dL_law_185 0 rfl rfl ?_
        refine j_iload_n X dL_law_186 3 rfl rfl ?_
        refine j_iconst X (v := 2) dL_law_187 (by decide) ?_
        refine j_iadd X dL_law_188 ?_
        obtain ⟨h67, hf68⟩ := chk_of hf64; clear hf64
        refine j_sld X hX hbl hbA h67 dL_law_189 (fun v69 ev69 => ?_)
        replace hf68 := lt_of hf68 v69 ev69
        refine j_aload_n X dL_law_190 0 rfl rfl ?_
        refine j_iload_n X dL_law_191 3 rfl rfl ?_
        refine j_iconst X (v := 3) dL_law_192 (by decide) ?_
        refine j_iadd X dL_law_193 ?_
        obtain ⟨h71, hf72⟩ := chk_of hf68; clear hf68
        refine j_sld X hX hbl hbA h71 dL_law_194 (fun v73 ev73 => ?_)
        replace hf72 := lt_of hf72 v73 ev73
        obtain ⟨h75, hf76⟩ := chk_of hf72; clear hf72
        obtain ⟨r77, σ78, h79, hf80⟩ := bc_of hf76; clear hf76
        refine j_callV0 X [.int v65, .int v69, .int v73] [.int r57] (c_X6_set l D cs q1 x2 v65 v69 v73 σ58 _ _ h79) mk_X6_set mv_X6_set ml_L_17 h75 rfl (by decide) ⟨rfl, rfl⟩ ⟨Nat.le_of_ble_eq_true rfl, Nat.le_of_ble_eq_true rfl⟩ rfl (Nat.le_of_ble_eq_true rfl) ⟨(by show _ ≤ 808171; omega), (by show _ ≤ 6677735; omega)⟩ dL_law_195 rfl (st' := [.int r77, .int r57]) rfl ?_
        obtain ⟨h81, hf82⟩ := chk_of hf80; clear hf80
        refine j_icmp_eq X (tgt := 1219) dL_law_198 (by decide) (fun c83 => ?_) (fun c83 => ?_)
        · have hf84 := br_y hf82 c83; clear hf82
          obtain ⟨v86, ev86⟩ : ∃ y : Int32, y = x3 + (9 : Int32) := ⟨_, rfl⟩
          replace hf84 := lt_of hf84 v86 ev86
          refine j_iinc X (v := v86) (lv' := [(3, .int v86), (0, .ref b), (1, .ref (q1 x1)), (2, .ref (q1 x2))]) dL_law_1219 3 rfl (by rw [ev86]; rfl) (by decide) rfl ?_
          refine j_goto X (tgt := 18) dL_law_1222 (by decide) ?_
          refine j_lvsub [1, 2, 3, 0] (lv' := [(0, .ref b), (1, .ref (q1 x1)), (2, .ref (q1 x2)), (3, .int v86)]) rfl ?_
          refine j_widen (cells' := 100 + 9 * (k + 1)) (slots' := 8000 + 490 * (k + 1)) (by omega) (by omega) ?_
          exact ih (k + 1) (by omega) q1 x1 x2 v86 σ78 hf84
        · have hf85 := br_n hf82 c83; clear hf82
          refine j_iconst X (v := 0) dL_law_201 (by decide) ?_
          exact absurd (rt_of hf85).1 (by decide)
      · have hf42 := br_n hf35 c40; clear hf35
        by_cases c88 : v38 = (1 : Int32)
        · have hf89 := br_y hf42 c88; clear hf42
          refine j_tabIn X (v := 1) (tgt := 203) dL_law_33 c88 (by decide) (by decide) rfl (by decide) ?_
          refine j_aload_n X dL_law_203 1 rfl rfl ?_
          refine j_aload_n X dL_law_204 0 rfl rfl ?_
          refine j_iload_n X dL_law_205 3 rfl rfl ?_
          refine j_iconst X (v := 1) dL_law_206 (by decide) ?_
          refine j_iadd X dL_law_207 ?_
          obtain ⟨h91, hf92⟩ := chk_of hf89; clear hf89
          refine j_sld X hX hbl hbA h91 dL_law_208 (fun v93 ev93 => ?_)
          replace hf92 := lt_of hf92 v93 ev93
          refine j_aload_n X dL_law_209 0 rfl rfl ?_
          refine j_iload_n X dL_law_210 3 rfl rfl ?_
          refine j_iconst X (v := 2) dL_law_211 (by decide) ?_
          refine j_iadd X dL_law_212 ?_
          obtain ⟨h95, hf96⟩ := chk_of hf92; clear hf92
          refine j_sld X hX hbl hbA h95 dL_law_213 (fun v97 ev97 => ?_)
          replace hf96 := lt_of hf96 v97 ev97
          obtain ⟨h99, hf100⟩ := chk_of hf96; clear hf96
          obtain ⟨r101, σ102, h103, hf104⟩ := bc_of hf100; clear hf100
          refine j_callV0 X [.int v93, .int v97] [] (c_X5_of l D cs q1 x1 v93 v97 τ _ _ h103) mk_X5_of mv_X5_of ml_L_18 h99 rfl (by decide) ⟨rfl, rfl⟩ ⟨Nat.le_of_ble_eq_true rfl, Nat.le_of_ble_eq_true rfl⟩ rfl (Nat.le_of_ble_eq_true rfl) ⟨(by show _ ≤ 808171; omega), (by show _ ≤ 6677735; omega)⟩ dL_law_214 rfl (st' := [.int r101]) rfl ?_
          obtain ⟨h105, hf106⟩ := chk_of hf104; clear hf104
          refine j_aload_n X dL_law_217 2 rfl rfl ?_
          refine j_aload_n X dL_law_218 0 rfl rfl ?_
          refine j_iload_n X dL_law_219 3 rfl rfl ?_
          refine j_iconst X (v := 1) dL_law_220 (by decide) ?_
          refine j_iadd X dL_law_221 ?_
          obtain ⟨h107, hf108⟩ := chk_of hf106; clear hf106
          refine j_sld X hX hbl hbA h107 dL_law_222 (fun v109 ev109 => ?_)
          replace hf108 := lt_of hf108 v109 ev109
          refine j_aload_n X dL_law_223 0 rfl rfl ?_
          refine j_iload_n X dL_law_224 3 rfl rfl ?_
          refine j_iconst X (v := 2) dL_law_225 (by decide) ?_
          refine j_iadd X dL_law_226 ?_
          obtain ⟨h111, hf112⟩ := chk_of hf108; clear hf108
          refine j_sld X hX hbl hbA h111 dL_law_227 (fun v113 ev113 => ?_)
          replace hf112 := lt_of hf112 v113 ev113
          obtain ⟨h115, hf116⟩ := chk_of hf112; clear hf112
          obtain ⟨r117, σ118, h119, hf120⟩ := bc_of hf116; clear hf116
          refine j_callV0 X [.int v109, .int v113] [.int r101] (c_X6_of l D cs q1 x2 v109 v113 σ102 _ _ h119) mk_X6_of mv_X6_of ml_L_22 h115 rfl (by decide) ⟨rfl, rfl⟩ ⟨Nat.le_of_ble_eq_true rfl, Nat.le_of_ble_eq_true rfl⟩ rfl (Nat.le_of_ble_eq_true rfl) ⟨(by show _ ≤ 808171; omega), (by show _ ≤ 6677735; omega)⟩ dL_law_228 rfl (st' := [.int r117, .int r101]) rfl ?_
          obtain ⟨h121, hf122⟩ := chk_of hf120; clear hf120
          refine j_icmp_eq X (tgt := 1219) dL_law_231 (by decide) (fun c123 => ?_) (fun c123 => ?_)
          · have hf124 := br_y hf122 c123; clear hf122
            obtain ⟨v126, ev126⟩ : ∃ y : Int32, y = x3 + (9 : Int32) := ⟨_, rfl⟩
            replace hf124 := lt_of hf124 v126 ev126
            refine j_iinc X (v := v126) (lv' := [(3, .int v126), (0, .ref b), (1, .ref (q1 x1)), (2, .ref (q1 x2))]) dL_law_1219 3 rfl (by rw [ev126]; rfl) (by decide) rfl ?_
            refine j_goto X (tgt := 18) dL_law_1222 (by decide) ?_
            refine j_lvsub [1, 2, 3, 0] (lv' := [(0, .ref b), (1, .ref (q1 x1)), (2, .ref (q1 x2)), (3, .int v126)]) rfl ?_
            refine j_widen (cells' := 100 + 9 * (k + 1)) (slots' := 8000 + 490 * (k + 1)) (by omega) (by omega) ?_
            exact ih (k + 1) (by omega) q1 x1 x2 v126 σ118 hf124
          · have hf125 := br_n hf122 c123; clear hf122
            refine j_iconst X (v := 0) dL_law_234 (by decide) ?_
            exact absurd (rt_of hf125).1 (by decide)
        · have hf90 := br_n hf42 c88; clear hf42
          by_cases c128 : v38 = (2 : Int32)
          · have hf129 := br_y hf90 c128; clear hf90
            refine j_tabIn X (v := 2) (tgt := 236) dL_law_33 c128 (by decide) (by decide) rfl (by decide) ?_
            refine j_aload_n X dL_law_236 1 rfl rfl ?_
            refine j_aload_n X dL_law_237 0 rfl rfl ?_
            refine j_iload_n X dL_law_238 3 rfl rfl ?_
            refine j_iconst X (v := 1) dL_law_239 (by decide) ?_
            refine j_iadd X dL_law_240 ?_
            obtain ⟨h131, hf132⟩ := chk_of hf129; clear hf129
            refine j_sld X hX hbl hbA h131 dL_law_241 (fun v133 ev133 => ?_)
            replace hf132 := lt_of hf132 v133 ev133
            obtain ⟨h135, hf136⟩ := chk_of hf132; clear hf132
            obtain ⟨r137, σ138, h139, hf140⟩ := bc_of hf136; clear hf136
            refine j_callV0 X [.int v133] [] (c_X5_feed l D cs q1 x1 v133 τ _ _ h139) mk_X5_feed mv_X5_feed ml_L_23 h135 rfl (by decide) ⟨rfl, rfl⟩ ⟨Nat.le_of_ble_eq_true rfl, Nat.le_of_ble_eq_true rfl⟩ rfl (Nat.le_of_ble_eq_true rfl) ⟨(by show _ ≤ 808171; omega), (by show _ ≤ 6677735; omega)⟩ dL_law_242 rfl (st' := [.int r137]) rfl ?_
            obtain ⟨h141, hf142⟩ := chk_of hf140; clear hf140
            refine j_aload_n X dL_law_245 2 rfl rfl ?_
            refine j_aload_n X dL_law_246 0 rfl rfl ?_
            refine j_iload_n X dL_law_247 3 rfl rfl ?_
            refine j_iconst X (v := 1) dL_law_248 (by decide) ?_
            refine j_iadd X dL_law_249 ?_
            obtain ⟨h143, hf144⟩ := chk_of hf142; clear hf142
            refine j_sld X hX hbl hbA h143 dL_law_250 (fun v145 ev145 => ?_)
            replace hf144 := lt_of hf144 v145 ev145
            obtain ⟨h147, hf148⟩ := chk_of hf144; clear hf144
            obtain ⟨r149, σ150, h151, hf152⟩ := bc_of hf148; clear hf148
            refine j_callV0 X [.int v145] [.int r137] (c_X6_feed l D cs q1 x2 v145 σ138 _ _ h151) mk_X6_feed mv_X6_feed ml_L_27 h147 rfl (by decide) ⟨rfl, rfl⟩ ⟨Nat.le_of_ble_eq_true rfl, Nat.le_of_ble_eq_true rfl⟩ rfl (Nat.le_of_ble_eq_true rfl) ⟨(by show _ ≤ 808171; omega), (by show _ ≤ 6677735; omega)⟩ dL_law_251 rfl (st' := [.int r149, .int r137]) rfl ?_
            obtain ⟨h153, hf154⟩ := chk_of hf152; clear hf152
            refine j_icmp_eq X (tgt := 1219) dL_law_254 (by decide) (fun c155 => ?_) (fun c155 => ?_)
            · have hf156 := br_y hf154 c155; clear hf154
              obtain ⟨v158, ev158⟩ : ∃ y : Int32, y = x3 + (9 : Int32) := ⟨_, rfl⟩
              replace hf156 := lt_of hf156 v158 ev158
              refine j_iinc X (v := v158) (lv' := [(3, .int v158), (0, .ref b), (1, .ref (q1 x1)), (2, .ref (q1 x2))]) dL_law_1219 3 rfl (by rw [ev158]; rfl) (by decide) rfl ?_
              refine j_goto X (tgt := 18) dL_law_1222 (by decide) ?_
              refine j_lvsub [1, 2, 3, 0] (lv' := [(0, .ref b), (1, .ref (q1 x1)), (2, .ref (q1 x2)), (3, .int v158)]) rfl ?_
              refine j_widen (cells' := 100 + 9 * (k + 1)) (slots' := 8000 + 490 * (k + 1)) (by omega) (by omega) ?_
              exact ih (k + 1) (by omega) q1 x1 x2 v158 σ150 hf156
            · have hf157 := br_n hf154 c155; clear hf154
              refine j_iconst X (v := 0) dL_law_257 (by decide) ?_
              exact absurd (rt_of hf157).1 (by decide)
          · have hf130 := br_n hf90 c128; clear hf90
            by_cases c160 : v38 = (3 : Int32)
            · have hf161 := br_y hf130 c160; clear hf130
              refine j_tabIn X (v := 3) (tgt := 259) dL_law_33 c160 (by decide) (by decide) rfl (by decide) ?_
              refine j_aload_n X dL_law_259 1 rfl rfl ?_
              obtain ⟨h163, hf164⟩ := chk_of hf161; clear hf161
              obtain ⟨h169, hf170⟩ := chk_of hf164; clear hf164
              obtain ⟨r165, σ166, h167, hf168⟩ := bc_of hf170; clear hf170
              refine j_callV X (As := []) (rest := []) (c_X5_formula l D cs q1 x1 τ _ _ h167) mk_X5_formula mv_X5_formula ml_L_28 h163 rfl (by decide) ⟨rfl, rfl⟩ ⟨Nat.le_of_ble_eq_true rfl, Nat.le_of_ble_eq_true rfl⟩ rfl (Nat.le_of_ble_eq_true rfl) ⟨(by show _ ≤ 808171; omega), (by show _ ≤ 6677735; omega)⟩ dL_law_260 rfl (fun z => [.int r165]) (fun _ => rfl) (fun q171 hq171 => ?_)
              obtain ⟨hq171, m172⟩ := hq171
              rw [← hq171 x1 h163.1, ← hq171 x2 h169]
              refine j_aload_n X dL_law_263 2 rfl rfl ?_
              obtain ⟨h173, hf174⟩ := chk_of hf168; clear hf168
              obtain ⟨r175, σ176, h177, hf178⟩ := bc_of hf174; clear hf174
              refine j_callV0 X [] [.int r165] (c_X6_formula l D cs q171 x2 σ166 _ _ h177) mk_X6_formula mv_X6_formula ml_L_32 h173 rfl (by decide) ⟨rfl, rfl⟩ ⟨Nat.le_of_ble_eq_true rfl, Nat.le_of_ble_eq_true rfl⟩ rfl (Nat.le_of_ble_eq_true rfl) ⟨(by show _ ≤ 808171; omega), (by show _ ≤ 6677735; omega)⟩ dL_law_264 rfl (st' := [.int r175, .int r165]) rfl ?_
              obtain ⟨h179, hf180⟩ := chk_of hf178; clear hf178
              refine j_icmp_eq X (tgt := 1219) dL_law_267 (by decide) (fun c181 => ?_) (fun c181 => ?_)
              · have hf182 := br_y hf180 c181; clear hf180
                obtain ⟨v184, ev184⟩ : ∃ y : Int32, y = x3 + (9 : Int32) := ⟨_, rfl⟩
                replace hf182 := lt_of hf182 v184 ev184
                refine j_iinc X (v := v184) (lv' := [(3, .int v184), (0, .ref b), (1, .ref (q171 x1)), (2, .ref (q171 x2))]) dL_law_1219 3 rfl (by rw [ev184]; rfl) (by decide) rfl ?_
                refine j_goto X (tgt := 18) dL_law_1222 (by decide) ?_
                refine j_lvsub [1, 2, 3, 0] (lv' := [(0, .ref b), (1, .ref (q171 x1)), (2, .ref (q171 x2)), (3, .int v184)]) rfl ?_
                refine j_widen (cells' := 100 + 9 * (k + 1)) (slots' := 8000 + 490 * (k + 1)) (by omega) (by omega) ?_
                exact ih (k + 1) (by omega) q171 x1 x2 v184 σ176 hf182
              · have hf183 := br_n hf180 c181; clear hf180
                refine j_iconst X (v := 0) dL_law_270 (by decide) ?_
                exact absurd (rt_of hf183).1 (by decide)
            · have hf162 := br_n hf130 c160; clear hf130
              by_cases c186 : v38 = (4 : Int32)
              · have hf187 := br_y hf162 c186; clear hf162
                refine j_tabIn X (v := 4) (tgt := 272) dL_law_33 c186 (by decide) (by decide) rfl (by decide) ?_
                refine j_aload_n X dL_law_272 1 rfl rfl ?_
                obtain ⟨h189, hf190⟩ := chk_of hf187; clear hf187
                obtain ⟨r191, σ192, h193, hf194⟩ := bc_of hf190; clear hf190
                refine j_callV0 X [] [] (c_X5_drop l D cs q1 x1 τ _ _ h193) mk_X5_drop mv_X5_drop ml_L_33 h189 rfl (by decide) ⟨rfl, rfl⟩ ⟨Nat.le_of_ble_eq_true rfl, Nat.le_of_ble_eq_true rfl⟩ rfl (Nat.le_of_ble_eq_true rfl) ⟨(by show _ ≤ 808171; omega), (by show _ ≤ 6677735; omega)⟩ dL_law_273 rfl (st' := [.int r191]) rfl ?_
                obtain ⟨h195, hf196⟩ := chk_of hf194; clear hf194
                refine j_aload_n X dL_law_276 2 rfl rfl ?_
                obtain ⟨h197, hf198⟩ := chk_of hf196; clear hf196
                obtain ⟨r199, σ200, h201, hf202⟩ := bc_of hf198; clear hf198
                refine j_callV0 X [] [.int r191] (c_X6_drop l D cs q1 x2 σ192 _ _ h201) mk_X6_drop mv_X6_drop ml_L_36 h197 rfl (by decide) ⟨rfl, rfl⟩ ⟨Nat.le_of_ble_eq_true rfl, Nat.le_of_ble_eq_true rfl⟩ rfl (Nat.le_of_ble_eq_true rfl) ⟨(by show _ ≤ 808171; omega), (by show _ ≤ 6677735; omega)⟩ dL_law_277 rfl (st' := [.int r199, .int r191]) rfl ?_
                obtain ⟨h203, hf204⟩ := chk_of hf202; clear hf202
                refine j_icmp_eq X (tgt := 1219) dL_law_280 (by decide) (fun c205 => ?_) (fun c205 => ?_)
                · have hf206 := br_y hf204 c205; clear hf204
                  obtain ⟨v208, ev208⟩ : ∃ y : Int32, y = x3 + (9 : Int32) := ⟨_, rfl⟩
                  replace hf206 := lt_of hf206 v208 ev208
                  refine j_iinc X (v := v208) (lv' := [(3, .int v208), (0, .ref b), (1, .ref (q1 x1)), (2, .ref (q1 x2))]) dL_law_1219 3 rfl (by rw [ev208]; rfl) (by decide) rfl ?_
                  refine j_goto X (tgt := 18) dL_law_1222 (by decide) ?_
                  refine j_lvsub [1, 2, 3, 0] (lv' := [(0, .ref b), (1, .ref (q1 x1)), (2, .ref (q1 x2)), (3, .int v208)]) rfl ?_
                  refine j_widen (cells' := 100 + 9 * (k + 1)) (slots' := 8000 + 490 * (k + 1)) (by omega) (by omega) ?_
                  exact ih (k + 1) (by omega) q1 x1 x2 v208 σ200 hf206
                · have hf207 := br_n hf204 c205; clear hf204
                  refine j_iconst X (v := 0) dL_law_283 (by decide) ?_
                  exact absurd (rt_of hf207).1 (by decide)
              · have hf188 := br_n hf162 c186; clear hf162
                by_cases c210 : v38 = (5 : Int32)
                · have hf211 := br_y hf188 c210; clear hf188
                  refine j_tabIn X (v := 5) (tgt := 285) dL_law_33 c210 (by decide) (by decide) rfl (by decide) ?_
                  refine j_aload_n X dL_law_285 1 rfl rfl ?_
                  refine j_aload_n X dL_law_286 0 rfl rfl ?_
                  refine j_iload_n X dL_law_287 3 rfl rfl ?_
                  refine j_iconst X (v := 1) dL_law_288 (by decide) ?_
                  refine j_iadd X dL_law_289 ?_
                  obtain ⟨h213, hf214⟩ := chk_of hf211; clear hf211
                  refine j_sld X hX hbl hbA h213 dL_law_290 (fun v215 ev215 => ?_)
                  replace hf214 := lt_of hf214 v215 ev215
                  refine j_aload_n X dL_law_291 0 rfl rfl ?_
                  refine j_iload_n X dL_law_292 3 rfl rfl ?_
                  refine j_iconst X (v := 2) dL_law_293 (by decide) ?_
                  refine j_iadd X dL_law_294 ?_
                  obtain ⟨h217, hf218⟩ := chk_of hf214; clear hf214
                  refine j_sld X hX hbl hbA h217 dL_law_295 (fun v219 ev219 => ?_)
                  replace hf218 := lt_of hf218 v219 ev219
                  obtain ⟨h221, hf222⟩ := chk_of hf218; clear hf218
                  obtain ⟨r223, σ224, h225, hf226⟩ := bc_of hf222; clear hf222
                  refine j_callV0 X [.int v215, .int v219] [] (c_X5_parts l D cs q1 x1 v215 v219 τ _ _ h225) mk_X5_parts mv_X5_parts ml_L_37 h221 rfl (by decide) ⟨rfl, rfl⟩ ⟨Nat.le_of_ble_eq_true rfl, Nat.le_of_ble_eq_true rfl⟩ rfl (Nat.le_of_ble_eq_true rfl) ⟨(by show _ ≤ 808171; omega), (by show _ ≤ 6677735; omega)⟩ dL_law_296 rfl (st' := [.int r223]) rfl ?_
                  obtain ⟨h227, hf228⟩ := chk_of hf226; clear hf226
                  refine j_aload_n X dL_law_299 2 rfl rfl ?_
                  refine j_aload_n X dL_law_300 0 rfl rfl ?_
                  refine j_iload_n X dL_law_301 3 rfl rfl ?_
                  refine j_iconst X (v := 1) dL_law_302 (by decide) ?_
                  refine j_iadd X dL_law_303 ?_
                  obtain ⟨h229, hf230⟩ := chk_of hf228; clear hf228
                  refine j_sld X hX hbl hbA h229 dL_law_304 (fun v231 ev231 => ?_)
                  replace hf230 := lt_of hf230 v231 ev231
                  refine j_aload_n X dL_law_305 0 rfl rfl ?_
                  refine j_iload_n X dL_law_306 3 rfl rfl ?_
                  refine j_iconst X (v := 2) dL_law_307 (by decide) ?_
                  refine j_iadd X dL_law_308 ?_
                  obtain ⟨h233, hf234⟩ := chk_of hf230; clear hf230
                  refine j_sld X hX hbl hbA h233 dL_law_309 (fun v235 ev235 => ?_)
                  replace hf234 := lt_of hf234 v235 ev235
                  obtain ⟨h237, hf238⟩ := chk_of hf234; clear hf234
                  obtain ⟨r239, σ240, h241, hf242⟩ := bc_of hf238; clear hf238
                  refine j_callV0 X [.int v231, .int v235] [.int r223] (c_X6_parts l D cs q1 x2 v231 v235 σ224 _ _ h241) mk_X6_parts mv_X6_parts ml_L_40 h237 rfl (by decide) ⟨rfl, rfl⟩ ⟨Nat.le_of_ble_eq_true rfl, Nat.le_of_ble_eq_true rfl⟩ rfl (Nat.le_of_ble_eq_true rfl) ⟨(by show _ ≤ 808171; omega), (by show _ ≤ 6677735; omega)⟩ dL_law_310 rfl (st' := [.int r239, .int r223]) rfl ?_
                  obtain ⟨h243, hf244⟩ := chk_of hf242; clear hf242
                  refine j_icmp_eq X (tgt := 1219) dL_law_313 (by decide) (fun c245 => ?_) (fun c245 => ?_)
                  · have hf246 := br_y hf244 c245; clear hf244
                    obtain ⟨v248, ev248⟩ : ∃ y : Int32, y = x3 + (9 : Int32) := ⟨_, rfl⟩
                    replace hf246 := lt_of hf246 v248 ev248
                    refine j_iinc X (v := v248) (lv' := [(3, .int v248), (0, .ref b), (1, .ref (q1 x1)), (2, .ref (q1 x2))]) dL_law_1219 3 rfl (by rw [ev248]; rfl) (by decide) rfl ?_
                    refine j_goto X (tgt := 18) dL_law_1222 (by decide) ?_
                    refine j_lvsub [1, 2, 3, 0] (lv' := [(0, .ref b), (1, .ref (q1 x1)), (2, .ref (q1 x2)), (3, .int v248)]) rfl ?_
                    refine j_widen (cells' := 100 + 9 * (k + 1)) (slots' := 8000 + 490 * (k + 1)) (by omega) (by omega) ?_
                    exact ih (k + 1) (by omega) q1 x1 x2 v248 σ240 hf246
                  · have hf247 := br_n hf244 c245; clear hf244
                    refine j_iconst X (v := 0) dL_law_316 (by decide) ?_
                    exact absurd (rt_of hf247).1 (by decide)
                · have hf212 := br_n hf188 c210; clear hf188
                  by_cases c250 : v38 = (6 : Int32)
                  · have hf251 := br_y hf212 c250; clear hf212
                    refine j_tabIn X (v := 6) (tgt := 318) dL_law_33 c250 (by decide) (by decide) rfl (by decide) ?_
                    refine j_aload_n X dL_law_318 1 rfl rfl ?_
                    refine j_aload_n X dL_law_319 0 rfl rfl ?_
                    refine j_iload_n X dL_law_320 3 rfl rfl ?_
                    refine j_iconst X (v := 1) dL_law_321 (by decide) ?_
                    refine j_iadd X dL_law_322 ?_
                    obtain ⟨h253, hf254⟩ := chk_of hf251; clear hf251
                    refine j_sld X hX hbl hbA h253 dL_law_323 (fun v255 ev255 => ?_)
                    replace hf254 := lt_of hf254 v255 ev255
                    refine j_aload_n X dL_law_324 0 rfl rfl ?_
                    refine j_iload_n X dL_law_325 3 rfl rfl ?_
                    refine j_iconst X (v := 2) dL_law_326 (by decide) ?_
                    refine j_iadd X dL_law_327 ?_
                    obtain ⟨h257, hf258⟩ := chk_of hf254; clear hf254
                    refine j_sld X hX hbl hbA h257 dL_law_328 (fun v259 ev259 => ?_)
                    replace hf258 := lt_of hf258 v259 ev259
                    obtain ⟨h261, hf262⟩ := chk_of hf258; clear hf258
                    obtain ⟨r263, σ264, h265, hf266⟩ := bc_of hf262; clear hf262
                    refine j_callV0 X [.int v255, .int v259] [] (c_X5_alike l D cs q1 x1 v255 v259 τ _ _ h265) mk_X5_alike mv_X5_alike ml_L_41 h261 rfl (by decide) ⟨rfl, rfl⟩ ⟨Nat.le_of_ble_eq_true rfl, Nat.le_of_ble_eq_true rfl⟩ rfl (Nat.le_of_ble_eq_true rfl) ⟨(by show _ ≤ 808171; omega), (by show _ ≤ 6677735; omega)⟩ dL_law_329 rfl (st' := [.int r263]) rfl ?_
                    obtain ⟨h267, hf268⟩ := chk_of hf266; clear hf266
                    refine j_aload_n X dL_law_332 2 rfl rfl ?_
                    refine j_aload_n X dL_law_333 0 rfl rfl ?_
                    refine j_iload_n X dL_law_334 3 rfl rfl ?_
                    refine j_iconst X (v := 1) dL_law_335 (by decide) ?_
                    refine j_iadd X dL_law_336 ?_
                    obtain ⟨h269, hf270⟩ := chk_of hf268; clear hf268
                    refine j_sld X hX hbl hbA h269 dL_law_337 (fun v271 ev271 => ?_)
                    replace hf270 := lt_of hf270 v271 ev271
                    refine j_aload_n X dL_law_338 0 rfl rfl ?_
                    refine j_iload_n X dL_law_339 3 rfl rfl ?_
                    refine j_iconst X (v := 2) dL_law_340 (by decide) ?_
                    refine j_iadd X dL_law_341 ?_
                    obtain ⟨h273, hf274⟩ := chk_of hf270; clear hf270
                    refine j_sld X hX hbl hbA h273 dL_law_342 (fun v275 ev275 => ?_)
                    replace hf274 := lt_of hf274 v275 ev275
                    obtain ⟨h277, hf278⟩ := chk_of hf274; clear hf274
                    obtain ⟨r279, σ280, h281, hf282⟩ := bc_of hf278; clear hf278
                    refine j_callV0 X [.int v271, .int v275] [.int r263] (c_X6_alike l D cs q1 x2 v271 v275 σ264 _ _ h281) mk_X6_alike mv_X6_alike ml_L_44 h277 rfl (by decide) ⟨rfl, rfl⟩ ⟨Nat.le_of_ble_eq_true rfl, Nat.le_of_ble_eq_true rfl⟩ rfl (Nat.le_of_ble_eq_true rfl) ⟨(by show _ ≤ 808171; omega), (by show _ ≤ 6677735; omega)⟩ dL_law_343 rfl (st' := [.int r279, .int r263]) rfl ?_
                    obtain ⟨h283, hf284⟩ := chk_of hf282; clear hf282
                    refine j_icmp_eq X (tgt := 1219) dL_law_346 (by decide) (fun c285 => ?_) (fun c285 => ?_)
                    · have hf286 := br_y hf284 c285; clear hf284
                      obtain ⟨v288, ev288⟩ : ∃ y : Int32, y = x3 + (9 : Int32) := ⟨_, rfl⟩
                      replace hf286 := lt_of hf286 v288 ev288
                      refine j_iinc X (v := v288) (lv' := [(3, .int v288), (0, .ref b), (1, .ref (q1 x1)), (2, .ref (q1 x2))]) dL_law_1219 3 rfl (by rw [ev288]; rfl) (by decide) rfl ?_
                      refine j_goto X (tgt := 18) dL_law_1222 (by decide) ?_
                      refine j_lvsub [1, 2, 3, 0] (lv' := [(0, .ref b), (1, .ref (q1 x1)), (2, .ref (q1 x2)), (3, .int v288)]) rfl ?_
                      refine j_widen (cells' := 100 + 9 * (k + 1)) (slots' := 8000 + 490 * (k + 1)) (by omega) (by omega) ?_
                      exact ih (k + 1) (by omega) q1 x1 x2 v288 σ280 hf286
                    · have hf287 := br_n hf284 c285; clear hf284
                      refine j_iconst X (v := 0) dL_law_349 (by decide) ?_
                      exact absurd (rt_of hf287).1 (by decide)
                  · have hf252 := br_n hf212 c250; clear hf212
                    by_cases c290 : v38 = (7 : Int32)
                    · have hf291 := br_y hf252 c290; clear hf252
                      refine j_tabIn X (v := 7) (tgt := 351) dL_law_33 c290 (by decide) (by decide) rfl (by decide) ?_
                      refine j_aload_n X dL_law_351 1 rfl rfl ?_
                      refine j_aload_n X dL_law_352 0 rfl rfl ?_
                      refine j_iload_n X dL_law_353 3 rfl rfl ?_
                      refine j_iconst X (v := 1) dL_law_354 (by decide) ?_
                      refine j_iadd X dL_law_355 ?_
                      obtain ⟨h293, hf294⟩ := chk_of hf291; clear hf291
                      refine j_sld X hX hbl hbA h293 dL_law_356 (fun v295 ev295 => ?_)
                      replace hf294 := lt_of hf294 v295 ev295
                      refine j_aload_n X dL_law_357 0 rfl rfl ?_
                      refine j_iload_n X dL_law_358 3 rfl rfl ?_
                      refine j_iconst X (v := 2) dL_law_359 (by decide) ?_
                      refine j_iadd X dL_law_360 ?_
                      obtain ⟨h297, hf298⟩ := chk_of hf294; clear hf294
                      refine j_sld X hX hbl hbA h297 dL_law_361 (fun v299 ev299 => ?_)
                      replace hf298 := lt_of hf298 v299 ev299
                      obtain ⟨h301, hf302⟩ := chk_of hf298; clear hf298
                      obtain ⟨r303, σ304, h305, hf306⟩ := bc_of hf302; clear hf302
                      refine j_callV0 X [.int v295, .int v299] [] (c_X5_span l D cs q1 x1 v295 v299 τ _ _ h305) mk_X5_span mv_X5_span ml_L_45 h301 rfl (by decide) ⟨rfl, rfl⟩ ⟨Nat.le_of_ble_eq_true rfl, Nat.le_of_ble_eq_true rfl⟩ rfl (Nat.le_of_ble_eq_true rfl) ⟨(by show _ ≤ 808171; omega), (by show _ ≤ 6677735; omega)⟩ dL_law_362 rfl (st' := [.long r303]) rfl ?_
                      obtain ⟨h307, hf308⟩ := chk_of hf306; clear hf306
                      refine j_aload_n X dL_law_365 2 rfl rfl ?_
                      refine j_aload_n X dL_law_366 0 rfl rfl ?_
                      refine j_iload_n X dL_law_367 3 rfl rfl ?_
                      refine j_iconst X (v := 1) dL_law_368 (by decide) ?_
                      refine j_iadd X dL_law_369 ?_
                      obtain ⟨h309, hf310⟩ := chk_of hf308; clear hf308
                      refine j_sld X hX hbl hbA h309 dL_law_370 (fun v311 ev311 => ?_)
                      replace hf310 := lt_of hf310 v311 ev311
                      refine j_aload_n X dL_law_371 0 rfl rfl ?_
                      refine j_iload_n X dL_law_372 3 rfl rfl ?_
                      refine j_iconst X (v := 2) dL_law_373 (by decide) ?_
                      refine j_iadd X dL_law_374 ?_
                      obtain ⟨h313, hf314⟩ := chk_of hf310; clear hf310
                      refine j_sld X hX hbl hbA h313 dL_law_375 (fun v315 ev315 => ?_)
                      replace hf314 := lt_of hf314 v315 ev315
                      obtain ⟨h317, hf318⟩ := chk_of hf314; clear hf314
                      obtain ⟨r319, σ320, h321, hf322⟩ := bc_of hf318; clear hf318
                      refine j_callV0 X [.int v311, .int v315] [.long r303] (c_X6_span l D cs q1 x2 v311 v315 σ304 _ _ h321) mk_X6_span mv_X6_span ml_L_49 h317 rfl (by decide) ⟨rfl, rfl⟩ ⟨Nat.le_of_ble_eq_true rfl, Nat.le_of_ble_eq_true rfl⟩ rfl (Nat.le_of_ble_eq_true rfl) ⟨(by show _ ≤ 808171; omega), (by show _ ≤ 6677735; omega)⟩ dL_law_376 rfl (st' := [.long r319, .long r303]) rfl ?_
                      obtain ⟨h323, hf324⟩ := chk_of hf322; clear hf322
                      refine j_lcmp X dL_law_379 ?_
                      refine j_if_eq X (tgt := 1219) dL_law_380 (by decide) (fun c325 => ?_) (fun c325 => ?_)
                      · have hf326 := br_y hf324 c325; clear hf324
                        obtain ⟨v328, ev328⟩ : ∃ y : Int32, y = x3 + (9 : Int32) := ⟨_, rfl⟩
                        replace hf326 := lt_of hf326 v328 ev328
                        refine j_iinc X (v := v328) (lv' := [(3, .int v328), (0, .ref b), (1, .ref (q1 x1)), (2, .ref (q1 x2))]) dL_law_1219 3 rfl (by rw [ev328]; rfl) (by decide) rfl ?_
                        refine j_goto X (tgt := 18) dL_law_1222 (by decide) ?_
                        refine j_lvsub [1, 2, 3, 0] (lv' := [(0, .ref b), (1, .ref (q1 x1)), (2, .ref (q1 x2)), (3, .int v328)]) rfl ?_
                        refine j_widen (cells' := 100 + 9 * (k + 1)) (slots' := 8000 + 490 * (k + 1)) (by omega) (by omega) ?_
                        exact ih (k + 1) (by omega) q1 x1 x2 v328 σ320 hf326
                      · have hf327 := br_n hf324 c325; clear hf324
                        refine j_iconst X (v := 0) dL_law_383 (by decide) ?_
                        exact absurd (rt_of hf327).1 (by decide)
                    · have hf292 := br_n hf252 c290; clear hf252
                      by_cases c330 : v38 = (8 : Int32)
                      · have hf331 := br_y hf292 c330; clear hf292
                        refine j_tabIn X (v := 8) (tgt := 385) dL_law_33 c330 (by decide) (by decide) rfl (by decide) ?_
                        refine j_aload_n X dL_law_385 1 rfl rfl ?_
                        refine j_aload_n X dL_law_386 0 rfl rfl ?_
                        refine j_iload_n X dL_law_387 3 rfl rfl ?_
                        refine j_iconst X (v := 1) dL_law_388 (by decide) ?_
                        refine j_iadd X dL_law_389 ?_
                        obtain ⟨h333, hf334⟩ := chk_of hf331; clear hf331
                        refine j_sld X hX hbl hbA h333 dL_law_390 (fun v335 ev335 => ?_)
                        replace hf334 := lt_of hf334 v335 ev335
                        obtain ⟨h337, hf338⟩ := chk_of hf334; clear hf334
                        obtain ⟨r339, σ340, h341, hf342⟩ := bc_of hf338; clear hf338
                        refine j_callV0 X [.int v335] [] (c_X5_way l D cs q1 x1 v335 τ _ _ h341) mk_X5_way mv_X5_way ml_L_50 h337 rfl (by decide) ⟨rfl, rfl⟩ ⟨Nat.le_of_ble_eq_true rfl, Nat.le_of_ble_eq_true rfl⟩ rfl (Nat.le_of_ble_eq_true rfl) ⟨(by show _ ≤ 808171; omega), (by show _ ≤ 6677735; omega)⟩ dL_law_391 rfl (st' := [.int r339]) rfl ?_
                        obtain ⟨h343, hf344⟩ := chk_of hf342; clear hf342
                        refine j_aload_n X dL_law_394 2 rfl rfl ?_
                        refine j_aload_n X dL_law_395 0 rfl rfl ?_
                        refine j_iload_n X dL_law_396 3 rfl rfl ?_
                        refine j_iconst X (v := 1) dL_law_397 (by decide) ?_
                        refine j_iadd X dL_law_398 ?_
                        obtain ⟨h345, hf346⟩ := chk_of hf344; clear hf344
                        refine j_sld X hX hbl hbA h345 dL_law_399 (fun v347 ev347 => ?_)
                        replace hf346 := lt_of hf346 v347 ev347
                        obtain ⟨h349, hf350⟩ := chk_of hf346; clear hf346
                        obtain ⟨r351, σ352, h353, hf354⟩ := bc_of hf350; clear hf350
                        refine j_callV0 X [.int v347] [.int r339] (c_X6_way l D cs q1 x2 v347 σ340 _ _ h353) mk_X6_way mv_X6_way ml_L_53 h349 rfl (by decide) ⟨rfl, rfl⟩ ⟨Nat.le_of_ble_eq_true rfl, Nat.le_of_ble_eq_true rfl⟩ rfl (Nat.le_of_ble_eq_true rfl) ⟨(by show _ ≤ 808171; omega), (by show _ ≤ 6677735; omega)⟩ dL_law_400 rfl (st' := [.int r351, .int r339]) rfl ?_
                        obtain ⟨h355, hf356⟩ := chk_of hf354; clear hf354
                        refine j_icmp_eq X (tgt := 1219) dL_law_403 (by decide) (fun c357 => ?_) (fun c357 => ?_)
                        · have hf358 := br_y hf356 c357; clear hf356
                          obtain ⟨v360, ev360⟩ : ∃ y : Int32, y = x3 + (9 : Int32) := ⟨_, rfl⟩
                          replace hf358 := lt_of hf358 v360 ev360
                          refine j_iinc X (v := v360) (lv' := [(3, .int v360), (0, .ref b), (1, .ref (q1 x1)), (2, .ref (q1 x2))]) dL_law_1219 3 rfl (by rw [ev360]; rfl) (by decide) rfl ?_
                          refine j_goto X (tgt := 18) dL_law_1222 (by decide) ?_
                          refine j_lvsub [1, 2, 3, 0] (lv' := [(0, .ref b), (1, .ref (q1 x1)), (2, .ref (q1 x2)), (3, .int v360)]) rfl ?_
                          refine j_widen (cells' := 100 + 9 * (k + 1)) (slots' := 8000 + 490 * (k + 1)) (by omega) (by omega) ?_
                          exact ih (k + 1) (by omega) q1 x1 x2 v360 σ352 hf358
                        · have hf359 := br_n hf356 c357; clear hf356
                          refine j_iconst X (v := 0) dL_law_406 (by decide) ?_
                          exact absurd (rt_of hf359).1 (by decide)
                      · have hf332 := br_n hf292 c330; clear hf292
                        by_cases c362 : v38 = (9 : Int32)
                        · have hf363 := br_y hf332 c362; clear hf332
                          refine j_tabIn X (v := 9) (tgt := 408) dL_law_33 c362 (by decide) (by decide) rfl (by decide) ?_
                          refine j_aload_n X dL_law_408 1 rfl rfl ?_
                          refine j_aload_n X dL_law_409 0 rfl rfl ?_
                          refine j_iload_n X dL_law_410 3 rfl rfl ?_
                          refine j_iconst X (v := 1) dL_law_411 (by decide) ?_
                          refine j_iadd X dL_law_412 ?_
                          obtain ⟨h365, hf366⟩ := chk_of hf363; clear hf363
                          refine j_sld X hX hbl hbA h365 dL_law_413 (fun v367 ev367 => ?_)
                          replace hf366 := lt_of hf366 v367 ev367
                          obtain ⟨h369, hf370⟩ := chk_of hf366; clear hf366
                          obtain ⟨r371, σ372, h373, hf374⟩ := bc_of hf370; clear hf370
                          refine j_callV0 X [.int v367] [] (c_X5_exact l D cs q1 x1 v367 τ _ _ h373) mk_X5_exact mv_X5_exact ml_L_54 h369 rfl (by decide) ⟨rfl, rfl⟩ ⟨Nat.le_of_ble_eq_true rfl, Nat.le_of_ble_eq_true rfl⟩ rfl (Nat.le_of_ble_eq_true rfl) ⟨(by show _ ≤ 808171; omega), (by show _ ≤ 6677735; omega)⟩ dL_law_414 rfl (st' := [.long r371]) rfl ?_
                          obtain ⟨h375, hf376⟩ := chk_of hf374; clear hf374
                          refine j_aload_n X dL_law_417 2 rfl rfl ?_
                          refine j_aload_n X dL_law_418 0 rfl rfl ?_
                          refine j_iload_n X dL_law_419 3 rfl rfl ?_
                          refine j_iconst X (v := 1) dL_law_420 (by decide) ?_
                          refine j_iadd X dL_law_421 ?_
                          obtain ⟨h377, hf378⟩ := chk_of hf376; clear hf376
                          refine j_sld X hX hbl hbA h377 dL_law_422 (fun v379 ev379 => ?_)
                          replace hf378 := lt_of hf378 v379 ev379
                          obtain ⟨h381, hf382⟩ := chk_of hf378; clear hf378
                          obtain ⟨r383, σ384, h385, hf386⟩ := bc_of hf382; clear hf382
                          refine j_callV0 X [.int v379] [.long r371] (c_X6_exact l D cs q1 x2 v379 σ372 _ _ h385) mk_X6_exact mv_X6_exact ml_L_58 h381 rfl (by decide) ⟨rfl, rfl⟩ ⟨Nat.le_of_ble_eq_true rfl, Nat.le_of_ble_eq_true rfl⟩ rfl (Nat.le_of_ble_eq_true rfl) ⟨(by show _ ≤ 808171; omega), (by show _ ≤ 6677735; omega)⟩ dL_law_423 rfl (st' := [.long r383, .long r371]) rfl ?_
                          obtain ⟨h387, hf388⟩ := chk_of hf386; clear hf386
                          refine j_lcmp X dL_law_426 ?_
                          refine j_if_eq X (tgt := 1219) dL_law_427 (by decide) (fun c389 => ?_) (fun c389 => ?_)
                          · have hf390 := br_y hf388 c389; clear hf388
                            obtain ⟨v392, ev392⟩ : ∃ y : Int32, y = x3 + (9 : Int32) := ⟨_, rfl⟩
                            replace hf390 := lt_of hf390 v392 ev392
                            refine j_iinc X (v := v392) (lv' := [(3, .int v392), (0, .ref b), (1, .ref (q1 x1)), (2, .ref (q1 x2))]) dL_law_1219 3 rfl (by rw [ev392]; rfl) (by decide) rfl ?_
                            refine j_goto X (tgt := 18) dL_law_1222 (by decide) ?_
                            refine j_lvsub [1, 2, 3, 0] (lv' := [(0, .ref b), (1, .ref (q1 x1)), (2, .ref (q1 x2)), (3, .int v392)]) rfl ?_
                            refine j_widen (cells' := 100 + 9 * (k + 1)) (slots' := 8000 + 490 * (k + 1)) (by omega) (by omega) ?_
                            exact ih (k + 1) (by omega) q1 x1 x2 v392 σ384 hf390
                          · have hf391 := br_n hf388 c389; clear hf388
                            refine j_iconst X (v := 0) dL_law_430 (by decide) ?_
                            exact absurd (rt_of hf391).1 (by decide)
                        · have hf364 := br_n hf332 c362; clear hf332
                          by_cases c394 : v38 = (10 : Int32)
                          · have hf395 := br_y hf364 c394; clear hf364
                            refine j_tabIn X (v := 10) (tgt := 432) dL_law_33 c394 (by decide) (by decide) rfl (by decide) ?_
                            refine j_aload_n X dL_law_432 1 rfl rfl ?_
                            refine j_aload_n X dL_law_433 0 rfl rfl ?_
                            refine j_iload_n X dL_law_434 3 rfl rfl ?_
                            refine j_iconst X (v := 1) dL_law_435 (by decide) ?_
                            refine j_iadd X dL_law_436 ?_
                            obtain ⟨h397, hf398⟩ := chk_of hf395; clear hf395
                            refine j_sld X hX hbl hbA h397 dL_law_437 (fun v399 ev399 => ?_)
                            replace hf398 := lt_of hf398 v399 ev399
                            refine j_aload_n X dL_law_438 0 rfl rfl ?_
                            refine j_iload_n X dL_law_439 3 rfl rfl ?_
                            refine j_iconst X (v := 2) dL_law_440 (by decide) ?_
                            refine j_iadd X dL_law_441 ?_
                            obtain ⟨h401, hf402⟩ := chk_of hf398; clear hf398
                            refine j_sld X hX hbl hbA h401 dL_law_442 (fun v403 ev403 => ?_)
                            replace hf402 := lt_of hf402 v403 ev403
                            obtain ⟨h405, hf406⟩ := chk_of hf402; clear hf402
                            obtain ⟨r407, σ408, h409, hf410⟩ := bc_of hf406; clear hf406
                            refine j_callV0 X [.int v399, .int v403] [] (c_X5_corner l D cs q1 x1 v399 v403 τ _ _ h409) mk_X5_corner mv_X5_corner ml_L_59 h405 rfl (by decide) ⟨rfl, rfl⟩ ⟨Nat.le_of_ble_eq_true rfl, Nat.le_of_ble_eq_true rfl⟩ rfl (Nat.le_of_ble_eq_true rfl) ⟨(by show _ ≤ 808171; omega), (by show _ ≤ 6677735; omega)⟩ dL_law_443 rfl (st' := [.long r407]) rfl ?_
                            obtain ⟨h411, hf412⟩ := chk_of hf410; clear hf410
                            refine j_aload_n X dL_law_446 2 rfl rfl ?_
                            refine j_aload_n X dL_law_447 0 rfl rfl ?_
                            refine j_iload_n X dL_law_448 3 rfl rfl ?_
                            refine j_iconst X (v := 1) dL_law_449 (by decide) ?_
                            refine j_iadd X dL_law_450 ?_
                            obtain ⟨h413, hf414⟩ := chk_of hf412; clear hf412
                            refine j_sld X hX hbl hbA h413 dL_law_451 (fun v415 ev415 => ?_)
                            replace hf414 := lt_of hf414 v415 ev415
                            refine j_aload_n X dL_law_452 0 rfl rfl ?_
                            refine j_iload_n X dL_law_453 3 rfl rfl ?_
                            refine j_iconst X (v := 2) dL_law_454 (by decide) ?_
                            refine j_iadd X dL_law_455 ?_
                            obtain ⟨h417, hf418⟩ := chk_of hf414; clear hf414
                            refine j_sld X hX hbl hbA h417 dL_law_456 (fun v419 ev419 => ?_)
                            replace hf418 := lt_of hf418 v419 ev419
                            obtain ⟨h421, hf422⟩ := chk_of hf418; clear hf418
                            obtain ⟨r423, σ424, h425, hf426⟩ := bc_of hf422; clear hf422
                            refine j_callV0 X [.int v415, .int v419] [.long r407] (c_X6_corner l D cs q1 x2 v415 v419 σ408 _ _ h425) mk_X6_corner mv_X6_corner ml_L_62 h421 rfl (by decide) ⟨rfl, rfl⟩ ⟨Nat.le_of_ble_eq_true rfl, Nat.le_of_ble_eq_true rfl⟩ rfl (Nat.le_of_ble_eq_true rfl) ⟨(by show _ ≤ 808171; omega), (by show _ ≤ 6677735; omega)⟩ dL_law_457 rfl (st' := [.long r423, .long r407]) rfl ?_
                            obtain ⟨h427, hf428⟩ := chk_of hf426; clear hf426
                            refine j_lcmp X dL_law_460 ?_
                            refine j_if_eq X (tgt := 1219) dL_law_461 (by decide) (fun c429 => ?_) (fun c429 => ?_)
                            · have hf430 := br_y hf428 c429; clear hf428
                              obtain ⟨v432, ev432⟩ : ∃ y : Int32, y = x3 + (9 : Int32) := ⟨_, rfl⟩
                              replace hf430 := lt_of hf430 v432 ev432
                              refine j_iinc X (v := v432) (lv' := [(3, .int v432), (0, .ref b), (1, .ref (q1 x1)), (2, .ref (q1 x2))]) dL_law_1219 3 rfl (by rw [ev432]; rfl) (by decide) rfl ?_
                              refine j_goto X (tgt := 18) dL_law_1222 (by decide) ?_
                              refine j_lvsub [1, 2, 3, 0] (lv' := [(0, .ref b), (1, .ref (q1 x1)), (2, .ref (q1 x2)), (3, .int v432)]) rfl ?_
                              refine j_widen (cells' := 100 + 9 * (k + 1)) (slots' := 8000 + 490 * (k + 1)) (by omega) (by omega) ?_
                              exact ih (k + 1) (by omega) q1 x1 x2 v432 σ424 hf430
                            · have hf431 := br_n hf428 c429; clear hf428
                              refine j_iconst X (v := 0) dL_law_464 (by decide) ?_
                              exact absurd (rt_of hf431).1 (by decide)
                          · have hf396 := br_n hf364 c394; clear hf364
                            by_cases c434 : v38 = (11 : Int32)
                            · have hf435 := br_y hf396 c434; clear hf396
                              refine j_tabIn X (v := 11) (tgt := 466) dL_law_33 c434 (by decide) (by decide) rfl (by decide) ?_
                              refine j_aload_n X dL_law_466 1 rfl rfl ?_
                              refine j_aload_n X dL_law_467 0 rfl rfl ?_
                              refine j_iload_n X dL_law_468 3 rfl rfl ?_
                              refine j_iconst X (v := 1) dL_law_469 (by decide) ?_
                              refine j_iadd X dL_law_470 ?_
                              obtain ⟨h437, hf438⟩ := chk_of hf435; clear hf435
                              refine j_sld X hX hbl hbA h437 dL_law_471 (fun v439 ev439 => ?_)
                              replace hf438 := lt_of hf438 v439 ev439
                              refine j_aload_n X dL_law_472 0 rfl rfl ?_
                              refine j_iload_n X dL_law_473 3 rfl rfl ?_
                              refine j_iconst X (v := 2) dL_law_474 (by decide) ?_
                              refine j_iadd X dL_law_475 ?_
                              obtain ⟨h441, hf442⟩ := chk_of hf438; clear hf438
                              refine j_sld X hX hbl hbA h441 dL_law_476 (fun v443 ev443 => ?_)
                              replace hf442 := lt_of hf442 v443 ev443
                              obtain ⟨h445, hf446⟩ := chk_of hf442; clear hf442
                              obtain ⟨r447, σ448, h449, hf450⟩ := bc_of hf446; clear hf446
                              refine j_callV0 X [.int v439, .int v443] [] (c_X5_rises l D cs q1 x1 v439 v443 τ _ _ h449) mk_X5_rises mv_X5_rises ml_L_63 h445 rfl (by decide) ⟨rfl, rfl⟩ ⟨Nat.le_of_ble_eq_true rfl, Nat.le_of_ble_eq_true rfl⟩ rfl (Nat.le_of_ble_eq_true rfl) ⟨(by show _ ≤ 808171; omega), (by show _ ≤ 6677735; omega)⟩ dL_law_477 rfl (st' := [.int r447]) rfl ?_
                              obtain ⟨h451, hf452⟩ := chk_of hf450; clear hf450
                              refine j_aload_n X dL_law_480 2 rfl rfl ?_
                              refine j_aload_n X dL_law_481 0 rfl rfl ?_
                              refine j_iload_n X dL_law_482 3 rfl rfl ?_
                              refine j_iconst X (v := 1) dL_law_483 (by decide) ?_
                              refine j_iadd X dL_law_484 ?_
                              obtain ⟨h453, hf454⟩ := chk_of hf452; clear hf452
                              refine j_sld X hX hbl hbA h453 dL_law_485 (fun v455 ev455 => ?_)
                              replace hf454 := lt_of hf454 v455 ev455
                              refine j_aload_n X dL_law_486 0 rfl rfl ?_
                              refine j_iload_n X dL_law_487 3 rfl rfl ?_
                              refine j_iconst X (v := 2) dL_law_488 (by decide) ?_
                              refine j_iadd X dL_law_489 ?_
                              obtain ⟨h457, hf458⟩ := chk_of hf454; clear hf454
                              refine j_sld X hX hbl hbA h457 dL_law_490 (fun v459 ev459 => ?_)
                              replace hf458 := lt_of hf458 v459 ev459
                              obtain ⟨h461, hf462⟩ := chk_of hf458; clear hf458
                              obtain ⟨r463, σ464, h465, hf466⟩ := bc_of hf462; clear hf462
                              refine j_callV0 X [.int v455, .int v459] [.int r447] (c_X6_rises l D cs q1 x2 v455 v459 σ448 _ _ h465) mk_X6_rises mv_X6_rises ml_L_66 h461 rfl (by decide) ⟨rfl, rfl⟩ ⟨Nat.le_of_ble_eq_true rfl, Nat.le_of_ble_eq_true rfl⟩ rfl (Nat.le_of_ble_eq_true rfl) ⟨(by show _ ≤ 808171; omega), (by show _ ≤ 6677735; omega)⟩ dL_law_491 rfl (st' := [.int r463, .int r447]) rfl ?_
                              obtain ⟨h467, hf468⟩ := chk_of hf466; clear hf466
                              refine j_icmp_eq X (tgt := 1219) dL_law_494 (by decide) (fun c469 => ?_) (fun c469 => ?_)
                              · have hf470 := br_y hf468 c469; clear hf468
                                obtain ⟨v472, ev472⟩ : ∃ y : Int32, y = x3 + (9 : Int32) := ⟨_, rfl⟩
                                replace hf470 := lt_of hf470 v472 ev472
                                refine j_iinc X (v := v472) (lv' := [(3, .int v472), (0, .ref b), (1, .ref (q1 x1)), (2, .ref (q1 x2))]) dL_law_1219 3 rfl (by rw [ev472]; rfl) (by decide) rfl ?_
                                refine j_goto X (tgt := 18) dL_law_1222 (by decide) ?_
                                refine j_lvsub [1, 2, 3, 0] (lv' := [(0, .ref b), (1, .ref (q1 x1)), (2, .ref (q1 x2)), (3, .int v472)]) rfl ?_
                                refine j_widen (cells' := 100 + 9 * (k + 1)) (slots' := 8000 + 490 * (k + 1)) (by omega) (by omega) ?_
                                exact ih (k + 1) (by omega) q1 x1 x2 v472 σ464 hf470
                              · have hf471 := br_n hf468 c469; clear hf468
                                refine j_iconst X (v := 0) dL_law_497 (by decide) ?_
                                exact absurd (rt_of hf471).1 (by decide)
                            · have hf436 := br_n hf396 c434; clear hf396
                              by_cases c474 : v38 = (12 : Int32)
                              · have hf475 := br_y hf436 c474; clear hf436
                                refine j_tabIn X (v := 12) (tgt := 499) dL_law_33 c474 (by decide) (by decide) rfl (by decide) ?_
                                refine j_aload_n X dL_law_499 1 rfl rfl ?_
                                refine j_aload_n X dL_law_500 0 rfl rfl ?_
                                refine j_iload_n X dL_law_501 3 rfl rfl ?_
                                refine j_iconst X (v := 1) dL_law_502 (by decide) ?_
                                refine j_iadd X dL_law_503 ?_
                                obtain ⟨h477, hf478⟩ := chk_of hf475; clear hf475
                                refine j_sld X hX hbl hbA h477 dL_law_504 (fun v479 ev479 => ?_)
                                replace hf478 := lt_of hf478 v479 ev479
                                refine j_aload_n X dL_law_505 0 rfl rfl ?_
                                refine j_iload_n X dL_law_506 3 rfl rfl ?_
                                refine j_iconst X (v := 2) dL_law_507 (by decide) ?_
                                refine j_iadd X dL_law_508 ?_
                                obtain ⟨h481, hf482⟩ := chk_of hf478; clear hf478
                                refine j_sld X hX hbl hbA h481 dL_law_509 (fun v483 ev483 => ?_)
                                replace hf482 := lt_of hf482 v483 ev483
                                obtain ⟨h485, hf486⟩ := chk_of hf482; clear hf482
                                obtain ⟨r487, σ488, h489, hf490⟩ := bc_of hf486; clear hf486
                                refine j_callV0 X [.int v479, .int v483] [] (c_X5_tight l D cs q1 x1 v479 v483 τ _ _ h489) mk_X5_tight mv_X5_tight ml_L_67 h485 rfl (by decide) ⟨rfl, rfl⟩ ⟨Nat.le_of_ble_eq_true rfl, Nat.le_of_ble_eq_true rfl⟩ rfl (Nat.le_of_ble_eq_true rfl) ⟨(by show _ ≤ 808171; omega), (by show _ ≤ 6677735; omega)⟩ dL_law_510 rfl (st' := [.long r487]) rfl ?_
                                obtain ⟨h491, hf492⟩ := chk_of hf490; clear hf490
                                refine j_aload_n X dL_law_513 2 rfl rfl ?_
                                refine j_aload_n X dL_law_514 0 rfl rfl ?_
                                refine j_iload_n X dL_law_515 3 rfl rfl ?_
                                refine j_iconst X (v := 1) dL_law_516 (by decide) ?_
                                refine j_iadd X dL_law_517 ?_
                                obtain ⟨h493, hf494⟩ := chk_of hf492; clear hf492
                                refine j_sld X hX hbl hbA h493 dL_law_518 (fun v495 ev495 => ?_)
                                replace hf494 := lt_of hf494 v495 ev495
                                refine j_aload_n X dL_law_519 0 rfl rfl ?_
                                refine j_iload_n X dL_law_520 3 rfl rfl ?_
                                refine j_iconst X (v := 2) dL_law_521 (by decide) ?_
                                refine j_iadd X dL_law_522 ?_
                                obtain ⟨h497, hf498⟩ := chk_of hf494; clear hf494
                                refine j_sld X hX hbl hbA h497 dL_law_523 (fun v499 ev499 => ?_)
                                replace hf498 := lt_of hf498 v499 ev499
                                obtain ⟨h501, hf502⟩ := chk_of hf498; clear hf498
                                obtain ⟨r503, σ504, h505, hf506⟩ := bc_of hf502; clear hf502
                                refine j_callV0 X [.int v495, .int v499] [.long r487] (c_X6_tight l D cs q1 x2 v495 v499 σ488 _ _ h505) mk_X6_tight mv_X6_tight ml_L_70 h501 rfl (by decide) ⟨rfl, rfl⟩ ⟨Nat.le_of_ble_eq_true rfl, Nat.le_of_ble_eq_true rfl⟩ rfl (Nat.le_of_ble_eq_true rfl) ⟨(by show _ ≤ 808171; omega), (by show _ ≤ 6677735; omega)⟩ dL_law_524 rfl (st' := [.long r503, .long r487]) rfl ?_
                                obtain ⟨h507, hf508⟩ := chk_of hf506; clear hf506
                                refine j_lcmp X dL_law_527 ?_
                                refine j_if_eq X (tgt := 1219) dL_law_528 (by decide) (fun c509 => ?_) (fun c509 => ?_)
                                · have hf510 := br_y hf508 c509; clear hf508
                                  obtain ⟨v512, ev512⟩ : ∃ y : Int32, y = x3 + (9 : Int32) := ⟨_, rfl⟩
                                  replace hf510 := lt_of hf510 v512 ev512
                                  refine j_iinc X (v := v512) (lv' := [(3, .int v512), (0, .ref b), (1, .ref (q1 x1)), (2, .ref (q1 x2))]) dL_law_1219 3 rfl (by rw [ev512]; rfl) (by decide) rfl ?_
                                  refine j_goto X (tgt := 18) dL_law_1222 (by decide) ?_
                                  refine j_lvsub [1, 2, 3, 0] (lv' := [(0, .ref b), (1, .ref (q1 x1)), (2, .ref (q1 x2)), (3, .int v512)]) rfl ?_
                                  refine j_widen (cells' := 100 + 9 * (k + 1)) (slots' := 8000 + 490 * (k + 1)) (by omega) (by omega) ?_
                                  exact ih (k + 1) (by omega) q1 x1 x2 v512 σ504 hf510
                                · have hf511 := br_n hf508 c509; clear hf508
                                  refine j_iconst X (v := 0) dL_law_531 (by decide) ?_
                                  exact absurd (rt_of hf511).1 (by decide)
                              · have hf476 := br_n hf436 c474; clear hf436
                                by_cases c514 : v38 = (13 : Int32)
                                · have hf515 := br_y hf476 c514; clear hf476
                                  refine j_tabIn X (v := 13) (tgt := 533) dL_law_33 c514 (by decide) (by decide) rfl (by decide) ?_
                                  refine j_aload_n X dL_law_533 1 rfl rfl ?_
                                  refine j_aload_n X dL_law_534 0 rfl rfl ?_
                                  refine j_iload_n X dL_law_535 3 rfl rfl ?_
                                  refine j_iconst X (v := 1) dL_law_536 (by decide) ?_
                                  refine j_iadd X dL_law_537 ?_
                                  obtain ⟨h517, hf518⟩ := chk_of hf515; clear hf515
                                  refine j_sld X hX hbl hbA h517 dL_law_538 (fun v519 ev519 => ?_)
                                  replace hf518 := lt_of hf518 v519 ev519
                                  refine j_aload_n X dL_law_539 0 rfl rfl ?_
                                  refine j_iload_n X dL_law_540 3 rfl rfl ?_
                                  refine j_iconst X (v := 2) dL_law_541 (by decide) ?_
                                  refine j_iadd X dL_law_542 ?_
                                  obtain ⟨h521, hf522⟩ := chk_of hf518; clear hf518
                                  refine j_sld X hX hbl hbA h521 dL_law_543 (fun v523 ev523 => ?_)
                                  replace hf522 := lt_of hf522 v523 ev523
                                  refine j_aload_n X dL_law_544 0 rfl rfl ?_
                                  refine j_iload_n X dL_law_545 3 rfl rfl ?_
                                  refine j_iconst X (v := 3) dL_law_546 (by decide) ?_
                                  refine j_iadd X dL_law_547 ?_
                                  obtain ⟨h525, hf526⟩ := chk_of hf522; clear hf522
                                  refine j_sld X hX hbl hbA h525 dL_law_548 (fun v527 ev527 => ?_)
                                  replace hf526 := lt_of hf526 v527 ev527
                                  refine j_aload_n X dL_law_549 0 rfl rfl ?_
                                  refine j_iload_n X dL_law_550 3 rfl rfl ?_
                                  refine j_iconst X (v := 4) dL_law_551 (by decide) ?_
                                  refine j_iadd X dL_law_552 ?_
                                  obtain ⟨h529, hf530⟩ := chk_of hf526; clear hf526
                                  refine j_sld X hX hbl hbA h529 dL_law_553 (fun v531 ev531 => ?_)
                                  replace hf530 := lt_of hf530 v531 ev531
                                  obtain ⟨h533, hf534⟩ := chk_of hf530; clear hf530
                                  obtain ⟨r535, σ536, h537, hf538⟩ := bc_of hf534; clear hf534
                                  refine j_callV0 X [.int v519, .int v523, .int v527, .int v531] [] (c_X5_split l D cs q1 x1 v519 v523 v527 v531 τ _ _ h537) mk_X5_split mv_X5_split ml_L_71 h533 rfl (by decide) ⟨rfl, rfl⟩ ⟨Nat.le_of_ble_eq_true rfl, Nat.le_of_ble_eq_true rfl⟩ rfl (Nat.le_of_ble_eq_true rfl) ⟨(by show _ ≤ 808171; omega), (by show _ ≤ 6677735; omega)⟩ dL_law_554 rfl (st' := [.long r535]) rfl ?_
                                  obtain ⟨h539, hf540⟩ := chk_of hf538; clear hf538
                                  refine j_aload_n X dL_law_557 2 rfl rfl ?_
                                  refine j_aload_n X dL_law_558 0 rfl rfl ?_
                                  refine j_iload_n X dL_law_559 3 rfl rfl ?_
                                  refine j_iconst X (v := 1) dL_law_560 (by decide) ?_
                                  refine j_iadd X dL_law_561 ?_
                                  obtain ⟨h541, hf542⟩ := chk_of hf540; clear hf540
                                  refine j_sld X hX hbl hbA h541 dL_law_562 (fun v543 ev543 => ?_)
                                  replace hf542 := lt_of hf542 v543 ev543
                                  refine j_aload_n X dL_law_563 0 rfl rfl ?_
                                  refine j_iload_n X dL_law_564 3 rfl rfl ?_
                                  refine j_iconst X (v := 2) dL_law_565 (by decide) ?_
                                  refine j_iadd X dL_law_566 ?_
                                  obtain ⟨h545, hf546⟩ := chk_of hf542; clear hf542
                                  refine j_sld X hX hbl hbA h545 dL_law_567 (fun v547 ev547 => ?_)
                                  replace hf546 := lt_of hf546 v547 ev547
                                  refine j_aload_n X dL_law_568 0 rfl rfl ?_
                                  refine j_iload_n X dL_law_569 3 rfl rfl ?_
                                  refine j_iconst X (v := 3) dL_law_570 (by decide) ?_
                                  refine j_iadd X dL_law_571 ?_
                                  obtain ⟨h549, hf550⟩ := chk_of hf546; clear hf546
                                  refine j_sld X hX hbl hbA h549 dL_law_572 (fun v551 ev551 => ?_)
                                  replace hf550 := lt_of hf550 v551 ev551
                                  refine j_aload_n X dL_law_573 0 rfl rfl ?_
                                  refine j_iload_n X dL_law_574 3 rfl rfl ?_
                                  refine j_iconst X (v := 4) dL_law_575 (by decide) ?_
                                  refine j_iadd X dL_law_576 ?_
                                  obtain ⟨h553, hf554⟩ := chk_of hf550; clear hf550
                                  refine j_sld X hX hbl hbA h553 dL_law_577 (fun v555 ev555 => ?_)
                                  replace hf554 := lt_of hf554 v555 ev555
                                  obtain ⟨h557, hf558⟩ := chk_of hf554; clear hf554
                                  obtain ⟨r559, σ560, h561, hf562⟩ := bc_of hf558; clear hf558
                                  refine j_callV0 X [.int v543, .int v547, .int v551, .int v555] [.long r535] (c_X6_split l D cs q1 x2 v543 v547 v551 v555 σ536 _ _ h561) mk_X6_split mv_X6_split ml_L_75 h557 rfl (by decide) ⟨rfl, rfl⟩ ⟨Nat.le_of_ble_eq_true rfl, Nat.le_of_ble_eq_true rfl⟩ rfl (Nat.le_of_ble_eq_true rfl) ⟨(by show _ ≤ 808171; omega), (by show _ ≤ 6677735; omega)⟩ dL_law_578 rfl (st' := [.long r559, .long r535]) rfl ?_
                                  obtain ⟨h563, hf564⟩ := chk_of hf562; clear hf562
                                  refine j_lcmp X dL_law_581 ?_
                                  refine j_if_eq X (tgt := 1219) dL_law_582 (by decide) (fun c565 => ?_) (fun c565 => ?_)
                                  · have hf566 := br_y hf564 c565; clear hf564
                                    obtain ⟨v568, ev568⟩ : ∃ y : Int32, y = x3 + (9 : Int32) := ⟨_, rfl⟩
                                    replace hf566 := lt_of hf566 v568 ev568
                                    refine j_iinc X (v := v568) (lv' := [(3, .int v568), (0, .ref b), (1, .ref (q1 x1)), (2, .ref (q1 x2))]) dL_law_1219 3 rfl (by rw [ev568]; rfl) (by decide) rfl ?_
                                    refine j_goto X (tgt := 18) dL_law_1222 (by decide) ?_
                                    refine j_lvsub [1, 2, 3, 0] (lv' := [(0, .ref b), (1, .ref (q1 x1)), (2, .ref (q1 x2)), (3, .int v568)]) rfl ?_
                                    refine j_widen (cells' := 100 + 9 * (k + 1)) (slots' := 8000 + 490 * (k + 1)) (by omega) (by omega) ?_
                                    exact ih (k + 1) (by omega) q1 x1 x2 v568 σ560 hf566
                                  · have hf567 := br_n hf564 c565; clear hf564
                                    refine j_iconst X (v := 0) dL_law_585 (by decide) ?_
                                    exact absurd (rt_of hf567).1 (by decide)
                                · have hf516 := br_n hf476 c514; clear hf476
                                  by_cases c570 : v38 = (14 : Int32)
                                  · have hf571 := br_y hf516 c570; clear hf516
                                    refine j_tabIn X (v := 14) (tgt := 587) dL_law_33 c570 (by decide) (by decide) rfl (by decide) ?_
                                    refine j_aload_n X dL_law_587 1 rfl rfl ?_
                                    refine j_aload_n X dL_law_588 0 rfl rfl ?_
                                    refine j_iload_n X dL_law_589 3 rfl rfl ?_
                                    refine j_iconst X (v := 1) dL_law_590 (by decide) ?_
                                    refine j_iadd X dL_law_591 ?_
                                    obtain ⟨h573, hf574⟩ := chk_of hf571; clear hf571
                                    refine j_sld X hX hbl hbA h573 dL_law_592 (fun v575 ev575 => ?_)
                                    replace hf574 := lt_of hf574 v575 ev575
                                    refine j_aload_n X dL_law_593 0 rfl rfl ?_
                                    refine j_iload_n X dL_law_594 3 rfl rfl ?_
                                    refine j_iconst X (v := 2) dL_law_595 (by decide) ?_
                                    refine j_iadd X dL_law_596 ?_
                                    obtain ⟨h577, hf578⟩ := chk_of hf574; clear hf574
                                    refine j_sld X hX hbl hbA h577 dL_law_597 (fun v579 ev579 => ?_)
                                    replace hf578 := lt_of hf578 v579 ev579
                                    obtain ⟨h581, hf582⟩ := chk_of hf578; clear hf578
                                    obtain ⟨r583, σ584, h585, hf586⟩ := bc_of hf582; clear hf582
                                    refine j_callV0 X [.int v575, .int v579] [] (c_X5_best l D cs q1 x1 v575 v579 τ _ _ h585) mk_X5_best mv_X5_best ml_L_76 h581 rfl (by decide) ⟨rfl, rfl⟩ ⟨Nat.le_of_ble_eq_true rfl, Nat.le_of_ble_eq_true rfl⟩ rfl (Nat.le_of_ble_eq_true rfl) ⟨(by show _ ≤ 808171; omega), (by show _ ≤ 6677735; omega)⟩ dL_law_598 rfl (st' := [.long r583]) rfl ?_
                                    obtain ⟨h587, hf588⟩ := chk_of hf586; clear hf586
                                    refine j_aload_n X dL_law_601 2 rfl rfl ?_
                                    refine j_aload_n X dL_law_602 0 rfl rfl ?_
                                    refine j_iload_n X dL_law_603 3 rfl rfl ?_
                                    refine j_iconst X (v := 1) dL_law_604 (by decide) ?_
                                    refine j_iadd X dL_law_605 ?_
                                    obtain ⟨h589, hf590⟩ := chk_of hf588; clear hf588
                                    refine j_sld X hX hbl hbA h589 dL_law_606 (fun v591 ev591 => ?_)
                                    replace hf590 := lt_of hf590 v591 ev591
                                    refine j_aload_n X dL_law_607 0 rfl rfl ?_
                                    refine j_iload_n X dL_law_608 3 rfl rfl ?_
                                    refine j_iconst X (v := 2) dL_law_609 (by decide) ?_
                                    refine j_iadd X dL_law_610 ?_
                                    obtain ⟨h593, hf594⟩ := chk_of hf590; clear hf590
                                    refine j_sld X hX hbl hbA h593 dL_law_611 (fun v595 ev595 => ?_)
                                    replace hf594 := lt_of hf594 v595 ev595
                                    obtain ⟨h597, hf598⟩ := chk_of hf594; clear hf594
                                    obtain ⟨r599, σ600, h601, hf602⟩ := bc_of hf598; clear hf598
                                    refine j_callV0 X [.int v591, .int v595] [.long r583] (c_X6_best l D cs q1 x2 v591 v595 σ584 _ _ h601) mk_X6_best mv_X6_best ml_L_79 h597 rfl (by decide) ⟨rfl, rfl⟩ ⟨Nat.le_of_ble_eq_true rfl, Nat.le_of_ble_eq_true rfl⟩ rfl (Nat.le_of_ble_eq_true rfl) ⟨(by show _ ≤ 808171; omega), (by show _ ≤ 6677735; omega)⟩ dL_law_612 rfl (st' := [.long r599, .long r583]) rfl ?_
                                    obtain ⟨h603, hf604⟩ := chk_of hf602; clear hf602
                                    refine j_lcmp X dL_law_615 ?_
                                    refine j_if_eq X (tgt := 1219) dL_law_616 (by decide) (fun c605 => ?_) (fun c605 => ?_)
                                    · have hf606 := br_y hf604 c605; clear hf604
                                      obtain ⟨v608, ev608⟩ : ∃ y : Int32, y = x3 + (9 : Int32) := ⟨_, rfl⟩
                                      replace hf606 := lt_of hf606 v608 ev608
                                      refine j_iinc X (v := v608) (lv' := [(3, .int v608), (0, .ref b), (1, .ref (q1 x1)), (2, .ref (q1 x2))]) dL_law_1219 3 rfl (by rw [ev608]; rfl) (by decide) rfl ?_
                                      refine j_goto X (tgt := 18) dL_law_1222 (by decide) ?_
                                      refine j_lvsub [1, 2, 3, 0] (lv' := [(0, .ref b), (1, .ref (q1 x1)), (2, .ref (q1 x2)), (3, .int v608)]) rfl ?_
                                      refine j_widen (cells' := 100 + 9 * (k + 1)) (slots' := 8000 + 490 * (k + 1)) (by omega) (by omega) ?_
                                      exact ih (k + 1) (by omega) q1 x1 x2 v608 σ600 hf606
                                    · have hf607 := br_n hf604 c605; clear hf604
                                      refine j_iconst X (v := 0) dL_law_619 (by decide) ?_
                                      exact absurd (rt_of hf607).1 (by decide)
                                  · have hf572 := br_n hf516 c570; clear hf516
                                    by_cases c610 : v38 = (15 : Int32)
                                    · have hf611 := br_y hf572 c610; clear hf572
                                      refine j_tabIn X (v := 15) (tgt := 621) dL_law_33 c610 (by decide) (by decide) rfl (by decide) ?_
                                      refine j_aload_n X dL_law_621 1 rfl rfl ?_
                                      refine j_aload_n X dL_law_622 0 rfl rfl ?_
                                      refine j_iload_n X dL_law_623 3 rfl rfl ?_
                                      refine j_iconst X (v := 1) dL_law_624 (by decide) ?_
                                      refine j_iadd X dL_law_625 ?_
                                      obtain ⟨h613, hf614⟩ := chk_of hf611; clear hf611
                                      refine j_sld X hX hbl hbA h613 dL_law_626 (fun v615 ev615 => ?_)
                                      replace hf614 := lt_of hf614 v615 ev615
                                      obtain ⟨h617, hf618⟩ := chk_of hf614; clear hf614
                                      obtain ⟨r619, σ620, h621, hf622⟩ := bc_of hf618; clear hf618
                                      refine j_callV0 X [.int v615] [] (c_X5_widest l D cs q1 x1 v615 τ _ _ h621) mk_X5_widest mv_X5_widest ml_L_80 h617 rfl (by decide) ⟨rfl, rfl⟩ ⟨Nat.le_of_ble_eq_true rfl, Nat.le_of_ble_eq_true rfl⟩ rfl (Nat.le_of_ble_eq_true rfl) ⟨(by show _ ≤ 808171; omega), (by show _ ≤ 6677735; omega)⟩ dL_law_627 rfl (st' := [.int r619]) rfl ?_
                                      obtain ⟨h623, hf624⟩ := chk_of hf622; clear hf622
                                      refine j_aload_n X dL_law_630 2 rfl rfl ?_
                                      refine j_aload_n X dL_law_631 0 rfl rfl ?_
                                      refine j_iload_n X dL_law_632 3 rfl rfl ?_
                                      refine j_iconst X (v := 1) dL_law_633 (by decide) ?_
                                      refine j_iadd X dL_law_634 ?_
                                      obtain ⟨h625, hf626⟩ := chk_of hf624; clear hf624
                                      refine j_sld X hX hbl hbA h625 dL_law_635 (fun v627 ev627 => ?_)
                                      replace hf626 := lt_of hf626 v627 ev627
                                      obtain ⟨h629, hf630⟩ := chk_of hf626; clear hf626
                                      obtain ⟨r631, σ632, h633, hf634⟩ := bc_of hf630; clear hf630
                                      refine j_callV0 X [.int v627] [.int r619] (c_X6_widest l D cs q1 x2 v627 σ620 _ _ h633) mk_X6_widest mv_X6_widest ml_L_83 h629 rfl (by decide) ⟨rfl, rfl⟩ ⟨Nat.le_of_ble_eq_true rfl, Nat.le_of_ble_eq_true rfl⟩ rfl (Nat.le_of_ble_eq_true rfl) ⟨(by show _ ≤ 808171; omega), (by show _ ≤ 6677735; omega)⟩ dL_law_636 rfl (st' := [.int r631, .int r619]) rfl ?_
                                      obtain ⟨h635, hf636⟩ := chk_of hf634; clear hf634
                                      refine j_icmp_eq X (tgt := 1219) dL_law_639 (by decide) (fun c637 => ?_) (fun c637 => ?_)
                                      · have hf638 := br_y hf636 c637; clear hf636
                                        obtain ⟨v640, ev640⟩ : ∃ y : Int32, y = x3 + (9 : Int32) := ⟨_, rfl⟩
                                        replace hf638 := lt_of hf638 v640 ev640
                                        refine j_iinc X (v := v640) (lv' := [(3, .int v640), (0, .ref b), (1, .ref (q1 x1)), (2, .ref (q1 x2))]) dL_law_1219 3 rfl (by rw [ev640]; rfl) (by decide) rfl ?_
                                        refine j_goto X (tgt := 18) dL_law_1222 (by decide) ?_
                                        refine j_lvsub [1, 2, 3, 0] (lv' := [(0, .ref b), (1, .ref (q1 x1)), (2, .ref (q1 x2)), (3, .int v640)]) rfl ?_
                                        refine j_widen (cells' := 100 + 9 * (k + 1)) (slots' := 8000 + 490 * (k + 1)) (by omega) (by omega) ?_
                                        exact ih (k + 1) (by omega) q1 x1 x2 v640 σ632 hf638
                                      · have hf639 := br_n hf636 c637; clear hf636
                                        refine j_iconst X (v := 0) dL_law_642 (by decide) ?_
                                        exact absurd (rt_of hf639).1 (by decide)
                                    · have hf612 := br_n hf572 c610; clear hf572
                                      by_cases c642 : v38 = (16 : Int32)
                                      · have hf643 := br_y hf612 c642; clear hf612
                                        refine j_tabIn X (v := 16) (tgt := 644) dL_law_33 c642 (by decide) (by decide) rfl (by decide) ?_
                                        refine j_aload_n X dL_law_644 1 rfl rfl ?_
                                        refine j_aload_n X dL_law_645 0 rfl rfl ?_
                                        refine j_iload_n X dL_law_646 3 rfl rfl ?_
                                        refine j_iconst X (v := 1) dL_law_647 (by decide) ?_
                                        refine j_iadd X dL_law_648 ?_
                                        obtain ⟨h645, hf646⟩ := chk_of hf643; clear hf643
                                        refine j_sld X hX hbl hbA h645 dL_law_649 (fun v647 ev647 => ?_)
                                        replace hf646 := lt_of hf646 v647 ev647
                                        refine j_aload_n X dL_law_650 0 rfl rfl ?_
                                        refine j_iload_n X dL_law_651 3 rfl rfl ?_
                                        refine j_iconst X (v := 2) dL_law_652 (by decide) ?_
                                        refine j_iadd X dL_law_653 ?_
                                        obtain ⟨h649, hf650⟩ := chk_of hf646; clear hf646
                                        refine j_sld X hX hbl hbA h649 dL_law_654 (fun v651 ev651 => ?_)
                                        replace hf650 := lt_of hf650 v651 ev651
                                        refine j_i2l X dL_law_655 ?_
                                        refine j_bipush X (v := 32) dL_law_656 (by decide) ?_
                                        refine j_lshl X dL_law_658 ?_
                                        refine j_aload_n X dL_law_659 0 rfl rfl ?_
                                        refine j_iload_n X dL_law_660 3 rfl rfl ?_
                                        refine j_iconst X (v := 3) dL_law_661 (by decide) ?_
                                        refine j_iadd X dL_law_662 ?_
                                        obtain ⟨h653, hf654⟩ := chk_of hf650; clear hf650
                                        refine j_sld X hX hbl hbA h653 dL_law_663 (fun v655 ev655 => ?_)
                                        replace hf654 := lt_of hf654 v655 ev655
                                        refine j_i2l X dL_law_664 ?_
                                        refine j_ldc2 X k_L_84 dL_law_665 ?_
                                        refine j_land X dL_law_668 ?_
                                        refine j_lor X dL_law_669 ?_
                                        refine j_aload_n X dL_law_670 0 rfl rfl ?_
                                        refine j_iload_n X dL_law_671 3 rfl rfl ?_
                                        refine j_iconst X (v := 4) dL_law_672 (by decide) ?_
                                        refine j_iadd X dL_law_673 ?_
                                        obtain ⟨h657, hf658⟩ := chk_of hf654; clear hf654
                                        refine j_sld X hX hbl hbA h657 dL_law_674 (fun v659 ev659 => ?_)
                                        replace hf658 := lt_of hf658 v659 ev659
                                        obtain ⟨h661, hf662⟩ := chk_of hf658; clear hf658
                                        obtain ⟨r663, σ664, h665, hf666⟩ := bc_of hf662; clear hf662
                                        refine j_callV0 X [.int v647, .long (((v651).toInt64 <<< (((32 : Int32)).toInt64 &&& 63)) ||| ((v655).toInt64 &&& (4294967295 : Int64))), .int v659] [] (c_X5_again l D cs q1 x1 v647 (((v651).toInt64 <<< (((32 : Int32)).toInt64 &&& 63)) ||| ((v655).toInt64 &&& (4294967295 : Int64))) v659 τ _ _ h665) mk_X5_again mv_X5_again ml_L_86 h661 rfl (by decide) ⟨rfl, rfl⟩ ⟨Nat.le_of_ble_eq_true rfl, Nat.le_of_ble_eq_true rfl⟩ rfl (Nat.le_of_ble_eq_true rfl) ⟨(by show _ ≤ 808171; omega), (by show _ ≤ 6677735; omega)⟩ dL_law_675 rfl (st' := [.int r663]) rfl ?_
                                        obtain ⟨h667, hf668⟩ := chk_of hf666; clear hf666
                                        refine j_aload_n X dL_law_678 2 rfl rfl ?_
                                        refine j_aload_n X dL_law_679 0 rfl rfl ?_
                                        refine j_iload_n X dL_law_680 3 rfl rfl ?_
                                        refine j_iconst X (v := 1) dL_law_681 (by decide) ?_
                                        refine j_iadd X dL_law_682 ?_
                                        obtain ⟨h669, hf670⟩ := chk_of hf668; clear hf668
                                        refine j_sld X hX hbl hbA h669 dL_law_683 (fun v671 ev671 => ?_)
                                        replace hf670 := lt_of hf670 v671 ev671
                                        refine j_aload_n X dL_law_684 0 rfl rfl ?_
                                        refine j_iload_n X dL_law_685 3 rfl rfl ?_
                                        refine j_iconst X (v := 2) dL_law_686 (by decide) ?_
                                        refine j_iadd X dL_law_687 ?_
                                        obtain ⟨h673, hf674⟩ := chk_of hf670; clear hf670
                                        refine j_sld X hX hbl hbA h673 dL_law_688 (fun v675 ev675 => ?_)
                                        replace hf674 := lt_of hf674 v675 ev675
                                        refine j_i2l X dL_law_689 ?_
                                        refine j_bipush X (v := 32) dL_law_690 (by decide) ?_
                                        refine j_lshl X dL_law_692 ?_
                                        refine j_aload_n X dL_law_693 0 rfl rfl ?_
                                        refine j_iload_n X dL_law_694 3 rfl rfl ?_
                                        refine j_iconst X (v := 3) dL_law_695 (by decide) ?_
                                        refine j_iadd X dL_law_696 ?_
                                        obtain ⟨h677, hf678⟩ := chk_of hf674; clear hf674
                                        refine j_sld X hX hbl hbA h677 dL_law_697 (fun v679 ev679 => ?_)
                                        replace hf678 := lt_of hf678 v679 ev679
                                        refine j_i2l X dL_law_698 ?_
                                        refine j_ldc2 X k_L_84 dL_law_699 ?_
                                        refine j_land X dL_law_702 ?_
                                        refine j_lor X dL_law_703 ?_
                                        refine j_aload_n X dL_law_704 0 rfl rfl ?_
                                        refine j_iload_n X dL_law_705 3 rfl rfl ?_
                                        refine j_iconst X (v := 4) dL_law_706 (by decide) ?_
                                        refine j_iadd X dL_law_707 ?_
                                        obtain ⟨h681, hf682⟩ := chk_of hf678; clear hf678
                                        refine j_sld X hX hbl hbA h681 dL_law_708 (fun v683 ev683 => ?_)
                                        replace hf682 := lt_of hf682 v683 ev683
                                        obtain ⟨h685, hf686⟩ := chk_of hf682; clear hf682
                                        obtain ⟨r687, σ688, h689, hf690⟩ := bc_of hf686; clear hf686
                                        refine j_callV0 X [.int v671, .long (((v675).toInt64 <<< (((32 : Int32)).toInt64 &&& 63)) ||| ((v679).toInt64 &&& (4294967295 : Int64))), .int v683] [.int r663] (c_X6_again l D cs q1 x2 v671 (((v675).toInt64 <<< (((32 : Int32)).toInt64 &&& 63)) ||| ((v679).toInt64 &&& (4294967295 : Int64))) v683 σ664 _ _ h689) mk_X6_again mv_X6_again ml_L_90 h685 rfl (by decide) ⟨rfl, rfl⟩ ⟨Nat.le_of_ble_eq_true rfl, Nat.le_of_ble_eq_true rfl⟩ rfl (Nat.le_of_ble_eq_true rfl) ⟨(by show _ ≤ 808171; omega), (by show _ ≤ 6677735; omega)⟩ dL_law_709 rfl (st' := [.int r687, .int r663]) rfl ?_
                                        obtain ⟨h691, hf692⟩ := chk_of hf690; clear hf690
                                        refine j_icmp_eq X (tgt := 1219) dL_law_712 (by decide) (fun c693 => ?_) (fun c693 => ?_)
                                        · have hf694 := br_y hf692 c693; clear hf692
                                          obtain ⟨v696, ev696⟩ : ∃ y : Int32, y = x3 + (9 : Int32) := ⟨_, rfl⟩
                                          replace hf694 := lt_of hf694 v696 ev696
                                          refine j_iinc X (v := v696) (lv' := [(3, .int v696), (0, .ref b), (1, .ref (q1 x1)), (2, .ref (q1 x2))]) dL_law_1219 3 rfl (by rw [ev696]; rfl) (by decide) rfl ?_
                                          refine j_goto X (tgt := 18) dL_law_1222 (by decide) ?_
                                          refine j_lvsub [1, 2, 3, 0] (lv' := [(0, .ref b), (1, .ref (q1 x1)), (2, .ref (q1 x2)), (3, .int v696)]) rfl ?_
                                          refine j_widen (cells' := 100 + 9 * (k + 1)) (slots' := 8000 + 490 * (k + 1)) (by omega) (by omega) ?_
                                          exact ih (k + 1) (by omega) q1 x1 x2 v696 σ688 hf694
                                        · have hf695 := br_n hf692 c693; clear hf692
                                          refine j_iconst X (v := 0) dL_law_715 (by decide) ?_
                                          exact absurd (rt_of hf695).1 (by decide)
                                      · have hf644 := br_n hf612 c642; clear hf612
                                        by_cases c698 : v38 = (17 : Int32)
                                        · have hf699 := br_y hf644 c698; clear hf644
                                          refine j_tabIn X (v := 17) (tgt := 717) dL_law_33 c698 (by decide) (by decide) rfl (by decide) ?_
                                          refine j_aload_n X dL_law_717 1 rfl rfl ?_
                                          refine j_aload_n X dL_law_718 0 rfl rfl ?_
                                          refine j_iload_n X dL_law_719 3 rfl rfl ?_
                                          refine j_iconst X (v := 1) dL_law_720 (by decide) ?_
                                          refine j_iadd X dL_law_721 ?_
                                          obtain ⟨h701, hf702⟩ := chk_of hf699; clear hf699
                                          refine j_sld X hX hbl hbA h701 dL_law_722 (fun v703 ev703 => ?_)
                                          replace hf702 := lt_of hf702 v703 ev703
                                          refine j_aload_n X dL_law_723 0 rfl rfl ?_
                                          refine j_iload_n X dL_law_724 3 rfl rfl ?_
                                          refine j_iconst X (v := 2) dL_law_725 (by decide) ?_
                                          refine j_iadd X dL_law_726 ?_
                                          obtain ⟨h705, hf706⟩ := chk_of hf702; clear hf702
                                          refine j_sld X hX hbl hbA h705 dL_law_727 (fun v707 ev707 => ?_)
                                          replace hf706 := lt_of hf706 v707 ev707
                                          refine j_aload_n X dL_law_728 0 rfl rfl ?_
                                          refine j_iload_n X dL_law_729 3 rfl rfl ?_
                                          refine j_iconst X (v := 3) dL_law_730 (by decide) ?_
                                          refine j_iadd X dL_law_731 ?_
                                          obtain ⟨h709, hf710⟩ := chk_of hf706; clear hf706
                                          refine j_sld X hX hbl hbA h709 dL_law_732 (fun v711 ev711 => ?_)
                                          replace hf710 := lt_of hf710 v711 ev711
                                          refine j_i2l X dL_law_733 ?_
                                          refine j_bipush X (v := 32) dL_law_734 (by decide) ?_
                                          refine j_lshl X dL_law_736 ?_
                                          refine j_aload_n X dL_law_737 0 rfl rfl ?_
                                          refine j_iload_n X dL_law_738 3 rfl rfl ?_
                                          refine j_iconst X (v := 4) dL_law_739 (by decide) ?_
                                          refine j_iadd X dL_law_740 ?_
                                          obtain ⟨h713, hf714⟩ := chk_of hf710; clear hf710
                                          refine j_sld X hX hbl hbA h713 dL_law_741 (fun v715 ev715 => ?_)
                                          replace hf714 := lt_of hf714 v715 ev715
                                          refine j_i2l X dL_law_742 ?_
                                          refine j_ldc2 X k_L_84 dL_law_743 ?_
                                          refine j_land X dL_law_746 ?_
                                          refine j_lor X dL_law_747 ?_
                                          refine j_aload_n X dL_law_748 0 rfl rfl ?_
                                          refine j_iload_n X dL_law_749 3 rfl rfl ?_
                                          refine j_iconst X (v := 5) dL_law_750 (by decide) ?_
                                          refine j_iadd X dL_law_751 ?_
                                          obtain ⟨h717, hf718⟩ := chk_of hf714; clear hf714
                                          refine j_sld X hX hbl hbA h717 dL_law_752 (fun v719 ev719 => ?_)
                                          replace hf718 := lt_of hf718 v719 ev719
                                          obtain ⟨h721, hf722⟩ := chk_of hf718; clear hf718
                                          obtain ⟨r723, σ724, h725, hf726⟩ := bc_of hf722; clear hf722
                                          refine j_callV0 X [.int v703, .int v707, .long (((v711).toInt64 <<< (((32 : Int32)).toInt64 &&& 63)) ||| ((v715).toInt64 &&& (4294967295 : Int64))), .int v719] [] (c_X5_fits l D cs q1 x1 v703 v707 (((v711).toInt64 <<< (((32 : Int32)).toInt64 &&& 63)) ||| ((v715).toInt64 &&& (4294967295 : Int64))) v719 τ _ _ h725) mk_X5_fits mv_X5_fits ml_L_91 h721 rfl (by decide) ⟨rfl, rfl⟩ ⟨Nat.le_of_ble_eq_true rfl, Nat.le_of_ble_eq_true rfl⟩ rfl (Nat.le_of_ble_eq_true rfl) ⟨(by show _ ≤ 808171; omega), (by show _ ≤ 6677735; omega)⟩ dL_law_753 rfl (st' := [.int r723]) rfl ?_
                                          obtain ⟨h727, hf728⟩ := chk_of hf726; clear hf726
                                          refine j_aload_n X dL_law_756 2 rfl rfl ?_
                                          refine j_aload_n X dL_law_757 0 rfl rfl ?_
                                          refine j_iload_n X dL_law_758 3 rfl rfl ?_
                                          refine j_iconst X (v := 1) dL_law_759 (by decide) ?_
                                          refine j_iadd X dL_law_760 ?_
                                          obtain ⟨h729, hf730⟩ := chk_of hf728; clear hf728
                                          refine j_sld X hX hbl hbA h729 dL_law_761 (fun v731 ev731 => ?_)
                                          replace hf730 := lt_of hf730 v731 ev731
                                          refine j_aload_n X dL_law_762 0 rfl rfl ?_
                                          refine j_iload_n X dL_law_763 3 rfl rfl ?_
                                          refine j_iconst X (v := 2) dL_law_764 (by decide) ?_
                                          refine j_iadd X dL_law_765 ?_
                                          obtain ⟨h733, hf734⟩ := chk_of hf730; clear hf730
                                          refine j_sld X hX hbl hbA h733 dL_law_766 (fun v735 ev735 => ?_)
                                          replace hf734 := lt_of hf734 v735 ev735
                                          refine j_aload_n X dL_law_767 0 rfl rfl ?_
                                          refine j_iload_n X dL_law_768 3 rfl rfl ?_
                                          refine j_iconst X (v := 3) dL_law_769 (by decide) ?_
                                          refine j_iadd X dL_law_770 ?_
                                          obtain ⟨h737, hf738⟩ := chk_of hf734; clear hf734
                                          refine j_sld X hX hbl hbA h737 dL_law_771 (fun v739 ev739 => ?_)
                                          replace hf738 := lt_of hf738 v739 ev739
                                          refine j_i2l X dL_law_772 ?_
                                          refine j_bipush X (v := 32) dL_law_773 (by decide) ?_
                                          refine j_lshl X dL_law_775 ?_
                                          refine j_aload_n X dL_law_776 0 rfl rfl ?_
                                          refine j_iload_n X dL_law_777 3 rfl rfl ?_
                                          refine j_iconst X (v := 4) dL_law_778 (by decide) ?_
                                          refine j_iadd X dL_law_779 ?_
                                          obtain ⟨h741, hf742⟩ := chk_of hf738; clear hf738
                                          refine j_sld X hX hbl hbA h741 dL_law_780 (fun v743 ev743 => ?_)
                                          replace hf742 := lt_of hf742 v743 ev743
                                          refine j_i2l X dL_law_781 ?_
                                          refine j_ldc2 X k_L_84 dL_law_782 ?_
                                          refine j_land X dL_law_785 ?_
                                          refine j_lor X dL_law_786 ?_
                                          refine j_aload_n X dL_law_787 0 rfl rfl ?_
                                          refine j_iload_n X dL_law_788 3 rfl rfl ?_
                                          refine j_iconst X (v := 5) dL_law_789 (by decide) ?_
                                          refine j_iadd X dL_law_790 ?_
                                          obtain ⟨h745, hf746⟩ := chk_of hf742; clear hf742
                                          refine j_sld X hX hbl hbA h745 dL_law_791 (fun v747 ev747 => ?_)
                                          replace hf746 := lt_of hf746 v747 ev747
                                          obtain ⟨h749, hf750⟩ := chk_of hf746; clear hf746
                                          obtain ⟨r751, σ752, h753, hf754⟩ := bc_of hf750; clear hf750
                                          refine j_callV0 X [.int v731, .int v735, .long (((v739).toInt64 <<< (((32 : Int32)).toInt64 &&& 63)) ||| ((v743).toInt64 &&& (4294967295 : Int64))), .int v747] [.int r723] (c_X6_fits l D cs q1 x2 v731 v735 (((v739).toInt64 <<< (((32 : Int32)).toInt64 &&& 63)) ||| ((v743).toInt64 &&& (4294967295 : Int64))) v747 σ724 _ _ h753) mk_X6_fits mv_X6_fits ml_L_95 h749 rfl (by decide) ⟨rfl, rfl⟩ ⟨Nat.le_of_ble_eq_true rfl, Nat.le_of_ble_eq_true rfl⟩ rfl (Nat.le_of_ble_eq_true rfl) ⟨(by show _ ≤ 808171; omega), (by show _ ≤ 6677735; omega)⟩ dL_law_792 rfl (st' := [.int r751, .int r723]) rfl ?_
                                          obtain ⟨h755, hf756⟩ := chk_of hf754; clear hf754
                                          refine j_icmp_eq X (tgt := 1219) dL_law_795 (by decide) (fun c757 => ?_) (fun c757 => ?_)
                                          · have hf758 := br_y hf756 c757; clear hf756
                                            obtain ⟨v760, ev760⟩ : ∃ y : Int32, y = x3 + (9 : Int32) := ⟨_, rfl⟩
                                            replace hf758 := lt_of hf758 v760 ev760
                                            refine j_iinc X (v := v760) (lv' := [(3, .int v760), (0, .ref b), (1, .ref (q1 x1)), (2, .ref (q1 x2))]) dL_law_1219 3 rfl (by rw [ev760]; rfl) (by decide) rfl ?_
                                            refine j_goto X (tgt := 18) dL_law_1222 (by decide) ?_
                                            refine j_lvsub [1, 2, 3, 0] (lv' := [(0, .ref b), (1, .ref (q1 x1)), (2, .ref (q1 x2)), (3, .int v760)]) rfl ?_
                                            refine j_widen (cells' := 100 + 9 * (k + 1)) (slots' := 8000 + 490 * (k + 1)) (by omega) (by omega) ?_
                                            exact ih (k + 1) (by omega) q1 x1 x2 v760 σ752 hf758
                                          · have hf759 := br_n hf756 c757; clear hf756
                                            refine j_iconst X (v := 0) dL_law_798 (by decide) ?_
                                            exact absurd (rt_of hf759).1 (by decide)
                                        · have hf700 := br_n hf644 c698; clear hf644
                                          by_cases c762 : v38 = (18 : Int32)
                                          · have hf763 := br_y hf700 c762; clear hf700
                                            refine j_tabIn X (v := 18) (tgt := 800) dL_law_33 c762 (by decide) (by decide) rfl (by decide) ?_
                                            refine j_aload_n X dL_law_800 1 rfl rfl ?_
                                            refine j_aload_n X dL_law_801 0 rfl rfl ?_
                                            refine j_iload_n X dL_law_802 3 rfl rfl ?_
                                            refine j_iconst X (v := 1) dL_law_803 (by decide) ?_
                                            refine j_iadd X dL_law_804 ?_
                                            obtain ⟨h765, hf766⟩ := chk_of hf763; clear hf763
                                            refine j_sld X hX hbl hbA h765 dL_law_805 (fun v767 ev767 => ?_)
                                            replace hf766 := lt_of hf766 v767 ev767
                                            refine j_aload_n X dL_law_806 0 rfl rfl ?_
                                            refine j_iload_n X dL_law_807 3 rfl rfl ?_
                                            refine j_iconst X (v := 2) dL_law_808 (by decide) ?_
                                            refine j_iadd X dL_law_809 ?_
                                            obtain ⟨h769, hf770⟩ := chk_of hf766; clear hf766
                                            refine j_sld X hX hbl hbA h769 dL_law_810 (fun v771 ev771 => ?_)
                                            replace hf770 := lt_of hf770 v771 ev771
                                            refine j_aload_n X dL_law_811 0 rfl rfl ?_
                                            refine j_iload_n X dL_law_812 3 rfl rfl ?_
                                            refine j_iconst X (v := 3) dL_law_813 (by decide) ?_
                                            refine j_iadd X dL_law_814 ?_
                                            obtain ⟨h773, hf774⟩ := chk_of hf770; clear hf770
                                            refine j_sld X hX hbl hbA h773 dL_law_815 (fun v775 ev775 => ?_)
                                            replace hf774 := lt_of hf774 v775 ev775
                                            refine j_aload_n X dL_law_816 0 rfl rfl ?_
                                            refine j_iload_n X dL_law_817 3 rfl rfl ?_
                                            refine j_iconst X (v := 4) dL_law_818 (by decide) ?_
                                            refine j_iadd X dL_law_819 ?_
                                            obtain ⟨h777, hf778⟩ := chk_of hf774; clear hf774
                                            refine j_sld X hX hbl hbA h777 dL_law_820 (fun v779 ev779 => ?_)
                                            replace hf778 := lt_of hf778 v779 ev779
                                            refine j_i2l X dL_law_821 ?_
                                            refine j_bipush X (v := 32) dL_law_822 (by decide) ?_
                                            refine j_lshl X dL_law_824 ?_
                                            refine j_aload_n X dL_law_825 0 rfl rfl ?_
                                            refine j_iload_n X dL_law_826 3 rfl rfl ?_
                                            refine j_iconst X (v := 5) dL_law_827 (by decide) ?_
                                            refine j_iadd X dL_law_828 ?_
                                            obtain ⟨h781, hf782⟩ := chk_of hf778; clear hf778
                                            refine j_sld X hX hbl hbA h781 dL_law_829 (fun v783 ev783 => ?_)
                                            replace hf782 := lt_of hf782 v783 ev783
                                            refine j_i2l X dL_law_830 ?_
                                            refine j_ldc2 X k_L_84 dL_law_831 ?_
                                            refine j_land X dL_law_834 ?_
                                            refine j_lor X dL_law_835 ?_
                                            refine j_aload_n X dL_law_836 0 rfl rfl ?_
                                            refine j_iload_n X dL_law_837 3 rfl rfl ?_
                                            refine j_bipush X (v := 6) dL_law_838 (by decide) ?_
                                            refine j_iadd X dL_law_840 ?_
                                            obtain ⟨h785, hf786⟩ := chk_of hf782; clear hf782
                                            refine j_sld X hX hbl hbA h785 dL_law_841 (fun v787 ev787 => ?_)
                                            replace hf786 := lt_of hf786 v787 ev787
                                            refine j_i2l X dL_law_842 ?_
                                            refine j_bipush X (v := 32) dL_law_843 (by decide) ?_
                                            refine j_lshl X dL_law_845 ?_
                                            refine j_aload_n X dL_law_846 0 rfl rfl ?_
                                            refine j_iload_n X dL_law_847 3 rfl rfl ?_
                                            refine j_bipush X (v := 7) dL_law_848 (by decide) ?_
                                            refine j_iadd X dL_law_850 ?_
                                            obtain ⟨h789, hf790⟩ := chk_of hf786; clear hf786
                                            refine j_sld X hX hbl hbA h789 dL_law_851 (fun v791 ev791 => ?_)
                                            replace hf790 := lt_of hf790 v791 ev791
                                            refine j_i2l X dL_law_852 ?_
                                            refine j_ldc2 X k_L_84 dL_law_853 ?_
                                            refine j_land X dL_law_856 ?_
                                            refine j_lor X dL_law_857 ?_
                                            refine j_aload_n X dL_law_858 0 rfl rfl ?_
                                            refine j_iload_n X dL_law_859 3 rfl rfl ?_
                                            refine j_bipush X (v := 8) dL_law_860 (by decide) ?_
                                            refine j_iadd X dL_law_862 ?_
                                            obtain ⟨h793, hf794⟩ := chk_of hf790; clear hf790
                                            refine j_sld X hX hbl hbA h793 dL_law_863 (fun v795 ev795 => ?_)
                                            replace hf794 := lt_of hf794 v795 ev795
                                            obtain ⟨h797, hf798⟩ := chk_of hf794; clear hf794
                                            obtain ⟨r799, σ800, h801, hf802⟩ := bc_of hf798; clear hf798
                                            refine j_callV0 X [.int v767, .int v771, .int v775, .long (((v779).toInt64 <<< (((32 : Int32)).toInt64 &&& 63)) ||| ((v783).toInt64 &&& (4294967295 : Int64))), .long (((v787).toInt64 <<< (((32 : Int32)).toInt64 &&& 63)) ||| ((v791).toInt64 &&& (4294967295 : Int64))), .int v795] [] (c_X5_odds l D cs q1 x1 v767 v771 v775 (((v779).toInt64 <<< (((32 : Int32)).toInt64 &&& 63)) ||| ((v783).toInt64 &&& (4294967295 : Int64))) (((v787).toInt64 <<< (((32 : Int32)).toInt64 &&& 63)) ||| ((v791).toInt64 &&& (4294967295 : Int64))) v795 τ _ _ h801) mk_X5_odds mv_X5_odds ml_L_96 h797 rfl (by decide) ⟨rfl, rfl⟩ ⟨Nat.le_of_ble_eq_true rfl, Nat.le_of_ble_eq_true rfl⟩ rfl (Nat.le_of_ble_eq_true rfl) ⟨(by show _ ≤ 808171; omega), (by show _ ≤ 6677735; omega)⟩ dL_law_864 rfl (st' := [.long r799]) rfl ?_
                                            obtain ⟨h803, hf804⟩ := chk_of hf802; clear hf802
                                            refine j_aload_n X dL_law_867 2 rfl rfl ?_
                                            refine j_aload_n X dL_law_868 0 rfl rfl ?_
                                            refine j_iload_n X dL_law_869 3 rfl rfl ?_
                                            refine j_iconst X (v := 1) dL_law_870 (by decide) ?_
                                            refine j_iadd X dL_law_871 ?_
                                            obtain ⟨h805, hf806⟩ := chk_of hf804; clear hf804
                                            refine j_sld X hX hbl hbA h805 dL_law_872 (fun v807 ev807 => ?_)
                                            replace hf806 := lt_of hf806 v807 ev807
                                            refine j_aload_n X dL_law_873 0 rfl rfl ?_
                                            refine j_iload_n X dL_law_874 3 rfl rfl ?_
                                            refine j_iconst X (v := 2) dL_law_875 (by decide) ?_
                                            refine j_iadd X dL_law_876 ?_
                                            obtain ⟨h809, hf810⟩ := chk_of hf806; clear hf806
                                            refine j_sld X hX hbl hbA h809 dL_law_877 (fun v811 ev811 => ?_)
                                            replace hf810 := lt_of hf810 v811 ev811
                                            refine j_aload_n X dL_law_878 0 rfl rfl ?_
                                            refine j_iload_n X dL_law_879 3 rfl rfl ?_
                                            refine j_iconst X (v := 3) dL_law_880 (by decide) ?_
                                            refine j_iadd X dL_law_881 ?_
                                            obtain ⟨h813, hf814⟩ := chk_of hf810; clear hf810
                                            refine j_sld X hX hbl hbA h813 dL_law_882 (fun v815 ev815 => ?_)
                                            replace hf814 := lt_of hf814 v815 ev815
                                            refine j_aload_n X dL_law_883 0 rfl rfl ?_
                                            refine j_iload_n X dL_law_884 3 rfl rfl ?_
                                            refine j_iconst X (v := 4) dL_law_885 (by decide) ?_
                                            refine j_iadd X dL_law_886 ?_
                                            obtain ⟨h817, hf818⟩ := chk_of hf814; clear hf814
                                            refine j_sld X hX hbl hbA h817 dL_law_887 (fun v819 ev819 => ?_)
                                            replace hf818 := lt_of hf818 v819 ev819
                                            refine j_i2l X dL_law_888 ?_
                                            refine j_bipush X (v := 32) dL_law_889 (by decide) ?_
                                            refine j_lshl X dL_law_891 ?_
                                            refine j_aload_n X dL_law_892 0 rfl rfl ?_
                                            refine j_iload_n X dL_law_893 3 rfl rfl ?_
                                            refine j_iconst X (v := 5) dL_law_894 (by decide) ?_
                                            refine j_iadd X dL_law_895 ?_
                                            obtain ⟨h821, hf822⟩ := chk_of hf818; clear hf818
                                            refine j_sld X hX hbl hbA h821 dL_law_896 (fun v823 ev823 => ?_)
                                            replace hf822 := lt_of hf822 v823 ev823
                                            refine j_i2l X dL_law_897 ?_
                                            refine j_ldc2 X k_L_84 dL_law_898 ?_
                                            refine j_land X dL_law_901 ?_
                                            refine j_lor X dL_law_902 ?_
                                            refine j_aload_n X dL_law_903 0 rfl rfl ?_
                                            refine j_iload_n X dL_law_904 3 rfl rfl ?_
                                            refine j_bipush X (v := 6) dL_law_905 (by decide) ?_
                                            refine j_iadd X dL_law_907 ?_
                                            obtain ⟨h825, hf826⟩ := chk_of hf822; clear hf822
                                            refine j_sld X hX hbl hbA h825 dL_law_908 (fun v827 ev827 => ?_)
                                            replace hf826 := lt_of hf826 v827 ev827
                                            refine j_i2l X dL_law_909 ?_
                                            refine j_bipush X (v := 32) dL_law_910 (by decide) ?_
                                            refine j_lshl X dL_law_912 ?_
                                            refine j_aload_n X dL_law_913 0 rfl rfl ?_
                                            refine j_iload_n X dL_law_914 3 rfl rfl ?_
                                            refine j_bipush X (v := 7) dL_law_915 (by decide) ?_
                                            refine j_iadd X dL_law_917 ?_
                                            obtain ⟨h829, hf830⟩ := chk_of hf826; clear hf826
                                            refine j_sld X hX hbl hbA h829 dL_law_918 (fun v831 ev831 => ?_)
                                            replace hf830 := lt_of hf830 v831 ev831
                                            refine j_i2l X dL_law_919 ?_
                                            refine j_ldc2 X k_L_84 dL_law_920 ?_
                                            refine j_land X dL_law_923 ?_
                                            refine j_lor X dL_law_924 ?_
                                            refine j_aload_n X dL_law_925 0 rfl rfl ?_
                                            refine j_iload_n X dL_law_926 3 rfl rfl ?_
                                            refine j_bipush X (v := 8) dL_law_927 (by decide) ?_
                                            refine j_iadd X dL_law_929 ?_
                                            obtain ⟨h833, hf834⟩ := chk_of hf830; clear hf830
                                            refine j_sld X hX hbl hbA h833 dL_law_930 (fun v835 ev835 => ?_)
                                            replace hf834 := lt_of hf834 v835 ev835
                                            obtain ⟨h837, hf838⟩ := chk_of hf834; clear hf834
                                            obtain ⟨r839, σ840, h841, hf842⟩ := bc_of hf838; clear hf838
                                            refine j_callV0 X [.int v807, .int v811, .int v815, .long (((v819).toInt64 <<< (((32 : Int32)).toInt64 &&& 63)) ||| ((v823).toInt64 &&& (4294967295 : Int64))), .long (((v827).toInt64 <<< (((32 : Int32)).toInt64 &&& 63)) ||| ((v831).toInt64 &&& (4294967295 : Int64))), .int v835] [.long r799] (c_X6_odds l D cs q1 x2 v807 v811 v815 (((v819).toInt64 <<< (((32 : Int32)).toInt64 &&& 63)) ||| ((v823).toInt64 &&& (4294967295 : Int64))) (((v827).toInt64 <<< (((32 : Int32)).toInt64 &&& 63)) ||| ((v831).toInt64 &&& (4294967295 : Int64))) v835 σ800 _ _ h841) mk_X6_odds mv_X6_odds ml_L_100 h837 rfl (by decide) ⟨rfl, rfl⟩ ⟨Nat.le_of_ble_eq_true rfl, Nat.le_of_ble_eq_true rfl⟩ rfl (Nat.le_of_ble_eq_true rfl) ⟨(by show _ ≤ 808171; omega), (by show _ ≤ 6677735; omega)⟩ dL_law_931 rfl (st' := [.long r839, .long r799]) rfl ?_
                                            obtain ⟨h843, hf844⟩ := chk_of hf842; clear hf842
                                            refine j_lcmp X dL_law_934 ?_
                                            refine j_if_eq X (tgt := 1219) dL_law_935 (by decide) (fun c845 => ?_) (fun c845 => ?_)
                                            · have hf846 := br_y hf844 c845; clear hf844
                                              obtain ⟨v848, ev848⟩ : ∃ y : Int32, y = x3 + (9 : Int32) := ⟨_, rfl⟩
                                              replace hf846 := lt_of hf846 v848 ev848
                                              refine j_iinc X (v := v848) (lv' := [(3, .int v848), (0, .ref b), (1, .ref (q1 x1)), (2, .ref (q1 x2))]) dL_law_1219 3 rfl (by rw [ev848]; rfl) (by decide) rfl ?_
                                              refine j_goto X (tgt := 18) dL_law_1222 (by decide) ?_
                                              refine j_lvsub [1, 2, 3, 0] (lv' := [(0, .ref b), (1, .ref (q1 x1)), (2, .ref (q1 x2)), (3, .int v848)]) rfl ?_
                                              refine j_widen (cells' := 100 + 9 * (k + 1)) (slots' := 8000 + 490 * (k + 1)) (by omega) (by omega) ?_
                                              exact ih (k + 1) (by omega) q1 x1 x2 v848 σ840 hf846
                                            · have hf847 := br_n hf844 c845; clear hf844
                                              refine j_iconst X (v := 0) dL_law_938 (by decide) ?_
                                              exact absurd (rt_of hf847).1 (by decide)
                                          · have hf764 := br_n hf700 c762; clear hf700
                                            by_cases c850 : v38 = (19 : Int32)
                                            · have hf851 := br_y hf764 c850; clear hf764
                                              refine j_tabIn X (v := 19) (tgt := 940) dL_law_33 c850 (by decide) (by decide) rfl (by decide) ?_
                                              refine j_aload_n X dL_law_940 1 rfl rfl ?_
                                              refine j_aload_n X dL_law_941 0 rfl rfl ?_
                                              refine j_iload_n X dL_law_942 3 rfl rfl ?_
                                              refine j_iconst X (v := 1) dL_law_943 (by decide) ?_
                                              refine j_iadd X dL_law_944 ?_
                                              obtain ⟨h853, hf854⟩ := chk_of hf851; clear hf851
                                              refine j_sld X hX hbl hbA h853 dL_law_945 (fun v855 ev855 => ?_)
                                              replace hf854 := lt_of hf854 v855 ev855
                                              refine j_aload_n X dL_law_946 0 rfl rfl ?_
                                              refine j_iload_n X dL_law_947 3 rfl rfl ?_
                                              refine j_iconst X (v := 2) dL_law_948 (by decide) ?_
                                              refine j_iadd X dL_law_949 ?_
                                              obtain ⟨h857, hf858⟩ := chk_of hf854; clear hf854
                                              refine j_sld X hX hbl hbA h857 dL_law_950 (fun v859 ev859 => ?_)
                                              replace hf858 := lt_of hf858 v859 ev859
                                              refine j_aload_n X dL_law_951 0 rfl rfl ?_
                                              refine j_iload_n X dL_law_952 3 rfl rfl ?_
                                              refine j_iconst X (v := 3) dL_law_953 (by decide) ?_
                                              refine j_iadd X dL_law_954 ?_
                                              obtain ⟨h861, hf862⟩ := chk_of hf858; clear hf858
                                              refine j_sld X hX hbl hbA h861 dL_law_955 (fun v863 ev863 => ?_)
                                              replace hf862 := lt_of hf862 v863 ev863
                                              obtain ⟨h865, hf866⟩ := chk_of hf862; clear hf862
                                              obtain ⟨r867, σ868, h869, hf870⟩ := bc_of hf866; clear hf866
                                              refine j_callV0 X [.int v855, .int v859, .int v863] [] (c_X5_plan l D cs q1 x1 v855 v859 v863 τ _ _ h869) mk_X5_plan mv_X5_plan ml_L_101 h865 rfl (by decide) ⟨rfl, rfl⟩ ⟨Nat.le_of_ble_eq_true rfl, Nat.le_of_ble_eq_true rfl⟩ rfl (Nat.le_of_ble_eq_true rfl) ⟨(by show _ ≤ 808171; omega), (by show _ ≤ 6677735; omega)⟩ dL_law_956 rfl (st' := [.int r867]) rfl ?_
                                              obtain ⟨h871, hf872⟩ := chk_of hf870; clear hf870
                                              refine j_aload_n X dL_law_959 2 rfl rfl ?_
                                              refine j_aload_n X dL_law_960 0 rfl rfl ?_
                                              refine j_iload_n X dL_law_961 3 rfl rfl ?_
                                              refine j_iconst X (v := 1) dL_law_962 (by decide) ?_
                                              refine j_iadd X dL_law_963 ?_
                                              obtain ⟨h873, hf874⟩ := chk_of hf872; clear hf872
                                              refine j_sld X hX hbl hbA h873 dL_law_964 (fun v875 ev875 => ?_)
                                              replace hf874 := lt_of hf874 v875 ev875
                                              refine j_aload_n X dL_law_965 0 rfl rfl ?_
                                              refine j_iload_n X dL_law_966 3 rfl rfl ?_
                                              refine j_iconst X (v := 2) dL_law_967 (by decide) ?_
                                              refine j_iadd X dL_law_968 ?_
                                              obtain ⟨h877, hf878⟩ := chk_of hf874; clear hf874
                                              refine j_sld X hX hbl hbA h877 dL_law_969 (fun v879 ev879 => ?_)
                                              replace hf878 := lt_of hf878 v879 ev879
                                              refine j_aload_n X dL_law_970 0 rfl rfl ?_
                                              refine j_iload_n X dL_law_971 3 rfl rfl ?_
                                              refine j_iconst X (v := 3) dL_law_972 (by decide) ?_
                                              refine j_iadd X dL_law_973 ?_
                                              obtain ⟨h881, hf882⟩ := chk_of hf878; clear hf878
                                              refine j_sld X hX hbl hbA h881 dL_law_974 (fun v883 ev883 => ?_)
                                              replace hf882 := lt_of hf882 v883 ev883
                                              obtain ⟨h885, hf886⟩ := chk_of hf882; clear hf882
                                              obtain ⟨r887, σ888, h889, hf890⟩ := bc_of hf886; clear hf886
                                              refine j_callV0 X [.int v875, .int v879, .int v883] [.int r867] (c_X6_plan l D cs q1 x2 v875 v879 v883 σ868 _ _ h889) mk_X6_plan mv_X6_plan ml_L_104 h885 rfl (by decide) ⟨rfl, rfl⟩ ⟨Nat.le_of_ble_eq_true rfl, Nat.le_of_ble_eq_true rfl⟩ rfl (Nat.le_of_ble_eq_true rfl) ⟨(by show _ ≤ 808171; omega), (by show _ ≤ 6677735; omega)⟩ dL_law_975 rfl (st' := [.int r887, .int r867]) rfl ?_
                                              obtain ⟨h891, hf892⟩ := chk_of hf890; clear hf890
                                              refine j_icmp_eq X (tgt := 1219) dL_law_978 (by decide) (fun c893 => ?_) (fun c893 => ?_)
                                              · have hf894 := br_y hf892 c893; clear hf892
                                                obtain ⟨v896, ev896⟩ : ∃ y : Int32, y = x3 + (9 : Int32) := ⟨_, rfl⟩
                                                replace hf894 := lt_of hf894 v896 ev896
                                                refine j_iinc X (v := v896) (lv' := [(3, .int v896), (0, .ref b), (1, .ref (q1 x1)), (2, .ref (q1 x2))]) dL_law_1219 3 rfl (by rw [ev896]; rfl) (by decide) rfl ?_
                                                refine j_goto X (tgt := 18) dL_law_1222 (by decide) ?_
                                                refine j_lvsub [1, 2, 3, 0] (lv' := [(0, .ref b), (1, .ref (q1 x1)), (2, .ref (q1 x2)), (3, .int v896)]) rfl ?_
                                                refine j_widen (cells' := 100 + 9 * (k + 1)) (slots' := 8000 + 490 * (k + 1)) (by omega) (by omega) ?_
                                                exact ih (k + 1) (by omega) q1 x1 x2 v896 σ888 hf894
                                              · have hf895 := br_n hf892 c893; clear hf892
                                                refine j_iconst X (v := 0) dL_law_981 (by decide) ?_
                                                exact absurd (rt_of hf895).1 (by decide)
                                            · have hf852 := br_n hf764 c850; clear hf764
                                              by_cases c898 : v38 = (20 : Int32)
                                              · have hf899 := br_y hf852 c898; clear hf852
                                                refine j_tabIn X (v := 20) (tgt := 983) dL_law_33 c898 (by decide) (by decide) rfl (by decide) ?_
                                                refine j_aload_n X dL_law_983 1 rfl rfl ?_
                                                refine j_aload_n X dL_law_984 0 rfl rfl ?_
                                                refine j_iload_n X dL_law_985 3 rfl rfl ?_
                                                refine j_iconst X (v := 1) dL_law_986 (by decide) ?_
                                                refine j_iadd X dL_law_987 ?_
                                                obtain ⟨h901, hf902⟩ := chk_of hf899; clear hf899
                                                refine j_sld X hX hbl hbA h901 dL_law_988 (fun v903 ev903 => ?_)
                                                replace hf902 := lt_of hf902 v903 ev903
                                                obtain ⟨h905, hf906⟩ := chk_of hf902; clear hf902
                                                obtain ⟨r907, σ908, h909, hf910⟩ := bc_of hf906; clear hf906
                                                refine j_callV0 X [.int v903] [] (c_X5_ends l D cs q1 x1 v903 τ _ _ h909) mk_X5_ends mv_X5_ends ml_L_105 h905 rfl (by decide) ⟨rfl, rfl⟩ ⟨Nat.le_of_ble_eq_true rfl, Nat.le_of_ble_eq_true rfl⟩ rfl (Nat.le_of_ble_eq_true rfl) ⟨(by show _ ≤ 808171; omega), (by show _ ≤ 6677735; omega)⟩ dL_law_989 rfl (st' := [.long r907]) rfl ?_
                                                obtain ⟨h911, hf912⟩ := chk_of hf910; clear hf910
                                                refine j_aload_n X dL_law_992 2 rfl rfl ?_
                                                refine j_aload_n X dL_law_993 0 rfl rfl ?_
                                                refine j_iload_n X dL_law_994 3 rfl rfl ?_
                                                refine j_iconst X (v := 1) dL_law_995 (by decide) ?_
                                                refine j_iadd X dL_law_996 ?_
                                                obtain ⟨h913, hf914⟩ := chk_of hf912; clear hf912
                                                refine j_sld X hX hbl hbA h913 dL_law_997 (fun v915 ev915 => ?_)
                                                replace hf914 := lt_of hf914 v915 ev915
                                                obtain ⟨h917, hf918⟩ := chk_of hf914; clear hf914
                                                obtain ⟨r919, σ920, h921, hf922⟩ := bc_of hf918; clear hf918
                                                refine j_callV0 X [.int v915] [.long r907] (c_X6_ends l D cs q1 x2 v915 σ908 _ _ h921) mk_X6_ends mv_X6_ends ml_L_108 h917 rfl (by decide) ⟨rfl, rfl⟩ ⟨Nat.le_of_ble_eq_true rfl, Nat.le_of_ble_eq_true rfl⟩ rfl (Nat.le_of_ble_eq_true rfl) ⟨(by show _ ≤ 808171; omega), (by show _ ≤ 6677735; omega)⟩ dL_law_998 rfl (st' := [.long r919, .long r907]) rfl ?_
                                                obtain ⟨h923, hf924⟩ := chk_of hf922; clear hf922
                                                refine j_lcmp X dL_law_1001 ?_
                                                refine j_if_eq X (tgt := 1219) dL_law_1002 (by decide) (fun c925 => ?_) (fun c925 => ?_)
                                                · have hf926 := br_y hf924 c925; clear hf924
                                                  obtain ⟨v928, ev928⟩ : ∃ y : Int32, y = x3 + (9 : Int32) := ⟨_, rfl⟩
                                                  replace hf926 := lt_of hf926 v928 ev928
                                                  refine j_iinc X (v := v928) (lv' := [(3, .int v928), (0, .ref b), (1, .ref (q1 x1)), (2, .ref (q1 x2))]) dL_law_1219 3 rfl (by rw [ev928]; rfl) (by decide) rfl ?_
                                                  refine j_goto X (tgt := 18) dL_law_1222 (by decide) ?_
                                                  refine j_lvsub [1, 2, 3, 0] (lv' := [(0, .ref b), (1, .ref (q1 x1)), (2, .ref (q1 x2)), (3, .int v928)]) rfl ?_
                                                  refine j_widen (cells' := 100 + 9 * (k + 1)) (slots' := 8000 + 490 * (k + 1)) (by omega) (by omega) ?_
                                                  exact ih (k + 1) (by omega) q1 x1 x2 v928 σ920 hf926
                                                · have hf927 := br_n hf924 c925; clear hf924
                                                  refine j_iconst X (v := 0) dL_law_1005 (by decide) ?_
                                                  exact absurd (rt_of hf927).1 (by decide)
                                              · have hf900 := br_n hf852 c898; clear hf852
                                                by_cases c930 : v38 = (21 : Int32)
                                                · have hf931 := br_y hf900 c930; clear hf900
                                                  refine j_tabIn X (v := 21) (tgt := 1007) dL_law_33 c930 (by decide) (by decide) rfl (by decide) ?_
                                                  refine j_aload_n X dL_law_1007 1 rfl rfl ?_
                                                  refine j_aload_n X dL_law_1008 0 rfl rfl ?_
                                                  refine j_iload_n X dL_law_1009 3 rfl rfl ?_
                                                  refine j_iconst X (v := 1) dL_law_1010 (by decide) ?_
                                                  refine j_iadd X dL_law_1011 ?_
                                                  obtain ⟨h933, hf934⟩ := chk_of hf931; clear hf931
                                                  refine j_sld X hX hbl hbA h933 dL_law_1012 (fun v935 ev935 => ?_)
                                                  replace hf934 := lt_of hf934 v935 ev935
                                                  obtain ⟨h937, hf938⟩ := chk_of hf934; clear hf934
                                                  obtain ⟨r939, σ940, h941, hf942⟩ := bc_of hf938; clear hf938
                                                  refine j_callV0 X [.int v935] [] (c_X5_judge l D cs q1 x1 v935 τ _ _ h941) mk_X5_judge mv_X5_judge ml_L_109 h937 rfl (by decide) ⟨rfl, rfl⟩ ⟨Nat.le_of_ble_eq_true rfl, Nat.le_of_ble_eq_true rfl⟩ rfl (Nat.le_of_ble_eq_true rfl) ⟨(by show _ ≤ 808171; omega), (by show _ ≤ 6677735; omega)⟩ dL_law_1013 rfl (st' := [.int r939]) rfl ?_
                                                  obtain ⟨h943, hf944⟩ := chk_of hf942; clear hf942
                                                  refine j_aload_n X dL_law_1016 2 rfl rfl ?_
                                                  refine j_aload_n X dL_law_1017 0 rfl rfl ?_
                                                  refine j_iload_n X dL_law_1018 3 rfl rfl ?_
                                                  refine j_iconst X (v := 1) dL_law_1019 (by decide) ?_
                                                  refine j_iadd X dL_law_1020 ?_
                                                  obtain ⟨h945, hf946⟩ := chk_of hf944; clear hf944
                                                  refine j_sld X hX hbl hbA h945 dL_law_1021 (fun v947 ev947 => ?_)
                                                  replace hf946 := lt_of hf946 v947 ev947
                                                  obtain ⟨h949, hf950⟩ := chk_of hf946; clear hf946
                                                  obtain ⟨r951, σ952, h953, hf954⟩ := bc_of hf950; clear hf950
                                                  refine j_callV0 X [.int v947] [.int r939] (c_X6_judge l D cs q1 x2 v947 σ940 _ _ h953) mk_X6_judge mv_X6_judge ml_L_112 h949 rfl (by decide) ⟨rfl, rfl⟩ ⟨Nat.le_of_ble_eq_true rfl, Nat.le_of_ble_eq_true rfl⟩ rfl (Nat.le_of_ble_eq_true rfl) ⟨(by show _ ≤ 808171; omega), (by show _ ≤ 6677735; omega)⟩ dL_law_1022 rfl (st' := [.int r951, .int r939]) rfl ?_
                                                  obtain ⟨h955, hf956⟩ := chk_of hf954; clear hf954
                                                  refine j_icmp_eq X (tgt := 1219) dL_law_1025 (by decide) (fun c957 => ?_) (fun c957 => ?_)
                                                  · have hf958 := br_y hf956 c957; clear hf956
                                                    obtain ⟨v960, ev960⟩ : ∃ y : Int32, y = x3 + (9 : Int32) := ⟨_, rfl⟩
                                                    replace hf958 := lt_of hf958 v960 ev960
                                                    refine j_iinc X (v := v960) (lv' := [(3, .int v960), (0, .ref b), (1, .ref (q1 x1)), (2, .ref (q1 x2))]) dL_law_1219 3 rfl (by rw [ev960]; rfl) (by decide) rfl ?_
                                                    refine j_goto X (tgt := 18) dL_law_1222 (by decide) ?_
                                                    refine j_lvsub [1, 2, 3, 0] (lv' := [(0, .ref b), (1, .ref (q1 x1)), (2, .ref (q1 x2)), (3, .int v960)]) rfl ?_
                                                    refine j_widen (cells' := 100 + 9 * (k + 1)) (slots' := 8000 + 490 * (k + 1)) (by omega) (by omega) ?_
                                                    exact ih (k + 1) (by omega) q1 x1 x2 v960 σ952 hf958
                                                  · have hf959 := br_n hf956 c957; clear hf956
                                                    refine j_iconst X (v := 0) dL_law_1028 (by decide) ?_
                                                    exact absurd (rt_of hf959).1 (by decide)
                                                · have hf932 := br_n hf900 c930; clear hf900
                                                  by_cases c962 : v38 = (22 : Int32)
                                                  · have hf963 := br_y hf932 c962; clear hf932
                                                    refine j_tabIn X (v := 22) (tgt := 1030) dL_law_33 c962 (by decide) (by decide) rfl (by decide) ?_
                                                    refine j_aload_n X dL_law_1030 1 rfl rfl ?_
                                                    refine j_aload_n X dL_law_1031 0 rfl rfl ?_
                                                    refine j_iload_n X dL_law_1032 3 rfl rfl ?_
                                                    refine j_iconst X (v := 1) dL_law_1033 (by decide) ?_
                                                    refine j_iadd X dL_law_1034 ?_
                                                    obtain ⟨h965, hf966⟩ := chk_of hf963; clear hf963
                                                    refine j_sld X hX hbl hbA h965 dL_law_1035 (fun v967 ev967 => ?_)
                                                    replace hf966 := lt_of hf966 v967 ev967
                                                    refine j_aload_n X dL_law_1036 0 rfl rfl ?_
                                                    refine j_iload_n X dL_law_1037 3 rfl rfl ?_
                                                    refine j_iconst X (v := 2) dL_law_1038 (by decide) ?_
                                                    refine j_iadd X dL_law_1039 ?_
                                                    obtain ⟨h969, hf970⟩ := chk_of hf966; clear hf966
                                                    refine j_sld X hX hbl hbA h969 dL_law_1040 (fun v971 ev971 => ?_)
                                                    replace hf970 := lt_of hf970 v971 ev971
                                                    obtain ⟨h973, hf974⟩ := chk_of hf970; clear hf970
                                                    obtain ⟨r975, σ976, h977, hf978⟩ := bc_of hf974; clear hf974
                                                    refine j_callV0 X [.int v967, .int v971] [] (c_X5_list l D cs q1 x1 v967 v971 τ _ _ h977) mk_X5_list mv_X5_list ml_L_113 h973 rfl (by decide) ⟨rfl, rfl⟩ ⟨Nat.le_of_ble_eq_true rfl, Nat.le_of_ble_eq_true rfl⟩ rfl (Nat.le_of_ble_eq_true rfl) ⟨(by show _ ≤ 808171; omega), (by show _ ≤ 6677735; omega)⟩ dL_law_1041 rfl (st' := [.int r975]) rfl ?_
                                                    obtain ⟨h979, hf980⟩ := chk_of hf978; clear hf978
                                                    refine j_aload_n X dL_law_1044 2 rfl rfl ?_
                                                    refine j_aload_n X dL_law_1045 0 rfl rfl ?_
                                                    refine j_iload_n X dL_law_1046 3 rfl rfl ?_
                                                    refine j_iconst X (v := 1) dL_law_1047 (by decide) ?_
                                                    refine j_iadd X dL_law_1048 ?_
                                                    obtain ⟨h981, hf982⟩ := chk_of hf980; clear hf980
                                                    refine j_sld X hX hbl hbA h981 dL_law_1049 (fun v983 ev983 => ?_)
                                                    replace hf982 := lt_of hf982 v983 ev983
                                                    refine j_aload_n X dL_law_1050 0 rfl rfl ?_
                                                    refine j_iload_n X dL_law_1051 3 rfl rfl ?_
                                                    refine j_iconst X (v := 2) dL_law_1052 (by decide) ?_
                                                    refine j_iadd X dL_law_1053 ?_
                                                    obtain ⟨h985, hf986⟩ := chk_of hf982; clear hf982
                                                    refine j_sld X hX hbl hbA h985 dL_law_1054 (fun v987 ev987 => ?_)
                                                    replace hf986 := lt_of hf986 v987 ev987
                                                    obtain ⟨h989, hf990⟩ := chk_of hf986; clear hf986
                                                    obtain ⟨r991, σ992, h993, hf994⟩ := bc_of hf990; clear hf990
                                                    refine j_callV0 X [.int v983, .int v987] [.int r975] (c_X6_list l D cs q1 x2 v983 v987 σ976 _ _ h993) mk_X6_list mv_X6_list ml_L_116 h989 rfl (by decide) ⟨rfl, rfl⟩ ⟨Nat.le_of_ble_eq_true rfl, Nat.le_of_ble_eq_true rfl⟩ rfl (Nat.le_of_ble_eq_true rfl) ⟨(by show _ ≤ 808171; omega), (by show _ ≤ 6677735; omega)⟩ dL_law_1055 rfl (st' := [.int r991, .int r975]) rfl ?_
                                                    obtain ⟨h995, hf996⟩ := chk_of hf994; clear hf994
                                                    refine j_icmp_eq X (tgt := 1219) dL_law_1058 (by decide) (fun c997 => ?_) (fun c997 => ?_)
                                                    · have hf998 := br_y hf996 c997; clear hf996
                                                      obtain ⟨v1000, ev1000⟩ : ∃ y : Int32, y = x3 + (9 : Int32) := ⟨_, rfl⟩
                                                      replace hf998 := lt_of hf998 v1000 ev1000
                                                      refine j_iinc X (v := v1000) (lv' := [(3, .int v1000), (0, .ref b), (1, .ref (q1 x1)), (2, .ref (q1 x2))]) dL_law_1219 3 rfl (by rw [ev1000]; rfl) (by decide) rfl ?_
                                                      refine j_goto X (tgt := 18) dL_law_1222 (by decide) ?_
                                                      refine j_lvsub [1, 2, 3, 0] (lv' := [(0, .ref b), (1, .ref (q1 x1)), (2, .ref (q1 x2)), (3, .int v1000)]) rfl ?_
                                                      refine j_widen (cells' := 100 + 9 * (k + 1)) (slots' := 8000 + 490 * (k + 1)) (by omega) (by omega) ?_
                                                      exact ih (k + 1) (by omega) q1 x1 x2 v1000 σ992 hf998
                                                    · have hf999 := br_n hf996 c997; clear hf996
                                                      refine j_iconst X (v := 0) dL_law_1061 (by decide) ?_
                                                      exact absurd (rt_of hf999).1 (by decide)
                                                  · have hf964 := br_n hf932 c962; clear hf932
                                                    by_cases c1002 : v38 = (23 : Int32)
                                                    · have hf1003 := br_y hf964 c1002; clear hf964
                                                      refine j_tabIn X (v := 23) (tgt := 1063) dL_law_33 c1002 (by decide) (by decide) rfl (by decide) ?_
                                                      refine j_aload_n X dL_law_1063 1 rfl rfl ?_
                                                      refine j_aload_n X dL_law_1064 0 rfl rfl ?_
                                                      refine j_iload_n X dL_law_1065 3 rfl rfl ?_
                                                      refine j_iconst X (v := 1) dL_law_1066 (by decide) ?_
                                                      refine j_iadd X dL_law_1067 ?_
                                                      obtain ⟨h1005, hf1006⟩ := chk_of hf1003; clear hf1003
                                                      refine j_sld X hX hbl hbA h1005 dL_law_1068 (fun v1007 ev1007 => ?_)
                                                      replace hf1006 := lt_of hf1006 v1007 ev1007
                                                      refine j_aload_n X dL_law_1069 0 rfl rfl ?_
                                                      refine j_iload_n X dL_law_1070 3 rfl rfl ?_
                                                      refine j_iconst X (v := 2) dL_law_1071 (by decide) ?_
                                                      refine j_iadd X dL_law_1072 ?_
                                                      obtain ⟨h1009, hf1010⟩ := chk_of hf1006; clear hf1006
                                                      refine j_sld X hX hbl hbA h1009 dL_law_1073 (fun v1011 ev1011 => ?_)
                                                      replace hf1010 := lt_of hf1010 v1011 ev1011
                                                      refine j_aload_n X dL_law_1074 0 rfl rfl ?_
                                                      refine j_iload_n X dL_law_1075 3 rfl rfl ?_
                                                      refine j_iconst X (v := 3) dL_law_1076 (by decide) ?_
                                                      refine j_iadd X dL_law_1077 ?_
                                                      obtain ⟨h1013, hf1014⟩ := chk_of hf1010; clear hf1010
                                                      refine j_sld X hX hbl hbA h1013 dL_law_1078 (fun v1015 ev1015 => ?_)
                                                      replace hf1014 := lt_of hf1014 v1015 ev1015
                                                      refine j_i2l X dL_law_1079 ?_
                                                      refine j_bipush X (v := 32) dL_law_1080 (by decide) ?_
                                                      refine j_lshl X dL_law_1082 ?_
                                                      refine j_aload_n X dL_law_1083 0 rfl rfl ?_
                                                      refine j_iload_n X dL_law_1084 3 rfl rfl ?_
                                                      refine j_iconst X (v := 4) dL_law_1085 (by decide) ?_
                                                      refine j_iadd X dL_law_1086 ?_
                                                      obtain ⟨h1017, hf1018⟩ := chk_of hf1014; clear hf1014
                                                      refine j_sld X hX hbl hbA h1017 dL_law_1087 (fun v1019 ev1019 => ?_)
                                                      replace hf1018 := lt_of hf1018 v1019 ev1019
                                                      refine j_i2l X dL_law_1088 ?_
                                                      refine j_ldc2 X k_L_84 dL_law_1089 ?_
                                                      refine j_land X dL_law_1092 ?_
                                                      refine j_lor X dL_law_1093 ?_
                                                      obtain ⟨h1021, hf1022⟩ := chk_of hf1018; clear hf1018
                                                      obtain ⟨r1023, σ1024, h1025, hf1026⟩ := bc_of hf1022; clear hf1022
                                                      refine j_callV0 X [.int v1007, .int v1011, .long (((v1015).toInt64 <<< (((32 : Int32)).toInt64 &&& 63)) ||| ((v1019).toInt64 &&& (4294967295 : Int64)))] [] (c_X5_put l D cs q1 x1 v1007 v1011 (((v1015).toInt64 <<< (((32 : Int32)).toInt64 &&& 63)) ||| ((v1019).toInt64 &&& (4294967295 : Int64))) τ _ _ h1025) mk_X5_put mv_X5_put ml_L_117 h1021 rfl (by decide) ⟨rfl, rfl⟩ ⟨Nat.le_of_ble_eq_true rfl, Nat.le_of_ble_eq_true rfl⟩ rfl (Nat.le_of_ble_eq_true rfl) ⟨(by show _ ≤ 808171; omega), (by show _ ≤ 6677735; omega)⟩ dL_law_1094 rfl (st' := [.int r1023]) rfl ?_
                                                      obtain ⟨h1027, hf1028⟩ := chk_of hf1026; clear hf1026
                                                      refine j_aload_n X dL_law_1097 2 rfl rfl ?_
                                                      refine j_aload_n X dL_law_1098 0 rfl rfl ?_
                                                      refine j_iload_n X dL_law_1099 3 rfl rfl ?_
                                                      refine j_iconst X (v := 1) dL_law_1100 (by decide) ?_
                                                      refine j_iadd X dL_law_1101 ?_
                                                      obtain ⟨h1029, hf1030⟩ := chk_of hf1028; clear hf1028
                                                      refine j_sld X hX hbl hbA h1029 dL_law_1102 (fun v1031 ev1031 => ?_)
                                                      replace hf1030 := lt_of hf1030 v1031 ev1031
                                                      refine j_aload_n X dL_law_1103 0 rfl rfl ?_
                                                      refine j_iload_n X dL_law_1104 3 rfl rfl ?_
                                                      refine j_iconst X (v := 2) dL_law_1105 (by decide) ?_
                                                      refine j_iadd X dL_law_1106 ?_
                                                      obtain ⟨h1033, hf1034⟩ := chk_of hf1030; clear hf1030
                                                      refine j_sld X hX hbl hbA h1033 dL_law_1107 (fun v1035 ev1035 => ?_)
                                                      replace hf1034 := lt_of hf1034 v1035 ev1035
                                                      refine j_aload_n X dL_law_1108 0 rfl rfl ?_
                                                      refine j_iload_n X dL_law_1109 3 rfl rfl ?_
                                                      refine j_iconst X (v := 3) dL_law_1110 (by decide) ?_
                                                      refine j_iadd X dL_law_1111 ?_
                                                      obtain ⟨h1037, hf1038⟩ := chk_of hf1034; clear hf1034
                                                      refine j_sld X hX hbl hbA h1037 dL_law_1112 (fun v1039 ev1039 => ?_)
                                                      replace hf1038 := lt_of hf1038 v1039 ev1039
                                                      refine j_i2l X dL_law_1113 ?_
                                                      refine j_bipush X (v := 32) dL_law_1114 (by decide) ?_
                                                      refine j_lshl X dL_law_1116 ?_
                                                      refine j_aload_n X dL_law_1117 0 rfl rfl ?_
                                                      refine j_iload_n X dL_law_1118 3 rfl rfl ?_
                                                      refine j_iconst X (v := 4) dL_law_1119 (by decide) ?_
                                                      refine j_iadd X dL_law_1120 ?_
                                                      obtain ⟨h1041, hf1042⟩ := chk_of hf1038; clear hf1038
                                                      refine j_sld X hX hbl hbA h1041 dL_law_1121 (fun v1043 ev1043 => ?_)
                                                      replace hf1042 := lt_of hf1042 v1043 ev1043
                                                      refine j_i2l X dL_law_1122 ?_
                                                      refine j_ldc2 X k_L_84 dL_law_1123 ?_
                                                      refine j_land X dL_law_1126 ?_
                                                      refine j_lor X dL_law_1127 ?_
                                                      obtain ⟨h1045, hf1046⟩ := chk_of hf1042; clear hf1042
                                                      obtain ⟨r1047, σ1048, h1049, hf1050⟩ := bc_of hf1046; clear hf1046
                                                      refine j_callV0 X [.int v1031, .int v1035, .long (((v1039).toInt64 <<< (((32 : Int32)).toInt64 &&& 63)) ||| ((v1043).toInt64 &&& (4294967295 : Int64)))] [.int r1023] (c_X6_put l D cs q1 x2 v1031 v1035 (((v1039).toInt64 <<< (((32 : Int32)).toInt64 &&& 63)) ||| ((v1043).toInt64 &&& (4294967295 : Int64))) σ1024 _ _ h1049) mk_X6_put mv_X6_put ml_L_121 h1045 rfl (by decide) ⟨rfl, rfl⟩ ⟨Nat.le_of_ble_eq_true rfl, Nat.le_of_ble_eq_true rfl⟩ rfl (Nat.le_of_ble_eq_true rfl) ⟨(by show _ ≤ 808171; omega), (by show _ ≤ 6677735; omega)⟩ dL_law_1128 rfl (st' := [.int r1047, .int r1023]) rfl ?_
                                                      obtain ⟨h1051, hf1052⟩ := chk_of hf1050; clear hf1050
                                                      refine j_icmp_eq X (tgt := 1219) dL_law_1131 (by decide) (fun c1053 => ?_) (fun c1053 => ?_)
                                                      · have hf1054 := br_y hf1052 c1053; clear hf1052
                                                        obtain ⟨v1056, ev1056⟩ : ∃ y : Int32, y = x3 + (9 : Int32) := ⟨_, rfl⟩
                                                        replace hf1054 := lt_of hf1054 v1056 ev1056
                                                        refine j_iinc X (v := v1056) (lv' := [(3, .int v1056), (0, .ref b), (1, .ref (q1 x1)), (2, .ref (q1 x2))]) dL_law_1219 3 rfl (by rw [ev1056]; rfl) (by decide) rfl ?_
                                                        refine j_goto X (tgt := 18) dL_law_1222 (by decide) ?_
                                                        refine j_lvsub [1, 2, 3, 0] (lv' := [(0, .ref b), (1, .ref (q1 x1)), (2, .ref (q1 x2)), (3, .int v1056)]) rfl ?_
                                                        refine j_widen (cells' := 100 + 9 * (k + 1)) (slots' := 8000 + 490 * (k + 1)) (by omega) (by omega) ?_
                                                        exact ih (k + 1) (by omega) q1 x1 x2 v1056 σ1048 hf1054
                                                      · have hf1055 := br_n hf1052 c1053; clear hf1052
                                                        refine j_iconst X (v := 0) dL_law_1134 (by decide) ?_
                                                        exact absurd (rt_of hf1055).1 (by decide)
                                                    · have hf1004 := br_n hf964 c1002; clear hf964
                                                      by_cases c1058 : v38 = (24 : Int32)
                                                      · have hf1059 := br_y hf1004 c1058; clear hf1004
                                                        refine j_tabIn X (v := 24) (tgt := 1136) dL_law_33 c1058 (by decide) (by decide) rfl (by decide) ?_
                                                        refine j_aload_n X dL_law_1136 1 rfl rfl ?_
                                                        refine j_aload_n X dL_law_1137 0 rfl rfl ?_
                                                        refine j_iload_n X dL_law_1138 3 rfl rfl ?_
                                                        refine j_iconst X (v := 1) dL_law_1139 (by decide) ?_
                                                        refine j_iadd X dL_law_1140 ?_
                                                        obtain ⟨h1061, hf1062⟩ := chk_of hf1059; clear hf1059
                                                        refine j_sld X hX hbl hbA h1061 dL_law_1141 (fun v1063 ev1063 => ?_)
                                                        replace hf1062 := lt_of hf1062 v1063 ev1063
                                                        refine j_aload_n X dL_law_1142 0 rfl rfl ?_
                                                        refine j_iload_n X dL_law_1143 3 rfl rfl ?_
                                                        refine j_iconst X (v := 2) dL_law_1144 (by decide) ?_
                                                        refine j_iadd X dL_law_1145 ?_
                                                        obtain ⟨h1065, hf1066⟩ := chk_of hf1062; clear hf1062
                                                        refine j_sld X hX hbl hbA h1065 dL_law_1146 (fun v1067 ev1067 => ?_)
                                                        replace hf1066 := lt_of hf1066 v1067 ev1067
                                                        obtain ⟨h1069, hf1070⟩ := chk_of hf1066; clear hf1066
                                                        obtain ⟨r1071, σ1072, h1073, hf1074⟩ := bc_of hf1070; clear hf1070
                                                        refine j_callV0 X [.int v1063, .int v1067] [] (c_X5_get l D cs q1 x1 v1063 v1067 τ _ _ h1073) mk_X5_get mv_X5_get ml_L_122 h1069 rfl (by decide) ⟨rfl, rfl⟩ ⟨Nat.le_of_ble_eq_true rfl, Nat.le_of_ble_eq_true rfl⟩ rfl (Nat.le_of_ble_eq_true rfl) ⟨(by show _ ≤ 808171; omega), (by show _ ≤ 6677735; omega)⟩ dL_law_1147 rfl (st' := [.long r1071]) rfl ?_
                                                        obtain ⟨h1075, hf1076⟩ := chk_of hf1074; clear hf1074
                                                        refine j_aload_n X dL_law_1150 2 rfl rfl ?_
                                                        refine j_aload_n X dL_law_1151 0 rfl rfl ?_
                                                        refine j_iload_n X dL_law_1152 3 rfl rfl ?_
                                                        refine j_iconst X (v := 1) dL_law_1153 (by decide) ?_
                                                        refine j_iadd X dL_law_1154 ?_
                                                        obtain ⟨h1077, hf1078⟩ := chk_of hf1076; clear hf1076
                                                        refine j_sld X hX hbl hbA h1077 dL_law_1155 (fun v1079 ev1079 => ?_)
                                                        replace hf1078 := lt_of hf1078 v1079 ev1079
                                                        refine j_aload_n X dL_law_1156 0 rfl rfl ?_
                                                        refine j_iload_n X dL_law_1157 3 rfl rfl ?_
                                                        refine j_iconst X (v := 2) dL_law_1158 (by decide) ?_
                                                        refine j_iadd X dL_law_1159 ?_
                                                        obtain ⟨h1081, hf1082⟩ := chk_of hf1078; clear hf1078
                                                        refine j_sld X hX hbl hbA h1081 dL_law_1160 (fun v1083 ev1083 => ?_)
                                                        replace hf1082 := lt_of hf1082 v1083 ev1083
                                                        obtain ⟨h1085, hf1086⟩ := chk_of hf1082; clear hf1082
                                                        obtain ⟨r1087, σ1088, h1089, hf1090⟩ := bc_of hf1086; clear hf1086
                                                        refine j_callV0 X [.int v1079, .int v1083] [.long r1071] (c_X6_get l D cs q1 x2 v1079 v1083 σ1072 _ _ h1089) mk_X6_get mv_X6_get ml_L_125 h1085 rfl (by decide) ⟨rfl, rfl⟩ ⟨Nat.le_of_ble_eq_true rfl, Nat.le_of_ble_eq_true rfl⟩ rfl (Nat.le_of_ble_eq_true rfl) ⟨(by show _ ≤ 808171; omega), (by show _ ≤ 6677735; omega)⟩ dL_law_1161 rfl (st' := [.long r1087, .long r1071]) rfl ?_
                                                        obtain ⟨h1091, hf1092⟩ := chk_of hf1090; clear hf1090
                                                        refine j_lcmp X dL_law_1164 ?_
                                                        refine j_if_eq X (tgt := 1219) dL_law_1165 (by decide) (fun c1093 => ?_) (fun c1093 => ?_)
                                                        · have hf1094 := br_y hf1092 c1093; clear hf1092
                                                          obtain ⟨v1096, ev1096⟩ : ∃ y : Int32, y = x3 + (9 : Int32) := ⟨_, rfl⟩
                                                          replace hf1094 := lt_of hf1094 v1096 ev1096
                                                          refine j_iinc X (v := v1096) (lv' := [(3, .int v1096), (0, .ref b), (1, .ref (q1 x1)), (2, .ref (q1 x2))]) dL_law_1219 3 rfl (by rw [ev1096]; rfl) (by decide) rfl ?_
                                                          refine j_goto X (tgt := 18) dL_law_1222 (by decide) ?_
                                                          refine j_lvsub [1, 2, 3, 0] (lv' := [(0, .ref b), (1, .ref (q1 x1)), (2, .ref (q1 x2)), (3, .int v1096)]) rfl ?_
                                                          refine j_widen (cells' := 100 + 9 * (k + 1)) (slots' := 8000 + 490 * (k + 1)) (by omega) (by omega) ?_
                                                          exact ih (k + 1) (by omega) q1 x1 x2 v1096 σ1088 hf1094
                                                        · have hf1095 := br_n hf1092 c1093; clear hf1092
                                                          refine j_iconst X (v := 0) dL_law_1168 (by decide) ?_
                                                          exact absurd (rt_of hf1095).1 (by decide)
                                                      · have hf1060 := br_n hf1004 c1058; clear hf1004
                                                        by_cases c1098 : v38 = (25 : Int32)
                                                        · have hf1099 := br_y hf1060 c1098; clear hf1060
                                                          refine j_tabIn X (v := 25) (tgt := 1170) dL_law_33 c1098 (by decide) (by decide) rfl (by decide) ?_
                                                          refine j_aload_n X dL_law_1170 1 rfl rfl ?_
                                                          obtain ⟨h1101, hf1102⟩ := chk_of hf1099; clear hf1099
                                                          obtain ⟨r1103, σ1104, h1105, hf1106⟩ := bc_of hf1102; clear hf1102
                                                          refine j_callV0 X [] [] (c_X5_image l D cs q1 x1 τ _ _ h1105) mk_X5_image mv_X5_image ml_L_126 h1101 rfl (by decide) ⟨rfl, rfl⟩ ⟨Nat.le_of_ble_eq_true rfl, Nat.le_of_ble_eq_true rfl⟩ rfl (Nat.le_of_ble_eq_true rfl) ⟨(by show _ ≤ 808171; omega), (by show _ ≤ 6677735; omega)⟩ dL_law_1171 rfl (st' := [.int r1103]) rfl ?_
                                                          obtain ⟨h1107, hf1108⟩ := chk_of hf1106; clear hf1106
                                                          refine j_aload_n X dL_law_1174 2 rfl rfl ?_
                                                          obtain ⟨h1109, hf1110⟩ := chk_of hf1108; clear hf1108
                                                          obtain ⟨r1111, σ1112, h1113, hf1114⟩ := bc_of hf1110; clear hf1110
                                                          refine j_callV0 X [] [.int r1103] (c_X6_image l D cs q1 x2 σ1104 _ _ h1113) mk_X6_image mv_X6_image ml_L_129 h1109 rfl (by decide) ⟨rfl, rfl⟩ ⟨Nat.le_of_ble_eq_true rfl, Nat.le_of_ble_eq_true rfl⟩ rfl (Nat.le_of_ble_eq_true rfl) ⟨(by show _ ≤ 808171; omega), (by show _ ≤ 6677735; omega)⟩ dL_law_1175 rfl (st' := [.int r1111, .int r1103]) rfl ?_
                                                          obtain ⟨h1115, hf1116⟩ := chk_of hf1114; clear hf1114
                                                          refine j_icmp_eq X (tgt := 1219) dL_law_1178 (by decide) (fun c1117 => ?_) (fun c1117 => ?_)
                                                          · have hf1118 := br_y hf1116 c1117; clear hf1116
                                                            obtain ⟨v1120, ev1120⟩ : ∃ y : Int32, y = x3 + (9 : Int32) := ⟨_, rfl⟩
                                                            replace hf1118 := lt_of hf1118 v1120 ev1120
                                                            refine j_iinc X (v := v1120) (lv' := [(3, .int v1120), (0, .ref b), (1, .ref (q1 x1)), (2, .ref (q1 x2))]) dL_law_1219 3 rfl (by rw [ev1120]; rfl) (by decide) rfl ?_
                                                            refine j_goto X (tgt := 18) dL_law_1222 (by decide) ?_
                                                            refine j_lvsub [1, 2, 3, 0] (lv' := [(0, .ref b), (1, .ref (q1 x1)), (2, .ref (q1 x2)), (3, .int v1120)]) rfl ?_
                                                            refine j_widen (cells' := 100 + 9 * (k + 1)) (slots' := 8000 + 490 * (k + 1)) (by omega) (by omega) ?_
                                                            exact ih (k + 1) (by omega) q1 x1 x2 v1120 σ1112 hf1118
                                                          · have hf1119 := br_n hf1116 c1117; clear hf1116
                                                            refine j_iconst X (v := 0) dL_law_1181 (by decide) ?_
                                                            exact absurd (rt_of hf1119).1 (by decide)
                                                        · have hf1100 := br_n hf1060 c1098; clear hf1060
                                                          by_cases c1122 : v38 = (26 : Int32)
                                                          · have hf1123 := br_y hf1100 c1122; clear hf1100
                                                            refine j_tabIn X (v := 26) (tgt := 1183) dL_law_33 c1122 (by decide) (by decide) rfl (by decide) ?_
                                                            refine j_aload_n X dL_law_1183 1 rfl rfl ?_
                                                            obtain ⟨h1125, hf1126⟩ := chk_of hf1123; clear hf1123
                                                            obtain ⟨r1127, σ1128, h1129, hf1130⟩ := bc_of hf1126; clear hf1126
                                                            refine j_callV0 X [] [] (c_X5_undo l D cs q1 x1 τ _ _ h1129) mk_X5_undo mv_X5_undo ml_L_130 h1125 rfl (by decide) ⟨rfl, rfl⟩ ⟨Nat.le_of_ble_eq_true rfl, Nat.le_of_ble_eq_true rfl⟩ rfl (Nat.le_of_ble_eq_true rfl) ⟨(by show _ ≤ 808171; omega), (by show _ ≤ 6677735; omega)⟩ dL_law_1184 rfl (st' := [.int r1127]) rfl ?_
                                                            obtain ⟨h1131, hf1132⟩ := chk_of hf1130; clear hf1130
                                                            refine j_aload_n X dL_law_1187 2 rfl rfl ?_
                                                            obtain ⟨h1133, hf1134⟩ := chk_of hf1132; clear hf1132
                                                            obtain ⟨r1135, σ1136, h1137, hf1138⟩ := bc_of hf1134; clear hf1134
                                                            refine j_callV0 X [] [.int r1127] (c_X6_undo l D cs q1 x2 σ1128 _ _ h1137) mk_X6_undo mv_X6_undo ml_L_133 h1133 rfl (by decide) ⟨rfl, rfl⟩ ⟨Nat.le_of_ble_eq_true rfl, Nat.le_of_ble_eq_true rfl⟩ rfl (Nat.le_of_ble_eq_true rfl) ⟨(by show _ ≤ 808171; omega), (by show _ ≤ 6677735; omega)⟩ dL_law_1188 rfl (st' := [.int r1135, .int r1127]) rfl ?_
                                                            obtain ⟨h1139, hf1140⟩ := chk_of hf1138; clear hf1138
                                                            refine j_icmp_eq X (tgt := 1219) dL_law_1191 (by decide) (fun c1141 => ?_) (fun c1141 => ?_)
                                                            · have hf1142 := br_y hf1140 c1141; clear hf1140
                                                              obtain ⟨v1144, ev1144⟩ : ∃ y : Int32, y = x3 + (9 : Int32) := ⟨_, rfl⟩
                                                              replace hf1142 := lt_of hf1142 v1144 ev1144
                                                              refine j_iinc X (v := v1144) (lv' := [(3, .int v1144), (0, .ref b), (1, .ref (q1 x1)), (2, .ref (q1 x2))]) dL_law_1219 3 rfl (by rw [ev1144]; rfl) (by decide) rfl ?_
                                                              refine j_goto X (tgt := 18) dL_law_1222 (by decide) ?_
                                                              refine j_lvsub [1, 2, 3, 0] (lv' := [(0, .ref b), (1, .ref (q1 x1)), (2, .ref (q1 x2)), (3, .int v1144)]) rfl ?_
                                                              refine j_widen (cells' := 100 + 9 * (k + 1)) (slots' := 8000 + 490 * (k + 1)) (by omega) (by omega) ?_
                                                              exact ih (k + 1) (by omega) q1 x1 x2 v1144 σ1136 hf1142
                                                            · have hf1143 := br_n hf1140 c1141; clear hf1140
                                                              refine j_iconst X (v := 0) dL_law_1194 (by decide) ?_
                                                              exact absurd (rt_of hf1143).1 (by decide)
                                                          · have hf1124 := br_n hf1100 c1122; clear hf1100
                                                            by_cases c1146 : v38 = (27 : Int32)
                                                            · have hf1147 := br_y hf1124 c1146; clear hf1124
                                                              refine j_tabIn X (v := 27) (tgt := 1196) dL_law_33 c1146 (by decide) (by decide) rfl (by decide) ?_
                                                              refine j_aload_n X dL_law_1196 1 rfl rfl ?_
                                                              refine j_aload_n X dL_law_1197 0 rfl rfl ?_
                                                              refine j_iload_n X dL_law_1198 3 rfl rfl ?_
                                                              refine j_iconst X (v := 1) dL_law_1199 (by decide) ?_
                                                              refine j_iadd X dL_law_1200 ?_
                                                              obtain ⟨h1149, hf1150⟩ := chk_of hf1147; clear hf1147
                                                              refine j_sld X hX hbl hbA h1149 dL_law_1201 (fun v1151 ev1151 => ?_)
                                                              replace hf1150 := lt_of hf1150 v1151 ev1151
                                                              obtain ⟨h1153, hf1154⟩ := chk_of hf1150; clear hf1150
                                                              obtain ⟨r1155, σ1156, h1157, hf1158⟩ := bc_of hf1154; clear hf1154
                                                              refine j_callV0 X [.int v1151] [] (c_X5_count l D cs q1 x1 v1151 τ _ _ h1157) mk_X5_count mv_X5_count ml_L_134 h1153 rfl (by decide) ⟨rfl, rfl⟩ ⟨Nat.le_of_ble_eq_true rfl, Nat.le_of_ble_eq_true rfl⟩ rfl (Nat.le_of_ble_eq_true rfl) ⟨(by show _ ≤ 808171; omega), (by show _ ≤ 6677735; omega)⟩ dL_law_1202 rfl (st' := [.int r1155]) rfl ?_
                                                              obtain ⟨h1159, hf1160⟩ := chk_of hf1158; clear hf1158
                                                              refine j_aload_n X dL_law_1205 2 rfl rfl ?_
                                                              refine j_aload_n X dL_law_1206 0 rfl rfl ?_
                                                              refine j_iload_n X dL_law_1207 3 rfl rfl ?_
                                                              refine j_iconst X (v := 1) dL_law_1208 (by decide) ?_
                                                              refine j_iadd X dL_law_1209 ?_
                                                              obtain ⟨h1161, hf1162⟩ := chk_of hf1160; clear hf1160
                                                              refine j_sld X hX hbl hbA h1161 dL_law_1210 (fun v1163 ev1163 => ?_)
                                                              replace hf1162 := lt_of hf1162 v1163 ev1163
                                                              obtain ⟨h1165, hf1166⟩ := chk_of hf1162; clear hf1162
                                                              obtain ⟨r1167, σ1168, h1169, hf1170⟩ := bc_of hf1166; clear hf1166
                                                              refine j_callV0 X [.int v1163] [.int r1155] (c_X6_count l D cs q1 x2 v1163 σ1156 _ _ h1169) mk_X6_count mv_X6_count ml_L_137 h1165 rfl (by decide) ⟨rfl, rfl⟩ ⟨Nat.le_of_ble_eq_true rfl, Nat.le_of_ble_eq_true rfl⟩ rfl (Nat.le_of_ble_eq_true rfl) ⟨(by show _ ≤ 808171; omega), (by show _ ≤ 6677735; omega)⟩ dL_law_1211 rfl (st' := [.int r1167, .int r1155]) rfl ?_
                                                              obtain ⟨h1171, hf1172⟩ := chk_of hf1170; clear hf1170
                                                              refine j_icmp_eq X (tgt := 1219) dL_law_1214 (by decide) (fun c1173 => ?_) (fun c1173 => ?_)
                                                              · have hf1174 := br_y hf1172 c1173; clear hf1172
                                                                obtain ⟨v1176, ev1176⟩ : ∃ y : Int32, y = x3 + (9 : Int32) := ⟨_, rfl⟩
                                                                replace hf1174 := lt_of hf1174 v1176 ev1176
                                                                refine j_iinc X (v := v1176) (lv' := [(3, .int v1176), (0, .ref b), (1, .ref (q1 x1)), (2, .ref (q1 x2))]) dL_law_1219 3 rfl (by rw [ev1176]; rfl) (by decide) rfl ?_
                                                                refine j_goto X (tgt := 18) dL_law_1222 (by decide) ?_
                                                                refine j_lvsub [1, 2, 3, 0] (lv' := [(0, .ref b), (1, .ref (q1 x1)), (2, .ref (q1 x2)), (3, .int v1176)]) rfl ?_
                                                                refine j_widen (cells' := 100 + 9 * (k + 1)) (slots' := 8000 + 490 * (k + 1)) (by omega) (by omega) ?_
                                                                exact ih (k + 1) (by omega) q1 x1 x2 v1176 σ1168 hf1174
                                                              · have hf1175 := br_n hf1172 c1173; clear hf1172
                                                                refine j_iconst X (v := 0) dL_law_1217 (by decide) ?_
                                                                exact absurd (rt_of hf1175).1 (by decide)
                                                            · have hf1148 := br_n hf1124 c1146; clear hf1124
                                                              refine j_tabOut X (tgt := 1219) dL_law_33 (by have z0 := lv_neT c40 (show ((0 : Int32)).toInt = 0 from rfl); have z1 := lv_neT c88 (show ((1 : Int32)).toInt = 1 from rfl); have z2 := lv_neT c128 (show ((2 : Int32)).toInt = 2 from rfl); have z3 := lv_neT c160 (show ((3 : Int32)).toInt = 3 from rfl); have z4 := lv_neT c186 (show ((4 : Int32)).toInt = 4 from rfl); have z5 := lv_neT c210 (show ((5 : Int32)).toInt = 5 from rfl); have z6 := lv_neT c250 (show ((6 : Int32)).toInt = 6 from rfl); have z7 := lv_neT c290 (show ((7 : Int32)).toInt = 7 from rfl); have z8 := lv_neT c330 (show ((8 : Int32)).toInt = 8 from rfl); have z9 := lv_neT c362 (show ((9 : Int32)).toInt = 9 from rfl); have z10 := lv_neT c394 (show ((10 : Int32)).toInt = 10 from rfl); have z11 := lv_neT c434 (show ((11 : Int32)).toInt = 11 from rfl); have z12 := lv_neT c474 (show ((12 : Int32)).toInt = 12 from rfl); have z13 := lv_neT c514 (show ((13 : Int32)).toInt = 13 from rfl); have z14 := lv_neT c570 (show ((14 : Int32)).toInt = 14 from rfl); have z15 := lv_neT c610 (show ((15 : Int32)).toInt = 15 from rfl); have z16 := lv_neT c642 (show ((16 : Int32)).toInt = 16 from rfl); have z17 := lv_neT c698 (show ((17 : Int32)).toInt = 17 from rfl); have z18 := lv_neT c762 (show ((18 : Int32)).toInt = 18 from rfl); have z19 := lv_neT c850 (show ((19 : Int32)).toInt = 19 from rfl); have z20 := lv_neT c898 (show ((20 : Int32)).toInt = 20 from rfl); have z21 := lv_neT c930 (show ((21 : Int32)).toInt = 21 from rfl); have z22 := lv_neT c962 (show ((22 : Int32)).toInt = 22 from rfl); have z23 := lv_neT c1002 (show ((23 : Int32)).toInt = 23 from rfl); have z24 := lv_neT c1058 (show ((24 : Int32)).toInt = 24 from rfl); have z25 := lv_neT c1098 (show ((25 : Int32)).toInt = 25 from rfl); have z26 := lv_neT c1122 (show ((26 : Int32)).toInt = 26 from rfl); have z27 := lv_neT c1146 (show ((27 : Int32)).toInt = 27 from rfl); omega) (by decide) ?_
                                                              obtain ⟨v1178, ev1178⟩ : ∃ y : Int32, y = x3 + (9 : Int32) := ⟨_, rfl⟩
                                                              replace hf1148 := lt_of hf1148 v1178 ev1178
                                                              refine j_iinc X (v := v1178) (lv' := [(3, .int v1178), (0, .ref b), (1, .ref (q1 x1)), (2, .ref (q1 x2))]) dL_law_1219 3 rfl (by rw [ev1178]; rfl) (by decide) rfl ?_
                                                              refine j_goto X (tgt := 18) dL_law_1222 (by decide) ?_
                                                              refine j_lvsub [1, 2, 3, 0] (lv' := [(0, .ref b), (1, .ref (q1 x1)), (2, .ref (q1 x2)), (3, .int v1178)]) rfl ?_
                                                              refine j_widen (cells' := 100 + 9 * (k + 1)) (slots' := 8000 + 490 * (k + 1)) (by omega) (by omega) ?_
                                                              exact ih (k + 1) (by omega) q1 x1 x2 v1178 τ hf1148
set_option maxHeartbeats 8000000 in
set_option maxRecDepth 100000 in
theorem law_start {p : Program} {l : Launch} {e : Env} {s : State} {m : MethodId} {below : List Frame} {meth : Method} {c : Code} {D : va_G} {cs : Nat → ClassId} {b L : Nat} {xs : Nat → Int32} {σ0 : HS} {q : Nat → Nat} {σ : HS} (hf0 : f_L_law L xs σ = some (1, σ0)) (X : Cx p s m #[Value.ref b] c code 4 RL D cs (fun z => s.heap.size ≤ z) s.heap) (hr : meth.sig.returnType = ret) (hlk : meth.locks = false) (hX : va_X b L xs s s.heap) (hbl : b < s.heap.size) (hbA : ¬ s.heap.size ≤ b) :
    J p l e room_1 s m #[Value.ref b] below meth c 4 D cs (fun z => s.heap.size ≤ z) s.heap 0 0 (lw_Z below #[Value.ref b] s) q σ [(0, .ref b)] 0 [] := by
  unfold f_L_law at hf0
  refine j_new X nf_L_7 ⟨Nat.le_of_ble_eq_true rfl, Nat.le_of_ble_eq_true rfl⟩ dL_law_0 (fun q1 σ2 n3 hq1 eσ2 en3 => ?_)
  replace hf0 := lt_of hf0 n3 en3
  replace hf0 := lt_of hf0 σ2 eσ2
  have m4 : hN σ2 = hN σ + 1 := by rw [eσ2]; rfl
  have h5 : isO σ2 5 n3 := isO_nw0 eσ2 en3
  refine j_dup X dL_law_3 rfl ?_
  obtain ⟨r6, σ7, h8, hf9⟩ := bc_of hf0; clear hf0
  refine j_callI X (As := []) (rest := [.ref (q1 n3)]) (c_X5_init l D cs q1 n3 σ2 _ _ h8) mk_X5_init mv_X5_init ml_L_9 ⟨rfl, rfl⟩ ⟨Nat.le_of_ble_eq_true rfl, Nat.le_of_ble_eq_true rfl⟩ rfl (Nat.le_of_ble_eq_true rfl) ⟨Nat.le_of_ble_eq_true rfl, Nat.le_of_ble_eq_true rfl⟩ dL_law_4 rfl (fun z => [.ref (q1 n3)]) (fun _ => rfl) (fun q10 hq10 => ?_)
  obtain ⟨hq10, m11⟩ := hq10
  rw [← hq10 n3 h5.1]
  refine j_astore_n X (lv' := [(1, .ref (q10 n3)), (0, .ref b)]) dL_law_7 rfl (by decide) rfl ?_
  obtain ⟨h12, hf13⟩ := chk_of hf9; clear hf9
  refine j_new X nf_L_10 ⟨Nat.le_of_ble_eq_true rfl, Nat.le_of_ble_eq_true rfl⟩ dL_law_8 (fun q14 σ15 n16 hq14 eσ15 en16 => ?_)
  replace hf13 := lt_of hf13 n16 en16
  replace hf13 := lt_of hf13 σ15 eσ15
  have m17 : hN σ15 = hN σ7 + 1 := by rw [eσ15]; rfl
  rw [← hq14 n3 h12]
  have h18 : isO σ15 6 n16 := isO_nw0 eσ15 en16
  refine j_dup X dL_law_11 rfl ?_
  obtain ⟨h23, hf24⟩ := chk_of hf13; clear hf13
  obtain ⟨r19, σ20, h21, hf22⟩ := bc_of hf24; clear hf24
  refine j_callI X (As := []) (rest := [.ref (q14 n16)]) (c_X6_init l D cs q14 n16 σ15 _ _ h21) mk_X6_init mv_X6_init ml_L_12 ⟨rfl, rfl⟩ ⟨Nat.le_of_ble_eq_true rfl, Nat.le_of_ble_eq_true rfl⟩ rfl (Nat.le_of_ble_eq_true rfl) ⟨Nat.le_of_ble_eq_true rfl, Nat.le_of_ble_eq_true rfl⟩ dL_law_12 rfl (fun z => [.ref (q14 n16)]) (fun _ => rfl) (fun q25 hq25 => ?_)
  obtain ⟨hq25, m26⟩ := hq25
  rw [← hq25 n3 h23, ← hq25 n16 h18.1]
  refine j_astore_n X (lv' := [(2, .ref (q25 n16)), (1, .ref (q25 n3)), (0, .ref b)]) dL_law_15 rfl (by decide) rfl ?_
  refine j_iconst X (v := 0) dL_law_16 (by decide) ?_
  refine j_nmi (fun v27 ev27 => ?_)
  replace hf22 := lt_of hf22 v27 ev27
  refine j_istore_n X (lv' := [(3, .int v27), (2, .ref (q25 n16)), (1, .ref (q25 n3)), (0, .ref b)]) dL_law_17 rfl (by decide) rfl ?_
  refine j_lvsub [3, 2, 1, 0] (lv' := [(0, .ref b), (1, .ref (q25 n3)), (2, .ref (q25 n16)), (3, .int v27)]) rfl ?_
  refine j_widen (cells' := 100 + 9 * 0) (slots' := 8000 + 490 * 0) (by decide) (by decide) ?_
  exact law_loop X hr hlk hX hbl hbA 1000 0 (by omega) q25 n3 n16 v27 σ20 hf22
