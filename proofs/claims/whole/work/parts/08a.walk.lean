def lp_J7_fill_53178_5_b  (K5 : Nat → Int32 → Int32 → Int32 → HS → Option (Unit × HS)) (x0 : Nat) (x1 : Int32) (x2 : Int32) (x3 : Int32) (τ : HS) : Option (Unit × HS) :=
  (if x3 ≤ x2 then
  some ((), τ)
  else
  chk (isO τ 10 x0 ∧ inb x2 (hlen τ x0)) (lt (sA τ x0 x2.toNatClampNeg x1) fun σ12 =>
  lt (x2 + (1 : Int32)) fun v14 =>
  K5 x0 x1 v14 x3 σ12))
def lp_J7_fill_53178_5  : Nat → Nat → Int32 → Int32 → Int32 → HS → Option (Unit × HS)
  | 0 => fun _ _ _ _ _ => none
  | n + 1 => lp_J7_fill_53178_5_b  (lp_J7_fill_53178_5  n)
def f_J7_fill_53178 (a0 : Nat) (a1 : Int32) (σ : HS) : Option (Unit × HS) :=
  lt ((0 : Int32)) fun v1 =>
  chk (isO σ 10 a0) (lt (Int32.ofNat (hlen σ a0)) fun v5 =>
  lp_J7_fill_53178_5  1000 a0 a1 v1 v5 σ)
abbrev rm_J7_fill_53178 : Room := { frames := 0, cells := 0, slots := 0, locals := 0 }
set_option maxHeartbeats 4000000 in
set_option maxRecDepth 100000 in
theorem c_J7_fill_53178 (l : Launch) (D : va_G) (cs : Nat → ClassId) (q : Nat → Nat) (a0 : Nat) (a1 : Int32) (σ σ0 : HS) (r0 : Unit) (hf0 : f_J7_fill_53178 a0 a1 σ = some (r0, σ0)) : MT l yJ7_fill_53178 (Cond.code yJ7_fill_53178 cJ7_fill_53178 4 none :: lw_g) rm_J7_fill_53178 D cs q σ σ0 [.ref (q a0), .int a1] (fun z => z = q) (fun _ => none) 0 0 := by
  unfold f_J7_fill_53178 at hf0
  refine MT_of (cc := cJ7_fill_53178) (lv0 := [(0, .ref (q a0)), (1, .int a1)]) (by decide) (Nat.le_of_ble_eq_true rfl) rfl (fun p e s m args below meth c A X hr hlk hin => ?_)
  have L5 : ∀ (nk : Nat) (x0 : Nat) (x1 : Int32) (x2 : Int32) (x3 : Int32) (τ : HS), lp_J7_fill_53178_5  nk x0 x1 x2 x3 τ = some (r0, σ0) → J p l e rm_J7_fill_53178 s m args below meth c 4 D cs A s.heap 0 0 (MQ below (hQ D cs (fun z => z = q) (fun _ => none) σ0 A) args s 0 0 A) q τ [(0, .ref (q x0)), (1, .int x1), (2, .int x2), (3, .int x3)] 5 [] := by
    intro nk
    induction nk with
    | zero => intro x0 x1 x2 x3 τ hf0; have hf1 : (none : Option (Unit × HS)) = some (r0, σ0) := hf0; cases hf1
    | succ nk ih =>
      intro x0 x1 x2 x3 τ hf0
      replace hf0 : lp_J7_fill_53178_5_b  (lp_J7_fill_53178_5  nk) x0 x1 x2 x3 τ = some (r0, σ0) := hf0
      unfold lp_J7_fill_53178_5_b at hf0
      refine j_iload_n X dJ7_fill_53178_5 2 rfl rfl ?_
      refine j_iload_n X dJ7_fill_53178_6 3 rfl rfl ?_
      refine j_icmp_ge X (tgt := 20) dJ7_fill_53178_7 (by decide) (fun c7 => ?_) (fun c7 => ?_)
      · have hf8 := br_y hf0 c7; clear hf0
        obtain ⟨er, es⟩ := rt_of hf8
        exact j_retv X hr hlk (Nat.le_of_ble_eq_true rfl) (Nat.le_of_ble_eq_true rfl) rfl es.symm rfl dJ7_fill_53178_20
      · have hf9 := br_n hf0 c7; clear hf0
        refine j_aload_n X dJ7_fill_53178_10 0 rfl rfl ?_
        refine j_iload_n X dJ7_fill_53178_11 2 rfl rfl ?_
        refine j_iload_n X dJ7_fill_53178_12 1 rfl rfl ?_
        obtain ⟨h10, hf11⟩ := chk_of hf9; clear hf9
        refine j_iast X h10 dJ7_fill_53178_13 (fun σ12 eσ12 => ?_)
        replace hf11 := lt_of hf11 σ12 eσ12
        obtain ⟨v14, ev14⟩ : ∃ y : Int32, y = x2 + (1 : Int32) := ⟨_, rfl⟩
        replace hf11 := lt_of hf11 v14 ev14
        refine j_iinc X (v := v14) (lv' := [(2, .int v14), (0, .ref (q x0)), (1, .int x1), (3, .int x3)]) dJ7_fill_53178_14 2 rfl (by rw [ev14]; rfl) (by decide) rfl ?_
        refine j_goto X (tgt := 5) dJ7_fill_53178_17 (by decide) ?_
        refine j_lvsub [1, 2, 0, 3] (lv' := [(0, .ref (q x0)), (1, .int x1), (2, .int v14), (3, .int x3)]) rfl ?_
        exact ih x0 x1 v14 x3 σ12 hf11
  refine j_iconst X (v := 0) dJ7_fill_53178_0 (by decide) ?_
  refine j_nmi (fun v1 ev1 => ?_)
  replace hf0 := lt_of hf0 v1 ev1
  refine j_istore_n X (lv' := [(2, .int v1), (0, .ref (q a0)), (1, .int a1)]) dJ7_fill_53178_1 rfl (by decide) rfl ?_
  refine j_aload_n X dJ7_fill_53178_2 1 rfl rfl ?_
  obtain ⟨h3, hf4⟩ := chk_of hf0; clear hf0
  refine j_alen X (Or.inl rfl) h3 dJ7_fill_53178_3 (fun v5 ev5 => ?_)
  replace hf4 := lt_of hf4 v5 ev5
  refine j_istore_n X (lv' := [(3, .int v5), (2, .int v1), (0, .ref (q a0)), (1, .int a1)]) dJ7_fill_53178_4 rfl (by decide) rfl ?_
  refine j_lvsub [2, 3, 1, 0] (lv' := [(0, .ref (q a0)), (1, .int a1), (2, .int v1), (3, .int v5)]) rfl ?_
  exact L5  1000 a0 a1 v1 v5 σ hf4
def lp_J7_fill_d0a16_6_b  (K6 : Nat → Int64 → Int32 → Int32 → HS → Option (Unit × HS)) (x0 : Nat) (x1 : Int64) (x3 : Int32) (x4 : Int32) (τ : HS) : Option (Unit × HS) :=
  (if x4 ≤ x3 then
  some ((), τ)
  else
  chk (isO τ 12 x0 ∧ inb x3 (hlen τ x0)) (lt (sB τ x0 x3.toNatClampNeg x1) fun σ12 =>
  lt (x3 + (1 : Int32)) fun v14 =>
  K6 x0 x1 v14 x4 σ12))
def lp_J7_fill_d0a16_6  : Nat → Nat → Int64 → Int32 → Int32 → HS → Option (Unit × HS)
  | 0 => fun _ _ _ _ _ => none
  | n + 1 => lp_J7_fill_d0a16_6_b  (lp_J7_fill_d0a16_6  n)
def f_J7_fill_d0a16 (a0 : Nat) (a1 : Int64) (σ : HS) : Option (Unit × HS) :=
  lt ((0 : Int32)) fun v1 =>
  chk (isO σ 12 a0) (lt (Int32.ofNat (hlen σ a0)) fun v5 =>
  lp_J7_fill_d0a16_6  1000 a0 a1 v1 v5 σ)
abbrev rm_J7_fill_d0a16 : Room := { frames := 0, cells := 0, slots := 0, locals := 0 }
set_option maxHeartbeats 4000000 in
set_option maxRecDepth 100000 in
theorem c_J7_fill_d0a16 (l : Launch) (D : va_G) (cs : Nat → ClassId) (q : Nat → Nat) (a0 : Nat) (a1 : Int64) (σ σ0 : HS) (r0 : Unit) (hf0 : f_J7_fill_d0a16 a0 a1 σ = some (r0, σ0)) : MT l yJ7_fill_d0a16 (Cond.code yJ7_fill_d0a16 cJ7_fill_d0a16 5 none :: lw_g) rm_J7_fill_d0a16 D cs q σ σ0 [.ref (q a0), .long a1] (fun z => z = q) (fun _ => none) 0 0 := by
  unfold f_J7_fill_d0a16 at hf0
  refine MT_of (cc := cJ7_fill_d0a16) (lv0 := [(0, .ref (q a0)), (1, .long a1)]) (by decide) (Nat.le_of_ble_eq_true rfl) rfl (fun p e s m args below meth c A X hr hlk hin => ?_)
  have L6 : ∀ (nk : Nat) (x0 : Nat) (x1 : Int64) (x3 : Int32) (x4 : Int32) (τ : HS), lp_J7_fill_d0a16_6  nk x0 x1 x3 x4 τ = some (r0, σ0) → J p l e rm_J7_fill_d0a16 s m args below meth c 5 D cs A s.heap 0 0 (MQ below (hQ D cs (fun z => z = q) (fun _ => none) σ0 A) args s 0 0 A) q τ [(0, .ref (q x0)), (1, .long x1), (3, .int x3), (4, .int x4)] 6 [] := by
    intro nk
    induction nk with
    | zero => intro x0 x1 x3 x4 τ hf0; have hf1 : (none : Option (Unit × HS)) = some (r0, σ0) := hf0; cases hf1
    | succ nk ih =>
      intro x0 x1 x3 x4 τ hf0
      replace hf0 : lp_J7_fill_d0a16_6_b  (lp_J7_fill_d0a16_6  nk) x0 x1 x3 x4 τ = some (r0, σ0) := hf0
      unfold lp_J7_fill_d0a16_6_b at hf0
      refine j_iload_n X dJ7_fill_d0a16_6 2 rfl rfl ?_
      refine j_iload X dJ7_fill_d0a16_7 3 rfl ?_
      refine j_icmp_ge X (tgt := 22) dJ7_fill_d0a16_9 (by decide) (fun c7 => ?_) (fun c7 => ?_)
      · have hf8 := br_y hf0 c7; clear hf0
        obtain ⟨er, es⟩ := rt_of hf8
        exact j_retv X hr hlk (Nat.le_of_ble_eq_true rfl) (Nat.le_of_ble_eq_true rfl) rfl es.symm rfl dJ7_fill_d0a16_22
      · have hf9 := br_n hf0 c7; clear hf0
        refine j_aload_n X dJ7_fill_d0a16_12 0 rfl rfl ?_
        refine j_iload_n X dJ7_fill_d0a16_13 2 rfl rfl ?_
        refine j_lload_n X dJ7_fill_d0a16_14 1 rfl rfl ?_
        obtain ⟨h10, hf11⟩ := chk_of hf9; clear hf9
        refine j_last X h10 dJ7_fill_d0a16_15 (fun σ12 eσ12 => ?_)
        replace hf11 := lt_of hf11 σ12 eσ12
        obtain ⟨v14, ev14⟩ : ∃ y : Int32, y = x3 + (1 : Int32) := ⟨_, rfl⟩
        replace hf11 := lt_of hf11 v14 ev14
        refine j_iinc X (v := v14) (lv' := [(3, .int v14), (0, .ref (q x0)), (1, .long x1), (4, .int x4)]) dJ7_fill_d0a16_16 2 rfl (by rw [ev14]; rfl) (by decide) rfl ?_
        refine j_goto X (tgt := 6) dJ7_fill_d0a16_19 (by decide) ?_
        refine j_lvsub [1, 2, 0, 3] (lv' := [(0, .ref (q x0)), (1, .long x1), (3, .int v14), (4, .int x4)]) rfl ?_
        exact ih x0 x1 v14 x4 σ12 hf11
  refine j_iconst X (v := 0) dJ7_fill_d0a16_0 (by decide) ?_
  refine j_nmi (fun v1 ev1 => ?_)
  replace hf0 := lt_of hf0 v1 ev1
  refine j_istore_n X (lv' := [(3, .int v1), (0, .ref (q a0)), (1, .long a1)]) dJ7_fill_d0a16_1 rfl (by decide) rfl ?_
  refine j_aload_n X dJ7_fill_d0a16_2 1 rfl rfl ?_
  obtain ⟨h3, hf4⟩ := chk_of hf0; clear hf0
  refine j_alen X (Or.inr rfl) h3 dJ7_fill_d0a16_3 (fun v5 ev5 => ?_)
  replace hf4 := lt_of hf4 v5 ev5
  refine j_istore X (lv' := [(4, .int v5), (3, .int v1), (0, .ref (q a0)), (1, .long a1)]) dJ7_fill_d0a16_4 (by decide) rfl ?_
  refine j_lvsub [2, 3, 1, 0] (lv' := [(0, .ref (q a0)), (1, .long a1), (3, .int v1), (4, .int v5)]) rfl ?_
  exact L6  1000 a0 a1 v1 v5 σ hf4
def f_X1_differenceFits (a0 : Int64) (a2 : Int64) (σ : HS) : Option (Int32 × HS) :=
  (if (lg_cmp a2 (0 : Int64)) < 0 then
  (if 0 < (lg_cmp a0 ((9223372036854775807 : Int64) + a2)) then
  some ((0 : Int32), σ)
  else
  some ((1 : Int32), σ))
  else
  (if (lg_cmp a0 ((-9223372036854775808 : Int64) + a2)) < 0 then
  some ((0 : Int32), σ)
  else
  some ((1 : Int32), σ)))
abbrev rm_X1_differenceFits : Room := { frames := 0, cells := 0, slots := 0, locals := 0 }
set_option maxHeartbeats 4000000 in
set_option maxRecDepth 100000 in
theorem c_X1_differenceFits (l : Launch) (D : va_G) (cs : Nat → ClassId) (q : Nat → Nat) (a0 : Int64) (a2 : Int64) (σ σ0 : HS) (r0 : Int32) (hf0 : f_X1_differenceFits a0 a2 σ = some (r0, σ0)) : MT l yX1_differenceFits (Cond.code yX1_differenceFits cX1_differenceFits 4 (some .boolean) :: lw_g) rm_X1_differenceFits D cs q σ σ0 [.long a0, .long a2] (fun z => z = q) (fun _ => some (.int r0)) 0 0 := by
  unfold f_X1_differenceFits at hf0
  refine MT_of (cc := cX1_differenceFits) (lv0 := [(0, .long a0), (2, .long a2)]) (by decide) (Nat.le_of_ble_eq_true rfl) rfl (fun p e s m args below meth c A X hr hlk hin => ?_)
  refine j_lload_n X dX1_differenceFits_0 1 rfl rfl ?_
  refine j_lconst X (v := 0) dX1_differenceFits_1 (by decide) ?_
  refine j_lcmp X dX1_differenceFits_2 ?_
  refine j_if_lt X (tgt := 24) dX1_differenceFits_3 (by decide) (fun c1 => ?_) (fun c1 => ?_)
  · have hf2 := br_y hf0 c1; clear hf0
    refine j_lload_n X dX1_differenceFits_24 0 rfl rfl ?_
    refine j_ldc2 X k_X1_43 dX1_differenceFits_25 ?_
    refine j_lload_n X dX1_differenceFits_28 1 rfl rfl ?_
    refine j_ladd X dX1_differenceFits_29 ?_
    refine j_lcmp X dX1_differenceFits_30 ?_
    refine j_if_gt X (tgt := 38) dX1_differenceFits_31 (by decide) (fun c4 => ?_) (fun c4 => ?_)
    · have hf5 := br_y hf2 c4; clear hf2
      refine j_iconst X (v := 0) dX1_differenceFits_38 (by decide) ?_
      obtain ⟨er, es⟩ := rt_of hf5
      subst er
      exact j_retz X hr hlk (Nat.le_of_ble_eq_true rfl) (Nat.le_of_ble_eq_true rfl) rfl es.symm rfl (Or.inl rfl) dX1_differenceFits_39
    · have hf6 := br_n hf2 c4; clear hf2
      refine j_iconst X (v := 1) dX1_differenceFits_34 (by decide) ?_
      refine j_goto X (tgt := 39) dX1_differenceFits_35 (by decide) ?_
      obtain ⟨er, es⟩ := rt_of hf6
      subst er
      exact j_retz X hr hlk (Nat.le_of_ble_eq_true rfl) (Nat.le_of_ble_eq_true rfl) rfl es.symm rfl (Or.inr rfl) dX1_differenceFits_39
  · have hf3 := br_n hf0 c1; clear hf0
    refine j_lload_n X dX1_differenceFits_6 0 rfl rfl ?_
    refine j_ldc2 X k_X1_22 dX1_differenceFits_7 ?_
    refine j_lload_n X dX1_differenceFits_10 1 rfl rfl ?_
    refine j_ladd X dX1_differenceFits_11 ?_
    refine j_lcmp X dX1_differenceFits_12 ?_
    refine j_if_lt X (tgt := 20) dX1_differenceFits_13 (by decide) (fun c7 => ?_) (fun c7 => ?_)
    · have hf8 := br_y hf3 c7; clear hf3
      refine j_iconst X (v := 0) dX1_differenceFits_20 (by decide) ?_
      refine j_goto X (tgt := 39) dX1_differenceFits_21 (by decide) ?_
      obtain ⟨er, es⟩ := rt_of hf8
      subst er
      exact j_retz X hr hlk (Nat.le_of_ble_eq_true rfl) (Nat.le_of_ble_eq_true rfl) rfl es.symm rfl (Or.inl rfl) dX1_differenceFits_39
    · have hf9 := br_n hf3 c7; clear hf3
      refine j_iconst X (v := 1) dX1_differenceFits_16 (by decide) ?_
      refine j_goto X (tgt := 39) dX1_differenceFits_17 (by decide) ?_
      obtain ⟨er, es⟩ := rt_of hf9
      subst er
      exact j_retz X hr hlk (Nat.le_of_ble_eq_true rfl) (Nat.le_of_ble_eq_true rfl) rfl es.symm rfl (Or.inr rfl) dX1_differenceFits_39
def f_X1_difference (a0 : Nat) (a1 : Int32) (a2 : Nat) (a3 : Int32) (a4 : Nat) (a5 : Int32) (σ : HS) : Option (Unit × HS) :=
  chk (isO σ 1 a0) (bd (hR σ a0 2) fun i3 =>
  chk (isO σ 1 a2) (bd (hR σ a2 2) fun i8 =>
  chk (isO σ 11 i8 ∧ inb a3 (hlen σ i8)) (lt (hA σ i8 a3.toNatClampNeg) fun v13 =>
  (if v13 = 0 then
  chk (isO σ 1 a4) (bd (hR σ a4 2) fun i76 =>
  chk (isO σ 11 i76 ∧ inb a5 (hlen σ i76)) (lt (hA σ i76 a5.toNatClampNeg) fun v81 =>
  (if v81 = 0 then
  bd (hR σ a2 0) fun i141 =>
  chk (isO σ 12 i141 ∧ inb a3 (hlen σ i141)) (lt (hB σ i141 a3.toNatClampNeg) fun v146 =>
  bd (hR σ a4 1) fun i148 =>
  chk (isO σ 12 i148 ∧ inb a5 (hlen σ i148)) (lt (hB σ i148 a5.toNatClampNeg) fun v153 =>
  bc (f_X1_differenceFits v146 v153 σ) fun r155 σ156 =>
  (if r155 = 0 then
  chk (isO σ156 11 i3 ∧ inb a1 (hlen σ156 i3)) (lt (sA σ156 i3 a1.toNatClampNeg (1 : Int32)) fun σ164 =>
  chk (isO σ164 1 a0) (bd (hR σ164 a0 0) fun i168 =>
  chk (isO σ164 1 a2) (bd (hR σ164 a2 0) fun i173 =>
  chk (isO σ164 12 i173 ∧ inb a3 (hlen σ164 i173)) (lt (hB σ164 i173 a3.toNatClampNeg) fun v178 =>
  chk (isO σ164 1 a4) (bd (hR σ164 a4 1) fun i182 =>
  chk (isO σ164 12 i182 ∧ inb a5 (hlen σ164 i182)) (lt (hB σ164 i182 a5.toNatClampNeg) fun v187 =>
  chk (isO σ164 12 i168 ∧ inb a1 (hlen σ164 i168)) (lt (sB σ164 i168 a1.toNatClampNeg (v178 - v187)) fun σ191 =>
  bd (hR σ191 a0 1) fun i196 =>
  bd (hR σ191 a2 1) fun i199 =>
  chk (isO σ191 12 i199 ∧ inb a3 (hlen σ191 i199)) (lt (hB σ191 i199 a3.toNatClampNeg) fun v204 =>
  bd (hR σ191 a4 0) fun i206 =>
  chk (isO σ191 12 i206 ∧ inb a5 (hlen σ191 i206)) (lt (hB σ191 i206 a5.toNatClampNeg) fun v211 =>
  chk (isO σ191 12 i196 ∧ inb a1 (hlen σ191 i196)) (lt (sB σ191 i196 a1.toNatClampNeg (v204 - v211)) fun σ215 =>
  some ((), σ215)))))))))))
  else
  chk (isO σ156 1 a2) (bd (hR σ156 a2 1) fun i222 =>
  chk (isO σ156 12 i222 ∧ inb a3 (hlen σ156 i222)) (lt (hB σ156 i222 a3.toNatClampNeg) fun v227 =>
  chk (isO σ156 1 a4) (bd (hR σ156 a4 0) fun i231 =>
  chk (isO σ156 12 i231 ∧ inb a5 (hlen σ156 i231)) (lt (hB σ156 i231 a5.toNatClampNeg) fun v236 =>
  bc (f_X1_differenceFits v227 v236 σ156) fun r238 σ239 =>
  (if r238 = 0 then
  chk (isO σ239 11 i3 ∧ inb a1 (hlen σ239 i3)) (lt (sA σ239 i3 a1.toNatClampNeg (1 : Int32)) fun σ305 =>
  chk (isO σ305 1 a0) (bd (hR σ305 a0 0) fun i309 =>
  chk (isO σ305 1 a2) (bd (hR σ305 a2 0) fun i314 =>
  chk (isO σ305 12 i314 ∧ inb a3 (hlen σ305 i314)) (lt (hB σ305 i314 a3.toNatClampNeg) fun v319 =>
  chk (isO σ305 1 a4) (bd (hR σ305 a4 1) fun i323 =>
  chk (isO σ305 12 i323 ∧ inb a5 (hlen σ305 i323)) (lt (hB σ305 i323 a5.toNatClampNeg) fun v328 =>
  chk (isO σ305 12 i309 ∧ inb a1 (hlen σ305 i309)) (lt (sB σ305 i309 a1.toNatClampNeg (v319 - v328)) fun σ332 =>
  bd (hR σ332 a0 1) fun i337 =>
  bd (hR σ332 a2 1) fun i340 =>
  chk (isO σ332 12 i340 ∧ inb a3 (hlen σ332 i340)) (lt (hB σ332 i340 a3.toNatClampNeg) fun v345 =>
  bd (hR σ332 a4 0) fun i347 =>
  chk (isO σ332 12 i347 ∧ inb a5 (hlen σ332 i347)) (lt (hB σ332 i347 a5.toNatClampNeg) fun v352 =>
  chk (isO σ332 12 i337 ∧ inb a1 (hlen σ332 i337)) (lt (sB σ332 i337 a1.toNatClampNeg (v345 - v352)) fun σ356 =>
  some ((), σ356)))))))))))
  else
  chk (isO σ239 11 i3 ∧ inb a1 (hlen σ239 i3)) (lt (sA σ239 i3 a1.toNatClampNeg (0 : Int32)) fun σ247 =>
  chk (isO σ247 1 a0) (bd (hR σ247 a0 0) fun i251 =>
  chk (isO σ247 1 a2) (bd (hR σ247 a2 0) fun i256 =>
  chk (isO σ247 12 i256 ∧ inb a3 (hlen σ247 i256)) (lt (hB σ247 i256 a3.toNatClampNeg) fun v261 =>
  chk (isO σ247 1 a4) (bd (hR σ247 a4 1) fun i265 =>
  chk (isO σ247 12 i265 ∧ inb a5 (hlen σ247 i265)) (lt (hB σ247 i265 a5.toNatClampNeg) fun v270 =>
  chk (isO σ247 12 i251 ∧ inb a1 (hlen σ247 i251)) (lt (sB σ247 i251 a1.toNatClampNeg (v261 - v270)) fun σ274 =>
  bd (hR σ274 a0 1) fun i279 =>
  bd (hR σ274 a2 1) fun i282 =>
  chk (isO σ274 12 i282 ∧ inb a3 (hlen σ274 i282)) (lt (hB σ274 i282 a3.toNatClampNeg) fun v287 =>
  bd (hR σ274 a4 0) fun i289 =>
  chk (isO σ274 12 i289 ∧ inb a5 (hlen σ274 i289)) (lt (hB σ274 i289 a5.toNatClampNeg) fun v294 =>
  chk (isO σ274 12 i279 ∧ inb a1 (hlen σ274 i279)) (lt (sB σ274 i279 a1.toNatClampNeg (v287 - v294)) fun σ298 =>
  some ((), σ298)))))))))))))))))))
  else
  chk (isO σ 11 i3 ∧ inb a1 (hlen σ i3)) (lt (sA σ i3 a1.toNatClampNeg (1 : Int32)) fun σ88 =>
  bd (hR σ88 a0 0) fun i93 =>
  bd (hR σ88 a2 0) fun i96 =>
  chk (isO σ88 12 i96 ∧ inb a3 (hlen σ88 i96)) (lt (hB σ88 i96 a3.toNatClampNeg) fun v101 =>
  bd (hR σ88 a4 1) fun i103 =>
  chk (isO σ88 12 i103 ∧ inb a5 (hlen σ88 i103)) (lt (hB σ88 i103 a5.toNatClampNeg) fun v108 =>
  chk (isO σ88 12 i93 ∧ inb a1 (hlen σ88 i93)) (lt (sB σ88 i93 a1.toNatClampNeg (v101 - v108)) fun σ112 =>
  bd (hR σ112 a0 1) fun i117 =>
  bd (hR σ112 a2 1) fun i120 =>
  chk (isO σ112 12 i120 ∧ inb a3 (hlen σ112 i120)) (lt (hB σ112 i120 a3.toNatClampNeg) fun v125 =>
  bd (hR σ112 a4 0) fun i127 =>
  chk (isO σ112 12 i127 ∧ inb a5 (hlen σ112 i127)) (lt (hB σ112 i127 a5.toNatClampNeg) fun v132 =>
  chk (isO σ112 12 i117 ∧ inb a1 (hlen σ112 i117)) (lt (sB σ112 i117 a1.toNatClampNeg (v125 - v132)) fun σ136 =>
  some ((), σ136)))))))))))
  else
  chk (isO σ 11 i3 ∧ inb a1 (hlen σ i3)) (lt (sA σ i3 a1.toNatClampNeg (1 : Int32)) fun σ20 =>
  bd (hR σ20 a0 0) fun i24 =>
  bd (hR σ20 a2 0) fun i27 =>
  chk (isO σ20 12 i27 ∧ inb a3 (hlen σ20 i27)) (lt (hB σ20 i27 a3.toNatClampNeg) fun v32 =>
  chk (isO σ20 1 a4) (bd (hR σ20 a4 1) fun i36 =>
  chk (isO σ20 12 i36 ∧ inb a5 (hlen σ20 i36)) (lt (hB σ20 i36 a5.toNatClampNeg) fun v41 =>
  chk (isO σ20 12 i24 ∧ inb a1 (hlen σ20 i24)) (lt (sB σ20 i24 a1.toNatClampNeg (v32 - v41)) fun σ45 =>
  bd (hR σ45 a0 1) fun i50 =>
  bd (hR σ45 a2 1) fun i53 =>
  chk (isO σ45 12 i53 ∧ inb a3 (hlen σ45 i53)) (lt (hB σ45 i53 a3.toNatClampNeg) fun v58 =>
  bd (hR σ45 a4 0) fun i60 =>
  chk (isO σ45 12 i60 ∧ inb a5 (hlen σ45 i60)) (lt (hB σ45 i60 a5.toNatClampNeg) fun v65 =>
  chk (isO σ45 12 i50 ∧ inb a1 (hlen σ45 i50)) (lt (sB σ45 i50 a1.toNatClampNeg (v58 - v65)) fun σ69 =>
  some ((), σ69)))))))))))))
abbrev rm_X1_difference : Room := { frames := 1, cells := 0, slots := 0, locals := 64 }
set_option maxHeartbeats 4000000 in
set_option maxRecDepth 100000 in
theorem c_X1_difference (l : Launch) (D : va_G) (cs : Nat → ClassId) (q : Nat → Nat) (a0 : Nat) (a1 : Int32) (a2 : Nat) (a3 : Int32) (a4 : Nat) (a5 : Int32) (σ σ0 : HS) (r0 : Unit) (hf0 : f_X1_difference a0 a1 a2 a3 a4 a5 σ = some (r0, σ0)) : MT l yX1_difference (Cond.code yX1_difference cX1_difference 6 none :: lw_g) rm_X1_difference D cs q σ σ0 [.ref (q a0), .int a1, .ref (q a2), .int a3, .ref (q a4), .int a5] (fun z => z = q) (fun _ => none) 0 0 := by
  unfold f_X1_difference at hf0
  refine MT_of (cc := cX1_difference) (lv0 := [(0, .ref (q a0)), (1, .int a1), (2, .ref (q a2)), (3, .int a3), (4, .ref (q a4)), (5, .int a5)]) (by decide) (Nat.le_of_ble_eq_true rfl) rfl (fun p e s m args below meth c A X hr hlk hin => ?_)
  refine j_aload_n X dX1_difference_0 0 rfl rfl ?_
  obtain ⟨h1, hf2⟩ := chk_of hf0; clear hf0
  obtain ⟨i3, h4, hf5⟩ := bd_of hf2; clear hf2
  refine j_getr X fd_X1_16 h1 h4 dX1_difference_1 ?_
  refine j_iload_n X dX1_difference_4 1 rfl rfl ?_
  refine j_aload_n X dX1_difference_5 2 rfl rfl ?_
  obtain ⟨h6, hf7⟩ := chk_of hf5; clear hf5
  obtain ⟨i8, h9, hf10⟩ := bd_of hf7; clear hf7
  refine j_getr X fd_X1_16 h6 h9 dX1_difference_6 ?_
  refine j_iload_n X dX1_difference_9 3 rfl rfl ?_
  obtain ⟨h11, hf12⟩ := chk_of hf10; clear hf10
  refine j_zald X h11 dX1_difference_10 (fun v13 ev13 => ?_)
  replace hf12 := lt_of hf12 v13 ev13
  refine j_if_ne X (tgt := 65) dX1_difference_11 (by decide) (fun c15 => ?_) (fun c15 => ?_)
  · have hf16 := br_n hf12 c15; clear hf12
    refine j_iconst X (v := 1) dX1_difference_65 (by decide) ?_
    refine j_goto X (tgt := 70) dX1_difference_66 (by decide) ?_
    obtain ⟨h18, hf19⟩ := chk_of hf16; clear hf16
    refine j_zast X h18 (Or.inr rfl) dX1_difference_70 (fun σ20 eσ20 => ?_)
    replace hf19 := lt_of hf19 σ20 eσ20
    have h22 : isO σ20 1 a0 := by rw [eσ20]; exact h1
    have h23 : isO σ20 1 a2 := by rw [eσ20]; exact h6
    refine j_aload_n X dX1_difference_71 0 rfl rfl ?_
    obtain ⟨i24, h25, hf26⟩ := bd_of hf19; clear hf19
    refine j_getr X fd_X1_7 h22 h25 dX1_difference_72 ?_
    refine j_iload_n X dX1_difference_75 1 rfl rfl ?_
    refine j_aload_n X dX1_difference_76 2 rfl rfl ?_
    obtain ⟨i27, h28, hf29⟩ := bd_of hf26; clear hf26
    refine j_getr X fd_X1_7 h23 h28 dX1_difference_77 ?_
    refine j_iload_n X dX1_difference_80 3 rfl rfl ?_
    obtain ⟨h30, hf31⟩ := chk_of hf29; clear hf29
    refine j_lald X h30 dX1_difference_81 (fun v32 ev32 => ?_)
    replace hf31 := lt_of hf31 v32 ev32
    refine j_aload X dX1_difference_82 4 rfl ?_
    obtain ⟨h34, hf35⟩ := chk_of hf31; clear hf31
    obtain ⟨i36, h37, hf38⟩ := bd_of hf35; clear hf35
    refine j_getr X fd_X1_13 h34 h37 dX1_difference_84 ?_
    refine j_iload X dX1_difference_87 5 rfl ?_
    obtain ⟨h39, hf40⟩ := chk_of hf38; clear hf38
    refine j_lald X h39 dX1_difference_89 (fun v41 ev41 => ?_)
    replace hf40 := lt_of hf40 v41 ev41
    refine j_lsub X dX1_difference_90 ?_
    obtain ⟨h43, hf44⟩ := chk_of hf40; clear hf40
    refine j_last X h43 dX1_difference_91 (fun σ45 eσ45 => ?_)
    replace hf44 := lt_of hf44 σ45 eσ45
    have h47 : isO σ45 1 a0 := by rw [eσ45]; exact h22
    have h48 : isO σ45 1 a2 := by rw [eσ45]; exact h23
    have h49 : isO σ45 1 a4 := by rw [eσ45]; exact h34
    refine j_aload_n X dX1_difference_92 0 rfl rfl ?_
    obtain ⟨i50, h51, hf52⟩ := bd_of hf44; clear hf44
    refine j_getr X fd_X1_13 h47 h51 dX1_difference_93 ?_
    refine j_iload_n X dX1_difference_96 1 rfl rfl ?_
    refine j_aload_n X dX1_difference_97 2 rfl rfl ?_
    obtain ⟨i53, h54, hf55⟩ := bd_of hf52; clear hf52
    refine j_getr X fd_X1_13 h48 h54 dX1_difference_98 ?_
    refine j_iload_n X dX1_difference_101 3 rfl rfl ?_
    obtain ⟨h56, hf57⟩ := chk_of hf55; clear hf55
    refine j_lald X h56 dX1_difference_102 (fun v58 ev58 => ?_)
    replace hf57 := lt_of hf57 v58 ev58
    refine j_aload X dX1_difference_103 4 rfl ?_
    obtain ⟨i60, h61, hf62⟩ := bd_of hf57; clear hf57
    refine j_getr X fd_X1_7 h49 h61 dX1_difference_105 ?_
    refine j_iload X dX1_difference_108 5 rfl ?_
    obtain ⟨h63, hf64⟩ := chk_of hf62; clear hf62
    refine j_lald X h63 dX1_difference_110 (fun v65 ev65 => ?_)
    replace hf64 := lt_of hf64 v65 ev65
    refine j_lsub X dX1_difference_111 ?_
    obtain ⟨h67, hf68⟩ := chk_of hf64; clear hf64
    refine j_last X h67 dX1_difference_112 (fun σ69 eσ69 => ?_)
    replace hf68 := lt_of hf68 σ69 eσ69
    have h71 : isO σ69 1 a0 := by rw [eσ69]; exact h47
    have h72 : isO σ69 1 a2 := by rw [eσ69]; exact h48
    have h73 : isO σ69 1 a4 := by rw [eσ69]; exact h49
    obtain ⟨er, es⟩ := rt_of hf68
    exact j_retv X hr hlk (Nat.le_of_ble_eq_true rfl) (Nat.le_of_ble_eq_true rfl) rfl es.symm rfl dX1_difference_113
  · have hf17 := br_y hf12 c15; clear hf12
    refine j_aload X dX1_difference_14 4 rfl ?_
    obtain ⟨h74, hf75⟩ := chk_of hf17; clear hf17
    obtain ⟨i76, h77, hf78⟩ := bd_of hf75; clear hf75
    refine j_getr X fd_X1_16 h74 h77 dX1_difference_16 ?_
    refine j_iload X dX1_difference_19 5 rfl ?_
    obtain ⟨h79, hf80⟩ := chk_of hf78; clear hf78
    refine j_zald X h79 dX1_difference_21 (fun v81 ev81 => ?_)
    replace hf80 := lt_of hf80 v81 ev81
    refine j_if_ne X (tgt := 65) dX1_difference_22 (by decide) (fun c83 => ?_) (fun c83 => ?_)
    · have hf84 := br_n hf80 c83; clear hf80
      refine j_iconst X (v := 1) dX1_difference_65 (by decide) ?_
      refine j_goto X (tgt := 70) dX1_difference_66 (by decide) ?_
      obtain ⟨h86, hf87⟩ := chk_of hf84; clear hf84
      refine j_zast X h86 (Or.inr rfl) dX1_difference_70 (fun σ88 eσ88 => ?_)
      replace hf87 := lt_of hf87 σ88 eσ88
      have h90 : isO σ88 1 a0 := by rw [eσ88]; exact h1
      have h91 : isO σ88 1 a2 := by rw [eσ88]; exact h6
      have h92 : isO σ88 1 a4 := by rw [eσ88]; exact h74
      refine j_aload_n X dX1_difference_71 0 rfl rfl ?_
      obtain ⟨i93, h94, hf95⟩ := bd_of hf87; clear hf87
      refine j_getr X fd_X1_7 h90 h94 dX1_difference_72 ?_
      refine j_iload_n X dX1_difference_75 1 rfl rfl ?_
      refine j_aload_n X dX1_difference_76 2 rfl rfl ?_
      obtain ⟨i96, h97, hf98⟩ := bd_of hf95; clear hf95
      refine j_getr X fd_X1_7 h91 h97 dX1_difference_77 ?_
      refine j_iload_n X dX1_difference_80 3 rfl rfl ?_
      obtain ⟨h99, hf100⟩ := chk_of hf98; clear hf98
      refine j_lald X h99 dX1_difference_81 (fun v101 ev101 => ?_)
      replace hf100 := lt_of hf100 v101 ev101
      refine j_aload X dX1_difference_82 4 rfl ?_
      obtain ⟨i103, h104, hf105⟩ := bd_of hf100; clear hf100
      refine j_getr X fd_X1_13 h92 h104 dX1_difference_84 ?_
      refine j_iload X dX1_difference_87 5 rfl ?_
      obtain ⟨h106, hf107⟩ := chk_of hf105; clear hf105
      refine j_lald X h106 dX1_difference_89 (fun v108 ev108 => ?_)
      replace hf107 := lt_of hf107 v108 ev108
      refine j_lsub X dX1_difference_90 ?_
      obtain ⟨h110, hf111⟩ := chk_of hf107; clear hf107
      refine j_last X h110 dX1_difference_91 (fun σ112 eσ112 => ?_)
      replace hf111 := lt_of hf111 σ112 eσ112
      have h114 : isO σ112 1 a0 := by rw [eσ112]; exact h90
      have h115 : isO σ112 1 a2 := by rw [eσ112]; exact h91
      have h116 : isO σ112 1 a4 := by rw [eσ112]; exact h92
      refine j_aload_n X dX1_difference_92 0 rfl rfl ?_
      obtain ⟨i117, h118, hf119⟩ := bd_of hf111; clear hf111
      refine j_getr X fd_X1_13 h114 h118 dX1_difference_93 ?_
      refine j_iload_n X dX1_difference_96 1 rfl rfl ?_
      refine j_aload_n X dX1_difference_97 2 rfl rfl ?_
      obtain ⟨i120, h121, hf122⟩ := bd_of hf119; clear hf119
      refine j_getr X fd_X1_13 h115 h121 dX1_difference_98 ?_
      refine j_iload_n X dX1_difference_101 3 rfl rfl ?_
      obtain ⟨h123, hf124⟩ := chk_of hf122; clear hf122
      refine j_lald X h123 dX1_difference_102 (fun v125 ev125 => ?_)
      replace hf124 := lt_of hf124 v125 ev125
      refine j_aload X dX1_difference_103 4 rfl ?_
      obtain ⟨i127, h128, hf129⟩ := bd_of hf124; clear hf124
      refine j_getr X fd_X1_7 h116 h128 dX1_difference_105 ?_
      refine j_iload X dX1_difference_108 5 rfl ?_
      obtain ⟨h130, hf131⟩ := chk_of hf129; clear hf129
      refine j_lald X h130 dX1_difference_110 (fun v132 ev132 => ?_)
      replace hf131 := lt_of hf131 v132 ev132
      refine j_lsub X dX1_difference_111 ?_
      obtain ⟨h134, hf135⟩ := chk_of hf131; clear hf131
      refine j_last X h134 dX1_difference_112 (fun σ136 eσ136 => ?_)
      replace hf135 := lt_of hf135 σ136 eσ136
      have h138 : isO σ136 1 a0 := by rw [eσ136]; exact h114
      have h139 : isO σ136 1 a2 := by rw [eσ136]; exact h115
      have h140 : isO σ136 1 a4 := by rw [eσ136]; exact h116
      obtain ⟨er, es⟩ := rt_of hf135
      exact j_retv X hr hlk (Nat.le_of_ble_eq_true rfl) (Nat.le_of_ble_eq_true rfl) rfl es.symm rfl dX1_difference_113
    · have hf85 := br_y hf80 c83; clear hf80
      refine j_aload_n X dX1_difference_25 2 rfl rfl ?_
      obtain ⟨i141, h142, hf143⟩ := bd_of hf85; clear hf85
      refine j_getr X fd_X1_7 h6 h142 dX1_difference_26 ?_
      refine j_iload_n X dX1_difference_29 3 rfl rfl ?_
      obtain ⟨h144, hf145⟩ := chk_of hf143; clear hf143
      refine j_lald X h144 dX1_difference_30 (fun v146 ev146 => ?_)
      replace hf145 := lt_of hf145 v146 ev146
      refine j_aload X dX1_difference_31 4 rfl ?_
      obtain ⟨i148, h149, hf150⟩ := bd_of hf145; clear hf145
      refine j_getr X fd_X1_13 h74 h149 dX1_difference_33 ?_
      refine j_iload X dX1_difference_36 5 rfl ?_
      obtain ⟨h151, hf152⟩ := chk_of hf150; clear hf150
      refine j_lald X h151 dX1_difference_38 (fun v153 ev153 => ?_)
      replace hf152 := lt_of hf152 v153 ev153
      obtain ⟨r155, σ156, h157, hf158⟩ := bc_of hf152; clear hf152
      refine j_callS0 X [.long v146, .long v153] [.int a1, .ref (q i3)] (c_X1_differenceFits l D cs q v146 v153 σ _ _ h157) mk_X1_differenceFits ms_X1_differenceFits ml_X1_28 ⟨rfl, rfl⟩ ⟨Nat.le_of_ble_eq_true rfl, Nat.le_of_ble_eq_true rfl⟩ rfl (Nat.le_of_ble_eq_true rfl) ⟨Nat.le_of_ble_eq_true rfl, Nat.le_of_ble_eq_true rfl⟩ dX1_difference_39 rfl (st' := [.int r155, .int a1, .ref (q i3)]) rfl ?_
      refine j_if_eq X (tgt := 65) dX1_difference_42 (by decide) (fun c159 => ?_) (fun c159 => ?_)
      · have hf160 := br_y hf158 c159; clear hf158
        refine j_iconst X (v := 1) dX1_difference_65 (by decide) ?_
        refine j_goto X (tgt := 70) dX1_difference_66 (by decide) ?_
        obtain ⟨h162, hf163⟩ := chk_of hf160; clear hf160
        refine j_zast X h162 (Or.inr rfl) dX1_difference_70 (fun σ164 eσ164 => ?_)
        replace hf163 := lt_of hf163 σ164 eσ164
        refine j_aload_n X dX1_difference_71 0 rfl rfl ?_
        obtain ⟨h166, hf167⟩ := chk_of hf163; clear hf163
        obtain ⟨i168, h169, hf170⟩ := bd_of hf167; clear hf167
        refine j_getr X fd_X1_7 h166 h169 dX1_difference_72 ?_
        refine j_iload_n X dX1_difference_75 1 rfl rfl ?_
        refine j_aload_n X dX1_difference_76 2 rfl rfl ?_
        obtain ⟨h171, hf172⟩ := chk_of hf170; clear hf170
        obtain ⟨i173, h174, hf175⟩ := bd_of hf172; clear hf172
        refine j_getr X fd_X1_7 h171 h174 dX1_difference_77 ?_
        refine j_iload_n X dX1_difference_80 3 rfl rfl ?_
        obtain ⟨h176, hf177⟩ := chk_of hf175; clear hf175
        refine j_lald X h176 dX1_difference_81 (fun v178 ev178 => ?_)
        replace hf177 := lt_of hf177 v178 ev178
        refine j_aload X dX1_difference_82 4 rfl ?_
        obtain ⟨h180, hf181⟩ := chk_of hf177; clear hf177
        obtain ⟨i182, h183, hf184⟩ := bd_of hf181; clear hf181
        refine j_getr X fd_X1_13 h180 h183 dX1_difference_84 ?_
        refine j_iload X dX1_difference_87 5 rfl ?_
        obtain ⟨h185, hf186⟩ := chk_of hf184; clear hf184
        refine j_lald X h185 dX1_difference_89 (fun v187 ev187 => ?_)
        replace hf186 := lt_of hf186 v187 ev187
        refine j_lsub X dX1_difference_90 ?_
        obtain ⟨h189, hf190⟩ := chk_of hf186; clear hf186
        refine j_last X h189 dX1_difference_91 (fun σ191 eσ191 => ?_)
        replace hf190 := lt_of hf190 σ191 eσ191
        have h193 : isO σ191 1 a0 := by rw [eσ191]; exact h166
        have h194 : isO σ191 1 a2 := by rw [eσ191]; exact h171
        have h195 : isO σ191 1 a4 := by rw [eσ191]; exact h180
        refine j_aload_n X dX1_difference_92 0 rfl rfl ?_
        obtain ⟨i196, h197, hf198⟩ := bd_of hf190; clear hf190
        refine j_getr X fd_X1_13 h193 h197 dX1_difference_93 ?_
        refine j_iload_n X dX1_difference_96 1 rfl rfl ?_
        refine j_aload_n X dX1_difference_97 2 rfl rfl ?_
        obtain ⟨i199, h200, hf201⟩ := bd_of hf198; clear hf198
        refine j_getr X fd_X1_13 h194 h200 dX1_difference_98 ?_
        refine j_iload_n X dX1_difference_101 3 rfl rfl ?_
        obtain ⟨h202, hf203⟩ := chk_of hf201; clear hf201
        refine j_lald X h202 dX1_difference_102 (fun v204 ev204 => ?_)
        replace hf203 := lt_of hf203 v204 ev204
        refine j_aload X dX1_difference_103 4 rfl ?_
        obtain ⟨i206, h207, hf208⟩ := bd_of hf203; clear hf203
        refine j_getr X fd_X1_7 h195 h207 dX1_difference_105 ?_
        refine j_iload X dX1_difference_108 5 rfl ?_
        obtain ⟨h209, hf210⟩ := chk_of hf208; clear hf208
        refine j_lald X h209 dX1_difference_110 (fun v211 ev211 => ?_)
        replace hf210 := lt_of hf210 v211 ev211
        refine j_lsub X dX1_difference_111 ?_
        obtain ⟨h213, hf214⟩ := chk_of hf210; clear hf210
        refine j_last X h213 dX1_difference_112 (fun σ215 eσ215 => ?_)
        replace hf214 := lt_of hf214 σ215 eσ215
        have h217 : isO σ215 1 a0 := by rw [eσ215]; exact h193
        have h218 : isO σ215 1 a2 := by rw [eσ215]; exact h194
        have h219 : isO σ215 1 a4 := by rw [eσ215]; exact h195
        obtain ⟨er, es⟩ := rt_of hf214
        exact j_retv X hr hlk (Nat.le_of_ble_eq_true rfl) (Nat.le_of_ble_eq_true rfl) rfl es.symm rfl dX1_difference_113
      · have hf161 := br_n hf158 c159; clear hf158
        refine j_aload_n X dX1_difference_45 2 rfl rfl ?_
        obtain ⟨h220, hf221⟩ := chk_of hf161; clear hf161
        obtain ⟨i222, h223, hf224⟩ := bd_of hf221; clear hf221
        refine j_getr X fd_X1_13 h220 h223 dX1_difference_46 ?_
        refine j_iload_n X dX1_difference_49 3 rfl rfl ?_
        obtain ⟨h225, hf226⟩ := chk_of hf224; clear hf224
        refine j_lald X h225 dX1_difference_50 (fun v227 ev227 => ?_)
        replace hf226 := lt_of hf226 v227 ev227
        refine j_aload X dX1_difference_51 4 rfl ?_
        obtain ⟨h229, hf230⟩ := chk_of hf226; clear hf226
        obtain ⟨i231, h232, hf233⟩ := bd_of hf230; clear hf230
        refine j_getr X fd_X1_7 h229 h232 dX1_difference_53 ?_
        refine j_iload X dX1_difference_56 5 rfl ?_
        obtain ⟨h234, hf235⟩ := chk_of hf233; clear hf233
        refine j_lald X h234 dX1_difference_58 (fun v236 ev236 => ?_)
        replace hf235 := lt_of hf235 v236 ev236
        obtain ⟨r238, σ239, h240, hf241⟩ := bc_of hf235; clear hf235
        refine j_callS0 X [.long v227, .long v236] [.int a1, .ref (q i3)] (c_X1_differenceFits l D cs q v227 v236 σ156 _ _ h240) mk_X1_differenceFits ms_X1_differenceFits ml_X1_28 ⟨rfl, rfl⟩ ⟨Nat.le_of_ble_eq_true rfl, Nat.le_of_ble_eq_true rfl⟩ rfl (Nat.le_of_ble_eq_true rfl) ⟨Nat.le_of_ble_eq_true rfl, Nat.le_of_ble_eq_true rfl⟩ dX1_difference_59 rfl (st' := [.int r238, .int a1, .ref (q i3)]) rfl ?_
        refine j_if_ne X (tgt := 69) dX1_difference_62 (by decide) (fun c242 => ?_) (fun c242 => ?_)
        · have hf243 := br_n hf241 c242; clear hf241
          refine j_iconst X (v := 0) dX1_difference_69 (by decide) ?_
          obtain ⟨h245, hf246⟩ := chk_of hf243; clear hf243
          refine j_zast X h245 (Or.inl rfl) dX1_difference_70 (fun σ247 eσ247 => ?_)
          replace hf246 := lt_of hf246 σ247 eσ247
          refine j_aload_n X dX1_difference_71 0 rfl rfl ?_
          obtain ⟨h249, hf250⟩ := chk_of hf246; clear hf246
          obtain ⟨i251, h252, hf253⟩ := bd_of hf250; clear hf250
          refine j_getr X fd_X1_7 h249 h252 dX1_difference_72 ?_
          refine j_iload_n X dX1_difference_75 1 rfl rfl ?_
          refine j_aload_n X dX1_difference_76 2 rfl rfl ?_
          obtain ⟨h254, hf255⟩ := chk_of hf253; clear hf253
          obtain ⟨i256, h257, hf258⟩ := bd_of hf255; clear hf255
          refine j_getr X fd_X1_7 h254 h257 dX1_difference_77 ?_
          refine j_iload_n X dX1_difference_80 3 rfl rfl ?_
          obtain ⟨h259, hf260⟩ := chk_of hf258; clear hf258
          refine j_lald X h259 dX1_difference_81 (fun v261 ev261 => ?_)
          replace hf260 := lt_of hf260 v261 ev261
          refine j_aload X dX1_difference_82 4 rfl ?_
          obtain ⟨h263, hf264⟩ := chk_of hf260; clear hf260
          obtain ⟨i265, h266, hf267⟩ := bd_of hf264; clear hf264
          refine j_getr X fd_X1_13 h263 h266 dX1_difference_84 ?_
          refine j_iload X dX1_difference_87 5 rfl ?_
          obtain ⟨h268, hf269⟩ := chk_of hf267; clear hf267
          refine j_lald X h268 dX1_difference_89 (fun v270 ev270 => ?_)
          replace hf269 := lt_of hf269 v270 ev270
          refine j_lsub X dX1_difference_90 ?_
          obtain ⟨h272, hf273⟩ := chk_of hf269; clear hf269
          refine j_last X h272 dX1_difference_91 (fun σ274 eσ274 => ?_)
          replace hf273 := lt_of hf273 σ274 eσ274
          have h276 : isO σ274 1 a0 := by rw [eσ274]; exact h249
          have h277 : isO σ274 1 a2 := by rw [eσ274]; exact h254
          have h278 : isO σ274 1 a4 := by rw [eσ274]; exact h263
          refine j_aload_n X dX1_difference_92 0 rfl rfl ?_
          obtain ⟨i279, h280, hf281⟩ := bd_of hf273; clear hf273
          refine j_getr X fd_X1_13 h276 h280 dX1_difference_93 ?_
          refine j_iload_n X dX1_difference_96 1 rfl rfl ?_
          refine j_aload_n X dX1_difference_97 2 rfl rfl ?_
          obtain ⟨i282, h283, hf284⟩ := bd_of hf281; clear hf281
          refine j_getr X fd_X1_13 h277 h283 dX1_difference_98 ?_
          refine j_iload_n X dX1_difference_101 3 rfl rfl ?_
          obtain ⟨h285, hf286⟩ := chk_of hf284; clear hf284
          refine j_lald X h285 dX1_difference_102 (fun v287 ev287 => ?_)
          replace hf286 := lt_of hf286 v287 ev287
          refine j_aload X dX1_difference_103 4 rfl ?_
          obtain ⟨i289, h290, hf291⟩ := bd_of hf286; clear hf286
          refine j_getr X fd_X1_7 h278 h290 dX1_difference_105 ?_
          refine j_iload X dX1_difference_108 5 rfl ?_
          obtain ⟨h292, hf293⟩ := chk_of hf291; clear hf291
          refine j_lald X h292 dX1_difference_110 (fun v294 ev294 => ?_)
          replace hf293 := lt_of hf293 v294 ev294
          refine j_lsub X dX1_difference_111 ?_
          obtain ⟨h296, hf297⟩ := chk_of hf293; clear hf293
          refine j_last X h296 dX1_difference_112 (fun σ298 eσ298 => ?_)
          replace hf297 := lt_of hf297 σ298 eσ298
          have h300 : isO σ298 1 a0 := by rw [eσ298]; exact h276
          have h301 : isO σ298 1 a2 := by rw [eσ298]; exact h277
          have h302 : isO σ298 1 a4 := by rw [eσ298]; exact h278
          obtain ⟨er, es⟩ := rt_of hf297
          exact j_retv X hr hlk (Nat.le_of_ble_eq_true rfl) (Nat.le_of_ble_eq_true rfl) rfl es.symm rfl dX1_difference_113
        · have hf244 := br_y hf241 c242; clear hf241
          refine j_iconst X (v := 1) dX1_difference_65 (by decide) ?_
          refine j_goto X (tgt := 70) dX1_difference_66 (by decide) ?_
          obtain ⟨h303, hf304⟩ := chk_of hf244; clear hf244
          refine j_zast X h303 (Or.inr rfl) dX1_difference_70 (fun σ305 eσ305 => ?_)
          replace hf304 := lt_of hf304 σ305 eσ305
          refine j_aload_n X dX1_difference_71 0 rfl rfl ?_
          obtain ⟨h307, hf308⟩ := chk_of hf304; clear hf304
          obtain ⟨i309, h310, hf311⟩ := bd_of hf308; clear hf308
          refine j_getr X fd_X1_7 h307 h310 dX1_difference_72 ?_
          refine j_iload_n X dX1_difference_75 1 rfl rfl ?_
          refine j_aload_n X dX1_difference_76 2 rfl rfl ?_
          obtain ⟨h312, hf313⟩ := chk_of hf311; clear hf311
          obtain ⟨i314, h315, hf316⟩ := bd_of hf313; clear hf313
          refine j_getr X fd_X1_7 h312 h315 dX1_difference_77 ?_
          refine j_iload_n X dX1_difference_80 3 rfl rfl ?_
          obtain ⟨h317, hf318⟩ := chk_of hf316; clear hf316
          refine j_lald X h317 dX1_difference_81 (fun v319 ev319 => ?_)
          replace hf318 := lt_of hf318 v319 ev319
          refine j_aload X dX1_difference_82 4 rfl ?_
          obtain ⟨h321, hf322⟩ := chk_of hf318; clear hf318
          obtain ⟨i323, h324, hf325⟩ := bd_of hf322; clear hf322
          refine j_getr X fd_X1_13 h321 h324 dX1_difference_84 ?_
          refine j_iload X dX1_difference_87 5 rfl ?_
          obtain ⟨h326, hf327⟩ := chk_of hf325; clear hf325
          refine j_lald X h326 dX1_difference_89 (fun v328 ev328 => ?_)
          replace hf327 := lt_of hf327 v328 ev328
          refine j_lsub X dX1_difference_90 ?_
          obtain ⟨h330, hf331⟩ := chk_of hf327; clear hf327
          refine j_last X h330 dX1_difference_91 (fun σ332 eσ332 => ?_)
          replace hf331 := lt_of hf331 σ332 eσ332
          have h334 : isO σ332 1 a0 := by rw [eσ332]; exact h307
          have h335 : isO σ332 1 a2 := by rw [eσ332]; exact h312
          have h336 : isO σ332 1 a4 := by rw [eσ332]; exact h321
          refine j_aload_n X dX1_difference_92 0 rfl rfl ?_
          obtain ⟨i337, h338, hf339⟩ := bd_of hf331; clear hf331
          refine j_getr X fd_X1_13 h334 h338 dX1_difference_93 ?_
          refine j_iload_n X dX1_difference_96 1 rfl rfl ?_
          refine j_aload_n X dX1_difference_97 2 rfl rfl ?_
          obtain ⟨i340, h341, hf342⟩ := bd_of hf339; clear hf339
          refine j_getr X fd_X1_13 h335 h341 dX1_difference_98 ?_
          refine j_iload_n X dX1_difference_101 3 rfl rfl ?_
          obtain ⟨h343, hf344⟩ := chk_of hf342; clear hf342
          refine j_lald X h343 dX1_difference_102 (fun v345 ev345 => ?_)
          replace hf344 := lt_of hf344 v345 ev345
          refine j_aload X dX1_difference_103 4 rfl ?_
          obtain ⟨i347, h348, hf349⟩ := bd_of hf344; clear hf344
          refine j_getr X fd_X1_7 h336 h348 dX1_difference_105 ?_
          refine j_iload X dX1_difference_108 5 rfl ?_
          obtain ⟨h350, hf351⟩ := chk_of hf349; clear hf349
          refine j_lald X h350 dX1_difference_110 (fun v352 ev352 => ?_)
          replace hf351 := lt_of hf351 v352 ev352
          refine j_lsub X dX1_difference_111 ?_
          obtain ⟨h354, hf355⟩ := chk_of hf351; clear hf351
          refine j_last X h354 dX1_difference_112 (fun σ356 eσ356 => ?_)
          replace hf355 := lt_of hf355 σ356 eσ356
          have h358 : isO σ356 1 a0 := by rw [eσ356]; exact h334
          have h359 : isO σ356 1 a2 := by rw [eσ356]; exact h335
          have h360 : isO σ356 1 a4 := by rw [eσ356]; exact h336
          obtain ⟨er, es⟩ := rt_of hf355
          exact j_retv X hr hlk (Nat.le_of_ble_eq_true rfl) (Nat.le_of_ble_eq_true rfl) rfl es.symm rfl dX1_difference_113
def f_X1_fromTo (a0 : Nat) (a1 : Int32) (a2 : Int64) (a4 : Int64) (σ : HS) : Option (Unit × HS) :=
  chk (isO σ 1 a0) (bd (hR σ a0 0) fun i3 =>
  chk (isO σ 12 i3 ∧ inb a1 (hlen σ i3)) (lt (sB σ i3 a1.toNatClampNeg a2) fun σ8 =>
  bd (hR σ8 a0 1) fun i11 =>
  chk (isO σ8 12 i11 ∧ inb a1 (hlen σ8 i11)) (lt (sB σ8 i11 a1.toNatClampNeg a4) fun σ16 =>
  bd (hR σ16 a0 2) fun i19 =>
  chk (isO σ16 11 i19 ∧ inb a1 (hlen σ16 i19)) (lt (sA σ16 i19 a1.toNatClampNeg (0 : Int32)) fun σ24 =>
  some ((), σ24)))))
abbrev rm_X1_fromTo : Room := { frames := 0, cells := 0, slots := 0, locals := 0 }
set_option maxHeartbeats 4000000 in
set_option maxRecDepth 100000 in
theorem c_X1_fromTo (l : Launch) (D : va_G) (cs : Nat → ClassId) (q : Nat → Nat) (a0 : Nat) (a1 : Int32) (a2 : Int64) (a4 : Int64) (σ σ0 : HS) (r0 : Unit) (hf0 : f_X1_fromTo a0 a1 a2 a4 σ = some (r0, σ0)) : MT l yX1_fromTo (Cond.code yX1_fromTo cX1_fromTo 6 none :: lw_g) rm_X1_fromTo D cs q σ σ0 [.ref (q a0), .int a1, .long a2, .long a4] (fun z => z = q) (fun _ => none) 0 0 := by
  unfold f_X1_fromTo at hf0
  refine MT_of (cc := cX1_fromTo) (lv0 := [(0, .ref (q a0)), (1, .int a1), (2, .long a2), (4, .long a4)]) (by decide) (Nat.le_of_ble_eq_true rfl) rfl (fun p e s m args below meth c A X hr hlk hin => ?_)
  refine j_aload_n X dX1_fromTo_0 0 rfl rfl ?_
  obtain ⟨h1, hf2⟩ := chk_of hf0; clear hf0
  obtain ⟨i3, h4, hf5⟩ := bd_of hf2; clear hf2
  refine j_getr X fd_X1_7 h1 h4 dX1_fromTo_1 ?_
  refine j_iload_n X dX1_fromTo_4 1 rfl rfl ?_
  refine j_lload_n X dX1_fromTo_5 2 rfl rfl ?_
  obtain ⟨h6, hf7⟩ := chk_of hf5; clear hf5
  refine j_last X h6 dX1_fromTo_6 (fun σ8 eσ8 => ?_)
  replace hf7 := lt_of hf7 σ8 eσ8
  have h10 : isO σ8 1 a0 := by rw [eσ8]; exact h1
  refine j_aload_n X dX1_fromTo_7 0 rfl rfl ?_
  obtain ⟨i11, h12, hf13⟩ := bd_of hf7; clear hf7
  refine j_getr X fd_X1_13 h10 h12 dX1_fromTo_8 ?_
  refine j_iload_n X dX1_fromTo_11 1 rfl rfl ?_
  refine j_lload X dX1_fromTo_12 3 rfl ?_
  obtain ⟨h14, hf15⟩ := chk_of hf13; clear hf13
  refine j_last X h14 dX1_fromTo_14 (fun σ16 eσ16 => ?_)
  replace hf15 := lt_of hf15 σ16 eσ16
  have h18 : isO σ16 1 a0 := by rw [eσ16]; exact h10
  refine j_aload_n X dX1_fromTo_15 0 rfl rfl ?_
  obtain ⟨i19, h20, hf21⟩ := bd_of hf15; clear hf15
  refine j_getr X fd_X1_16 h18 h20 dX1_fromTo_16 ?_
  refine j_iload_n X dX1_fromTo_19 1 rfl rfl ?_
  refine j_iconst X (v := 0) dX1_fromTo_20 (by decide) ?_
  obtain ⟨h22, hf23⟩ := chk_of hf21; clear hf21
  refine j_zast X h22 (Or.inl rfl) dX1_fromTo_21 (fun σ24 eσ24 => ?_)
  replace hf23 := lt_of hf23 σ24 eσ24
  have h26 : isO σ24 1 a0 := by rw [eσ24]; exact h18
  obtain ⟨er, es⟩ := rt_of hf23
  exact j_retv X hr hlk (Nat.le_of_ble_eq_true rfl) (Nat.le_of_ble_eq_true rfl) rfl es.symm rfl dX1_fromTo_22
def f_X1_less (a0 : Nat) (a1 : Int32) (a2 : Nat) (a3 : Int32) (σ : HS) : Option (Unit × HS) :=
  chk (isO σ 1 a0) (bd (hR σ a0 2) fun i3 =>
  chk (isO σ 1 a2) (bd (hR σ a2 2) fun i8 =>
  chk (isO σ 11 i8 ∧ inb a3 (hlen σ i8)) (lt (hA σ i8 a3.toNatClampNeg) fun v13 =>
  (if v13 = 0 then
  bd (hR σ a2 0) fun i58 =>
  chk (isO σ 12 i58 ∧ inb a3 (hlen σ i58)) (lt (hB σ i58 a3.toNatClampNeg) fun v63 =>
  (if (lg_cmp v63 (-9223372036854775808 : Int64)) = 0 then
  chk (isO σ 11 i3 ∧ inb a1 (hlen σ i3)) (lt (sA σ i3 a1.toNatClampNeg (1 : Int32)) fun σ110 =>
  bd (hR σ110 a2 1) fun i114 =>
  chk (isO σ110 12 i114 ∧ inb a3 (hlen σ110 i114)) (lt (hB σ110 i114 a3.toNatClampNeg) fun v119 =>
  lt ((-v119)) fun v121 =>
  bd (hR σ110 a0 1) fun i123 =>
  bd (hR σ110 a2 0) fun i126 =>
  chk (isO σ110 12 i126 ∧ inb a3 (hlen σ110 i126)) (lt (hB σ110 i126 a3.toNatClampNeg) fun v131 =>
  chk (isO σ110 12 i123 ∧ inb a1 (hlen σ110 i123)) (lt (sB σ110 i123 a1.toNatClampNeg (-v131)) fun σ135 =>
  bd (hR σ135 a0 0) fun i139 =>
  chk (isO σ135 12 i139 ∧ inb a1 (hlen σ135 i139)) (lt (sB σ135 i139 a1.toNatClampNeg v121) fun σ144 =>
  some ((), σ144))))))
  else
  chk (isO σ 11 i3 ∧ inb a1 (hlen σ i3)) (lt (sA σ i3 a1.toNatClampNeg (0 : Int32)) fun σ70 =>
  bd (hR σ70 a2 1) fun i74 =>
  chk (isO σ70 12 i74 ∧ inb a3 (hlen σ70 i74)) (lt (hB σ70 i74 a3.toNatClampNeg) fun v79 =>
  lt ((-v79)) fun v81 =>
  bd (hR σ70 a0 1) fun i83 =>
  bd (hR σ70 a2 0) fun i86 =>
  chk (isO σ70 12 i86 ∧ inb a3 (hlen σ70 i86)) (lt (hB σ70 i86 a3.toNatClampNeg) fun v91 =>
  chk (isO σ70 12 i83 ∧ inb a1 (hlen σ70 i83)) (lt (sB σ70 i83 a1.toNatClampNeg (-v91)) fun σ95 =>
  bd (hR σ95 a0 0) fun i99 =>
  chk (isO σ95 12 i99 ∧ inb a1 (hlen σ95 i99)) (lt (sB σ95 i99 a1.toNatClampNeg v81) fun σ104 =>
  some ((), σ104))))))))
  else
  chk (isO σ 11 i3 ∧ inb a1 (hlen σ i3)) (lt (sA σ i3 a1.toNatClampNeg (1 : Int32)) fun σ20 =>
  bd (hR σ20 a2 1) fun i24 =>
  chk (isO σ20 12 i24 ∧ inb a3 (hlen σ20 i24)) (lt (hB σ20 i24 a3.toNatClampNeg) fun v29 =>
  lt ((-v29)) fun v31 =>
  bd (hR σ20 a0 1) fun i33 =>
  bd (hR σ20 a2 0) fun i36 =>
  chk (isO σ20 12 i36 ∧ inb a3 (hlen σ20 i36)) (lt (hB σ20 i36 a3.toNatClampNeg) fun v41 =>
  chk (isO σ20 12 i33 ∧ inb a1 (hlen σ20 i33)) (lt (sB σ20 i33 a1.toNatClampNeg (-v41)) fun σ45 =>
  bd (hR σ45 a0 0) fun i49 =>
  chk (isO σ45 12 i49 ∧ inb a1 (hlen σ45 i49)) (lt (sB σ45 i49 a1.toNatClampNeg v31) fun σ54 =>
  some ((), σ54))))))))))
abbrev rm_X1_less : Room := { frames := 0, cells := 0, slots := 0, locals := 0 }
set_option maxHeartbeats 4000000 in
set_option maxRecDepth 100000 in
theorem c_X1_less (l : Launch) (D : va_G) (cs : Nat → ClassId) (q : Nat → Nat) (a0 : Nat) (a1 : Int32) (a2 : Nat) (a3 : Int32) (σ σ0 : HS) (r0 : Unit) (hf0 : f_X1_less a0 a1 a2 a3 σ = some (r0, σ0)) : MT l yX1_less (Cond.code yX1_less cX1_less 6 none :: lw_g) rm_X1_less D cs q σ σ0 [.ref (q a0), .int a1, .ref (q a2), .int a3] (fun z => z = q) (fun _ => none) 0 0 := by
  unfold f_X1_less at hf0
  refine MT_of (cc := cX1_less) (lv0 := [(0, .ref (q a0)), (1, .int a1), (2, .ref (q a2)), (3, .int a3)]) (by decide) (Nat.le_of_ble_eq_true rfl) rfl (fun p e s m args below meth c A X hr hlk hin => ?_)
  refine j_aload_n X dX1_less_0 0 rfl rfl ?_
  obtain ⟨h1, hf2⟩ := chk_of hf0; clear hf0
  obtain ⟨i3, h4, hf5⟩ := bd_of hf2; clear hf2
  refine j_getr X fd_X1_16 h1 h4 dX1_less_1 ?_
  refine j_iload_n X dX1_less_4 1 rfl rfl ?_
  refine j_aload_n X dX1_less_5 2 rfl rfl ?_
  obtain ⟨h6, hf7⟩ := chk_of hf5; clear hf5
  obtain ⟨i8, h9, hf10⟩ := bd_of hf7; clear hf7
  refine j_getr X fd_X1_16 h6 h9 dX1_less_6 ?_
  refine j_iload_n X dX1_less_9 3 rfl rfl ?_
  obtain ⟨h11, hf12⟩ := chk_of hf10; clear hf10
  refine j_zald X h11 dX1_less_10 (fun v13 ev13 => ?_)
  replace hf12 := lt_of hf12 v13 ev13
  refine j_if_ne X (tgt := 27) dX1_less_11 (by decide) (fun c15 => ?_) (fun c15 => ?_)
  · have hf16 := br_n hf12 c15; clear hf12
    refine j_iconst X (v := 1) dX1_less_27 (by decide) ?_
    refine j_goto X (tgt := 32) dX1_less_28 (by decide) ?_
    obtain ⟨h18, hf19⟩ := chk_of hf16; clear hf16
    refine j_zast X h18 (Or.inr rfl) dX1_less_32 (fun σ20 eσ20 => ?_)
    replace hf19 := lt_of hf19 σ20 eσ20
    have h22 : isO σ20 1 a0 := by rw [eσ20]; exact h1
    have h23 : isO σ20 1 a2 := by rw [eσ20]; exact h6
    refine j_aload_n X dX1_less_33 2 rfl rfl ?_
    obtain ⟨i24, h25, hf26⟩ := bd_of hf19; clear hf19
    refine j_getr X fd_X1_13 h23 h25 dX1_less_34 ?_
    refine j_iload_n X dX1_less_37 3 rfl rfl ?_
    obtain ⟨h27, hf28⟩ := chk_of hf26; clear hf26
    refine j_lald X h27 dX1_less_38 (fun v29 ev29 => ?_)
    replace hf28 := lt_of hf28 v29 ev29
    refine j_lneg X dX1_less_39 ?_
    refine j_nml (fun v31 ev31 => ?_)
    replace hf28 := lt_of hf28 v31 ev31
    refine j_lstore X (lv' := [(4, .long v31), (0, .ref (q a0)), (1, .int a1), (2, .ref (q a2)), (3, .int a3)]) dX1_less_40 (by decide) rfl ?_
    refine j_aload_n X dX1_less_42 1 rfl rfl ?_
    obtain ⟨i33, h34, hf35⟩ := bd_of hf28; clear hf28
    refine j_getr X fd_X1_13 h22 h34 dX1_less_43 ?_
    refine j_iload_n X dX1_less_46 2 rfl rfl ?_
    refine j_aload_n X dX1_less_47 3 rfl rfl ?_
    obtain ⟨i36, h37, hf38⟩ := bd_of hf35; clear hf35
    refine j_getr X fd_X1_7 h23 h37 dX1_less_48 ?_
    refine j_iload_n X dX1_less_51 4 rfl rfl ?_
    obtain ⟨h39, hf40⟩ := chk_of hf38; clear hf38
    refine j_lald X h39 dX1_less_52 (fun v41 ev41 => ?_)
    replace hf40 := lt_of hf40 v41 ev41
    refine j_lneg X dX1_less_53 ?_
    obtain ⟨h43, hf44⟩ := chk_of hf40; clear hf40
    refine j_last X h43 dX1_less_54 (fun σ45 eσ45 => ?_)
    replace hf44 := lt_of hf44 σ45 eσ45
    have h47 : isO σ45 1 a0 := by rw [eσ45]; exact h22
    have h48 : isO σ45 1 a2 := by rw [eσ45]; exact h23
    refine j_aload_n X dX1_less_55 1 rfl rfl ?_
    obtain ⟨i49, h50, hf51⟩ := bd_of hf44; clear hf44
    refine j_getr X fd_X1_7 h47 h50 dX1_less_56 ?_
    refine j_iload_n X dX1_less_59 2 rfl rfl ?_
    refine j_lload X dX1_less_60 0 rfl ?_
    obtain ⟨h52, hf53⟩ := chk_of hf51; clear hf51
    refine j_last X h52 dX1_less_62 (fun σ54 eσ54 => ?_)
    replace hf53 := lt_of hf53 σ54 eσ54
    have h56 : isO σ54 1 a0 := by rw [eσ54]; exact h47
    have h57 : isO σ54 1 a2 := by rw [eσ54]; exact h48
    obtain ⟨er, es⟩ := rt_of hf53
    exact j_retv X hr hlk (Nat.le_of_ble_eq_true rfl) (Nat.le_of_ble_eq_true rfl) rfl es.symm rfl dX1_less_63
  · have hf17 := br_y hf12 c15; clear hf12
    refine j_aload_n X dX1_less_14 2 rfl rfl ?_
    obtain ⟨i58, h59, hf60⟩ := bd_of hf17; clear hf17
    refine j_getr X fd_X1_7 h6 h59 dX1_less_15 ?_
    refine j_iload_n X dX1_less_18 3 rfl rfl ?_
    obtain ⟨h61, hf62⟩ := chk_of hf60; clear hf60
    refine j_lald X h61 dX1_less_19 (fun v63 ev63 => ?_)
    replace hf62 := lt_of hf62 v63 ev63
    refine j_ldc2 X k_X1_22 dX1_less_20 ?_
    refine j_lcmp X dX1_less_23 ?_
    refine j_if_ne X (tgt := 31) dX1_less_24 (by decide) (fun c65 => ?_) (fun c65 => ?_)
    · have hf66 := br_n hf62 c65; clear hf62
      refine j_iconst X (v := 0) dX1_less_31 (by decide) ?_
      obtain ⟨h68, hf69⟩ := chk_of hf66; clear hf66
      refine j_zast X h68 (Or.inl rfl) dX1_less_32 (fun σ70 eσ70 => ?_)
      replace hf69 := lt_of hf69 σ70 eσ70
      have h72 : isO σ70 1 a0 := by rw [eσ70]; exact h1
      have h73 : isO σ70 1 a2 := by rw [eσ70]; exact h6
      refine j_aload_n X dX1_less_33 2 rfl rfl ?_
      obtain ⟨i74, h75, hf76⟩ := bd_of hf69; clear hf69
      refine j_getr X fd_X1_13 h73 h75 dX1_less_34 ?_
      refine j_iload_n X dX1_less_37 3 rfl rfl ?_
      obtain ⟨h77, hf78⟩ := chk_of hf76; clear hf76
      refine j_lald X h77 dX1_less_38 (fun v79 ev79 => ?_)
      replace hf78 := lt_of hf78 v79 ev79
      refine j_lneg X dX1_less_39 ?_
      refine j_nml (fun v81 ev81 => ?_)
      replace hf78 := lt_of hf78 v81 ev81
      refine j_lstore X (lv' := [(4, .long v81), (0, .ref (q a0)), (1, .int a1), (2, .ref (q a2)), (3, .int a3)]) dX1_less_40 (by decide) rfl ?_
      refine j_aload_n X dX1_less_42 1 rfl rfl ?_
      obtain ⟨i83, h84, hf85⟩ := bd_of hf78; clear hf78
      refine j_getr X fd_X1_13 h72 h84 dX1_less_43 ?_
      refine j_iload_n X dX1_less_46 2 rfl rfl ?_
      refine j_aload_n X dX1_less_47 3 rfl rfl ?_
      obtain ⟨i86, h87, hf88⟩ := bd_of hf85; clear hf85
      refine j_getr X fd_X1_7 h73 h87 dX1_less_48 ?_
      refine j_iload_n X dX1_less_51 4 rfl rfl ?_
      obtain ⟨h89, hf90⟩ := chk_of hf88; clear hf88
      refine j_lald X h89 dX1_less_52 (fun v91 ev91 => ?_)
      replace hf90 := lt_of hf90 v91 ev91
      refine j_lneg X dX1_less_53 ?_
      obtain ⟨h93, hf94⟩ := chk_of hf90; clear hf90
      refine j_last X h93 dX1_less_54 (fun σ95 eσ95 => ?_)
      replace hf94 := lt_of hf94 σ95 eσ95
      have h97 : isO σ95 1 a0 := by rw [eσ95]; exact h72
      have h98 : isO σ95 1 a2 := by rw [eσ95]; exact h73
      refine j_aload_n X dX1_less_55 1 rfl rfl ?_
      obtain ⟨i99, h100, hf101⟩ := bd_of hf94; clear hf94
      refine j_getr X fd_X1_7 h97 h100 dX1_less_56 ?_
      refine j_iload_n X dX1_less_59 2 rfl rfl ?_
      refine j_lload X dX1_less_60 0 rfl ?_
      obtain ⟨h102, hf103⟩ := chk_of hf101; clear hf101
      refine j_last X h102 dX1_less_62 (fun σ104 eσ104 => ?_)
      replace hf103 := lt_of hf103 σ104 eσ104
      have h106 : isO σ104 1 a0 := by rw [eσ104]; exact h97
      have h107 : isO σ104 1 a2 := by rw [eσ104]; exact h98
      obtain ⟨er, es⟩ := rt_of hf103
      exact j_retv X hr hlk (Nat.le_of_ble_eq_true rfl) (Nat.le_of_ble_eq_true rfl) rfl es.symm rfl dX1_less_63
    · have hf67 := br_y hf62 c65; clear hf62
      refine j_iconst X (v := 1) dX1_less_27 (by decide) ?_
      refine j_goto X (tgt := 32) dX1_less_28 (by decide) ?_
      obtain ⟨h108, hf109⟩ := chk_of hf67; clear hf67
      refine j_zast X h108 (Or.inr rfl) dX1_less_32 (fun σ110 eσ110 => ?_)
      replace hf109 := lt_of hf109 σ110 eσ110
      have h112 : isO σ110 1 a0 := by rw [eσ110]; exact h1
      have h113 : isO σ110 1 a2 := by rw [eσ110]; exact h6
      refine j_aload_n X dX1_less_33 2 rfl rfl ?_
      obtain ⟨i114, h115, hf116⟩ := bd_of hf109; clear hf109
      refine j_getr X fd_X1_13 h113 h115 dX1_less_34 ?_
      refine j_iload_n X dX1_less_37 3 rfl rfl ?_
      obtain ⟨h117, hf118⟩ := chk_of hf116; clear hf116
      refine j_lald X h117 dX1_less_38 (fun v119 ev119 => ?_)
      replace hf118 := lt_of hf118 v119 ev119
      refine j_lneg X dX1_less_39 ?_
      refine j_nml (fun v121 ev121 => ?_)
      replace hf118 := lt_of hf118 v121 ev121
      refine j_lstore X (lv' := [(4, .long v121), (0, .ref (q a0)), (1, .int a1), (2, .ref (q a2)), (3, .int a3)]) dX1_less_40 (by decide) rfl ?_
      refine j_aload_n X dX1_less_42 1 rfl rfl ?_
      obtain ⟨i123, h124, hf125⟩ := bd_of hf118; clear hf118
      refine j_getr X fd_X1_13 h112 h124 dX1_less_43 ?_
      refine j_iload_n X dX1_less_46 2 rfl rfl ?_
      refine j_aload_n X dX1_less_47 3 rfl rfl ?_
      obtain ⟨i126, h127, hf128⟩ := bd_of hf125; clear hf125
      refine j_getr X fd_X1_7 h113 h127 dX1_less_48 ?_
      refine j_iload_n X dX1_less_51 4 rfl rfl ?_
      obtain ⟨h129, hf130⟩ := chk_of hf128; clear hf128
      refine j_lald X h129 dX1_less_52 (fun v131 ev131 => ?_)
      replace hf130 := lt_of hf130 v131 ev131
      refine j_lneg X dX1_less_53 ?_
      obtain ⟨h133, hf134⟩ := chk_of hf130; clear hf130
      refine j_last X h133 dX1_less_54 (fun σ135 eσ135 => ?_)
      replace hf134 := lt_of hf134 σ135 eσ135
      have h137 : isO σ135 1 a0 := by rw [eσ135]; exact h112
      have h138 : isO σ135 1 a2 := by rw [eσ135]; exact h113
      refine j_aload_n X dX1_less_55 1 rfl rfl ?_
      obtain ⟨i139, h140, hf141⟩ := bd_of hf134; clear hf134
      refine j_getr X fd_X1_7 h137 h140 dX1_less_56 ?_
      refine j_iload_n X dX1_less_59 2 rfl rfl ?_
      refine j_lload X dX1_less_60 0 rfl ?_
      obtain ⟨h142, hf143⟩ := chk_of hf141; clear hf141
      refine j_last X h142 dX1_less_62 (fun σ144 eσ144 => ?_)
      replace hf143 := lt_of hf143 σ144 eσ144
      have h146 : isO σ144 1 a0 := by rw [eσ144]; exact h137
      have h147 : isO σ144 1 a2 := by rw [eσ144]; exact h138
      obtain ⟨er, es⟩ := rt_of hf143
      exact j_retv X hr hlk (Nat.le_of_ble_eq_true rfl) (Nat.le_of_ble_eq_true rfl) rfl es.symm rfl dX1_less_63
def f_X1_productFits (a0 : Int64) (a2 : Int64) (σ : HS) : Option (Int32 × HS) :=
  (if (lg_cmp a0 ((a0).toInt32).toInt64) = 0 then
  (if (lg_cmp a2 ((a2).toInt32).toInt64) = 0 then
  lt ((1 : Int32)) fun v45 =>
  (if v45 = 0 then
  (if (lg_cmp a0 (0 : Int64)) = 0 then
  some ((1 : Int32), σ)
  else
  (if (lg_cmp a0 (-1 : Int64)) = 0 then
  (if (lg_cmp a2 (-9223372036854775808 : Int64)) = 0 then
  some ((0 : Int32), σ)
  else
  some ((1 : Int32), σ))
  else
  chk (¬ a0 = 0) ((if (lg_cmp ((a0 * a2) / a0) a2) = 0 then
  some ((1 : Int32), σ)
  else
  some ((0 : Int32), σ)))))
  else
  some ((1 : Int32), σ))
  else
  lt ((0 : Int32)) fun v26 =>
  (if v26 = 0 then
  (if (lg_cmp a0 (0 : Int64)) = 0 then
  some ((1 : Int32), σ)
  else
  (if (lg_cmp a0 (-1 : Int64)) = 0 then
  (if (lg_cmp a2 (-9223372036854775808 : Int64)) = 0 then
  some ((0 : Int32), σ)
  else
  some ((1 : Int32), σ))
  else
  chk (¬ a0 = 0) ((if (lg_cmp ((a0 * a2) / a0) a2) = 0 then
  some ((1 : Int32), σ)
  else
  some ((0 : Int32), σ)))))
  else
  some ((1 : Int32), σ)))
  else
  lt ((0 : Int32)) fun v4 =>
  (if v4 = 0 then
  (if (lg_cmp a0 (0 : Int64)) = 0 then
  some ((1 : Int32), σ)
  else
  (if (lg_cmp a0 (-1 : Int64)) = 0 then
  (if (lg_cmp a2 (-9223372036854775808 : Int64)) = 0 then
  some ((0 : Int32), σ)
  else
  some ((1 : Int32), σ))
  else
  chk (¬ a0 = 0) ((if (lg_cmp ((a0 * a2) / a0) a2) = 0 then
  some ((1 : Int32), σ)
  else
  some ((0 : Int32), σ)))))
  else
  some ((1 : Int32), σ)))
abbrev rm_X1_productFits : Room := { frames := 0, cells := 0, slots := 0, locals := 0 }
set_option maxHeartbeats 4000000 in
set_option maxRecDepth 100000 in
theorem c_X1_productFits (l : Launch) (D : va_G) (cs : Nat → ClassId) (q : Nat → Nat) (a0 : Int64) (a2 : Int64) (σ σ0 : HS) (r0 : Int32) (hf0 : f_X1_productFits a0 a2 σ = some (r0, σ0)) : MT l yX1_productFits (Cond.code yX1_productFits cX1_productFits 5 (some .boolean) :: lw_g) rm_X1_productFits D cs q σ σ0 [.long a0, .long a2] (fun z => z = q) (fun _ => some (.int r0)) 0 0 := by
  unfold f_X1_productFits at hf0
  refine MT_of (cc := cX1_productFits) (lv0 := [(0, .long a0), (2, .long a2)]) (by decide) (Nat.le_of_ble_eq_true rfl) rfl (fun p e s m args below meth c A X hr hlk hin => ?_)
  refine j_lload_n X dX1_productFits_0 0 rfl rfl ?_
  refine j_lload_n X dX1_productFits_1 0 rfl rfl ?_
  refine j_l2i X dX1_productFits_2 ?_
  refine j_i2l X dX1_productFits_3 ?_
  refine j_lcmp X dX1_productFits_4 ?_
  refine j_if_ne X (tgt := 20) dX1_productFits_5 (by decide) (fun c1 => ?_) (fun c1 => ?_)
  · have hf2 := br_n hf0 c1; clear hf0
    refine j_iconst X (v := 0) dX1_productFits_20 (by decide) ?_
    refine j_nmi (fun v4 ev4 => ?_)
    replace hf2 := lt_of hf2 v4 ev4
    refine j_istore X (lv' := [(4, .int v4), (0, .long a0), (2, .long a2)]) dX1_productFits_21 (by decide) rfl ?_
    refine j_iload X dX1_productFits_23 0 rfl ?_
    refine j_if_ne X (tgt := 34) dX1_productFits_25 (by decide) (fun c6 => ?_) (fun c6 => ?_)
    · have hf7 := br_n hf2 c6; clear hf2
      refine j_iconst X (v := 1) dX1_productFits_34 (by decide) ?_
      obtain ⟨er, es⟩ := rt_of hf7
      subst er
      exact j_retz X hr hlk (Nat.le_of_ble_eq_true rfl) (Nat.le_of_ble_eq_true rfl) rfl es.symm rfl (Or.inr rfl) dX1_productFits_35
    · have hf8 := br_y hf2 c6; clear hf2
      refine j_lload_n X dX1_productFits_28 1 rfl rfl ?_
      refine j_lconst X (v := 0) dX1_productFits_29 (by decide) ?_
      refine j_lcmp X dX1_productFits_30 ?_
      refine j_if_ne X (tgt := 36) dX1_productFits_31 (by decide) (fun c9 => ?_) (fun c9 => ?_)
      · have hf10 := br_n hf8 c9; clear hf8
        refine j_lload_n X dX1_productFits_36 1 rfl rfl ?_
        refine j_ldc2 X k_X1_45 dX1_productFits_37 ?_
        refine j_lcmp X dX1_productFits_40 ?_
        refine j_if_ne X (tgt := 60) dX1_productFits_41 (by decide) (fun c12 => ?_) (fun c12 => ?_)
        · have hf13 := br_n hf10 c12; clear hf10
          refine j_lload_n X dX1_productFits_60 1 rfl rfl ?_
          refine j_lload_n X dX1_productFits_61 2 rfl rfl ?_
          refine j_lmul X dX1_productFits_62 ?_
          refine j_lload_n X dX1_productFits_63 1 rfl rfl ?_
          obtain ⟨h15, hf16⟩ := chk_of hf13; clear hf13
          refine j_ldiv X dX1_productFits_64 h15 ?_
          refine j_lload_n X dX1_productFits_65 2 rfl rfl ?_
          refine j_lcmp X dX1_productFits_66 ?_
          refine j_if_ne X (tgt := 74) dX1_productFits_67 (by decide) (fun c17 => ?_) (fun c17 => ?_)
          · have hf18 := br_n hf16 c17; clear hf16
            refine j_iconst X (v := 0) dX1_productFits_74 (by decide) ?_
            obtain ⟨er, es⟩ := rt_of hf18
            subst er
            exact j_retz X hr hlk (Nat.le_of_ble_eq_true rfl) (Nat.le_of_ble_eq_true rfl) rfl es.symm rfl (Or.inl rfl) dX1_productFits_75
          · have hf19 := br_y hf16 c17; clear hf16
            refine j_iconst X (v := 1) dX1_productFits_70 (by decide) ?_
            refine j_goto X (tgt := 75) dX1_productFits_71 (by decide) ?_
            obtain ⟨er, es⟩ := rt_of hf19
            subst er
            exact j_retz X hr hlk (Nat.le_of_ble_eq_true rfl) (Nat.le_of_ble_eq_true rfl) rfl es.symm rfl (Or.inr rfl) dX1_productFits_75
        · have hf14 := br_y hf10 c12; clear hf10
          refine j_lload_n X dX1_productFits_44 2 rfl rfl ?_
          refine j_ldc2 X k_X1_22 dX1_productFits_45 ?_
          refine j_lcmp X dX1_productFits_48 ?_
          refine j_if_eq X (tgt := 56) dX1_productFits_49 (by decide) (fun c20 => ?_) (fun c20 => ?_)
          · have hf21 := br_y hf14 c20; clear hf14
            refine j_iconst X (v := 0) dX1_productFits_56 (by decide) ?_
            refine j_goto X (tgt := 75) dX1_productFits_57 (by decide) ?_
            obtain ⟨er, es⟩ := rt_of hf21
            subst er
            exact j_retz X hr hlk (Nat.le_of_ble_eq_true rfl) (Nat.le_of_ble_eq_true rfl) rfl es.symm rfl (Or.inl rfl) dX1_productFits_75
          · have hf22 := br_n hf14 c20; clear hf14
            refine j_iconst X (v := 1) dX1_productFits_52 (by decide) ?_
            refine j_goto X (tgt := 75) dX1_productFits_53 (by decide) ?_
            obtain ⟨er, es⟩ := rt_of hf22
            subst er
            exact j_retz X hr hlk (Nat.le_of_ble_eq_true rfl) (Nat.le_of_ble_eq_true rfl) rfl es.symm rfl (Or.inr rfl) dX1_productFits_75
      · have hf11 := br_y hf8 c9; clear hf8
        refine j_iconst X (v := 1) dX1_productFits_34 (by decide) ?_
        obtain ⟨er, es⟩ := rt_of hf11
        subst er
        exact j_retz X hr hlk (Nat.le_of_ble_eq_true rfl) (Nat.le_of_ble_eq_true rfl) rfl es.symm rfl (Or.inr rfl) dX1_productFits_35
  · have hf3 := br_y hf0 c1; clear hf0
    refine j_lload_n X dX1_productFits_8 1 rfl rfl ?_
    refine j_lload_n X dX1_productFits_9 1 rfl rfl ?_
    refine j_l2i X dX1_productFits_10 ?_
    refine j_i2l X dX1_productFits_11 ?_
    refine j_lcmp X dX1_productFits_12 ?_
    refine j_if_ne X (tgt := 20) dX1_productFits_13 (by decide) (fun c23 => ?_) (fun c23 => ?_)
    · have hf24 := br_n hf3 c23; clear hf3
      refine j_iconst X (v := 0) dX1_productFits_20 (by decide) ?_
      refine j_nmi (fun v26 ev26 => ?_)
      replace hf24 := lt_of hf24 v26 ev26
      refine j_istore X (lv' := [(4, .int v26), (0, .long a0), (2, .long a2)]) dX1_productFits_21 (by decide) rfl ?_
      refine j_iload X dX1_productFits_23 0 rfl ?_
      refine j_if_ne X (tgt := 34) dX1_productFits_25 (by decide) (fun c28 => ?_) (fun c28 => ?_)
      · have hf29 := br_n hf24 c28; clear hf24
        refine j_iconst X (v := 1) dX1_productFits_34 (by decide) ?_
        obtain ⟨er, es⟩ := rt_of hf29
        subst er
        exact j_retz X hr hlk (Nat.le_of_ble_eq_true rfl) (Nat.le_of_ble_eq_true rfl) rfl es.symm rfl (Or.inr rfl) dX1_productFits_35
      · have hf30 := br_y hf24 c28; clear hf24
        refine j_lload_n X dX1_productFits_28 1 rfl rfl ?_
        refine j_lconst X (v := 0) dX1_productFits_29 (by decide) ?_
        refine j_lcmp X dX1_productFits_30 ?_
        refine j_if_ne X (tgt := 36) dX1_productFits_31 (by decide) (fun c31 => ?_) (fun c31 => ?_)
        · have hf32 := br_n hf30 c31; clear hf30
          refine j_lload_n X dX1_productFits_36 1 rfl rfl ?_
          refine j_ldc2 X k_X1_45 dX1_productFits_37 ?_
          refine j_lcmp X dX1_productFits_40 ?_
          refine j_if_ne X (tgt := 60) dX1_productFits_41 (by decide) (fun c34 => ?_) (fun c34 => ?_)
          · have hf35 := br_n hf32 c34; clear hf32
            refine j_lload_n X dX1_productFits_60 1 rfl rfl ?_
            refine j_lload_n X dX1_productFits_61 2 rfl rfl ?_
            refine j_lmul X dX1_productFits_62 ?_
            refine j_lload_n X dX1_productFits_63 1 rfl rfl ?_
            obtain ⟨h37, hf38⟩ := chk_of hf35; clear hf35
            refine j_ldiv X dX1_productFits_64 h37 ?_
            refine j_lload_n X dX1_productFits_65 2 rfl rfl ?_
            refine j_lcmp X dX1_productFits_66 ?_
            refine j_if_ne X (tgt := 74) dX1_productFits_67 (by decide) (fun c39 => ?_) (fun c39 => ?_)
            · have hf40 := br_n hf38 c39; clear hf38
              refine j_iconst X (v := 0) dX1_productFits_74 (by decide) ?_
              obtain ⟨er, es⟩ := rt_of hf40
              subst er
              exact j_retz X hr hlk (Nat.le_of_ble_eq_true rfl) (Nat.le_of_ble_eq_true rfl) rfl es.symm rfl (Or.inl rfl) dX1_productFits_75
            · have hf41 := br_y hf38 c39; clear hf38
              refine j_iconst X (v := 1) dX1_productFits_70 (by decide) ?_
              refine j_goto X (tgt := 75) dX1_productFits_71 (by decide) ?_
              obtain ⟨er, es⟩ := rt_of hf41
              subst er
              exact j_retz X hr hlk (Nat.le_of_ble_eq_true rfl) (Nat.le_of_ble_eq_true rfl) rfl es.symm rfl (Or.inr rfl) dX1_productFits_75
          · have hf36 := br_y hf32 c34; clear hf32
            refine j_lload_n X dX1_productFits_44 2 rfl rfl ?_
            refine j_ldc2 X k_X1_22 dX1_productFits_45 ?_
            refine j_lcmp X dX1_productFits_48 ?_
            refine j_if_eq X (tgt := 56) dX1_productFits_49 (by decide) (fun c42 => ?_) (fun c42 => ?_)
            · have hf43 := br_y hf36 c42; clear hf36
              refine j_iconst X (v := 0) dX1_productFits_56 (by decide) ?_
              refine j_goto X (tgt := 75) dX1_productFits_57 (by decide) ?_
              obtain ⟨er, es⟩ := rt_of hf43
              subst er
              exact j_retz X hr hlk (Nat.le_of_ble_eq_true rfl) (Nat.le_of_ble_eq_true rfl) rfl es.symm rfl (Or.inl rfl) dX1_productFits_75
            · have hf44 := br_n hf36 c42; clear hf36
              refine j_iconst X (v := 1) dX1_productFits_52 (by decide) ?_
              refine j_goto X (tgt := 75) dX1_productFits_53 (by decide) ?_
              obtain ⟨er, es⟩ := rt_of hf44
              subst er
              exact j_retz X hr hlk (Nat.le_of_ble_eq_true rfl) (Nat.le_of_ble_eq_true rfl) rfl es.symm rfl (Or.inr rfl) dX1_productFits_75
        · have hf33 := br_y hf30 c31; clear hf30
          refine j_iconst X (v := 1) dX1_productFits_34 (by decide) ?_
          obtain ⟨er, es⟩ := rt_of hf33
          subst er
          exact j_retz X hr hlk (Nat.le_of_ble_eq_true rfl) (Nat.le_of_ble_eq_true rfl) rfl es.symm rfl (Or.inr rfl) dX1_productFits_35
    · have hf25 := br_y hf3 c23; clear hf3
      refine j_iconst X (v := 1) dX1_productFits_16 (by decide) ?_
      refine j_goto X (tgt := 21) dX1_productFits_17 (by decide) ?_
      refine j_nmi (fun v45 ev45 => ?_)
      replace hf25 := lt_of hf25 v45 ev45
      refine j_istore X (lv' := [(4, .int v45), (0, .long a0), (2, .long a2)]) dX1_productFits_21 (by decide) rfl ?_
      refine j_iload X dX1_productFits_23 0 rfl ?_
      refine j_if_ne X (tgt := 34) dX1_productFits_25 (by decide) (fun c47 => ?_) (fun c47 => ?_)
      · have hf48 := br_n hf25 c47; clear hf25
        refine j_iconst X (v := 1) dX1_productFits_34 (by decide) ?_
        obtain ⟨er, es⟩ := rt_of hf48
        subst er
        exact j_retz X hr hlk (Nat.le_of_ble_eq_true rfl) (Nat.le_of_ble_eq_true rfl) rfl es.symm rfl (Or.inr rfl) dX1_productFits_35
      · have hf49 := br_y hf25 c47; clear hf25
        refine j_lload_n X dX1_productFits_28 1 rfl rfl ?_
        refine j_lconst X (v := 0) dX1_productFits_29 (by decide) ?_
        refine j_lcmp X dX1_productFits_30 ?_
        refine j_if_ne X (tgt := 36) dX1_productFits_31 (by decide) (fun c50 => ?_) (fun c50 => ?_)
        · have hf51 := br_n hf49 c50; clear hf49
          refine j_lload_n X dX1_productFits_36 1 rfl rfl ?_
          refine j_ldc2 X k_X1_45 dX1_productFits_37 ?_
          refine j_lcmp X dX1_productFits_40 ?_
          refine j_if_ne X (tgt := 60) dX1_productFits_41 (by decide) (fun c53 => ?_) (fun c53 => ?_)
          · have hf54 := br_n hf51 c53; clear hf51
            refine j_lload_n X dX1_productFits_60 1 rfl rfl ?_
            refine j_lload_n X dX1_productFits_61 2 rfl rfl ?_
            refine j_lmul X dX1_productFits_62 ?_
            refine j_lload_n X dX1_productFits_63 1 rfl rfl ?_
            obtain ⟨h56, hf57⟩ := chk_of hf54; clear hf54
            refine j_ldiv X dX1_productFits_64 h56 ?_
            refine j_lload_n X dX1_productFits_65 2 rfl rfl ?_
            refine j_lcmp X dX1_productFits_66 ?_
            refine j_if_ne X (tgt := 74) dX1_productFits_67 (by decide) (fun c58 => ?_) (fun c58 => ?_)
            · have hf59 := br_n hf57 c58; clear hf57
              refine j_iconst X (v := 0) dX1_productFits_74 (by decide) ?_
              obtain ⟨er, es⟩ := rt_of hf59
              subst er
              exact j_retz X hr hlk (Nat.le_of_ble_eq_true rfl) (Nat.le_of_ble_eq_true rfl) rfl es.symm rfl (Or.inl rfl) dX1_productFits_75
            · have hf60 := br_y hf57 c58; clear hf57
              refine j_iconst X (v := 1) dX1_productFits_70 (by decide) ?_
              refine j_goto X (tgt := 75) dX1_productFits_71 (by decide) ?_
              obtain ⟨er, es⟩ := rt_of hf60
              subst er
              exact j_retz X hr hlk (Nat.le_of_ble_eq_true rfl) (Nat.le_of_ble_eq_true rfl) rfl es.symm rfl (Or.inr rfl) dX1_productFits_75
          · have hf55 := br_y hf51 c53; clear hf51
            refine j_lload_n X dX1_productFits_44 2 rfl rfl ?_
            refine j_ldc2 X k_X1_22 dX1_productFits_45 ?_
            refine j_lcmp X dX1_productFits_48 ?_
            refine j_if_eq X (tgt := 56) dX1_productFits_49 (by decide) (fun c61 => ?_) (fun c61 => ?_)
            · have hf62 := br_y hf55 c61; clear hf55
              refine j_iconst X (v := 0) dX1_productFits_56 (by decide) ?_
              refine j_goto X (tgt := 75) dX1_productFits_57 (by decide) ?_
              obtain ⟨er, es⟩ := rt_of hf62
              subst er
              exact j_retz X hr hlk (Nat.le_of_ble_eq_true rfl) (Nat.le_of_ble_eq_true rfl) rfl es.symm rfl (Or.inl rfl) dX1_productFits_75
            · have hf63 := br_n hf55 c61; clear hf55
              refine j_iconst X (v := 1) dX1_productFits_52 (by decide) ?_
              refine j_goto X (tgt := 75) dX1_productFits_53 (by decide) ?_
              obtain ⟨er, es⟩ := rt_of hf63
              subst er
              exact j_retz X hr hlk (Nat.le_of_ble_eq_true rfl) (Nat.le_of_ble_eq_true rfl) rfl es.symm rfl (Or.inr rfl) dX1_productFits_75
        · have hf52 := br_y hf49 c50; clear hf49
          refine j_iconst X (v := 1) dX1_productFits_34 (by decide) ?_
          obtain ⟨er, es⟩ := rt_of hf52
          subst er
          exact j_retz X hr hlk (Nat.le_of_ble_eq_true rfl) (Nat.le_of_ble_eq_true rfl) rfl es.symm rfl (Or.inr rfl) dX1_productFits_35
def f_X1_product (a0 : Nat) (a1 : Int32) (a2 : Nat) (a3 : Int32) (a4 : Nat) (a5 : Int32) (σ : HS) : Option (Unit × HS) :=
  chk (isO σ 1 a2) (bd (hR σ a2 0) fun i3 =>
  chk (isO σ 12 i3 ∧ inb a3 (hlen σ i3)) (lt (hB σ i3 a3.toNatClampNeg) fun v8 =>
  bd (hR σ a2 1) fun i10 =>
  chk (isO σ 12 i10 ∧ inb a3 (hlen σ i10)) (lt (hB σ i10 a3.toNatClampNeg) fun v15 =>
  chk (isO σ 1 a4) (bd (hR σ a4 0) fun i19 =>
  chk (isO σ 12 i19 ∧ inb a5 (hlen σ i19)) (lt (hB σ i19 a5.toNatClampNeg) fun v24 =>
  bd (hR σ a4 1) fun i26 =>
  chk (isO σ 12 i26 ∧ inb a5 (hlen σ i26)) (lt (hB σ i26 a5.toNatClampNeg) fun v31 =>
  chk (isO σ 1 a0) (bd (hR σ a0 2) fun i35 =>
  bd (hR σ a2 2) fun i38 =>
  chk (isO σ 11 i38 ∧ inb a3 (hlen σ i38)) (lt (hA σ i38 a3.toNatClampNeg) fun v43 =>
  (if v43 = 0 then
  bd (hR σ a4 2) fun i87 =>
  chk (isO σ 11 i87 ∧ inb a5 (hlen σ i87)) (lt (hA σ i87 a5.toNatClampNeg) fun v92 =>
  (if v92 = 0 then
  bc (f_X1_productFits v8 v24 σ) fun r136 σ137 =>
  (if r136 = 0 then
  chk (isO σ137 11 i35 ∧ inb a1 (hlen σ137 i35)) (lt (sA σ137 i35 a1.toNatClampNeg (1 : Int32)) fun σ145 =>
  chk (isO σ145 1 a0) (bd (hR σ145 a0 0) fun i149 =>
  lt (if (v8 * v31) < (v8 * v24) then (v8 * v31) else (v8 * v24)) fun v152 =>
  lt (if (v15 * v31) < (v15 * v24) then (v15 * v31) else (v15 * v24)) fun v154 =>
  lt (if v154 < v152 then v154 else v152) fun v156 =>
  chk (isO σ145 12 i149 ∧ inb a1 (hlen σ145 i149)) (lt (sB σ145 i149 a1.toNatClampNeg v156) fun σ160 =>
  bd (hR σ160 a0 1) fun i163 =>
  lt (if (v8 * v31) < (v8 * v24) then (v8 * v24) else (v8 * v31)) fun v166 =>
  lt (if (v15 * v31) < (v15 * v24) then (v15 * v24) else (v15 * v31)) fun v168 =>
  lt (if v168 < v166 then v166 else v168) fun v170 =>
  chk (isO σ160 12 i163 ∧ inb a1 (hlen σ160 i163)) (lt (sB σ160 i163 a1.toNatClampNeg v170) fun σ174 =>
  some ((), σ174)))))
  else
  bc (f_X1_productFits v8 v31 σ137) fun r177 σ178 =>
  (if r177 = 0 then
  chk (isO σ178 11 i35 ∧ inb a1 (hlen σ178 i35)) (lt (sA σ178 i35 a1.toNatClampNeg (1 : Int32)) fun σ186 =>
  chk (isO σ186 1 a0) (bd (hR σ186 a0 0) fun i190 =>
  lt (if (v8 * v31) < (v8 * v24) then (v8 * v31) else (v8 * v24)) fun v193 =>
  lt (if (v15 * v31) < (v15 * v24) then (v15 * v31) else (v15 * v24)) fun v195 =>
  lt (if v195 < v193 then v195 else v193) fun v197 =>
  chk (isO σ186 12 i190 ∧ inb a1 (hlen σ186 i190)) (lt (sB σ186 i190 a1.toNatClampNeg v197) fun σ201 =>
  bd (hR σ201 a0 1) fun i204 =>
  lt (if (v8 * v31) < (v8 * v24) then (v8 * v24) else (v8 * v31)) fun v207 =>
  lt (if (v15 * v31) < (v15 * v24) then (v15 * v24) else (v15 * v31)) fun v209 =>
  lt (if v209 < v207 then v207 else v209) fun v211 =>
  chk (isO σ201 12 i204 ∧ inb a1 (hlen σ201 i204)) (lt (sB σ201 i204 a1.toNatClampNeg v211) fun σ215 =>
  some ((), σ215)))))
  else
  bc (f_X1_productFits v15 v24 σ178) fun r218 σ219 =>
  (if r218 = 0 then
  chk (isO σ219 11 i35 ∧ inb a1 (hlen σ219 i35)) (lt (sA σ219 i35 a1.toNatClampNeg (1 : Int32)) fun σ227 =>
  chk (isO σ227 1 a0) (bd (hR σ227 a0 0) fun i231 =>
  lt (if (v8 * v31) < (v8 * v24) then (v8 * v31) else (v8 * v24)) fun v234 =>
  lt (if (v15 * v31) < (v15 * v24) then (v15 * v31) else (v15 * v24)) fun v236 =>
  lt (if v236 < v234 then v236 else v234) fun v238 =>
  chk (isO σ227 12 i231 ∧ inb a1 (hlen σ227 i231)) (lt (sB σ227 i231 a1.toNatClampNeg v238) fun σ242 =>
  bd (hR σ242 a0 1) fun i245 =>
  lt (if (v8 * v31) < (v8 * v24) then (v8 * v24) else (v8 * v31)) fun v248 =>
  lt (if (v15 * v31) < (v15 * v24) then (v15 * v24) else (v15 * v31)) fun v250 =>
  lt (if v250 < v248 then v248 else v250) fun v252 =>
  chk (isO σ242 12 i245 ∧ inb a1 (hlen σ242 i245)) (lt (sB σ242 i245 a1.toNatClampNeg v252) fun σ256 =>
  some ((), σ256)))))
  else
  bc (f_X1_productFits v15 v31 σ219) fun r259 σ260 =>
  (if r259 = 0 then
  chk (isO σ260 11 i35 ∧ inb a1 (hlen σ260 i35)) (lt (sA σ260 i35 a1.toNatClampNeg (1 : Int32)) fun σ302 =>
  chk (isO σ302 1 a0) (bd (hR σ302 a0 0) fun i306 =>
  lt (if (v8 * v31) < (v8 * v24) then (v8 * v31) else (v8 * v24)) fun v309 =>
  lt (if (v15 * v31) < (v15 * v24) then (v15 * v31) else (v15 * v24)) fun v311 =>
  lt (if v311 < v309 then v311 else v309) fun v313 =>
  chk (isO σ302 12 i306 ∧ inb a1 (hlen σ302 i306)) (lt (sB σ302 i306 a1.toNatClampNeg v313) fun σ317 =>
  bd (hR σ317 a0 1) fun i320 =>
  lt (if (v8 * v31) < (v8 * v24) then (v8 * v24) else (v8 * v31)) fun v323 =>
  lt (if (v15 * v31) < (v15 * v24) then (v15 * v24) else (v15 * v31)) fun v325 =>
  lt (if v325 < v323 then v323 else v325) fun v327 =>
  chk (isO σ317 12 i320 ∧ inb a1 (hlen σ317 i320)) (lt (sB σ317 i320 a1.toNatClampNeg v327) fun σ331 =>
  some ((), σ331)))))
  else
  chk (isO σ260 11 i35 ∧ inb a1 (hlen σ260 i35)) (lt (sA σ260 i35 a1.toNatClampNeg (0 : Int32)) fun σ268 =>
  chk (isO σ268 1 a0) (bd (hR σ268 a0 0) fun i272 =>
  lt (if (v8 * v31) < (v8 * v24) then (v8 * v31) else (v8 * v24)) fun v275 =>
  lt (if (v15 * v31) < (v15 * v24) then (v15 * v31) else (v15 * v24)) fun v277 =>
  lt (if v277 < v275 then v277 else v275) fun v279 =>
  chk (isO σ268 12 i272 ∧ inb a1 (hlen σ268 i272)) (lt (sB σ268 i272 a1.toNatClampNeg v279) fun σ283 =>
  bd (hR σ283 a0 1) fun i286 =>
  lt (if (v8 * v31) < (v8 * v24) then (v8 * v24) else (v8 * v31)) fun v289 =>
  lt (if (v15 * v31) < (v15 * v24) then (v15 * v24) else (v15 * v31)) fun v291 =>
  lt (if v291 < v289 then v289 else v291) fun v293 =>
  chk (isO σ283 12 i286 ∧ inb a1 (hlen σ283 i286)) (lt (sB σ283 i286 a1.toNatClampNeg v293) fun σ297 =>
  some ((), σ297)))))))))
  else
  chk (isO σ 11 i35 ∧ inb a1 (hlen σ i35)) (lt (sA σ i35 a1.toNatClampNeg (1 : Int32)) fun σ99 =>
  bd (hR σ99 a0 0) fun i104 =>
  lt (if (v8 * v31) < (v8 * v24) then (v8 * v31) else (v8 * v24)) fun v107 =>
  lt (if (v15 * v31) < (v15 * v24) then (v15 * v31) else (v15 * v24)) fun v109 =>
  lt (if v109 < v107 then v109 else v107) fun v111 =>
  chk (isO σ99 12 i104 ∧ inb a1 (hlen σ99 i104)) (lt (sB σ99 i104 a1.toNatClampNeg v111) fun σ115 =>
  bd (hR σ115 a0 1) fun i120 =>
  lt (if (v8 * v31) < (v8 * v24) then (v8 * v24) else (v8 * v31)) fun v123 =>
  lt (if (v15 * v31) < (v15 * v24) then (v15 * v24) else (v15 * v31)) fun v125 =>
  lt (if v125 < v123 then v123 else v125) fun v127 =>
  chk (isO σ115 12 i120 ∧ inb a1 (hlen σ115 i120)) (lt (sB σ115 i120 a1.toNatClampNeg v127) fun σ131 =>
  some ((), σ131))))))
  else
  chk (isO σ 11 i35 ∧ inb a1 (hlen σ i35)) (lt (sA σ i35 a1.toNatClampNeg (1 : Int32)) fun σ50 =>
  bd (hR σ50 a0 0) fun i55 =>
  lt (if (v8 * v31) < (v8 * v24) then (v8 * v31) else (v8 * v24)) fun v58 =>
  lt (if (v15 * v31) < (v15 * v24) then (v15 * v31) else (v15 * v24)) fun v60 =>
  lt (if v60 < v58 then v60 else v58) fun v62 =>
  chk (isO σ50 12 i55 ∧ inb a1 (hlen σ50 i55)) (lt (sB σ50 i55 a1.toNatClampNeg v62) fun σ66 =>
  bd (hR σ66 a0 1) fun i71 =>
  lt (if (v8 * v31) < (v8 * v24) then (v8 * v24) else (v8 * v31)) fun v74 =>
  lt (if (v15 * v31) < (v15 * v24) then (v15 * v24) else (v15 * v31)) fun v76 =>
  lt (if v76 < v74 then v74 else v76) fun v78 =>
  chk (isO σ66 12 i71 ∧ inb a1 (hlen σ66 i71)) (lt (sB σ66 i71 a1.toNatClampNeg v78) fun σ82 =>
  some ((), σ82)))))))))))))
abbrev rm_X1_product : Room := { frames := 1, cells := 0, slots := 0, locals := 64 }
set_option maxHeartbeats 4000000 in
set_option maxRecDepth 100000 in
theorem c_X1_product (l : Launch) (D : va_G) (cs : Nat → ClassId) (q : Nat → Nat) (a0 : Nat) (a1 : Int32) (a2 : Nat) (a3 : Int32) (a4 : Nat) (a5 : Int32) (σ σ0 : HS) (r0 : Unit) (hf0 : f_X1_product a0 a1 a2 a3 a4 a5 σ = some (r0, σ0)) : MT l yX1_product (Cond.code yX1_product cX1_product 14 none :: lw_g) rm_X1_product D cs q σ σ0 [.ref (q a0), .int a1, .ref (q a2), .int a3, .ref (q a4), .int a5] (fun z => z = q) (fun _ => none) 0 0 := by
  unfold f_X1_product at hf0
  refine MT_of (cc := cX1_product) (lv0 := [(0, .ref (q a0)), (1, .int a1), (2, .ref (q a2)), (3, .int a3), (4, .ref (q a4)), (5, .int a5)]) (by decide) (Nat.le_of_ble_eq_true rfl) rfl (fun p e s m args below meth c A X hr hlk hin => ?_)
  refine j_aload_n X dX1_product_0 2 rfl rfl ?_
  obtain ⟨h1, hf2⟩ := chk_of hf0; clear hf0
  obtain ⟨i3, h4, hf5⟩ := bd_of hf2; clear hf2
  refine j_getr X fd_X1_7 h1 h4 dX1_product_1 ?_
  refine j_iload_n X dX1_product_4 3 rfl rfl ?_
  obtain ⟨h6, hf7⟩ := chk_of hf5; clear hf5
  refine j_lald X h6 dX1_product_5 (fun v8 ev8 => ?_)
  replace hf7 := lt_of hf7 v8 ev8
  refine j_lstore X (lv' := [(6, .long v8), (0, .ref (q a0)), (1, .int a1), (2, .ref (q a2)), (3, .int a3), (4, .ref (q a4)), (5, .int a5)]) dX1_product_6 (by decide) rfl ?_
  refine j_aload_n X dX1_product_8 3 rfl rfl ?_
  obtain ⟨i10, h11, hf12⟩ := bd_of hf7; clear hf7
  refine j_getr X fd_X1_13 h1 h11 dX1_product_9 ?_
  refine j_iload_n X dX1_product_12 4 rfl rfl ?_
  obtain ⟨h13, hf14⟩ := chk_of hf12; clear hf12
  refine j_lald X h13 dX1_product_13 (fun v15 ev15 => ?_)
  replace hf14 := lt_of hf14 v15 ev15
  refine j_lstore X (lv' := [(8, .long v15), (6, .long v8), (0, .ref (q a0)), (1, .int a1), (2, .ref (q a2)), (3, .int a3), (4, .ref (q a4)), (5, .int a5)]) dX1_product_14 (by decide) rfl ?_
  refine j_aload X dX1_product_16 6 rfl ?_
  obtain ⟨h17, hf18⟩ := chk_of hf14; clear hf14
  obtain ⟨i19, h20, hf21⟩ := bd_of hf18; clear hf18
  refine j_getr X fd_X1_7 h17 h20 dX1_product_18 ?_
  refine j_iload X dX1_product_21 7 rfl ?_
  obtain ⟨h22, hf23⟩ := chk_of hf21; clear hf21
  refine j_lald X h22 dX1_product_23 (fun v24 ev24 => ?_)
  replace hf23 := lt_of hf23 v24 ev24
  refine j_lstore X (lv' := [(10, .long v24), (8, .long v15), (6, .long v8), (0, .ref (q a0)), (1, .int a1), (2, .ref (q a2)), (3, .int a3), (4, .ref (q a4)), (5, .int a5)]) dX1_product_24 (by decide) rfl ?_
  refine j_aload X dX1_product_26 7 rfl ?_
  obtain ⟨i26, h27, hf28⟩ := bd_of hf23; clear hf23
  refine j_getr X fd_X1_13 h17 h27 dX1_product_28 ?_
  refine j_iload X dX1_product_31 8 rfl ?_
  obtain ⟨h29, hf30⟩ := chk_of hf28; clear hf28
  refine j_lald X h29 dX1_product_33 (fun v31 ev31 => ?_)
  replace hf30 := lt_of hf30 v31 ev31
  refine j_lstore X (lv' := [(12, .long v31), (10, .long v24), (8, .long v15), (6, .long v8), (0, .ref (q a0)), (1, .int a1), (2, .ref (q a2)), (3, .int a3), (4, .ref (q a4)), (5, .int a5)]) dX1_product_34 (by decide) rfl ?_
  refine j_aload_n X dX1_product_36 4 rfl rfl ?_
  obtain ⟨h33, hf34⟩ := chk_of hf30; clear hf30
  obtain ⟨i35, h36, hf37⟩ := bd_of hf34; clear hf34
  refine j_getr X fd_X1_16 h33 h36 dX1_product_37 ?_
  refine j_iload_n X dX1_product_40 5 rfl rfl ?_
  refine j_aload_n X dX1_product_41 6 rfl rfl ?_
  obtain ⟨i38, h39, hf40⟩ := bd_of hf37; clear hf37
  refine j_getr X fd_X1_16 h1 h39 dX1_product_42 ?_
  refine j_iload_n X dX1_product_45 7 rfl rfl ?_
  obtain ⟨h41, hf42⟩ := chk_of hf40; clear hf40
  refine j_zald X h41 dX1_product_46 (fun v43 ev43 => ?_)
  replace hf42 := lt_of hf42 v43 ev43
  refine j_if_ne X (tgt := 101) dX1_product_47 (by decide) (fun c45 => ?_) (fun c45 => ?_)
  · have hf46 := br_n hf42 c45; clear hf42
    refine j_iconst X (v := 1) dX1_product_101 (by decide) ?_
    refine j_goto X (tgt := 106) dX1_product_102 (by decide) ?_
    obtain ⟨h48, hf49⟩ := chk_of hf46; clear hf46
    refine j_zast X h48 (Or.inr rfl) dX1_product_106 (fun σ50 eσ50 => ?_)
    replace hf49 := lt_of hf49 σ50 eσ50
    have h52 : isO σ50 1 a2 := by rw [eσ50]; exact h1
    have h53 : isO σ50 1 a4 := by rw [eσ50]; exact h17
    have h54 : isO σ50 1 a0 := by rw [eσ50]; exact h33
    refine j_aload_n X dX1_product_107 4 rfl rfl ?_
    obtain ⟨i55, h56, hf57⟩ := bd_of hf49; clear hf49
    refine j_getr X fd_X1_7 h54 h56 dX1_product_108 ?_
    refine j_iload_n X dX1_product_111 5 rfl rfl ?_
    refine j_lload X dX1_product_112 3 rfl ?_
    refine j_lload X dX1_product_114 1 rfl ?_
    refine j_lmul X dX1_product_116 ?_
    refine j_lload X dX1_product_117 3 rfl ?_
    refine j_lload X dX1_product_119 0 rfl ?_
    refine j_lmul X dX1_product_121 ?_
    refine j_mmin_long X ml_X1_34 (Nat.le_of_ble_eq_true rfl) (Nat.le_of_ble_eq_true rfl) (Nat.le_of_ble_eq_true rfl) (Nat.le_of_ble_eq_true rfl) dX1_product_122 (fun v58 ev58 => ?_)
    replace hf57 := lt_of hf57 v58 ev58
    refine j_lload X dX1_product_125 2 rfl ?_
    refine j_lload X dX1_product_127 1 rfl ?_
    refine j_lmul X dX1_product_129 ?_
    refine j_lload X dX1_product_130 2 rfl ?_
    refine j_lload X dX1_product_132 0 rfl ?_
    refine j_lmul X dX1_product_134 ?_
    refine j_mmin_long X ml_X1_34 (Nat.le_of_ble_eq_true rfl) (Nat.le_of_ble_eq_true rfl) (Nat.le_of_ble_eq_true rfl) (Nat.le_of_ble_eq_true rfl) dX1_product_135 (fun v60 ev60 => ?_)
    replace hf57 := lt_of hf57 v60 ev60
    refine j_mmin_long X ml_X1_34 (Nat.le_of_ble_eq_true rfl) (Nat.le_of_ble_eq_true rfl) (Nat.le_of_ble_eq_true rfl) (Nat.le_of_ble_eq_true rfl) dX1_product_138 (fun v62 ev62 => ?_)
    replace hf57 := lt_of hf57 v62 ev62
    obtain ⟨h64, hf65⟩ := chk_of hf57; clear hf57
    refine j_last X h64 dX1_product_141 (fun σ66 eσ66 => ?_)
    replace hf65 := lt_of hf65 σ66 eσ66
    have h68 : isO σ66 1 a2 := by rw [eσ66]; exact h52
    have h69 : isO σ66 1 a4 := by rw [eσ66]; exact h53
    have h70 : isO σ66 1 a0 := by rw [eσ66]; exact h54
    refine j_aload_n X dX1_product_142 4 rfl rfl ?_
    obtain ⟨i71, h72, hf73⟩ := bd_of hf65; clear hf65
    refine j_getr X fd_X1_13 h70 h72 dX1_product_143 ?_
    refine j_iload_n X dX1_product_146 5 rfl rfl ?_
    refine j_lload X dX1_product_147 3 rfl ?_
    refine j_lload X dX1_product_149 1 rfl ?_
    refine j_lmul X dX1_product_151 ?_
    refine j_lload X dX1_product_152 3 rfl ?_
    refine j_lload X dX1_product_154 0 rfl ?_
    refine j_lmul X dX1_product_156 ?_
    refine j_mmax_long X ml_X1_40 (Nat.le_of_ble_eq_true rfl) (Nat.le_of_ble_eq_true rfl) (Nat.le_of_ble_eq_true rfl) (Nat.le_of_ble_eq_true rfl) dX1_product_157 (fun v74 ev74 => ?_)
    replace hf73 := lt_of hf73 v74 ev74
    refine j_lload X dX1_product_160 2 rfl ?_
    refine j_lload X dX1_product_162 1 rfl ?_
    refine j_lmul X dX1_product_164 ?_
    refine j_lload X dX1_product_165 2 rfl ?_
    refine j_lload X dX1_product_167 0 rfl ?_
    refine j_lmul X dX1_product_169 ?_
    refine j_mmax_long X ml_X1_40 (Nat.le_of_ble_eq_true rfl) (Nat.le_of_ble_eq_true rfl) (Nat.le_of_ble_eq_true rfl) (Nat.le_of_ble_eq_true rfl) dX1_product_170 (fun v76 ev76 => ?_)
    replace hf73 := lt_of hf73 v76 ev76
    refine j_mmax_long X ml_X1_40 (Nat.le_of_ble_eq_true rfl) (Nat.le_of_ble_eq_true rfl) (Nat.le_of_ble_eq_true rfl) (Nat.le_of_ble_eq_true rfl) dX1_product_173 (fun v78 ev78 => ?_)
    replace hf73 := lt_of hf73 v78 ev78
    obtain ⟨h80, hf81⟩ := chk_of hf73; clear hf73
    refine j_last X h80 dX1_product_176 (fun σ82 eσ82 => ?_)
    replace hf81 := lt_of hf81 σ82 eσ82
    have h84 : isO σ82 1 a2 := by rw [eσ82]; exact h68
    have h85 : isO σ82 1 a4 := by rw [eσ82]; exact h69
    have h86 : isO σ82 1 a0 := by rw [eσ82]; exact h70
    obtain ⟨er, es⟩ := rt_of hf81
    exact j_retv X hr hlk (Nat.le_of_ble_eq_true rfl) (Nat.le_of_ble_eq_true rfl) rfl es.symm rfl dX1_product_177
  · have hf47 := br_y hf42 c45; clear hf42
    refine j_aload X dX1_product_50 8 rfl ?_
    obtain ⟨i87, h88, hf89⟩ := bd_of hf47; clear hf47
    refine j_getr X fd_X1_16 h17 h88 dX1_product_52 ?_
    refine j_iload X dX1_product_55 9 rfl ?_
    obtain ⟨h90, hf91⟩ := chk_of hf89; clear hf89
    refine j_zald X h90 dX1_product_57 (fun v92 ev92 => ?_)
    replace hf91 := lt_of hf91 v92 ev92
    refine j_if_ne X (tgt := 101) dX1_product_58 (by decide) (fun c94 => ?_) (fun c94 => ?_)
    · have hf95 := br_n hf91 c94; clear hf91
      refine j_iconst X (v := 1) dX1_product_101 (by decide) ?_
      refine j_goto X (tgt := 106) dX1_product_102 (by decide) ?_
      obtain ⟨h97, hf98⟩ := chk_of hf95; clear hf95
      refine j_zast X h97 (Or.inr rfl) dX1_product_106 (fun σ99 eσ99 => ?_)
      replace hf98 := lt_of hf98 σ99 eσ99
      have h101 : isO σ99 1 a2 := by rw [eσ99]; exact h1
      have h102 : isO σ99 1 a4 := by rw [eσ99]; exact h17
      have h103 : isO σ99 1 a0 := by rw [eσ99]; exact h33
      refine j_aload_n X dX1_product_107 4 rfl rfl ?_
      obtain ⟨i104, h105, hf106⟩ := bd_of hf98; clear hf98
      refine j_getr X fd_X1_7 h103 h105 dX1_product_108 ?_
      refine j_iload_n X dX1_product_111 5 rfl rfl ?_
      refine j_lload X dX1_product_112 3 rfl ?_
      refine j_lload X dX1_product_114 1 rfl ?_
      refine j_lmul X dX1_product_116 ?_
      refine j_lload X dX1_product_117 3 rfl ?_
      refine j_lload X dX1_product_119 0 rfl ?_
      refine j_lmul X dX1_product_121 ?_
      refine j_mmin_long X ml_X1_34 (Nat.le_of_ble_eq_true rfl) (Nat.le_of_ble_eq_true rfl) (Nat.le_of_ble_eq_true rfl) (Nat.le_of_ble_eq_true rfl) dX1_product_122 (fun v107 ev107 => ?_)
      replace hf106 := lt_of hf106 v107 ev107
      refine j_lload X dX1_product_125 2 rfl ?_
      refine j_lload X dX1_product_127 1 rfl ?_
      refine j_lmul X dX1_product_129 ?_
      refine j_lload X dX1_product_130 2 rfl ?_
      refine j_lload X dX1_product_132 0 rfl ?_
      refine j_lmul X dX1_product_134 ?_
      refine j_mmin_long X ml_X1_34 (Nat.le_of_ble_eq_true rfl) (Nat.le_of_ble_eq_true rfl) (Nat.le_of_ble_eq_true rfl) (Nat.le_of_ble_eq_true rfl) dX1_product_135 (fun v109 ev109 => ?_)
      replace hf106 := lt_of hf106 v109 ev109
      refine j_mmin_long X ml_X1_34 (Nat.le_of_ble_eq_true rfl) (Nat.le_of_ble_eq_true rfl) (Nat.le_of_ble_eq_true rfl) (Nat.le_of_ble_eq_true rfl) dX1_product_138 (fun v111 ev111 => ?_)
      replace hf106 := lt_of hf106 v111 ev111
      obtain ⟨h113, hf114⟩ := chk_of hf106; clear hf106
      refine j_last X h113 dX1_product_141 (fun σ115 eσ115 => ?_)
      replace hf114 := lt_of hf114 σ115 eσ115
      have h117 : isO σ115 1 a2 := by rw [eσ115]; exact h101
      have h118 : isO σ115 1 a4 := by rw [eσ115]; exact h102
      have h119 : isO σ115 1 a0 := by rw [eσ115]; exact h103
      refine j_aload_n X dX1_product_142 4 rfl rfl ?_
      obtain ⟨i120, h121, hf122⟩ := bd_of hf114; clear hf114
      refine j_getr X fd_X1_13 h119 h121 dX1_product_143 ?_
      refine j_iload_n X dX1_product_146 5 rfl rfl ?_
      refine j_lload X dX1_product_147 3 rfl ?_
      refine j_lload X dX1_product_149 1 rfl ?_
      refine j_lmul X dX1_product_151 ?_
      refine j_lload X dX1_product_152 3 rfl ?_
      refine j_lload X dX1_product_154 0 rfl ?_
      refine j_lmul X dX1_product_156 ?_
      refine j_mmax_long X ml_X1_40 (Nat.le_of_ble_eq_true rfl) (Nat.le_of_ble_eq_true rfl) (Nat.le_of_ble_eq_true rfl) (Nat.le_of_ble_eq_true rfl) dX1_product_157 (fun v123 ev123 => ?_)
      replace hf122 := lt_of hf122 v123 ev123
      refine j_lload X dX1_product_160 2 rfl ?_
      refine j_lload X dX1_product_162 1 rfl ?_
      refine j_lmul X dX1_product_164 ?_
      refine j_lload X dX1_product_165 2 rfl ?_
      refine j_lload X dX1_product_167 0 rfl ?_
      refine j_lmul X dX1_product_169 ?_
      refine j_mmax_long X ml_X1_40 (Nat.le_of_ble_eq_true rfl) (Nat.le_of_ble_eq_true rfl) (Nat.le_of_ble_eq_true rfl) (Nat.le_of_ble_eq_true rfl) dX1_product_170 (fun v125 ev125 => ?_)
      replace hf122 := lt_of hf122 v125 ev125
      refine j_mmax_long X ml_X1_40 (Nat.le_of_ble_eq_true rfl) (Nat.le_of_ble_eq_true rfl) (Nat.le_of_ble_eq_true rfl) (Nat.le_of_ble_eq_true rfl) dX1_product_173 (fun v127 ev127 => ?_)
      replace hf122 := lt_of hf122 v127 ev127
      obtain ⟨h129, hf130⟩ := chk_of hf122; clear hf122
      refine j_last X h129 dX1_product_176 (fun σ131 eσ131 => ?_)
      replace hf130 := lt_of hf130 σ131 eσ131
      have h133 : isO σ131 1 a2 := by rw [eσ131]; exact h117
      have h134 : isO σ131 1 a4 := by rw [eσ131]; exact h118
      have h135 : isO σ131 1 a0 := by rw [eσ131]; exact h119
      obtain ⟨er, es⟩ := rt_of hf130
      exact j_retv X hr hlk (Nat.le_of_ble_eq_true rfl) (Nat.le_of_ble_eq_true rfl) rfl es.symm rfl dX1_product_177
    · have hf96 := br_y hf91 c94; clear hf91
      refine j_lload X dX1_product_61 3 rfl ?_
      refine j_lload X dX1_product_63 1 rfl ?_
      obtain ⟨r136, σ137, h138, hf139⟩ := bc_of hf96; clear hf96
      refine j_callS0 X [.long v8, .long v24] [.int a1, .ref (q i35)] (c_X1_productFits l D cs q v8 v24 σ _ _ h138) mk_X1_productFits ms_X1_productFits ml_X1_31 ⟨rfl, rfl⟩ ⟨Nat.le_of_ble_eq_true rfl, Nat.le_of_ble_eq_true rfl⟩ rfl (Nat.le_of_ble_eq_true rfl) ⟨Nat.le_of_ble_eq_true rfl, Nat.le_of_ble_eq_true rfl⟩ dX1_product_65 rfl (st' := [.int r136, .int a1, .ref (q i35)]) rfl ?_
      refine j_if_eq X (tgt := 101) dX1_product_68 (by decide) (fun c140 => ?_) (fun c140 => ?_)
      · have hf141 := br_y hf139 c140; clear hf139
        refine j_iconst X (v := 1) dX1_product_101 (by decide) ?_
        refine j_goto X (tgt := 106) dX1_product_102 (by decide) ?_
        obtain ⟨h143, hf144⟩ := chk_of hf141; clear hf141
        refine j_zast X h143 (Or.inr rfl) dX1_product_106 (fun σ145 eσ145 => ?_)
        replace hf144 := lt_of hf144 σ145 eσ145
        refine j_aload_n X dX1_product_107 4 rfl rfl ?_
        obtain ⟨h147, hf148⟩ := chk_of hf144; clear hf144
        obtain ⟨i149, h150, hf151⟩ := bd_of hf148; clear hf148
        refine j_getr X fd_X1_7 h147 h150 dX1_product_108 ?_
        refine j_iload_n X dX1_product_111 5 rfl rfl ?_
        refine j_lload X dX1_product_112 3 rfl ?_
        refine j_lload X dX1_product_114 1 rfl ?_
        refine j_lmul X dX1_product_116 ?_
        refine j_lload X dX1_product_117 3 rfl ?_
        refine j_lload X dX1_product_119 0 rfl ?_
        refine j_lmul X dX1_product_121 ?_
        refine j_mmin_long X ml_X1_34 (Nat.le_of_ble_eq_true rfl) (Nat.le_of_ble_eq_true rfl) (Nat.le_of_ble_eq_true rfl) (Nat.le_of_ble_eq_true rfl) dX1_product_122 (fun v152 ev152 => ?_)
        replace hf151 := lt_of hf151 v152 ev152
        refine j_lload X dX1_product_125 2 rfl ?_
        refine j_lload X dX1_product_127 1 rfl ?_
        refine j_lmul X dX1_product_129 ?_
        refine j_lload X dX1_product_130 2 rfl ?_
        refine j_lload X dX1_product_132 0 rfl ?_
        refine j_lmul X dX1_product_134 ?_
        refine j_mmin_long X ml_X1_34 (Nat.le_of_ble_eq_true rfl) (Nat.le_of_ble_eq_true rfl) (Nat.le_of_ble_eq_true rfl) (Nat.le_of_ble_eq_true rfl) dX1_product_135 (fun v154 ev154 => ?_)
        replace hf151 := lt_of hf151 v154 ev154
        refine j_mmin_long X ml_X1_34 (Nat.le_of_ble_eq_true rfl) (Nat.le_of_ble_eq_true rfl) (Nat.le_of_ble_eq_true rfl) (Nat.le_of_ble_eq_true rfl) dX1_product_138 (fun v156 ev156 => ?_)
        replace hf151 := lt_of hf151 v156 ev156
        obtain ⟨h158, hf159⟩ := chk_of hf151; clear hf151
        refine j_last X h158 dX1_product_141 (fun σ160 eσ160 => ?_)
        replace hf159 := lt_of hf159 σ160 eσ160
        have h162 : isO σ160 1 a0 := by rw [eσ160]; exact h147
        refine j_aload_n X dX1_product_142 4 rfl rfl ?_
        obtain ⟨i163, h164, hf165⟩ := bd_of hf159; clear hf159
        refine j_getr X fd_X1_13 h162 h164 dX1_product_143 ?_
        refine j_iload_n X dX1_product_146 5 rfl rfl ?_
        refine j_lload X dX1_product_147 3 rfl ?_
        refine j_lload X dX1_product_149 1 rfl ?_
        refine j_lmul X dX1_product_151 ?_
        refine j_lload X dX1_product_152 3 rfl ?_
        refine j_lload X dX1_product_154 0 rfl ?_
        refine j_lmul X dX1_product_156 ?_
        refine j_mmax_long X ml_X1_40 (Nat.le_of_ble_eq_true rfl) (Nat.le_of_ble_eq_true rfl) (Nat.le_of_ble_eq_true rfl) (Nat.le_of_ble_eq_true rfl) dX1_product_157 (fun v166 ev166 => ?_)
        replace hf165 := lt_of hf165 v166 ev166
        refine j_lload X dX1_product_160 2 rfl ?_
        refine j_lload X dX1_product_162 1 rfl ?_
        refine j_lmul X dX1_product_164 ?_
        refine j_lload X dX1_product_165 2 rfl ?_
        refine j_lload X dX1_product_167 0 rfl ?_
        refine j_lmul X dX1_product_169 ?_
        refine j_mmax_long X ml_X1_40 (Nat.le_of_ble_eq_true rfl) (Nat.le_of_ble_eq_true rfl) (Nat.le_of_ble_eq_true rfl) (Nat.le_of_ble_eq_true rfl) dX1_product_170 (fun v168 ev168 => ?_)
        replace hf165 := lt_of hf165 v168 ev168
        refine j_mmax_long X ml_X1_40 (Nat.le_of_ble_eq_true rfl) (Nat.le_of_ble_eq_true rfl) (Nat.le_of_ble_eq_true rfl) (Nat.le_of_ble_eq_true rfl) dX1_product_173 (fun v170 ev170 => ?_)
        replace hf165 := lt_of hf165 v170 ev170
        obtain ⟨h172, hf173⟩ := chk_of hf165; clear hf165
        refine j_last X h172 dX1_product_176 (fun σ174 eσ174 => ?_)
        replace hf173 := lt_of hf173 σ174 eσ174
        have h176 : isO σ174 1 a0 := by rw [eσ174]; exact h162
        obtain ⟨er, es⟩ := rt_of hf173
        exact j_retv X hr hlk (Nat.le_of_ble_eq_true rfl) (Nat.le_of_ble_eq_true rfl) rfl es.symm rfl dX1_product_177
      · have hf142 := br_n hf139 c140; clear hf139
        refine j_lload X dX1_product_71 3 rfl ?_
        refine j_lload X dX1_product_73 0 rfl ?_
        obtain ⟨r177, σ178, h179, hf180⟩ := bc_of hf142; clear hf142
        refine j_callS0 X [.long v8, .long v31] [.int a1, .ref (q i35)] (c_X1_productFits l D cs q v8 v31 σ137 _ _ h179) mk_X1_productFits ms_X1_productFits ml_X1_31 ⟨rfl, rfl⟩ ⟨Nat.le_of_ble_eq_true rfl, Nat.le_of_ble_eq_true rfl⟩ rfl (Nat.le_of_ble_eq_true rfl) ⟨Nat.le_of_ble_eq_true rfl, Nat.le_of_ble_eq_true rfl⟩ dX1_product_75 rfl (st' := [.int r177, .int a1, .ref (q i35)]) rfl ?_
        refine j_if_eq X (tgt := 101) dX1_product_78 (by decide) (fun c181 => ?_) (fun c181 => ?_)
        · have hf182 := br_y hf180 c181; clear hf180
          refine j_iconst X (v := 1) dX1_product_101 (by decide) ?_
          refine j_goto X (tgt := 106) dX1_product_102 (by decide) ?_
          obtain ⟨h184, hf185⟩ := chk_of hf182; clear hf182
          refine j_zast X h184 (Or.inr rfl) dX1_product_106 (fun σ186 eσ186 => ?_)
          replace hf185 := lt_of hf185 σ186 eσ186
          refine j_aload_n X dX1_product_107 4 rfl rfl ?_
          obtain ⟨h188, hf189⟩ := chk_of hf185; clear hf185
          obtain ⟨i190, h191, hf192⟩ := bd_of hf189; clear hf189
          refine j_getr X fd_X1_7 h188 h191 dX1_product_108 ?_
          refine j_iload_n X dX1_product_111 5 rfl rfl ?_
          refine j_lload X dX1_product_112 3 rfl ?_
          refine j_lload X dX1_product_114 1 rfl ?_
          refine j_lmul X dX1_product_116 ?_
          refine j_lload X dX1_product_117 3 rfl ?_
          refine j_lload X dX1_product_119 0 rfl ?_
          refine j_lmul X dX1_product_121 ?_
          refine j_mmin_long X ml_X1_34 (Nat.le_of_ble_eq_true rfl) (Nat.le_of_ble_eq_true rfl) (Nat.le_of_ble_eq_true rfl) (Nat.le_of_ble_eq_true rfl) dX1_product_122 (fun v193 ev193 => ?_)
          replace hf192 := lt_of hf192 v193 ev193
          refine j_lload X dX1_product_125 2 rfl ?_
          refine j_lload X dX1_product_127 1 rfl ?_
          refine j_lmul X dX1_product_129 ?_
          refine j_lload X dX1_product_130 2 rfl ?_
          refine j_lload X dX1_product_132 0 rfl ?_
          refine j_lmul X dX1_product_134 ?_
          refine j_mmin_long X ml_X1_34 (Nat.le_of_ble_eq_true rfl) (Nat.le_of_ble_eq_true rfl) (Nat.le_of_ble_eq_true rfl) (Nat.le_of_ble_eq_true rfl) dX1_product_135 (fun v195 ev195 => ?_)
          replace hf192 := lt_of hf192 v195 ev195
          refine j_mmin_long X ml_X1_34 (Nat.le_of_ble_eq_true rfl) (Nat.le_of_ble_eq_true rfl) (Nat.le_of_ble_eq_true rfl) (Nat.le_of_ble_eq_true rfl) dX1_product_138 (fun v197 ev197 => ?_)
          replace hf192 := lt_of hf192 v197 ev197
          obtain ⟨h199, hf200⟩ := chk_of hf192; clear hf192
          refine j_last X h199 dX1_product_141 (fun σ201 eσ201 => ?_)
          replace hf200 := lt_of hf200 σ201 eσ201
          have h203 : isO σ201 1 a0 := by rw [eσ201]; exact h188
          refine j_aload_n X dX1_product_142 4 rfl rfl ?_
          obtain ⟨i204, h205, hf206⟩ := bd_of hf200; clear hf200
          refine j_getr X fd_X1_13 h203 h205 dX1_product_143 ?_
          refine j_iload_n X dX1_product_146 5 rfl rfl ?_
          refine j_lload X dX1_product_147 3 rfl ?_
          refine j_lload X dX1_product_149 1 rfl ?_
          refine j_lmul X dX1_product_151 ?_
          refine j_lload X dX1_product_152 3 rfl ?_
          refine j_lload X dX1_product_154 0 rfl ?_
          refine j_lmul X dX1_product_156 ?_
          refine j_mmax_long X ml_X1_40 (Nat.le_of_ble_eq_true rfl) (Nat.le_of_ble_eq_true rfl) (Nat.le_of_ble_eq_true rfl) (Nat.le_of_ble_eq_true rfl) dX1_product_157 (fun v207 ev207 => ?_)
          replace hf206 := lt_of hf206 v207 ev207
          refine j_lload X dX1_product_160 2 rfl ?_
          refine j_lload X dX1_product_162 1 rfl ?_
          refine j_lmul X dX1_product_164 ?_
          refine j_lload X dX1_product_165 2 rfl ?_
          refine j_lload X dX1_product_167 0 rfl ?_
          refine j_lmul X dX1_product_169 ?_
          refine j_mmax_long X ml_X1_40 (Nat.le_of_ble_eq_true rfl) (Nat.le_of_ble_eq_true rfl) (Nat.le_of_ble_eq_true rfl) (Nat.le_of_ble_eq_true rfl) dX1_product_170 (fun v209 ev209 => ?_)
          replace hf206 := lt_of hf206 v209 ev209
          refine j_mmax_long X ml_X1_40 (Nat.le_of_ble_eq_true rfl) (Nat.le_of_ble_eq_true rfl) (Nat.le_of_ble_eq_true rfl) (Nat.le_of_ble_eq_true rfl) dX1_product_173 (fun v211 ev211 => ?_)
          replace hf206 := lt_of hf206 v211 ev211
          obtain ⟨h213, hf214⟩ := chk_of hf206; clear hf206
          refine j_last X h213 dX1_product_176 (fun σ215 eσ215 => ?_)
          replace hf214 := lt_of hf214 σ215 eσ215
          have h217 : isO σ215 1 a0 := by rw [eσ215]; exact h203
          obtain ⟨er, es⟩ := rt_of hf214
          exact j_retv X hr hlk (Nat.le_of_ble_eq_true rfl) (Nat.le_of_ble_eq_true rfl) rfl es.symm rfl dX1_product_177
        · have hf183 := br_n hf180 c181; clear hf180
          refine j_lload X dX1_product_81 2 rfl ?_
          refine j_lload X dX1_product_83 1 rfl ?_
          obtain ⟨r218, σ219, h220, hf221⟩ := bc_of hf183; clear hf183
          refine j_callS0 X [.long v15, .long v24] [.int a1, .ref (q i35)] (c_X1_productFits l D cs q v15 v24 σ178 _ _ h220) mk_X1_productFits ms_X1_productFits ml_X1_31 ⟨rfl, rfl⟩ ⟨Nat.le_of_ble_eq_true rfl, Nat.le_of_ble_eq_true rfl⟩ rfl (Nat.le_of_ble_eq_true rfl) ⟨Nat.le_of_ble_eq_true rfl, Nat.le_of_ble_eq_true rfl⟩ dX1_product_85 rfl (st' := [.int r218, .int a1, .ref (q i35)]) rfl ?_
          refine j_if_eq X (tgt := 101) dX1_product_88 (by decide) (fun c222 => ?_) (fun c222 => ?_)
          · have hf223 := br_y hf221 c222; clear hf221
            refine j_iconst X (v := 1) dX1_product_101 (by decide) ?_
            refine j_goto X (tgt := 106) dX1_product_102 (by decide) ?_
            obtain ⟨h225, hf226⟩ := chk_of hf223; clear hf223
            refine j_zast X h225 (Or.inr rfl) dX1_product_106 (fun σ227 eσ227 => ?_)
            replace hf226 := lt_of hf226 σ227 eσ227
            refine j_aload_n X dX1_product_107 4 rfl rfl ?_
            obtain ⟨h229, hf230⟩ := chk_of hf226; clear hf226
            obtain ⟨i231, h232, hf233⟩ := bd_of hf230; clear hf230
            refine j_getr X fd_X1_7 h229 h232 dX1_product_108 ?_
            refine j_iload_n X dX1_product_111 5 rfl rfl ?_
            refine j_lload X dX1_product_112 3 rfl ?_
            refine j_lload X dX1_product_114 1 rfl ?_
            refine j_lmul X dX1_product_116 ?_
            refine j_lload X dX1_product_117 3 rfl ?_
            refine j_lload X dX1_product_119 0 rfl ?_
            refine j_lmul X dX1_product_121 ?_
            refine j_mmin_long X ml_X1_34 (Nat.le_of_ble_eq_true rfl) (Nat.le_of_ble_eq_true rfl) (Nat.le_of_ble_eq_true rfl) (Nat.le_of_ble_eq_true rfl) dX1_product_122 (fun v234 ev234 => ?_)
            replace hf233 := lt_of hf233 v234 ev234
            refine j_lload X dX1_product_125 2 rfl ?_
            refine j_lload X dX1_product_127 1 rfl ?_
            refine j_lmul X dX1_product_129 ?_
            refine j_lload X dX1_product_130 2 rfl ?_
            refine j_lload X dX1_product_132 0 rfl ?_
            refine j_lmul X dX1_product_134 ?_
            refine j_mmin_long X ml_X1_34 (Nat.le_of_ble_eq_true rfl) (Nat.le_of_ble_eq_true rfl) (Nat.le_of_ble_eq_true rfl) (Nat.le_of_ble_eq_true rfl) dX1_product_135 (fun v236 ev236 => ?_)
            replace hf233 := lt_of hf233 v236 ev236
            refine j_mmin_long X ml_X1_34 (Nat.le_of_ble_eq_true rfl) (Nat.le_of_ble_eq_true rfl) (Nat.le_of_ble_eq_true rfl) (Nat.le_of_ble_eq_true rfl) dX1_product_138 (fun v238 ev238 => ?_)
            replace hf233 := lt_of hf233 v238 ev238
            obtain ⟨h240, hf241⟩ := chk_of hf233; clear hf233
            refine j_last X h240 dX1_product_141 (fun σ242 eσ242 => ?_)
            replace hf241 := lt_of hf241 σ242 eσ242
            have h244 : isO σ242 1 a0 := by rw [eσ242]; exact h229
            refine j_aload_n X dX1_product_142 4 rfl rfl ?_
            obtain ⟨i245, h246, hf247⟩ := bd_of hf241; clear hf241
            refine j_getr X fd_X1_13 h244 h246 dX1_product_143 ?_
            refine j_iload_n X dX1_product_146 5 rfl rfl ?_
            refine j_lload X dX1_product_147 3 rfl ?_
            refine j_lload X dX1_product_149 1 rfl ?_
            refine j_lmul X dX1_product_151 ?_
            refine j_lload X dX1_product_152 3 rfl ?_
            refine j_lload X dX1_product_154 0 rfl ?_
            refine j_lmul X dX1_product_156 ?_
            refine j_mmax_long X ml_X1_40 (Nat.le_of_ble_eq_true rfl) (Nat.le_of_ble_eq_true rfl) (Nat.le_of_ble_eq_true rfl) (Nat.le_of_ble_eq_true rfl) dX1_product_157 (fun v248 ev248 => ?_)
            replace hf247 := lt_of hf247 v248 ev248
            refine j_lload X dX1_product_160 2 rfl ?_
            refine j_lload X dX1_product_162 1 rfl ?_
            refine j_lmul X dX1_product_164 ?_
            refine j_lload X dX1_product_165 2 rfl ?_
            refine j_lload X dX1_product_167 0 rfl ?_
            refine j_lmul X dX1_product_169 ?_
            refine j_mmax_long X ml_X1_40 (Nat.le_of_ble_eq_true rfl) (Nat.le_of_ble_eq_true rfl) (Nat.le_of_ble_eq_true rfl) (Nat.le_of_ble_eq_true rfl) dX1_product_170 (fun v250 ev250 => ?_)
            replace hf247 := lt_of hf247 v250 ev250
            refine j_mmax_long X ml_X1_40 (Nat.le_of_ble_eq_true rfl) (Nat.le_of_ble_eq_true rfl) (Nat.le_of_ble_eq_true rfl) (Nat.le_of_ble_eq_true rfl) dX1_product_173 (fun v252 ev252 => ?_)
            replace hf247 := lt_of hf247 v252 ev252
            obtain ⟨h254, hf255⟩ := chk_of hf247; clear hf247
            refine j_last X h254 dX1_product_176 (fun σ256 eσ256 => ?_)
            replace hf255 := lt_of hf255 σ256 eσ256
            have h258 : isO σ256 1 a0 := by rw [eσ256]; exact h244
            obtain ⟨er, es⟩ := rt_of hf255
            exact j_retv X hr hlk (Nat.le_of_ble_eq_true rfl) (Nat.le_of_ble_eq_true rfl) rfl es.symm rfl dX1_product_177
          · have hf224 := br_n hf221 c222; clear hf221
            refine j_lload X dX1_product_91 2 rfl ?_
            refine j_lload X dX1_product_93 0 rfl ?_
            obtain ⟨r259, σ260, h261, hf262⟩ := bc_of hf224; clear hf224
            refine j_callS0 X [.long v15, .long v31] [.int a1, .ref (q i35)] (c_X1_productFits l D cs q v15 v31 σ219 _ _ h261) mk_X1_productFits ms_X1_productFits ml_X1_31 ⟨rfl, rfl⟩ ⟨Nat.le_of_ble_eq_true rfl, Nat.le_of_ble_eq_true rfl⟩ rfl (Nat.le_of_ble_eq_true rfl) ⟨Nat.le_of_ble_eq_true rfl, Nat.le_of_ble_eq_true rfl⟩ dX1_product_95 rfl (st' := [.int r259, .int a1, .ref (q i35)]) rfl ?_
            refine j_if_ne X (tgt := 105) dX1_product_98 (by decide) (fun c263 => ?_) (fun c263 => ?_)
            · have hf264 := br_n hf262 c263; clear hf262
              refine j_iconst X (v := 0) dX1_product_105 (by decide) ?_
              obtain ⟨h266, hf267⟩ := chk_of hf264; clear hf264
              refine j_zast X h266 (Or.inl rfl) dX1_product_106 (fun σ268 eσ268 => ?_)
              replace hf267 := lt_of hf267 σ268 eσ268
              refine j_aload_n X dX1_product_107 4 rfl rfl ?_
              obtain ⟨h270, hf271⟩ := chk_of hf267; clear hf267
              obtain ⟨i272, h273, hf274⟩ := bd_of hf271; clear hf271
              refine j_getr X fd_X1_7 h270 h273 dX1_product_108 ?_
              refine j_iload_n X dX1_product_111 5 rfl rfl ?_
              refine j_lload X dX1_product_112 3 rfl ?_
              refine j_lload X dX1_product_114 1 rfl ?_
              refine j_lmul X dX1_product_116 ?_
              refine j_lload X dX1_product_117 3 rfl ?_
              refine j_lload X dX1_product_119 0 rfl ?_
              refine j_lmul X dX1_product_121 ?_
              refine j_mmin_long X ml_X1_34 (Nat.le_of_ble_eq_true rfl) (Nat.le_of_ble_eq_true rfl) (Nat.le_of_ble_eq_true rfl) (Nat.le_of_ble_eq_true rfl) dX1_product_122 (fun v275 ev275 => ?_)
              replace hf274 := lt_of hf274 v275 ev275
              refine j_lload X dX1_product_125 2 rfl ?_
              refine j_lload X dX1_product_127 1 rfl ?_
              refine j_lmul X dX1_product_129 ?_
              refine j_lload X dX1_product_130 2 rfl ?_
              refine j_lload X dX1_product_132 0 rfl ?_
              refine j_lmul X dX1_product_134 ?_
              refine j_mmin_long X ml_X1_34 (Nat.le_of_ble_eq_true rfl) (Nat.le_of_ble_eq_true rfl) (Nat.le_of_ble_eq_true rfl) (Nat.le_of_ble_eq_true rfl) dX1_product_135 (fun v277 ev277 => ?_)
              replace hf274 := lt_of hf274 v277 ev277
              refine j_mmin_long X ml_X1_34 (Nat.le_of_ble_eq_true rfl) (Nat.le_of_ble_eq_true rfl) (Nat.le_of_ble_eq_true rfl) (Nat.le_of_ble_eq_true rfl) dX1_product_138 (fun v279 ev279 => ?_)
              replace hf274 := lt_of hf274 v279 ev279
              obtain ⟨h281, hf282⟩ := chk_of hf274; clear hf274
              refine j_last X h281 dX1_product_141 (fun σ283 eσ283 => ?_)
              replace hf282 := lt_of hf282 σ283 eσ283
              have h285 : isO σ283 1 a0 := by rw [eσ283]; exact h270
              refine j_aload_n X dX1_product_142 4 rfl rfl ?_
              obtain ⟨i286, h287, hf288⟩ := bd_of hf282; clear hf282
              refine j_getr X fd_X1_13 h285 h287 dX1_product_143 ?_
              refine j_iload_n X dX1_product_146 5 rfl rfl ?_
              refine j_lload X dX1_product_147 3 rfl ?_
              refine j_lload X dX1_product_149 1 rfl ?_
              refine j_lmul X dX1_product_151 ?_
              refine j_lload X dX1_product_152 3 rfl ?_
              refine j_lload X dX1_product_154 0 rfl ?_
              refine j_lmul X dX1_product_156 ?_
              refine j_mmax_long X ml_X1_40 (Nat.le_of_ble_eq_true rfl) (Nat.le_of_ble_eq_true rfl) (Nat.le_of_ble_eq_true rfl) (Nat.le_of_ble_eq_true rfl) dX1_product_157 (fun v289 ev289 => ?_)
              replace hf288 := lt_of hf288 v289 ev289
              refine j_lload X dX1_product_160 2 rfl ?_
              refine j_lload X dX1_product_162 1 rfl ?_
              refine j_lmul X dX1_product_164 ?_
              refine j_lload X dX1_product_165 2 rfl ?_
              refine j_lload X dX1_product_167 0 rfl ?_
              refine j_lmul X dX1_product_169 ?_
              refine j_mmax_long X ml_X1_40 (Nat.le_of_ble_eq_true rfl) (Nat.le_of_ble_eq_true rfl) (Nat.le_of_ble_eq_true rfl) (Nat.le_of_ble_eq_true rfl) dX1_product_170 (fun v291 ev291 => ?_)
              replace hf288 := lt_of hf288 v291 ev291
              refine j_mmax_long X ml_X1_40 (Nat.le_of_ble_eq_true rfl) (Nat.le_of_ble_eq_true rfl) (Nat.le_of_ble_eq_true rfl) (Nat.le_of_ble_eq_true rfl) dX1_product_173 (fun v293 ev293 => ?_)
              replace hf288 := lt_of hf288 v293 ev293
              obtain ⟨h295, hf296⟩ := chk_of hf288; clear hf288
              refine j_last X h295 dX1_product_176 (fun σ297 eσ297 => ?_)
              replace hf296 := lt_of hf296 σ297 eσ297
              have h299 : isO σ297 1 a0 := by rw [eσ297]; exact h285
              obtain ⟨er, es⟩ := rt_of hf296
              exact j_retv X hr hlk (Nat.le_of_ble_eq_true rfl) (Nat.le_of_ble_eq_true rfl) rfl es.symm rfl dX1_product_177
            · have hf265 := br_y hf262 c263; clear hf262
              refine j_iconst X (v := 1) dX1_product_101 (by decide) ?_
              refine j_goto X (tgt := 106) dX1_product_102 (by decide) ?_
              obtain ⟨h300, hf301⟩ := chk_of hf265; clear hf265
              refine j_zast X h300 (Or.inr rfl) dX1_product_106 (fun σ302 eσ302 => ?_)
              replace hf301 := lt_of hf301 σ302 eσ302
              refine j_aload_n X dX1_product_107 4 rfl rfl ?_
              obtain ⟨h304, hf305⟩ := chk_of hf301; clear hf301
              obtain ⟨i306, h307, hf308⟩ := bd_of hf305; clear hf305
              refine j_getr X fd_X1_7 h304 h307 dX1_product_108 ?_
              refine j_iload_n X dX1_product_111 5 rfl rfl ?_
              refine j_lload X dX1_product_112 3 rfl ?_
              refine j_lload X dX1_product_114 1 rfl ?_
              refine j_lmul X dX1_product_116 ?_
              refine j_lload X dX1_product_117 3 rfl ?_
              refine j_lload X dX1_product_119 0 rfl ?_
              refine j_lmul X dX1_product_121 ?_
              refine j_mmin_long X ml_X1_34 (Nat.le_of_ble_eq_true rfl) (Nat.le_of_ble_eq_true rfl) (Nat.le_of_ble_eq_true rfl) (Nat.le_of_ble_eq_true rfl) dX1_product_122 (fun v309 ev309 => ?_)
              replace hf308 := lt_of hf308 v309 ev309
              refine j_lload X dX1_product_125 2 rfl ?_
              refine j_lload X dX1_product_127 1 rfl ?_
              refine j_lmul X dX1_product_129 ?_
              refine j_lload X dX1_product_130 2 rfl ?_
              refine j_lload X dX1_product_132 0 rfl ?_
              refine j_lmul X dX1_product_134 ?_
              refine j_mmin_long X ml_X1_34 (Nat.le_of_ble_eq_true rfl) (Nat.le_of_ble_eq_true rfl) (Nat.le_of_ble_eq_true rfl) (Nat.le_of_ble_eq_true rfl) dX1_product_135 (fun v311 ev311 => ?_)
              replace hf308 := lt_of hf308 v311 ev311
              refine j_mmin_long X ml_X1_34 (Nat.le_of_ble_eq_true rfl) (Nat.le_of_ble_eq_true rfl) (Nat.le_of_ble_eq_true rfl) (Nat.le_of_ble_eq_true rfl) dX1_product_138 (fun v313 ev313 => ?_)
              replace hf308 := lt_of hf308 v313 ev313
              obtain ⟨h315, hf316⟩ := chk_of hf308; clear hf308
              refine j_last X h315 dX1_product_141 (fun σ317 eσ317 => ?_)
              replace hf316 := lt_of hf316 σ317 eσ317
              have h319 : isO σ317 1 a0 := by rw [eσ317]; exact h304
              refine j_aload_n X dX1_product_142 4 rfl rfl ?_
              obtain ⟨i320, h321, hf322⟩ := bd_of hf316; clear hf316
              refine j_getr X fd_X1_13 h319 h321 dX1_product_143 ?_
              refine j_iload_n X dX1_product_146 5 rfl rfl ?_
              refine j_lload X dX1_product_147 3 rfl ?_
              refine j_lload X dX1_product_149 1 rfl ?_
              refine j_lmul X dX1_product_151 ?_
              refine j_lload X dX1_product_152 3 rfl ?_
              refine j_lload X dX1_product_154 0 rfl ?_
              refine j_lmul X dX1_product_156 ?_
              refine j_mmax_long X ml_X1_40 (Nat.le_of_ble_eq_true rfl) (Nat.le_of_ble_eq_true rfl) (Nat.le_of_ble_eq_true rfl) (Nat.le_of_ble_eq_true rfl) dX1_product_157 (fun v323 ev323 => ?_)
              replace hf322 := lt_of hf322 v323 ev323
              refine j_lload X dX1_product_160 2 rfl ?_
              refine j_lload X dX1_product_162 1 rfl ?_
              refine j_lmul X dX1_product_164 ?_
              refine j_lload X dX1_product_165 2 rfl ?_
              refine j_lload X dX1_product_167 0 rfl ?_
              refine j_lmul X dX1_product_169 ?_
              refine j_mmax_long X ml_X1_40 (Nat.le_of_ble_eq_true rfl) (Nat.le_of_ble_eq_true rfl) (Nat.le_of_ble_eq_true rfl) (Nat.le_of_ble_eq_true rfl) dX1_product_170 (fun v325 ev325 => ?_)
              replace hf322 := lt_of hf322 v325 ev325
              refine j_mmax_long X ml_X1_40 (Nat.le_of_ble_eq_true rfl) (Nat.le_of_ble_eq_true rfl) (Nat.le_of_ble_eq_true rfl) (Nat.le_of_ble_eq_true rfl) dX1_product_173 (fun v327 ev327 => ?_)
              replace hf322 := lt_of hf322 v327 ev327
              obtain ⟨h329, hf330⟩ := chk_of hf322; clear hf322
              refine j_last X h329 dX1_product_176 (fun σ331 eσ331 => ?_)
              replace hf330 := lt_of hf330 σ331 eσ331
              have h333 : isO σ331 1 a0 := by rw [eσ331]; exact h319
              obtain ⟨er, es⟩ := rt_of hf330
              exact j_retv X hr hlk (Nat.le_of_ble_eq_true rfl) (Nat.le_of_ble_eq_true rfl) rfl es.symm rfl dX1_product_177
def f_X1_sumFits (a0 : Int64) (a2 : Int64) (σ : HS) : Option (Int32 × HS) :=
  (if (lg_cmp a2 (0 : Int64)) < 0 then
  (if (lg_cmp a0 ((-9223372036854775808 : Int64) - a2)) < 0 then
  some ((0 : Int32), σ)
  else
  some ((1 : Int32), σ))
  else
  (if 0 < (lg_cmp a0 ((9223372036854775807 : Int64) - a2)) then
  some ((0 : Int32), σ)
  else
  some ((1 : Int32), σ)))
abbrev rm_X1_sumFits : Room := { frames := 0, cells := 0, slots := 0, locals := 0 }
set_option maxHeartbeats 4000000 in
set_option maxRecDepth 100000 in
theorem c_X1_sumFits (l : Launch) (D : va_G) (cs : Nat → ClassId) (q : Nat → Nat) (a0 : Int64) (a2 : Int64) (σ σ0 : HS) (r0 : Int32) (hf0 : f_X1_sumFits a0 a2 σ = some (r0, σ0)) : MT l yX1_sumFits (Cond.code yX1_sumFits cX1_sumFits 4 (some .boolean) :: lw_g) rm_X1_sumFits D cs q σ σ0 [.long a0, .long a2] (fun z => z = q) (fun _ => some (.int r0)) 0 0 := by
  unfold f_X1_sumFits at hf0
  refine MT_of (cc := cX1_sumFits) (lv0 := [(0, .long a0), (2, .long a2)]) (by decide) (Nat.le_of_ble_eq_true rfl) rfl (fun p e s m args below meth c A X hr hlk hin => ?_)
  refine j_lload_n X dX1_sumFits_0 1 rfl rfl ?_
  refine j_lconst X (v := 0) dX1_sumFits_1 (by decide) ?_
  refine j_lcmp X dX1_sumFits_2 ?_
  refine j_if_lt X (tgt := 24) dX1_sumFits_3 (by decide) (fun c1 => ?_) (fun c1 => ?_)
  · have hf2 := br_y hf0 c1; clear hf0
    refine j_lload_n X dX1_sumFits_24 0 rfl rfl ?_
    refine j_ldc2 X k_X1_22 dX1_sumFits_25 ?_
    refine j_lload_n X dX1_sumFits_28 1 rfl rfl ?_
    refine j_lsub X dX1_sumFits_29 ?_
    refine j_lcmp X dX1_sumFits_30 ?_
    refine j_if_lt X (tgt := 38) dX1_sumFits_31 (by decide) (fun c4 => ?_) (fun c4 => ?_)
    · have hf5 := br_y hf2 c4; clear hf2
      refine j_iconst X (v := 0) dX1_sumFits_38 (by decide) ?_
      obtain ⟨er, es⟩ := rt_of hf5
      subst er
      exact j_retz X hr hlk (Nat.le_of_ble_eq_true rfl) (Nat.le_of_ble_eq_true rfl) rfl es.symm rfl (Or.inl rfl) dX1_sumFits_39
    · have hf6 := br_n hf2 c4; clear hf2
      refine j_iconst X (v := 1) dX1_sumFits_34 (by decide) ?_
      refine j_goto X (tgt := 39) dX1_sumFits_35 (by decide) ?_
      obtain ⟨er, es⟩ := rt_of hf6
      subst er
      exact j_retz X hr hlk (Nat.le_of_ble_eq_true rfl) (Nat.le_of_ble_eq_true rfl) rfl es.symm rfl (Or.inr rfl) dX1_sumFits_39
  · have hf3 := br_n hf0 c1; clear hf0
    refine j_lload_n X dX1_sumFits_6 0 rfl rfl ?_
    refine j_ldc2 X k_X1_43 dX1_sumFits_7 ?_
    refine j_lload_n X dX1_sumFits_10 1 rfl rfl ?_
    refine j_lsub X dX1_sumFits_11 ?_
    refine j_lcmp X dX1_sumFits_12 ?_
    refine j_if_gt X (tgt := 20) dX1_sumFits_13 (by decide) (fun c7 => ?_) (fun c7 => ?_)
    · have hf8 := br_y hf3 c7; clear hf3
      refine j_iconst X (v := 0) dX1_sumFits_20 (by decide) ?_
      refine j_goto X (tgt := 39) dX1_sumFits_21 (by decide) ?_
      obtain ⟨er, es⟩ := rt_of hf8
      subst er
      exact j_retz X hr hlk (Nat.le_of_ble_eq_true rfl) (Nat.le_of_ble_eq_true rfl) rfl es.symm rfl (Or.inl rfl) dX1_sumFits_39
    · have hf9 := br_n hf3 c7; clear hf3
      refine j_iconst X (v := 1) dX1_sumFits_16 (by decide) ?_
      refine j_goto X (tgt := 39) dX1_sumFits_17 (by decide) ?_
      obtain ⟨er, es⟩ := rt_of hf9
      subst er
      exact j_retz X hr hlk (Nat.le_of_ble_eq_true rfl) (Nat.le_of_ble_eq_true rfl) rfl es.symm rfl (Or.inr rfl) dX1_sumFits_39
def f_X1_sum (a0 : Nat) (a1 : Int32) (a2 : Nat) (a3 : Int32) (a4 : Nat) (a5 : Int32) (σ : HS) : Option (Unit × HS) :=
  chk (isO σ 1 a0) (bd (hR σ a0 2) fun i3 =>
  chk (isO σ 1 a2) (bd (hR σ a2 2) fun i8 =>
  chk (isO σ 11 i8 ∧ inb a3 (hlen σ i8)) (lt (hA σ i8 a3.toNatClampNeg) fun v13 =>
  (if v13 = 0 then
  chk (isO σ 1 a4) (bd (hR σ a4 2) fun i76 =>
  chk (isO σ 11 i76 ∧ inb a5 (hlen σ i76)) (lt (hA σ i76 a5.toNatClampNeg) fun v81 =>
  (if v81 = 0 then
  bd (hR σ a2 0) fun i141 =>
  chk (isO σ 12 i141 ∧ inb a3 (hlen σ i141)) (lt (hB σ i141 a3.toNatClampNeg) fun v146 =>
  bd (hR σ a4 0) fun i148 =>
  chk (isO σ 12 i148 ∧ inb a5 (hlen σ i148)) (lt (hB σ i148 a5.toNatClampNeg) fun v153 =>
  bc (f_X1_sumFits v146 v153 σ) fun r155 σ156 =>
  (if r155 = 0 then
  chk (isO σ156 11 i3 ∧ inb a1 (hlen σ156 i3)) (lt (sA σ156 i3 a1.toNatClampNeg (1 : Int32)) fun σ164 =>
  chk (isO σ164 1 a0) (bd (hR σ164 a0 0) fun i168 =>
  chk (isO σ164 1 a2) (bd (hR σ164 a2 0) fun i173 =>
  chk (isO σ164 12 i173 ∧ inb a3 (hlen σ164 i173)) (lt (hB σ164 i173 a3.toNatClampNeg) fun v178 =>
  chk (isO σ164 1 a4) (bd (hR σ164 a4 0) fun i182 =>
  chk (isO σ164 12 i182 ∧ inb a5 (hlen σ164 i182)) (lt (hB σ164 i182 a5.toNatClampNeg) fun v187 =>
  chk (isO σ164 12 i168 ∧ inb a1 (hlen σ164 i168)) (lt (sB σ164 i168 a1.toNatClampNeg (v178 + v187)) fun σ191 =>
  bd (hR σ191 a0 1) fun i196 =>
  bd (hR σ191 a2 1) fun i199 =>
  chk (isO σ191 12 i199 ∧ inb a3 (hlen σ191 i199)) (lt (hB σ191 i199 a3.toNatClampNeg) fun v204 =>
  bd (hR σ191 a4 1) fun i206 =>
  chk (isO σ191 12 i206 ∧ inb a5 (hlen σ191 i206)) (lt (hB σ191 i206 a5.toNatClampNeg) fun v211 =>
  chk (isO σ191 12 i196 ∧ inb a1 (hlen σ191 i196)) (lt (sB σ191 i196 a1.toNatClampNeg (v204 + v211)) fun σ215 =>
  some ((), σ215)))))))))))
  else
  chk (isO σ156 1 a2) (bd (hR σ156 a2 1) fun i222 =>
  chk (isO σ156 12 i222 ∧ inb a3 (hlen σ156 i222)) (lt (hB σ156 i222 a3.toNatClampNeg) fun v227 =>
  chk (isO σ156 1 a4) (bd (hR σ156 a4 1) fun i231 =>
  chk (isO σ156 12 i231 ∧ inb a5 (hlen σ156 i231)) (lt (hB σ156 i231 a5.toNatClampNeg) fun v236 =>
  bc (f_X1_sumFits v227 v236 σ156) fun r238 σ239 =>
  (if r238 = 0 then
  chk (isO σ239 11 i3 ∧ inb a1 (hlen σ239 i3)) (lt (sA σ239 i3 a1.toNatClampNeg (1 : Int32)) fun σ305 =>
  chk (isO σ305 1 a0) (bd (hR σ305 a0 0) fun i309 =>
  chk (isO σ305 1 a2) (bd (hR σ305 a2 0) fun i314 =>
  chk (isO σ305 12 i314 ∧ inb a3 (hlen σ305 i314)) (lt (hB σ305 i314 a3.toNatClampNeg) fun v319 =>
  chk (isO σ305 1 a4) (bd (hR σ305 a4 0) fun i323 =>
  chk (isO σ305 12 i323 ∧ inb a5 (hlen σ305 i323)) (lt (hB σ305 i323 a5.toNatClampNeg) fun v328 =>
  chk (isO σ305 12 i309 ∧ inb a1 (hlen σ305 i309)) (lt (sB σ305 i309 a1.toNatClampNeg (v319 + v328)) fun σ332 =>
  bd (hR σ332 a0 1) fun i337 =>
  bd (hR σ332 a2 1) fun i340 =>
  chk (isO σ332 12 i340 ∧ inb a3 (hlen σ332 i340)) (lt (hB σ332 i340 a3.toNatClampNeg) fun v345 =>
  bd (hR σ332 a4 1) fun i347 =>
  chk (isO σ332 12 i347 ∧ inb a5 (hlen σ332 i347)) (lt (hB σ332 i347 a5.toNatClampNeg) fun v352 =>
  chk (isO σ332 12 i337 ∧ inb a1 (hlen σ332 i337)) (lt (sB σ332 i337 a1.toNatClampNeg (v345 + v352)) fun σ356 =>
  some ((), σ356)))))))))))
  else
  chk (isO σ239 11 i3 ∧ inb a1 (hlen σ239 i3)) (lt (sA σ239 i3 a1.toNatClampNeg (0 : Int32)) fun σ247 =>
  chk (isO σ247 1 a0) (bd (hR σ247 a0 0) fun i251 =>
  chk (isO σ247 1 a2) (bd (hR σ247 a2 0) fun i256 =>
  chk (isO σ247 12 i256 ∧ inb a3 (hlen σ247 i256)) (lt (hB σ247 i256 a3.toNatClampNeg) fun v261 =>
  chk (isO σ247 1 a4) (bd (hR σ247 a4 0) fun i265 =>
  chk (isO σ247 12 i265 ∧ inb a5 (hlen σ247 i265)) (lt (hB σ247 i265 a5.toNatClampNeg) fun v270 =>
  chk (isO σ247 12 i251 ∧ inb a1 (hlen σ247 i251)) (lt (sB σ247 i251 a1.toNatClampNeg (v261 + v270)) fun σ274 =>
  bd (hR σ274 a0 1) fun i279 =>
  bd (hR σ274 a2 1) fun i282 =>
  chk (isO σ274 12 i282 ∧ inb a3 (hlen σ274 i282)) (lt (hB σ274 i282 a3.toNatClampNeg) fun v287 =>
  bd (hR σ274 a4 1) fun i289 =>
  chk (isO σ274 12 i289 ∧ inb a5 (hlen σ274 i289)) (lt (hB σ274 i289 a5.toNatClampNeg) fun v294 =>
  chk (isO σ274 12 i279 ∧ inb a1 (hlen σ274 i279)) (lt (sB σ274 i279 a1.toNatClampNeg (v287 + v294)) fun σ298 =>
  some ((), σ298)))))))))))))))))))
  else
  chk (isO σ 11 i3 ∧ inb a1 (hlen σ i3)) (lt (sA σ i3 a1.toNatClampNeg (1 : Int32)) fun σ88 =>
  bd (hR σ88 a0 0) fun i93 =>
  bd (hR σ88 a2 0) fun i96 =>
  chk (isO σ88 12 i96 ∧ inb a3 (hlen σ88 i96)) (lt (hB σ88 i96 a3.toNatClampNeg) fun v101 =>
  bd (hR σ88 a4 0) fun i103 =>
  chk (isO σ88 12 i103 ∧ inb a5 (hlen σ88 i103)) (lt (hB σ88 i103 a5.toNatClampNeg) fun v108 =>
  chk (isO σ88 12 i93 ∧ inb a1 (hlen σ88 i93)) (lt (sB σ88 i93 a1.toNatClampNeg (v101 + v108)) fun σ112 =>
  bd (hR σ112 a0 1) fun i117 =>
  bd (hR σ112 a2 1) fun i120 =>
  chk (isO σ112 12 i120 ∧ inb a3 (hlen σ112 i120)) (lt (hB σ112 i120 a3.toNatClampNeg) fun v125 =>
  bd (hR σ112 a4 1) fun i127 =>
  chk (isO σ112 12 i127 ∧ inb a5 (hlen σ112 i127)) (lt (hB σ112 i127 a5.toNatClampNeg) fun v132 =>
  chk (isO σ112 12 i117 ∧ inb a1 (hlen σ112 i117)) (lt (sB σ112 i117 a1.toNatClampNeg (v125 + v132)) fun σ136 =>
  some ((), σ136)))))))))))
  else
  chk (isO σ 11 i3 ∧ inb a1 (hlen σ i3)) (lt (sA σ i3 a1.toNatClampNeg (1 : Int32)) fun σ20 =>
  bd (hR σ20 a0 0) fun i24 =>
  bd (hR σ20 a2 0) fun i27 =>
  chk (isO σ20 12 i27 ∧ inb a3 (hlen σ20 i27)) (lt (hB σ20 i27 a3.toNatClampNeg) fun v32 =>
  chk (isO σ20 1 a4) (bd (hR σ20 a4 0) fun i36 =>
  chk (isO σ20 12 i36 ∧ inb a5 (hlen σ20 i36)) (lt (hB σ20 i36 a5.toNatClampNeg) fun v41 =>
  chk (isO σ20 12 i24 ∧ inb a1 (hlen σ20 i24)) (lt (sB σ20 i24 a1.toNatClampNeg (v32 + v41)) fun σ45 =>
  bd (hR σ45 a0 1) fun i50 =>
  bd (hR σ45 a2 1) fun i53 =>
  chk (isO σ45 12 i53 ∧ inb a3 (hlen σ45 i53)) (lt (hB σ45 i53 a3.toNatClampNeg) fun v58 =>
  bd (hR σ45 a4 1) fun i60 =>
  chk (isO σ45 12 i60 ∧ inb a5 (hlen σ45 i60)) (lt (hB σ45 i60 a5.toNatClampNeg) fun v65 =>
  chk (isO σ45 12 i50 ∧ inb a1 (hlen σ45 i50)) (lt (sB σ45 i50 a1.toNatClampNeg (v58 + v65)) fun σ69 =>
  some ((), σ69)))))))))))))
abbrev rm_X1_sum : Room := { frames := 1, cells := 0, slots := 0, locals := 64 }
set_option maxHeartbeats 4000000 in
set_option maxRecDepth 100000 in
theorem c_X1_sum (l : Launch) (D : va_G) (cs : Nat → ClassId) (q : Nat → Nat) (a0 : Nat) (a1 : Int32) (a2 : Nat) (a3 : Int32) (a4 : Nat) (a5 : Int32) (σ σ0 : HS) (r0 : Unit) (hf0 : f_X1_sum a0 a1 a2 a3 a4 a5 σ = some (r0, σ0)) : MT l yX1_sum (Cond.code yX1_sum cX1_sum 6 none :: lw_g) rm_X1_sum D cs q σ σ0 [.ref (q a0), .int a1, .ref (q a2), .int a3, .ref (q a4), .int a5] (fun z => z = q) (fun _ => none) 0 0 := by
  unfold f_X1_sum at hf0
  refine MT_of (cc := cX1_sum) (lv0 := [(0, .ref (q a0)), (1, .int a1), (2, .ref (q a2)), (3, .int a3), (4, .ref (q a4)), (5, .int a5)]) (by decide) (Nat.le_of_ble_eq_true rfl) rfl (fun p e s m args below meth c A X hr hlk hin => ?_)
  refine j_aload_n X dX1_sum_0 0 rfl rfl ?_
  obtain ⟨h1, hf2⟩ := chk_of hf0; clear hf0
  obtain ⟨i3, h4, hf5⟩ := bd_of hf2; clear hf2
  refine j_getr X fd_X1_16 h1 h4 dX1_sum_1 ?_
  refine j_iload_n X dX1_sum_4 1 rfl rfl ?_
  refine j_aload_n X dX1_sum_5 2 rfl rfl ?_
  obtain ⟨h6, hf7⟩ := chk_of hf5; clear hf5
  obtain ⟨i8, h9, hf10⟩ := bd_of hf7; clear hf7
  refine j_getr X fd_X1_16 h6 h9 dX1_sum_6 ?_
  refine j_iload_n X dX1_sum_9 3 rfl rfl ?_
  obtain ⟨h11, hf12⟩ := chk_of hf10; clear hf10
  refine j_zald X h11 dX1_sum_10 (fun v13 ev13 => ?_)
  replace hf12 := lt_of hf12 v13 ev13
  refine j_if_ne X (tgt := 65) dX1_sum_11 (by decide) (fun c15 => ?_) (fun c15 => ?_)
  · have hf16 := br_n hf12 c15; clear hf12
    refine j_iconst X (v := 1) dX1_sum_65 (by decide) ?_
    refine j_goto X (tgt := 70) dX1_sum_66 (by decide) ?_
    obtain ⟨h18, hf19⟩ := chk_of hf16; clear hf16
    refine j_zast X h18 (Or.inr rfl) dX1_sum_70 (fun σ20 eσ20 => ?_)
    replace hf19 := lt_of hf19 σ20 eσ20
    have h22 : isO σ20 1 a0 := by rw [eσ20]; exact h1
    have h23 : isO σ20 1 a2 := by rw [eσ20]; exact h6
    refine j_aload_n X dX1_sum_71 0 rfl rfl ?_
    obtain ⟨i24, h25, hf26⟩ := bd_of hf19; clear hf19
    refine j_getr X fd_X1_7 h22 h25 dX1_sum_72 ?_
    refine j_iload_n X dX1_sum_75 1 rfl rfl ?_
    refine j_aload_n X dX1_sum_76 2 rfl rfl ?_
    obtain ⟨i27, h28, hf29⟩ := bd_of hf26; clear hf26
    refine j_getr X fd_X1_7 h23 h28 dX1_sum_77 ?_
    refine j_iload_n X dX1_sum_80 3 rfl rfl ?_
    obtain ⟨h30, hf31⟩ := chk_of hf29; clear hf29
    refine j_lald X h30 dX1_sum_81 (fun v32 ev32 => ?_)
    replace hf31 := lt_of hf31 v32 ev32
    refine j_aload X dX1_sum_82 4 rfl ?_
    obtain ⟨h34, hf35⟩ := chk_of hf31; clear hf31
    obtain ⟨i36, h37, hf38⟩ := bd_of hf35; clear hf35
    refine j_getr X fd_X1_7 h34 h37 dX1_sum_84 ?_
    refine j_iload X dX1_sum_87 5 rfl ?_
    obtain ⟨h39, hf40⟩ := chk_of hf38; clear hf38
    refine j_lald X h39 dX1_sum_89 (fun v41 ev41 => ?_)
    replace hf40 := lt_of hf40 v41 ev41
    refine j_ladd X dX1_sum_90 ?_
    obtain ⟨h43, hf44⟩ := chk_of hf40; clear hf40
    refine j_last X h43 dX1_sum_91 (fun σ45 eσ45 => ?_)
    replace hf44 := lt_of hf44 σ45 eσ45
    have h47 : isO σ45 1 a0 := by rw [eσ45]; exact h22
    have h48 : isO σ45 1 a2 := by rw [eσ45]; exact h23
    have h49 : isO σ45 1 a4 := by rw [eσ45]; exact h34
    refine j_aload_n X dX1_sum_92 0 rfl rfl ?_
    obtain ⟨i50, h51, hf52⟩ := bd_of hf44; clear hf44
    refine j_getr X fd_X1_13 h47 h51 dX1_sum_93 ?_
    refine j_iload_n X dX1_sum_96 1 rfl rfl ?_
    refine j_aload_n X dX1_sum_97 2 rfl rfl ?_
    obtain ⟨i53, h54, hf55⟩ := bd_of hf52; clear hf52
    refine j_getr X fd_X1_13 h48 h54 dX1_sum_98 ?_
    refine j_iload_n X dX1_sum_101 3 rfl rfl ?_
    obtain ⟨h56, hf57⟩ := chk_of hf55; clear hf55
    refine j_lald X h56 dX1_sum_102 (fun v58 ev58 => ?_)
    replace hf57 := lt_of hf57 v58 ev58
    refine j_aload X dX1_sum_103 4 rfl ?_
    obtain ⟨i60, h61, hf62⟩ := bd_of hf57; clear hf57
    refine j_getr X fd_X1_13 h49 h61 dX1_sum_105 ?_
    refine j_iload X dX1_sum_108 5 rfl ?_
    obtain ⟨h63, hf64⟩ := chk_of hf62; clear hf62
    refine j_lald X h63 dX1_sum_110 (fun v65 ev65 => ?_)
    replace hf64 := lt_of hf64 v65 ev65
    refine j_ladd X dX1_sum_111 ?_
    obtain ⟨h67, hf68⟩ := chk_of hf64; clear hf64
    refine j_last X h67 dX1_sum_112 (fun σ69 eσ69 => ?_)
    replace hf68 := lt_of hf68 σ69 eσ69
    have h71 : isO σ69 1 a0 := by rw [eσ69]; exact h47
    have h72 : isO σ69 1 a2 := by rw [eσ69]; exact h48
    have h73 : isO σ69 1 a4 := by rw [eσ69]; exact h49
    obtain ⟨er, es⟩ := rt_of hf68
    exact j_retv X hr hlk (Nat.le_of_ble_eq_true rfl) (Nat.le_of_ble_eq_true rfl) rfl es.symm rfl dX1_sum_113
  · have hf17 := br_y hf12 c15; clear hf12
    refine j_aload X dX1_sum_14 4 rfl ?_
    obtain ⟨h74, hf75⟩ := chk_of hf17; clear hf17
    obtain ⟨i76, h77, hf78⟩ := bd_of hf75; clear hf75
    refine j_getr X fd_X1_16 h74 h77 dX1_sum_16 ?_
    refine j_iload X dX1_sum_19 5 rfl ?_
    obtain ⟨h79, hf80⟩ := chk_of hf78; clear hf78
    refine j_zald X h79 dX1_sum_21 (fun v81 ev81 => ?_)
    replace hf80 := lt_of hf80 v81 ev81
    refine j_if_ne X (tgt := 65) dX1_sum_22 (by decide) (fun c83 => ?_) (fun c83 => ?_)
    · have hf84 := br_n hf80 c83; clear hf80
      refine j_iconst X (v := 1) dX1_sum_65 (by decide) ?_
      refine j_goto X (tgt := 70) dX1_sum_66 (by decide) ?_
      obtain ⟨h86, hf87⟩ := chk_of hf84; clear hf84
      refine j_zast X h86 (Or.inr rfl) dX1_sum_70 (fun σ88 eσ88 => ?_)
      replace hf87 := lt_of hf87 σ88 eσ88
      have h90 : isO σ88 1 a0 := by rw [eσ88]; exact h1
      have h91 : isO σ88 1 a2 := by rw [eσ88]; exact h6
      have h92 : isO σ88 1 a4 := by rw [eσ88]; exact h74
      refine j_aload_n X dX1_sum_71 0 rfl rfl ?_
      obtain ⟨i93, h94, hf95⟩ := bd_of hf87; clear hf87
      refine j_getr X fd_X1_7 h90 h94 dX1_sum_72 ?_
      refine j_iload_n X dX1_sum_75 1 rfl rfl ?_
      refine j_aload_n X dX1_sum_76 2 rfl rfl ?_
      obtain ⟨i96, h97, hf98⟩ := bd_of hf95; clear hf95
      refine j_getr X fd_X1_7 h91 h97 dX1_sum_77 ?_
      refine j_iload_n X dX1_sum_80 3 rfl rfl ?_
      obtain ⟨h99, hf100⟩ := chk_of hf98; clear hf98
      refine j_lald X h99 dX1_sum_81 (fun v101 ev101 => ?_)
      replace hf100 := lt_of hf100 v101 ev101
      refine j_aload X dX1_sum_82 4 rfl ?_
      obtain ⟨i103, h104, hf105⟩ := bd_of hf100; clear hf100
      refine j_getr X fd_X1_7 h92 h104 dX1_sum_84 ?_
      refine j_iload X dX1_sum_87 5 rfl ?_
      obtain ⟨h106, hf107⟩ := chk_of hf105; clear hf105
      refine j_lald X h106 dX1_sum_89 (fun v108 ev108 => ?_)
      replace hf107 := lt_of hf107 v108 ev108
      refine j_ladd X dX1_sum_90 ?_
      obtain ⟨h110, hf111⟩ := chk_of hf107; clear hf107
      refine j_last X h110 dX1_sum_91 (fun σ112 eσ112 => ?_)
      replace hf111 := lt_of hf111 σ112 eσ112
      have h114 : isO σ112 1 a0 := by rw [eσ112]; exact h90
      have h115 : isO σ112 1 a2 := by rw [eσ112]; exact h91
      have h116 : isO σ112 1 a4 := by rw [eσ112]; exact h92
      refine j_aload_n X dX1_sum_92 0 rfl rfl ?_
      obtain ⟨i117, h118, hf119⟩ := bd_of hf111; clear hf111
      refine j_getr X fd_X1_13 h114 h118 dX1_sum_93 ?_
      refine j_iload_n X dX1_sum_96 1 rfl rfl ?_
      refine j_aload_n X dX1_sum_97 2 rfl rfl ?_
      obtain ⟨i120, h121, hf122⟩ := bd_of hf119; clear hf119
      refine j_getr X fd_X1_13 h115 h121 dX1_sum_98 ?_
      refine j_iload_n X dX1_sum_101 3 rfl rfl ?_
      obtain ⟨h123, hf124⟩ := chk_of hf122; clear hf122
      refine j_lald X h123 dX1_sum_102 (fun v125 ev125 => ?_)
      replace hf124 := lt_of hf124 v125 ev125
      refine j_aload X dX1_sum_103 4 rfl ?_
      obtain ⟨i127, h128, hf129⟩ := bd_of hf124; clear hf124
      refine j_getr X fd_X1_13 h116 h128 dX1_sum_105 ?_
      refine j_iload X dX1_sum_108 5 rfl ?_
      obtain ⟨h130, hf131⟩ := chk_of hf129; clear hf129
      refine j_lald X h130 dX1_sum_110 (fun v132 ev132 => ?_)
      replace hf131 := lt_of hf131 v132 ev132
      refine j_ladd X dX1_sum_111 ?_
      obtain ⟨h134, hf135⟩ := chk_of hf131; clear hf131
      refine j_last X h134 dX1_sum_112 (fun σ136 eσ136 => ?_)
      replace hf135 := lt_of hf135 σ136 eσ136
      have h138 : isO σ136 1 a0 := by rw [eσ136]; exact h114
      have h139 : isO σ136 1 a2 := by rw [eσ136]; exact h115
      have h140 : isO σ136 1 a4 := by rw [eσ136]; exact h116
      obtain ⟨er, es⟩ := rt_of hf135
      exact j_retv X hr hlk (Nat.le_of_ble_eq_true rfl) (Nat.le_of_ble_eq_true rfl) rfl es.symm rfl dX1_sum_113
    · have hf85 := br_y hf80 c83; clear hf80
      refine j_aload_n X dX1_sum_25 2 rfl rfl ?_
      obtain ⟨i141, h142, hf143⟩ := bd_of hf85; clear hf85
      refine j_getr X fd_X1_7 h6 h142 dX1_sum_26 ?_
      refine j_iload_n X dX1_sum_29 3 rfl rfl ?_
      obtain ⟨h144, hf145⟩ := chk_of hf143; clear hf143
      refine j_lald X h144 dX1_sum_30 (fun v146 ev146 => ?_)
      replace hf145 := lt_of hf145 v146 ev146
      refine j_aload X dX1_sum_31 4 rfl ?_
      obtain ⟨i148, h149, hf150⟩ := bd_of hf145; clear hf145
      refine j_getr X fd_X1_7 h74 h149 dX1_sum_33 ?_
      refine j_iload X dX1_sum_36 5 rfl ?_
      obtain ⟨h151, hf152⟩ := chk_of hf150; clear hf150
      refine j_lald X h151 dX1_sum_38 (fun v153 ev153 => ?_)
      replace hf152 := lt_of hf152 v153 ev153
      obtain ⟨r155, σ156, h157, hf158⟩ := bc_of hf152; clear hf152
      refine j_callS0 X [.long v146, .long v153] [.int a1, .ref (q i3)] (c_X1_sumFits l D cs q v146 v153 σ _ _ h157) mk_X1_sumFits ms_X1_sumFits ml_X1_24 ⟨rfl, rfl⟩ ⟨Nat.le_of_ble_eq_true rfl, Nat.le_of_ble_eq_true rfl⟩ rfl (Nat.le_of_ble_eq_true rfl) ⟨Nat.le_of_ble_eq_true rfl, Nat.le_of_ble_eq_true rfl⟩ dX1_sum_39 rfl (st' := [.int r155, .int a1, .ref (q i3)]) rfl ?_
      refine j_if_eq X (tgt := 65) dX1_sum_42 (by decide) (fun c159 => ?_) (fun c159 => ?_)
      · have hf160 := br_y hf158 c159; clear hf158
        refine j_iconst X (v := 1) dX1_sum_65 (by decide) ?_
        refine j_goto X (tgt := 70) dX1_sum_66 (by decide) ?_
        obtain ⟨h162, hf163⟩ := chk_of hf160; clear hf160
        refine j_zast X h162 (Or.inr rfl) dX1_sum_70 (fun σ164 eσ164 => ?_)
        replace hf163 := lt_of hf163 σ164 eσ164
        refine j_aload_n X dX1_sum_71 0 rfl rfl ?_
        obtain ⟨h166, hf167⟩ := chk_of hf163; clear hf163
        obtain ⟨i168, h169, hf170⟩ := bd_of hf167; clear hf167
        refine j_getr X fd_X1_7 h166 h169 dX1_sum_72 ?_
        refine j_iload_n X dX1_sum_75 1 rfl rfl ?_
        refine j_aload_n X dX1_sum_76 2 rfl rfl ?_
        obtain ⟨h171, hf172⟩ := chk_of hf170; clear hf170
        obtain ⟨i173, h174, hf175⟩ := bd_of hf172; clear hf172
        refine j_getr X fd_X1_7 h171 h174 dX1_sum_77 ?_
        refine j_iload_n X dX1_sum_80 3 rfl rfl ?_
        obtain ⟨h176, hf177⟩ := chk_of hf175; clear hf175
        refine j_lald X h176 dX1_sum_81 (fun v178 ev178 => ?_)
        replace hf177 := lt_of hf177 v178 ev178
        refine j_aload X dX1_sum_82 4 rfl ?_
        obtain ⟨h180, hf181⟩ := chk_of hf177; clear hf177
        obtain ⟨i182, h183, hf184⟩ := bd_of hf181; clear hf181
        refine j_getr X fd_X1_7 h180 h183 dX1_sum_84 ?_
        refine j_iload X dX1_sum_87 5 rfl ?_
        obtain ⟨h185, hf186⟩ := chk_of hf184; clear hf184
        refine j_lald X h185 dX1_sum_89 (fun v187 ev187 => ?_)
        replace hf186 := lt_of hf186 v187 ev187
        refine j_ladd X dX1_sum_90 ?_
        obtain ⟨h189, hf190⟩ := chk_of hf186; clear hf186
        refine j_last X h189 dX1_sum_91 (fun σ191 eσ191 => ?_)
        replace hf190 := lt_of hf190 σ191 eσ191
        have h193 : isO σ191 1 a0 := by rw [eσ191]; exact h166
        have h194 : isO σ191 1 a2 := by rw [eσ191]; exact h171
        have h195 : isO σ191 1 a4 := by rw [eσ191]; exact h180
        refine j_aload_n X dX1_sum_92 0 rfl rfl ?_
        obtain ⟨i196, h197, hf198⟩ := bd_of hf190; clear hf190
        refine j_getr X fd_X1_13 h193 h197 dX1_sum_93 ?_
        refine j_iload_n X dX1_sum_96 1 rfl rfl ?_
        refine j_aload_n X dX1_sum_97 2 rfl rfl ?_
        obtain ⟨i199, h200, hf201⟩ := bd_of hf198; clear hf198
        refine j_getr X fd_X1_13 h194 h200 dX1_sum_98 ?_
        refine j_iload_n X dX1_sum_101 3 rfl rfl ?_
        obtain ⟨h202, hf203⟩ := chk_of hf201; clear hf201
        refine j_lald X h202 dX1_sum_102 (fun v204 ev204 => ?_)
        replace hf203 := lt_of hf203 v204 ev204
        refine j_aload X dX1_sum_103 4 rfl ?_
        obtain ⟨i206, h207, hf208⟩ := bd_of hf203; clear hf203
        refine j_getr X fd_X1_13 h195 h207 dX1_sum_105 ?_
        refine j_iload X dX1_sum_108 5 rfl ?_
        obtain ⟨h209, hf210⟩ := chk_of hf208; clear hf208
        refine j_lald X h209 dX1_sum_110 (fun v211 ev211 => ?_)
        replace hf210 := lt_of hf210 v211 ev211
        refine j_ladd X dX1_sum_111 ?_
        obtain ⟨h213, hf214⟩ := chk_of hf210; clear hf210
        refine j_last X h213 dX1_sum_112 (fun σ215 eσ215 => ?_)
        replace hf214 := lt_of hf214 σ215 eσ215
        have h217 : isO σ215 1 a0 := by rw [eσ215]; exact h193
        have h218 : isO σ215 1 a2 := by rw [eσ215]; exact h194
        have h219 : isO σ215 1 a4 := by rw [eσ215]; exact h195
        obtain ⟨er, es⟩ := rt_of hf214
        exact j_retv X hr hlk (Nat.le_of_ble_eq_true rfl) (Nat.le_of_ble_eq_true rfl) rfl es.symm rfl dX1_sum_113
      · have hf161 := br_n hf158 c159; clear hf158
        refine j_aload_n X dX1_sum_45 2 rfl rfl ?_
        obtain ⟨h220, hf221⟩ := chk_of hf161; clear hf161
        obtain ⟨i222, h223, hf224⟩ := bd_of hf221; clear hf221
        refine j_getr X fd_X1_13 h220 h223 dX1_sum_46 ?_
        refine j_iload_n X dX1_sum_49 3 rfl rfl ?_
        obtain ⟨h225, hf226⟩ := chk_of hf224; clear hf224
        refine j_lald X h225 dX1_sum_50 (fun v227 ev227 => ?_)
        replace hf226 := lt_of hf226 v227 ev227
        refine j_aload X dX1_sum_51 4 rfl ?_
        obtain ⟨h229, hf230⟩ := chk_of hf226; clear hf226
        obtain ⟨i231, h232, hf233⟩ := bd_of hf230; clear hf230
        refine j_getr X fd_X1_13 h229 h232 dX1_sum_53 ?_
        refine j_iload X dX1_sum_56 5 rfl ?_
        obtain ⟨h234, hf235⟩ := chk_of hf233; clear hf233
        refine j_lald X h234 dX1_sum_58 (fun v236 ev236 => ?_)
        replace hf235 := lt_of hf235 v236 ev236
        obtain ⟨r238, σ239, h240, hf241⟩ := bc_of hf235; clear hf235
        refine j_callS0 X [.long v227, .long v236] [.int a1, .ref (q i3)] (c_X1_sumFits l D cs q v227 v236 σ156 _ _ h240) mk_X1_sumFits ms_X1_sumFits ml_X1_24 ⟨rfl, rfl⟩ ⟨Nat.le_of_ble_eq_true rfl, Nat.le_of_ble_eq_true rfl⟩ rfl (Nat.le_of_ble_eq_true rfl) ⟨Nat.le_of_ble_eq_true rfl, Nat.le_of_ble_eq_true rfl⟩ dX1_sum_59 rfl (st' := [.int r238, .int a1, .ref (q i3)]) rfl ?_
        refine j_if_ne X (tgt := 69) dX1_sum_62 (by decide) (fun c242 => ?_) (fun c242 => ?_)
        · have hf243 := br_n hf241 c242; clear hf241
          refine j_iconst X (v := 0) dX1_sum_69 (by decide) ?_
          obtain ⟨h245, hf246⟩ := chk_of hf243; clear hf243
          refine j_zast X h245 (Or.inl rfl) dX1_sum_70 (fun σ247 eσ247 => ?_)
          replace hf246 := lt_of hf246 σ247 eσ247
          refine j_aload_n X dX1_sum_71 0 rfl rfl ?_
          obtain ⟨h249, hf250⟩ := chk_of hf246; clear hf246
          obtain ⟨i251, h252, hf253⟩ := bd_of hf250; clear hf250
          refine j_getr X fd_X1_7 h249 h252 dX1_sum_72 ?_
          refine j_iload_n X dX1_sum_75 1 rfl rfl ?_
          refine j_aload_n X dX1_sum_76 2 rfl rfl ?_
          obtain ⟨h254, hf255⟩ := chk_of hf253; clear hf253
          obtain ⟨i256, h257, hf258⟩ := bd_of hf255; clear hf255
          refine j_getr X fd_X1_7 h254 h257 dX1_sum_77 ?_
          refine j_iload_n X dX1_sum_80 3 rfl rfl ?_
          obtain ⟨h259, hf260⟩ := chk_of hf258; clear hf258
          refine j_lald X h259 dX1_sum_81 (fun v261 ev261 => ?_)
          replace hf260 := lt_of hf260 v261 ev261
          refine j_aload X dX1_sum_82 4 rfl ?_
          obtain ⟨h263, hf264⟩ := chk_of hf260; clear hf260
          obtain ⟨i265, h266, hf267⟩ := bd_of hf264; clear hf264
          refine j_getr X fd_X1_7 h263 h266 dX1_sum_84 ?_
          refine j_iload X dX1_sum_87 5 rfl ?_
          obtain ⟨h268, hf269⟩ := chk_of hf267; clear hf267
          refine j_lald X h268 dX1_sum_89 (fun v270 ev270 => ?_)
          replace hf269 := lt_of hf269 v270 ev270
          refine j_ladd X dX1_sum_90 ?_
          obtain ⟨h272, hf273⟩ := chk_of hf269; clear hf269
          refine j_last X h272 dX1_sum_91 (fun σ274 eσ274 => ?_)
          replace hf273 := lt_of hf273 σ274 eσ274
          have h276 : isO σ274 1 a0 := by rw [eσ274]; exact h249
          have h277 : isO σ274 1 a2 := by rw [eσ274]; exact h254
          have h278 : isO σ274 1 a4 := by rw [eσ274]; exact h263
          refine j_aload_n X dX1_sum_92 0 rfl rfl ?_
          obtain ⟨i279, h280, hf281⟩ := bd_of hf273; clear hf273
          refine j_getr X fd_X1_13 h276 h280 dX1_sum_93 ?_
          refine j_iload_n X dX1_sum_96 1 rfl rfl ?_
          refine j_aload_n X dX1_sum_97 2 rfl rfl ?_
          obtain ⟨i282, h283, hf284⟩ := bd_of hf281; clear hf281
          refine j_getr X fd_X1_13 h277 h283 dX1_sum_98 ?_
          refine j_iload_n X dX1_sum_101 3 rfl rfl ?_
          obtain ⟨h285, hf286⟩ := chk_of hf284; clear hf284
          refine j_lald X h285 dX1_sum_102 (fun v287 ev287 => ?_)
          replace hf286 := lt_of hf286 v287 ev287
          refine j_aload X dX1_sum_103 4 rfl ?_
          obtain ⟨i289, h290, hf291⟩ := bd_of hf286; clear hf286
          refine j_getr X fd_X1_13 h278 h290 dX1_sum_105 ?_
          refine j_iload X dX1_sum_108 5 rfl ?_
          obtain ⟨h292, hf293⟩ := chk_of hf291; clear hf291
          refine j_lald X h292 dX1_sum_110 (fun v294 ev294 => ?_)
          replace hf293 := lt_of hf293 v294 ev294
          refine j_ladd X dX1_sum_111 ?_
          obtain ⟨h296, hf297⟩ := chk_of hf293; clear hf293
          refine j_last X h296 dX1_sum_112 (fun σ298 eσ298 => ?_)
          replace hf297 := lt_of hf297 σ298 eσ298
          have h300 : isO σ298 1 a0 := by rw [eσ298]; exact h276
          have h301 : isO σ298 1 a2 := by rw [eσ298]; exact h277
          have h302 : isO σ298 1 a4 := by rw [eσ298]; exact h278
          obtain ⟨er, es⟩ := rt_of hf297
          exact j_retv X hr hlk (Nat.le_of_ble_eq_true rfl) (Nat.le_of_ble_eq_true rfl) rfl es.symm rfl dX1_sum_113
        · have hf244 := br_y hf241 c242; clear hf241
          refine j_iconst X (v := 1) dX1_sum_65 (by decide) ?_
          refine j_goto X (tgt := 70) dX1_sum_66 (by decide) ?_
          obtain ⟨h303, hf304⟩ := chk_of hf244; clear hf244
          refine j_zast X h303 (Or.inr rfl) dX1_sum_70 (fun σ305 eσ305 => ?_)
          replace hf304 := lt_of hf304 σ305 eσ305
          refine j_aload_n X dX1_sum_71 0 rfl rfl ?_
          obtain ⟨h307, hf308⟩ := chk_of hf304; clear hf304
          obtain ⟨i309, h310, hf311⟩ := bd_of hf308; clear hf308
          refine j_getr X fd_X1_7 h307 h310 dX1_sum_72 ?_
          refine j_iload_n X dX1_sum_75 1 rfl rfl ?_
          refine j_aload_n X dX1_sum_76 2 rfl rfl ?_
          obtain ⟨h312, hf313⟩ := chk_of hf311; clear hf311
          obtain ⟨i314, h315, hf316⟩ := bd_of hf313; clear hf313
          refine j_getr X fd_X1_7 h312 h315 dX1_sum_77 ?_
          refine j_iload_n X dX1_sum_80 3 rfl rfl ?_
          obtain ⟨h317, hf318⟩ := chk_of hf316; clear hf316
          refine j_lald X h317 dX1_sum_81 (fun v319 ev319 => ?_)
          replace hf318 := lt_of hf318 v319 ev319
          refine j_aload X dX1_sum_82 4 rfl ?_
          obtain ⟨h321, hf322⟩ := chk_of hf318; clear hf318
          obtain ⟨i323, h324, hf325⟩ := bd_of hf322; clear hf322
          refine j_getr X fd_X1_7 h321 h324 dX1_sum_84 ?_
          refine j_iload X dX1_sum_87 5 rfl ?_
          obtain ⟨h326, hf327⟩ := chk_of hf325; clear hf325
          refine j_lald X h326 dX1_sum_89 (fun v328 ev328 => ?_)
          replace hf327 := lt_of hf327 v328 ev328
          refine j_ladd X dX1_sum_90 ?_
          obtain ⟨h330, hf331⟩ := chk_of hf327; clear hf327
          refine j_last X h330 dX1_sum_91 (fun σ332 eσ332 => ?_)
          replace hf331 := lt_of hf331 σ332 eσ332
          have h334 : isO σ332 1 a0 := by rw [eσ332]; exact h307
          have h335 : isO σ332 1 a2 := by rw [eσ332]; exact h312
          have h336 : isO σ332 1 a4 := by rw [eσ332]; exact h321
          refine j_aload_n X dX1_sum_92 0 rfl rfl ?_
          obtain ⟨i337, h338, hf339⟩ := bd_of hf331; clear hf331
          refine j_getr X fd_X1_13 h334 h338 dX1_sum_93 ?_
          refine j_iload_n X dX1_sum_96 1 rfl rfl ?_
          refine j_aload_n X dX1_sum_97 2 rfl rfl ?_
          obtain ⟨i340, h341, hf342⟩ := bd_of hf339; clear hf339
          refine j_getr X fd_X1_13 h335 h341 dX1_sum_98 ?_
          refine j_iload_n X dX1_sum_101 3 rfl rfl ?_
          obtain ⟨h343, hf344⟩ := chk_of hf342; clear hf342
          refine j_lald X h343 dX1_sum_102 (fun v345 ev345 => ?_)
          replace hf344 := lt_of hf344 v345 ev345
          refine j_aload X dX1_sum_103 4 rfl ?_
          obtain ⟨i347, h348, hf349⟩ := bd_of hf344; clear hf344
          refine j_getr X fd_X1_13 h336 h348 dX1_sum_105 ?_
          refine j_iload X dX1_sum_108 5 rfl ?_
          obtain ⟨h350, hf351⟩ := chk_of hf349; clear hf349
          refine j_lald X h350 dX1_sum_110 (fun v352 ev352 => ?_)
          replace hf351 := lt_of hf351 v352 ev352
          refine j_ladd X dX1_sum_111 ?_
          obtain ⟨h354, hf355⟩ := chk_of hf351; clear hf351
          refine j_last X h354 dX1_sum_112 (fun σ356 eσ356 => ?_)
          replace hf355 := lt_of hf355 σ356 eσ356
          have h358 : isO σ356 1 a0 := by rw [eσ356]; exact h334
          have h359 : isO σ356 1 a2 := by rw [eσ356]; exact h335
          have h360 : isO σ356 1 a4 := by rw [eσ356]; exact h336
          obtain ⟨er, es⟩ := rt_of hf355
          exact j_retv X hr hlk (Nat.le_of_ble_eq_true rfl) (Nat.le_of_ble_eq_true rfl) rfl es.symm rfl dX1_sum_113
def lp_X2_becomeLike_47_b  (K47 : Nat → Nat → Int32 → HS → Option (Unit × HS)) (x0 : Nat) (x1 : Nat) (x2 : Int32) (τ : HS) : Option (Unit × HS) :=
  (if (6 : Int32) ≤ x2 then
  chk (isO τ 2 x1) (lt (hA τ x1 4) fun v48 =>
  chk (isO τ 2 x0) (lt (sA τ x0 4 v48) fun σ52 =>
  bd (hR σ52 x1 5) fun i56 =>
  bd (hR σ52 x0 5) fun i59 =>
  chk ((isO σ52 10 i56 ∧ isO σ52 10 i59) ∧ ((¬ (0 : Int32) < 0 ∧ ¬ (0 : Int32) < 0 ∧ ¬ (8 : Int32) < 0) ∧ (((0 : Int32)).toNatClampNeg + ((8 : Int32)).toNatClampNeg ≤ hlen σ52 i56 ∧ ((0 : Int32)).toNatClampNeg + ((8 : Int32)).toNatClampNeg ≤ hlen σ52 i59))) (lt (rA σ52 i59 (va_cpy (hA σ52 i56) (hA σ52 i59) ((0 : Int32)).toNatClampNeg ((0 : Int32)).toNatClampNeg ((8 : Int32)).toNatClampNeg)) fun σ64 =>
  bd (hR σ64 x1 6) fun i68 =>
  bd (hR σ64 x0 6) fun i71 =>
  chk ((isO σ64 10 i68 ∧ isO σ64 10 i71) ∧ ((¬ (0 : Int32) < 0 ∧ ¬ (0 : Int32) < 0 ∧ ¬ (8 : Int32) < 0) ∧ (((0 : Int32)).toNatClampNeg + ((8 : Int32)).toNatClampNeg ≤ hlen σ64 i68 ∧ ((0 : Int32)).toNatClampNeg + ((8 : Int32)).toNatClampNeg ≤ hlen σ64 i71))) (lt (rA σ64 i71 (va_cpy (hA σ64 i68) (hA σ64 i71) ((0 : Int32)).toNatClampNeg ((0 : Int32)).toNatClampNeg ((8 : Int32)).toNatClampNeg)) fun σ76 =>
  bd (hR σ76 x1 7) fun i80 =>
  bd (hR σ76 x0 7) fun i83 =>
  chk ((isO σ76 10 i80 ∧ isO σ76 10 i83) ∧ ((¬ (0 : Int32) < 0 ∧ ¬ (0 : Int32) < 0 ∧ ¬ (8 : Int32) < 0) ∧ (((0 : Int32)).toNatClampNeg + ((8 : Int32)).toNatClampNeg ≤ hlen σ76 i80 ∧ ((0 : Int32)).toNatClampNeg + ((8 : Int32)).toNatClampNeg ≤ hlen σ76 i83))) (lt (rA σ76 i83 (va_cpy (hA σ76 i80) (hA σ76 i83) ((0 : Int32)).toNatClampNeg ((0 : Int32)).toNatClampNeg ((8 : Int32)).toNatClampNeg)) fun σ88 =>
  lt (hA σ88 x1 8) fun v92 =>
  lt (sA σ88 x0 8 v92) fun σ94 =>
  some ((), σ94))))))
  else
  chk (isO τ 2 x0) (bd (hR τ x0 3) fun i100 =>
  chk (isO τ 2 x1) (bd (hR τ x1 3) fun i105 =>
  chk (isO τ 13 i105 ∧ inb x2 (hlen τ i105)) (lt (hR τ i105 x2.toNatClampNeg) fun o110 =>
  chk (isO τ 13 i100 ∧ inb x2 (hlen τ i100)) (chk (okF τ o110 = true) (lt (sR τ i100 x2.toNatClampNeg o110) fun σ116 =>
  lt (x2 + (1 : Int32)) fun v120 =>
  K47 x0 x1 v120 σ116))))))
def lp_X2_becomeLike_47  : Nat → Nat → Nat → Int32 → HS → Option (Unit × HS)
  | 0 => fun _ _ _ _ => none
  | n + 1 => lp_X2_becomeLike_47_b  (lp_X2_becomeLike_47  n)
def f_X2_becomeLike (a0 : Nat) (a1 : Nat) (σ : HS) : Option (Unit × HS) :=
  chk (isO σ 2 a1) (bd (hR σ a1 0) fun i3 =>
  chk (isO σ 2 a0) (bd (hR σ a0 0) fun i8 =>
  chk ((isO σ 10 i3 ∧ isO σ 10 i8) ∧ ((¬ (0 : Int32) < 0 ∧ ¬ (0 : Int32) < 0 ∧ ¬ (6 : Int32) < 0) ∧ (((0 : Int32)).toNatClampNeg + ((6 : Int32)).toNatClampNeg ≤ hlen σ i3 ∧ ((0 : Int32)).toNatClampNeg + ((6 : Int32)).toNatClampNeg ≤ hlen σ i8))) (lt (rA σ i8 (va_cpy (hA σ i3) (hA σ i8) ((0 : Int32)).toNatClampNeg ((0 : Int32)).toNatClampNeg ((6 : Int32)).toNatClampNeg)) fun σ13 =>
  bd (hR σ13 a1 1) fun i17 =>
  bd (hR σ13 a0 1) fun i20 =>
  chk ((isO σ13 10 i17 ∧ isO σ13 10 i20) ∧ ((¬ (0 : Int32) < 0 ∧ ¬ (0 : Int32) < 0 ∧ ¬ (6 : Int32) < 0) ∧ (((0 : Int32)).toNatClampNeg + ((6 : Int32)).toNatClampNeg ≤ hlen σ13 i17 ∧ ((0 : Int32)).toNatClampNeg + ((6 : Int32)).toNatClampNeg ≤ hlen σ13 i20))) (lt (rA σ13 i20 (va_cpy (hA σ13 i17) (hA σ13 i20) ((0 : Int32)).toNatClampNeg ((0 : Int32)).toNatClampNeg ((6 : Int32)).toNatClampNeg)) fun σ25 =>
  bd (hR σ25 a1 2) fun i29 =>
  bd (hR σ25 a0 2) fun i32 =>
  chk ((isO σ25 10 i29 ∧ isO σ25 10 i32) ∧ ((¬ (0 : Int32) < 0 ∧ ¬ (0 : Int32) < 0 ∧ ¬ (6 : Int32) < 0) ∧ (((0 : Int32)).toNatClampNeg + ((6 : Int32)).toNatClampNeg ≤ hlen σ25 i29 ∧ ((0 : Int32)).toNatClampNeg + ((6 : Int32)).toNatClampNeg ≤ hlen σ25 i32))) (lt (rA σ25 i32 (va_cpy (hA σ25 i29) (hA σ25 i32) ((0 : Int32)).toNatClampNeg ((0 : Int32)).toNatClampNeg ((6 : Int32)).toNatClampNeg)) fun σ37 =>
  lt ((0 : Int32)) fun v41 =>
  lp_X2_becomeLike_47  1000 a0 a1 v41 σ37)))))
abbrev rm_X2_becomeLike : Room := { frames := 1, cells := 0, slots := 0, locals := 64 }
set_option maxHeartbeats 4000000 in
set_option maxRecDepth 100000 in
theorem c_X2_becomeLike (l : Launch) (D : va_G) (cs : Nat → ClassId) (q : Nat → Nat) (a0 : Nat) (a1 : Nat) (σ σ0 : HS) (r0 : Unit) (hf0 : f_X2_becomeLike a0 a1 σ = some (r0, σ0)) : MT l yX2_becomeLike (Cond.code yX2_becomeLike cX2_becomeLike 3 none :: lw_g) rm_X2_becomeLike D cs q σ σ0 [.ref (q a0), .ref (q a1)] (fun z => z = q) (fun _ => none) 0 0 := by
  unfold f_X2_becomeLike at hf0
  refine MT_of (cc := cX2_becomeLike) (lv0 := [(0, .ref (q a0)), (1, .ref (q a1))]) (by decide) (Nat.le_of_ble_eq_true rfl) rfl (fun p e s m args below meth c A X hr hlk hin => ?_)
  have L47 : ∀ (nk : Nat) (x0 : Nat) (x1 : Nat) (x2 : Int32) (τ : HS), lp_X2_becomeLike_47  nk x0 x1 x2 τ = some (r0, σ0) → J p l e rm_X2_becomeLike s m args below meth c 3 D cs A s.heap 0 0 (MQ below (hQ D cs (fun z => z = q) (fun _ => none) σ0 A) args s 0 0 A) q τ [(0, .ref (q x0)), (1, .ref (q x1)), (2, .int x2)] 47 [] := by
    intro nk
    induction nk with
    | zero => intro x0 x1 x2 τ hf0; have hf1 : (none : Option (Unit × HS)) = some (r0, σ0) := hf0; cases hf1
    | succ nk ih =>
      intro x0 x1 x2 τ hf0
      replace hf0 : lp_X2_becomeLike_47_b  (lp_X2_becomeLike_47  nk) x0 x1 x2 τ = some (r0, σ0) := hf0
      unfold lp_X2_becomeLike_47_b at hf0
      refine j_iload_n X dX2_becomeLike_47 2 rfl rfl ?_
      refine j_bipush X (v := 6) dX2_becomeLike_48 (by decide) ?_
      refine j_icmp_ge X (tgt := 71) dX2_becomeLike_50 (by decide) (fun c43 => ?_) (fun c43 => ?_)
      · have hf44 := br_y hf0 c43; clear hf0
        refine j_aload_n X dX2_becomeLike_71 0 rfl rfl ?_
        refine j_aload_n X dX2_becomeLike_72 1 rfl rfl ?_
        obtain ⟨h46, hf47⟩ := chk_of hf44; clear hf44
        refine j_geti X fd_X2_27 h46 dX2_becomeLike_73 (fun v48 ev48 => ?_)
        replace hf47 := lt_of hf47 v48 ev48
        obtain ⟨h50, hf51⟩ := chk_of hf47; clear hf47
        refine j_puti X fp_X2_27 h50 dX2_becomeLike_76 (fun σ52 eσ52 => ?_)
        replace hf51 := lt_of hf51 σ52 eσ52
        have h54 : isO σ52 2 x1 := by rw [eσ52]; exact h46
        have h55 : isO σ52 2 x0 := by rw [eσ52]; exact h50
        refine j_aload_n X dX2_becomeLike_79 1 rfl rfl ?_
        obtain ⟨i56, h57, hf58⟩ := bd_of hf51; clear hf51
        refine j_getr X fd_X2_31 h54 h57 dX2_becomeLike_80 ?_
        refine j_iconst X (v := 0) dX2_becomeLike_83 (by decide) ?_
        refine j_aload_n X dX2_becomeLike_84 0 rfl rfl ?_
        obtain ⟨i59, h60, hf61⟩ := bd_of hf58; clear hf58
        refine j_getr X fd_X2_31 h55 h60 dX2_becomeLike_85 ?_
        refine j_iconst X (v := 0) dX2_becomeLike_88 (by decide) ?_
        refine j_bipush X (v := 8) dX2_becomeLike_89 (by decide) ?_
        obtain ⟨h62, hf63⟩ := chk_of hf61; clear hf61
        refine j_copy X h62 ml_X2_49 (Nat.le_of_ble_eq_true rfl) (Nat.le_of_ble_eq_true rfl) dX2_becomeLike_91 (fun σ64 eσ64 => ?_)
        replace hf63 := lt_of hf63 σ64 eσ64
        have h66 : isO σ64 2 x1 := by rw [eσ64]; exact h54
        have h67 : isO σ64 2 x0 := by rw [eσ64]; exact h55
        refine j_aload_n X dX2_becomeLike_94 1 rfl rfl ?_
        obtain ⟨i68, h69, hf70⟩ := bd_of hf63; clear hf63
        refine j_getr X fd_X2_34 h66 h69 dX2_becomeLike_95 ?_
        refine j_iconst X (v := 0) dX2_becomeLike_98 (by decide) ?_
        refine j_aload_n X dX2_becomeLike_99 0 rfl rfl ?_
        obtain ⟨i71, h72, hf73⟩ := bd_of hf70; clear hf70
        refine j_getr X fd_X2_34 h67 h72 dX2_becomeLike_100 ?_
        refine j_iconst X (v := 0) dX2_becomeLike_103 (by decide) ?_
        refine j_bipush X (v := 8) dX2_becomeLike_104 (by decide) ?_
        obtain ⟨h74, hf75⟩ := chk_of hf73; clear hf73
        refine j_copy X h74 ml_X2_49 (Nat.le_of_ble_eq_true rfl) (Nat.le_of_ble_eq_true rfl) dX2_becomeLike_106 (fun σ76 eσ76 => ?_)
        replace hf75 := lt_of hf75 σ76 eσ76
        have h78 : isO σ76 2 x1 := by rw [eσ76]; exact h66
        have h79 : isO σ76 2 x0 := by rw [eσ76]; exact h67
        refine j_aload_n X dX2_becomeLike_109 1 rfl rfl ?_
        obtain ⟨i80, h81, hf82⟩ := bd_of hf75; clear hf75
        refine j_getr X fd_X2_37 h78 h81 dX2_becomeLike_110 ?_
        refine j_iconst X (v := 0) dX2_becomeLike_113 (by decide) ?_
        refine j_aload_n X dX2_becomeLike_114 0 rfl rfl ?_
        obtain ⟨i83, h84, hf85⟩ := bd_of hf82; clear hf82
        refine j_getr X fd_X2_37 h79 h84 dX2_becomeLike_115 ?_
        refine j_iconst X (v := 0) dX2_becomeLike_118 (by decide) ?_
        refine j_bipush X (v := 8) dX2_becomeLike_119 (by decide) ?_
        obtain ⟨h86, hf87⟩ := chk_of hf85; clear hf85
        refine j_copy X h86 ml_X2_49 (Nat.le_of_ble_eq_true rfl) (Nat.le_of_ble_eq_true rfl) dX2_becomeLike_121 (fun σ88 eσ88 => ?_)
        replace hf87 := lt_of hf87 σ88 eσ88
        have h90 : isO σ88 2 x1 := by rw [eσ88]; exact h78
        have h91 : isO σ88 2 x0 := by rw [eσ88]; exact h79
        refine j_aload_n X dX2_becomeLike_124 0 rfl rfl ?_
        refine j_aload_n X dX2_becomeLike_125 1 rfl rfl ?_
        refine j_geti X fd_X2_40 h90 dX2_becomeLike_126 (fun v92 ev92 => ?_)
        replace hf87 := lt_of hf87 v92 ev92
        refine j_puti X fp_X2_40 h91 dX2_becomeLike_129 (fun σ94 eσ94 => ?_)
        replace hf87 := lt_of hf87 σ94 eσ94
        have h96 : isO σ94 2 x1 := by rw [eσ94]; exact h90
        have h97 : isO σ94 2 x0 := by rw [eσ94]; exact h91
        obtain ⟨er, es⟩ := rt_of hf87
        exact j_retv X hr hlk (Nat.le_of_ble_eq_true rfl) (Nat.le_of_ble_eq_true rfl) rfl es.symm rfl dX2_becomeLike_132
      · have hf45 := br_n hf0 c43; clear hf0
        refine j_aload_n X dX2_becomeLike_53 0 rfl rfl ?_
        obtain ⟨h98, hf99⟩ := chk_of hf45; clear hf45
        obtain ⟨i100, h101, hf102⟩ := bd_of hf99; clear hf99
        refine j_getr X fd_X2_23 h98 h101 dX2_becomeLike_54 ?_
        refine j_iload_n X dX2_becomeLike_57 2 rfl rfl ?_
        refine j_aload_n X dX2_becomeLike_58 1 rfl rfl ?_
        obtain ⟨h103, hf104⟩ := chk_of hf102; clear hf102
        obtain ⟨i105, h106, hf107⟩ := bd_of hf104; clear hf104
        refine j_getr X fd_X2_23 h103 h106 dX2_becomeLike_59 ?_
        refine j_iload_n X dX2_becomeLike_62 2 rfl rfl ?_
        obtain ⟨h108, hf109⟩ := chk_of hf107; clear hf107
        refine j_aald X h108 dX2_becomeLike_63 (fun o110 eo110 => ?_)
        replace hf109 := lt_of hf109 o110 eo110
        obtain ⟨h112, hf113⟩ := chk_of hf109; clear hf109
        obtain ⟨h114, hf115⟩ := chk_of hf113; clear hf113
        refine j_aast X (o := o110) h112 h114 dX2_becomeLike_64 (fun σ116 eσ116 => ?_)
        replace hf115 := lt_of hf115 σ116 eσ116
        have h118 : isO σ116 2 x0 := by rw [eσ116]; exact h98
        have h119 : isO σ116 2 x1 := by rw [eσ116]; exact h103
        obtain ⟨v120, ev120⟩ : ∃ y : Int32, y = x2 + (1 : Int32) := ⟨_, rfl⟩
        replace hf115 := lt_of hf115 v120 ev120
        refine j_iinc X (v := v120) (lv' := [(2, .int v120), (0, .ref (q x0)), (1, .ref (q x1))]) dX2_becomeLike_65 2 rfl (by rw [ev120]; rfl) (by decide) rfl ?_
        refine j_goto X (tgt := 47) dX2_becomeLike_68 (by decide) ?_
        refine j_lvsub [1, 2, 0] (lv' := [(0, .ref (q x0)), (1, .ref (q x1)), (2, .int v120)]) rfl ?_
        exact ih x0 x1 v120 σ116 hf115
  refine j_aload_n X dX2_becomeLike_0 1 rfl rfl ?_
  obtain ⟨h1, hf2⟩ := chk_of hf0; clear hf0
  obtain ⟨i3, h4, hf5⟩ := bd_of hf2; clear hf2
  refine j_getr X fd_X2_9 h1 h4 dX2_becomeLike_1 ?_
  refine j_iconst X (v := 0) dX2_becomeLike_4 (by decide) ?_
  refine j_aload_n X dX2_becomeLike_5 0 rfl rfl ?_
  obtain ⟨h6, hf7⟩ := chk_of hf5; clear hf5
  obtain ⟨i8, h9, hf10⟩ := bd_of hf7; clear hf7
  refine j_getr X fd_X2_9 h6 h9 dX2_becomeLike_6 ?_
  refine j_iconst X (v := 0) dX2_becomeLike_9 (by decide) ?_
  refine j_bipush X (v := 6) dX2_becomeLike_10 (by decide) ?_
  obtain ⟨h11, hf12⟩ := chk_of hf10; clear hf10
  refine j_copy X h11 ml_X2_49 (Nat.le_of_ble_eq_true rfl) (Nat.le_of_ble_eq_true rfl) dX2_becomeLike_12 (fun σ13 eσ13 => ?_)
  replace hf12 := lt_of hf12 σ13 eσ13
  have h15 : isO σ13 2 a1 := by rw [eσ13]; exact h1
  have h16 : isO σ13 2 a0 := by rw [eσ13]; exact h6
  refine j_aload_n X dX2_becomeLike_15 1 rfl rfl ?_
  obtain ⟨i17, h18, hf19⟩ := bd_of hf12; clear hf12
  refine j_getr X fd_X2_15 h15 h18 dX2_becomeLike_16 ?_
  refine j_iconst X (v := 0) dX2_becomeLike_19 (by decide) ?_
  refine j_aload_n X dX2_becomeLike_20 0 rfl rfl ?_
  obtain ⟨i20, h21, hf22⟩ := bd_of hf19; clear hf19
  refine j_getr X fd_X2_15 h16 h21 dX2_becomeLike_21 ?_
  refine j_iconst X (v := 0) dX2_becomeLike_24 (by decide) ?_
  refine j_bipush X (v := 6) dX2_becomeLike_25 (by decide) ?_
  obtain ⟨h23, hf24⟩ := chk_of hf22; clear hf22
  refine j_copy X h23 ml_X2_49 (Nat.le_of_ble_eq_true rfl) (Nat.le_of_ble_eq_true rfl) dX2_becomeLike_27 (fun σ25 eσ25 => ?_)
  replace hf24 := lt_of hf24 σ25 eσ25
  have h27 : isO σ25 2 a1 := by rw [eσ25]; exact h15
  have h28 : isO σ25 2 a0 := by rw [eσ25]; exact h16
  refine j_aload_n X dX2_becomeLike_30 1 rfl rfl ?_
  obtain ⟨i29, h30, hf31⟩ := bd_of hf24; clear hf24
  refine j_getr X fd_X2_18 h27 h30 dX2_becomeLike_31 ?_
  refine j_iconst X (v := 0) dX2_becomeLike_34 (by decide) ?_
  refine j_aload_n X dX2_becomeLike_35 0 rfl rfl ?_
  obtain ⟨i32, h33, hf34⟩ := bd_of hf31; clear hf31
  refine j_getr X fd_X2_18 h28 h33 dX2_becomeLike_36 ?_
  refine j_iconst X (v := 0) dX2_becomeLike_39 (by decide) ?_
  refine j_bipush X (v := 6) dX2_becomeLike_40 (by decide) ?_
  obtain ⟨h35, hf36⟩ := chk_of hf34; clear hf34
  refine j_copy X h35 ml_X2_49 (Nat.le_of_ble_eq_true rfl) (Nat.le_of_ble_eq_true rfl) dX2_becomeLike_42 (fun σ37 eσ37 => ?_)
  replace hf36 := lt_of hf36 σ37 eσ37
  have h39 : isO σ37 2 a1 := by rw [eσ37]; exact h27
  have h40 : isO σ37 2 a0 := by rw [eσ37]; exact h28
  refine j_iconst X (v := 0) dX2_becomeLike_45 (by decide) ?_
  refine j_nmi (fun v41 ev41 => ?_)
  replace hf36 := lt_of hf36 v41 ev41
  refine j_istore_n X (lv' := [(2, .int v41), (0, .ref (q a0)), (1, .ref (q a1))]) dX2_becomeLike_46 rfl (by decide) rfl ?_
  refine j_lvsub [1, 2, 0] (lv' := [(0, .ref (q a0)), (1, .ref (q a1)), (2, .int v41)]) rfl ?_
  exact L47  1000 a0 a1 v41 σ37 hf36
def lp_X2_costOf_4_b  (K4 : Nat → Int32 → Int32 → Int32 → HS → Option (Int32 × HS)) (x0 : Nat) (x1 : Int32) (x2 : Int32) (x3 : Int32) (τ : HS) : Option (Int32 × HS) :=
  (if (6 : Int32) ≤ x3 then
  some (x2, τ)
  else
  (if ((x1 >>> (x3 &&& 31)) &&& (1 : Int32)) = (1 : Int32) then
  chk (isO τ 2 x0) (bd (hR τ x0 2) fun i17 =>
  chk (isO τ 10 i17 ∧ inb x3 (hlen τ i17)) (lt (hA τ i17 x3.toNatClampNeg) fun v22 =>
  lt ((x2 + v22)) fun v24 =>
  lt (x3 + (1 : Int32)) fun v26 =>
  K4 x0 x1 v24 v26 τ))
  else
  lt ((x2 + (0 : Int32))) fun v11 =>
  lt (x3 + (1 : Int32)) fun v13 =>
  K4 x0 x1 v11 v13 τ))
def lp_X2_costOf_4  : Nat → Nat → Int32 → Int32 → Int32 → HS → Option (Int32 × HS)
  | 0 => fun _ _ _ _ _ => none
  | n + 1 => lp_X2_costOf_4_b  (lp_X2_costOf_4  n)
def f_X2_costOf (a0 : Nat) (a1 : Int32) (σ : HS) : Option (Int32 × HS) :=
  lt ((0 : Int32)) fun v1 =>
  lt ((0 : Int32)) fun v3 =>
  lp_X2_costOf_4  1000 a0 a1 v1 v3 σ
abbrev rm_X2_costOf : Room := { frames := 0, cells := 0, slots := 0, locals := 0 }
set_option maxHeartbeats 4000000 in
set_option maxRecDepth 100000 in
theorem c_X2_costOf (l : Launch) (D : va_G) (cs : Nat → ClassId) (q : Nat → Nat) (a0 : Nat) (a1 : Int32) (σ σ0 : HS) (r0 : Int32) (hf0 : f_X2_costOf a0 a1 σ = some (r0, σ0)) : MT l yX2_costOf (Cond.code yX2_costOf cX2_costOf 4 (some .int) :: lw_g) rm_X2_costOf D cs q σ σ0 [.ref (q a0), .int a1] (fun z => z = q) (fun _ => some (.int r0)) 0 0 := by
  unfold f_X2_costOf at hf0
  refine MT_of (cc := cX2_costOf) (lv0 := [(0, .ref (q a0)), (1, .int a1)]) (by decide) (Nat.le_of_ble_eq_true rfl) rfl (fun p e s m args below meth c A X hr hlk hin => ?_)
  have L4 : ∀ (nk : Nat) (x0 : Nat) (x1 : Int32) (x2 : Int32) (x3 : Int32) (τ : HS), lp_X2_costOf_4  nk x0 x1 x2 x3 τ = some (r0, σ0) → J p l e rm_X2_costOf s m args below meth c 4 D cs A s.heap 0 0 (MQ below (hQ D cs (fun z => z = q) (fun _ => some (.int r0)) σ0 A) args s 0 0 A) q τ [(0, .ref (q x0)), (1, .int x1), (2, .int x2), (3, .int x3)] 4 [] := by
    intro nk
    induction nk with
    | zero => intro x0 x1 x2 x3 τ hf0; have hf1 : (none : Option (Int32 × HS)) = some (r0, σ0) := hf0; cases hf1
    | succ nk ih =>
      intro x0 x1 x2 x3 τ hf0
      replace hf0 : lp_X2_costOf_4_b  (lp_X2_costOf_4  nk) x0 x1 x2 x3 τ = some (r0, σ0) := hf0
      unfold lp_X2_costOf_4_b at hf0
      refine j_iload_n X dX2_costOf_4 3 rfl rfl ?_
      refine j_bipush X (v := 6) dX2_costOf_5 (by decide) ?_
      refine j_icmp_ge X (tgt := 38) dX2_costOf_7 (by decide) (fun c5 => ?_) (fun c5 => ?_)
      · have hf6 := br_y hf0 c5; clear hf0
        refine j_iload_n X dX2_costOf_38 2 rfl rfl ?_
        obtain ⟨er, es⟩ := rt_of hf6
        subst er
        exact j_reti X hr hlk (Nat.le_of_ble_eq_true rfl) (Nat.le_of_ble_eq_true rfl) rfl es.symm rfl dX2_costOf_39
      · have hf7 := br_n hf0 c5; clear hf0
        refine j_iload_n X dX2_costOf_10 2 rfl rfl ?_
        refine j_iload_n X dX2_costOf_11 1 rfl rfl ?_
        refine j_iload_n X dX2_costOf_12 3 rfl rfl ?_
        refine j_ishr X dX2_costOf_13 ?_
        refine j_iconst X (v := 1) dX2_costOf_14 (by decide) ?_
        refine j_iand X dX2_costOf_15 ?_
        refine j_iconst X (v := 1) dX2_costOf_16 (by decide) ?_
        refine j_icmp_ne X (tgt := 29) dX2_costOf_17 (by decide) (fun c8 => ?_) (fun c8 => ?_)
        · have hf9 := br_n hf7 c8; clear hf7
          refine j_iconst X (v := 0) dX2_costOf_29 (by decide) ?_
          refine j_iadd X dX2_costOf_30 ?_
          refine j_nmi (fun v11 ev11 => ?_)
          replace hf9 := lt_of hf9 v11 ev11
          refine j_istore_n X (lv' := [(2, .int v11), (0, .ref (q x0)), (1, .int x1), (3, .int x3)]) dX2_costOf_31 rfl (by decide) rfl ?_
          obtain ⟨v13, ev13⟩ : ∃ y : Int32, y = x3 + (1 : Int32) := ⟨_, rfl⟩
          replace hf9 := lt_of hf9 v13 ev13
          refine j_iinc X (v := v13) (lv' := [(3, .int v13), (2, .int v11), (0, .ref (q x0)), (1, .int x1)]) dX2_costOf_32 3 rfl (by rw [ev13]; rfl) (by decide) rfl ?_
          refine j_goto X (tgt := 4) dX2_costOf_35 (by decide) ?_
          refine j_lvsub [2, 3, 1, 0] (lv' := [(0, .ref (q x0)), (1, .int x1), (2, .int v11), (3, .int v13)]) rfl ?_
          exact ih x0 x1 v11 v13 τ hf9
        · have hf10 := br_y hf7 c8; clear hf7
          refine j_aload_n X dX2_costOf_20 0 rfl rfl ?_
          obtain ⟨h15, hf16⟩ := chk_of hf10; clear hf10
          obtain ⟨i17, h18, hf19⟩ := bd_of hf16; clear hf16
          refine j_getr X fd_X2_18 h15 h18 dX2_costOf_21 ?_
          refine j_iload_n X dX2_costOf_24 3 rfl rfl ?_
          obtain ⟨h20, hf21⟩ := chk_of hf19; clear hf19
          refine j_iald X h20 dX2_costOf_25 (fun v22 ev22 => ?_)
          replace hf21 := lt_of hf21 v22 ev22
          refine j_goto X (tgt := 30) dX2_costOf_26 (by decide) ?_
          refine j_iadd X dX2_costOf_30 ?_
          refine j_nmi (fun v24 ev24 => ?_)
          replace hf21 := lt_of hf21 v24 ev24
          refine j_istore_n X (lv' := [(2, .int v24), (0, .ref (q x0)), (1, .int x1), (3, .int x3)]) dX2_costOf_31 rfl (by decide) rfl ?_
          obtain ⟨v26, ev26⟩ : ∃ y : Int32, y = x3 + (1 : Int32) := ⟨_, rfl⟩
          replace hf21 := lt_of hf21 v26 ev26
          refine j_iinc X (v := v26) (lv' := [(3, .int v26), (2, .int v24), (0, .ref (q x0)), (1, .int x1)]) dX2_costOf_32 3 rfl (by rw [ev26]; rfl) (by decide) rfl ?_
          refine j_goto X (tgt := 4) dX2_costOf_35 (by decide) ?_
          refine j_lvsub [2, 3, 1, 0] (lv' := [(0, .ref (q x0)), (1, .int x1), (2, .int v24), (3, .int v26)]) rfl ?_
          exact ih x0 x1 v24 v26 τ hf21
  refine j_iconst X (v := 0) dX2_costOf_0 (by decide) ?_
  refine j_nmi (fun v1 ev1 => ?_)
  replace hf0 := lt_of hf0 v1 ev1
  refine j_istore_n X (lv' := [(2, .int v1), (0, .ref (q a0)), (1, .int a1)]) dX2_costOf_1 rfl (by decide) rfl ?_
  refine j_iconst X (v := 0) dX2_costOf_2 (by decide) ?_
  refine j_nmi (fun v3 ev3 => ?_)
  replace hf0 := lt_of hf0 v3 ev3
  refine j_istore_n X (lv' := [(3, .int v3), (2, .int v1), (0, .ref (q a0)), (1, .int a1)]) dX2_costOf_3 rfl (by decide) rfl ?_
  refine j_lvsub [2, 3, 1, 0] (lv' := [(0, .ref (q a0)), (1, .int a1), (2, .int v1), (3, .int v3)]) rfl ?_
  exact L4  1000 a0 a1 v1 v3 σ hf0
def f_X2_highOf (a0 : Nat) (a1 : Int32) (σ : HS) : Option (Int32 × HS) :=
  chk (isO σ 2 a0) (bd (hR σ a0 0) fun i3 =>
  chk (isO σ 10 i3 ∧ inb a1 (hlen σ i3)) (lt (hA σ i3 a1.toNatClampNeg) fun v8 =>
  bd (hR σ a0 1) fun i10 =>
  chk (isO σ 10 i10 ∧ inb a1 (hlen σ i10)) (lt (hA σ i10 a1.toNatClampNeg) fun v15 =>
  some ((v8 + v15), σ))))
abbrev rm_X2_highOf : Room := { frames := 0, cells := 0, slots := 0, locals := 0 }
set_option maxHeartbeats 4000000 in
set_option maxRecDepth 100000 in
theorem c_X2_highOf (l : Launch) (D : va_G) (cs : Nat → ClassId) (q : Nat → Nat) (a0 : Nat) (a1 : Int32) (σ σ0 : HS) (r0 : Int32) (hf0 : f_X2_highOf a0 a1 σ = some (r0, σ0)) : MT l yX2_highOf (Cond.code yX2_highOf cX2_highOf 2 (some .int) :: lw_g) rm_X2_highOf D cs q σ σ0 [.ref (q a0), .int a1] (fun z => z = q) (fun _ => some (.int r0)) 0 0 := by
  unfold f_X2_highOf at hf0
  refine MT_of (cc := cX2_highOf) (lv0 := [(0, .ref (q a0)), (1, .int a1)]) (by decide) (Nat.le_of_ble_eq_true rfl) rfl (fun p e s m args below meth c A X hr hlk hin => ?_)
  refine j_aload_n X dX2_highOf_0 0 rfl rfl ?_
  obtain ⟨h1, hf2⟩ := chk_of hf0; clear hf0
  obtain ⟨i3, h4, hf5⟩ := bd_of hf2; clear hf2
  refine j_getr X fd_X2_9 h1 h4 dX2_highOf_1 ?_
  refine j_iload_n X dX2_highOf_4 1 rfl rfl ?_
  obtain ⟨h6, hf7⟩ := chk_of hf5; clear hf5
  refine j_iald X h6 dX2_highOf_5 (fun v8 ev8 => ?_)
  replace hf7 := lt_of hf7 v8 ev8
  refine j_aload_n X dX2_highOf_6 0 rfl rfl ?_
  obtain ⟨i10, h11, hf12⟩ := bd_of hf7; clear hf7
  refine j_getr X fd_X2_15 h1 h11 dX2_highOf_7 ?_
  refine j_iload_n X dX2_highOf_10 1 rfl rfl ?_
  obtain ⟨h13, hf14⟩ := chk_of hf12; clear hf12
  refine j_iald X h13 dX2_highOf_11 (fun v15 ev15 => ?_)
  replace hf14 := lt_of hf14 v15 ev15
  refine j_iadd X dX2_highOf_12 ?_
  obtain ⟨er, es⟩ := rt_of hf14
  subst er
  exact j_reti X hr hlk (Nat.le_of_ble_eq_true rfl) (Nat.le_of_ble_eq_true rfl) rfl es.symm rfl dX2_highOf_13
def f_X2_lowOf (a0 : Nat) (a1 : Int32) (σ : HS) : Option (Int32 × HS) :=
  chk (isO σ 2 a0) (bd (hR σ a0 0) fun i3 =>
  chk (isO σ 10 i3 ∧ inb a1 (hlen σ i3)) (lt (hA σ i3 a1.toNatClampNeg) fun v8 =>
  bd (hR σ a0 1) fun i10 =>
  chk (isO σ 10 i10 ∧ inb a1 (hlen σ i10)) (lt (hA σ i10 a1.toNatClampNeg) fun v15 =>
  some ((v8 - v15), σ))))
abbrev rm_X2_lowOf : Room := { frames := 0, cells := 0, slots := 0, locals := 0 }
set_option maxHeartbeats 4000000 in
set_option maxRecDepth 100000 in
theorem c_X2_lowOf (l : Launch) (D : va_G) (cs : Nat → ClassId) (q : Nat → Nat) (a0 : Nat) (a1 : Int32) (σ σ0 : HS) (r0 : Int32) (hf0 : f_X2_lowOf a0 a1 σ = some (r0, σ0)) : MT l yX2_lowOf (Cond.code yX2_lowOf cX2_lowOf 2 (some .int) :: lw_g) rm_X2_lowOf D cs q σ σ0 [.ref (q a0), .int a1] (fun z => z = q) (fun _ => some (.int r0)) 0 0 := by
  unfold f_X2_lowOf at hf0
  refine MT_of (cc := cX2_lowOf) (lv0 := [(0, .ref (q a0)), (1, .int a1)]) (by decide) (Nat.le_of_ble_eq_true rfl) rfl (fun p e s m args below meth c A X hr hlk hin => ?_)
  refine j_aload_n X dX2_lowOf_0 0 rfl rfl ?_
  obtain ⟨h1, hf2⟩ := chk_of hf0; clear hf0
  obtain ⟨i3, h4, hf5⟩ := bd_of hf2; clear hf2
  refine j_getr X fd_X2_9 h1 h4 dX2_lowOf_1 ?_
  refine j_iload_n X dX2_lowOf_4 1 rfl rfl ?_
  obtain ⟨h6, hf7⟩ := chk_of hf5; clear hf5
  refine j_iald X h6 dX2_lowOf_5 (fun v8 ev8 => ?_)
  replace hf7 := lt_of hf7 v8 ev8
  refine j_aload_n X dX2_lowOf_6 0 rfl rfl ?_
  obtain ⟨i10, h11, hf12⟩ := bd_of hf7; clear hf7
  refine j_getr X fd_X2_15 h1 h11 dX2_lowOf_7 ?_
  refine j_iload_n X dX2_lowOf_10 1 rfl rfl ?_
  obtain ⟨h13, hf14⟩ := chk_of hf12; clear hf12
  refine j_iald X h13 dX2_lowOf_11 (fun v15 ev15 => ?_)
  replace hf14 := lt_of hf14 v15 ev15
  refine j_isub X dX2_lowOf_12 ?_
  obtain ⟨er, es⟩ := rt_of hf14
  subst er
  exact j_reti X hr hlk (Nat.le_of_ble_eq_true rfl) (Nat.le_of_ble_eq_true rfl) rfl es.symm rfl dX2_lowOf_13
def f_X2_rowOf (a0 : Nat) (a1 : Int32) (σ : HS) : Option ((Option Nat) × HS) :=
  (if a1 = 0 then
  chk (isO σ 2 a0) (bd (hR σ a0 0) fun i19 =>
  some ((some i19), σ))
  else
  (if a1 = (1 : Int32) then
  chk (isO σ 2 a0) (bd (hR σ a0 1) fun i14 =>
  some ((some i14), σ))
  else
  chk (isO σ 2 a0) (bd (hR σ a0 2) fun i9 =>
  some ((some i9), σ))))
abbrev rm_X2_rowOf : Room := { frames := 0, cells := 0, slots := 0, locals := 0 }
set_option maxHeartbeats 4000000 in
set_option maxRecDepth 100000 in
theorem c_X2_rowOf (l : Launch) (D : va_G) (cs : Nat → ClassId) (q : Nat → Nat) (a0 : Nat) (a1 : Int32) (σ σ0 : HS) (r0 : (Option Nat)) (hf0 : f_X2_rowOf a0 a1 σ = some (r0, σ0)) : MT l yX2_rowOf (Cond.code yX2_rowOf cX2_rowOf 2 (some (.array .int)) :: lw_g) rm_X2_rowOf D cs q σ σ0 [.ref (q a0), .int a1] (fun z => z = q) (fun z => some (va_rf (Option.map z r0))) 0 0 := by
  unfold f_X2_rowOf at hf0
  refine MT_of (cc := cX2_rowOf) (lv0 := [(0, .ref (q a0)), (1, .int a1)]) (by decide) (Nat.le_of_ble_eq_true rfl) rfl (fun p e s m args below meth c A X hr hlk hin => ?_)
  refine j_iload_n X dX2_rowOf_0 1 rfl rfl ?_
  refine j_if_ne X (tgt := 11) dX2_rowOf_1 (by decide) (fun c1 => ?_) (fun c1 => ?_)
  · have hf2 := br_n hf0 c1; clear hf0
    refine j_iload_n X dX2_rowOf_11 1 rfl rfl ?_
    refine j_iconst X (v := 1) dX2_rowOf_12 (by decide) ?_
    refine j_icmp_ne X (tgt := 23) dX2_rowOf_13 (by decide) (fun c4 => ?_) (fun c4 => ?_)
    · have hf5 := br_n hf2 c4; clear hf2
      refine j_aload_n X dX2_rowOf_23 0 rfl rfl ?_
      obtain ⟨h7, hf8⟩ := chk_of hf5; clear hf5
      obtain ⟨i9, h10, hf11⟩ := bd_of hf8; clear hf8
      refine j_getr X fd_X2_18 h7 h10 dX2_rowOf_24 ?_
      obtain ⟨er, es⟩ := rt_of hf11
      subst er
      exact j_reta (o := Option.map q (some i9)) X hr rfl hlk (Nat.le_of_ble_eq_true rfl) (Nat.le_of_ble_eq_true rfl) rfl es.symm rfl dX2_rowOf_27
    · have hf6 := br_y hf2 c4; clear hf2
      refine j_aload_n X dX2_rowOf_16 0 rfl rfl ?_
      obtain ⟨h12, hf13⟩ := chk_of hf6; clear hf6
      obtain ⟨i14, h15, hf16⟩ := bd_of hf13; clear hf13
      refine j_getr X fd_X2_15 h12 h15 dX2_rowOf_17 ?_
      refine j_goto X (tgt := 27) dX2_rowOf_20 (by decide) ?_
      obtain ⟨er, es⟩ := rt_of hf16
      subst er
      exact j_reta (o := Option.map q (some i14)) X hr rfl hlk (Nat.le_of_ble_eq_true rfl) (Nat.le_of_ble_eq_true rfl) rfl es.symm rfl dX2_rowOf_27
  · have hf3 := br_y hf0 c1; clear hf0
    refine j_aload_n X dX2_rowOf_4 0 rfl rfl ?_
    obtain ⟨h17, hf18⟩ := chk_of hf3; clear hf3
    obtain ⟨i19, h20, hf21⟩ := bd_of hf18; clear hf18
    refine j_getr X fd_X2_9 h17 h20 dX2_rowOf_5 ?_
    refine j_goto X (tgt := 27) dX2_rowOf_8 (by decide) ?_
    obtain ⟨er, es⟩ := rt_of hf21
    subst er
    exact j_reta (o := Option.map q (some i19)) X hr rfl hlk (Nat.le_of_ble_eq_true rfl) (Nat.le_of_ble_eq_true rfl) rfl es.symm rfl dX2_rowOf_27
def f_X2_spanBehind (a0 : Nat) (a1 : Int32) (a2 : Int32) (σ : HS) : Option (Int32 × HS) :=
  chk (isO σ 2 a0) (bd (hR σ a0 6) fun i3 =>
  chk (isO σ 10 i3 ∧ inb a1 (hlen σ i3)) (lt (hA σ i3 a1.toNatClampNeg) fun v8 =>
  (if v8 = (1 : Int32) then
  bd (hR σ a0 7) fun i13 =>
  chk (isO σ 10 i13 ∧ inb a1 (hlen σ i13)) (lt (hA σ i13 a1.toNatClampNeg) fun v18 =>
  some (v18, σ))
  else if v8 = (2 : Int32) then
  bd (hR σ a0 7) fun i23 =>
  chk (isO σ 10 i23 ∧ inb a1 (hlen σ i23)) (lt (hA σ i23 a1.toNatClampNeg) fun v28 =>
  some ((a2 >>> (v28 &&& 31)), σ))
  else some (a2, σ))))
abbrev rm_X2_spanBehind : Room := { frames := 0, cells := 0, slots := 0, locals := 0 }
set_option maxHeartbeats 4000000 in
set_option maxRecDepth 100000 in
theorem c_X2_spanBehind (l : Launch) (D : va_G) (cs : Nat → ClassId) (q : Nat → Nat) (a0 : Nat) (a1 : Int32) (a2 : Int32) (σ σ0 : HS) (r0 : Int32) (hf0 : f_X2_spanBehind a0 a1 a2 σ = some (r0, σ0)) : MT l yX2_spanBehind (Cond.code yX2_spanBehind cX2_spanBehind 3 (some .int) :: lw_g) rm_X2_spanBehind D cs q σ σ0 [.ref (q a0), .int a1, .int a2] (fun z => z = q) (fun _ => some (.int r0)) 0 0 := by
  unfold f_X2_spanBehind at hf0
  refine MT_of (cc := cX2_spanBehind) (lv0 := [(0, .ref (q a0)), (1, .int a1), (2, .int a2)]) (by decide) (Nat.le_of_ble_eq_true rfl) rfl (fun p e s m args below meth c A X hr hlk hin => ?_)
  refine j_aload_n X dX2_spanBehind_0 0 rfl rfl ?_
  obtain ⟨h1, hf2⟩ := chk_of hf0; clear hf0
  obtain ⟨i3, h4, hf5⟩ := bd_of hf2; clear hf2
  refine j_getr X fd_X2_34 h1 h4 dX2_spanBehind_1 ?_
  refine j_iload_n X dX2_spanBehind_4 1 rfl rfl ?_
  obtain ⟨h6, hf7⟩ := chk_of hf5; clear hf5
  refine j_iald X h6 dX2_spanBehind_5 (fun v8 ev8 => ?_)
  replace hf7 := lt_of hf7 v8 ev8
  by_cases c10 : v8 = (1 : Int32)
  · have hf11 := br_y hf7 c10; clear hf7
    refine j_lookup X (off := 26) (tgt := 32) dX2_spanBehind_6 rfl (by rw [c10]; rfl) (by decide) ?_
    refine j_aload_n X dX2_spanBehind_32 0 rfl rfl ?_
    obtain ⟨i13, h14, hf15⟩ := bd_of hf11; clear hf11
    refine j_getr X fd_X2_37 h1 h14 dX2_spanBehind_33 ?_
    refine j_iload_n X dX2_spanBehind_36 1 rfl rfl ?_
    obtain ⟨h16, hf17⟩ := chk_of hf15; clear hf15
    refine j_iald X h16 dX2_spanBehind_37 (fun v18 ev18 => ?_)
    replace hf17 := lt_of hf17 v18 ev18
    obtain ⟨er, es⟩ := rt_of hf17
    subst er
    exact j_reti X hr hlk (Nat.le_of_ble_eq_true rfl) (Nat.le_of_ble_eq_true rfl) rfl es.symm rfl dX2_spanBehind_38
  · have hf12 := br_n hf7 c10; clear hf7
    by_cases c20 : v8 = (2 : Int32)
    · have hf21 := br_y hf12 c20; clear hf12
      refine j_lookup X (off := 33) (tgt := 39) dX2_spanBehind_6 rfl (by rw [c20]; rfl) (by decide) ?_
      refine j_iload_n X dX2_spanBehind_39 2 rfl rfl ?_
      refine j_aload_n X dX2_spanBehind_40 0 rfl rfl ?_
      obtain ⟨i23, h24, hf25⟩ := bd_of hf21; clear hf21
      refine j_getr X fd_X2_37 h1 h24 dX2_spanBehind_41 ?_
      refine j_iload_n X dX2_spanBehind_44 1 rfl rfl ?_
      obtain ⟨h26, hf27⟩ := chk_of hf25; clear hf25
      refine j_iald X h26 dX2_spanBehind_45 (fun v28 ev28 => ?_)
      replace hf27 := lt_of hf27 v28 ev28
      refine j_ishr X dX2_spanBehind_46 ?_
      obtain ⟨er, es⟩ := rt_of hf27
      subst er
      exact j_reti X hr hlk (Nat.le_of_ble_eq_true rfl) (Nat.le_of_ble_eq_true rfl) rfl es.symm rfl dX2_spanBehind_47
    · have hf22 := br_n hf12 c20; clear hf12
      refine j_lookup X (off := 42) (tgt := 48) dX2_spanBehind_6 rfl (by show Op.lookupswitch.offset ([(1, 26), (2, 33)] : List (Int × Int)) 42 _ = 42; rw [lv_osw c10 (show ((1 : Int32)).toInt = 1 from rfl), lv_osw c20 (show ((2 : Int32)).toInt = 2 from rfl)]; rfl) (by decide) ?_
      refine j_iload_n X dX2_spanBehind_48 2 rfl rfl ?_
      obtain ⟨er, es⟩ := rt_of hf22
      subst er
      exact j_reti X hr hlk (Nat.le_of_ble_eq_true rfl) (Nat.le_of_ble_eq_true rfl) rfl es.symm rfl dX2_spanBehind_49
def f_X3_add (a0 : Nat) (a1 : Int32) (a2 : Int32) (a3 : Int32) (σ : HS) : Option (Int32 × HS) :=
  chk (isO σ 3 a0) (lt (hA σ a0 8) fun v3 =>
  (if v3 < (60 : Int32) then
  lt (hA σ a0 8) fun v8 =>
  lt (hA σ a0 8) fun v10 =>
  lt (sA σ a0 8 (v10 + (1 : Int32))) fun σ12 =>
  bd (hR σ12 a0 3) fun i15 =>
  chk (isO σ12 10 i15 ∧ inb v8 (hlen σ12 i15)) (lt (sA σ12 i15 v8.toNatClampNeg a1) fun σ20 =>
  bd (hR σ20 a0 4) fun i23 =>
  chk (isO σ20 10 i23 ∧ inb v8 (hlen σ20 i23)) (lt (sA σ20 i23 v8.toNatClampNeg a2) fun σ28 =>
  bd (hR σ28 a0 7) fun i31 =>
  chk (isO σ28 10 i31 ∧ inb v8 (hlen σ28 i31)) (lt (sA σ28 i31 v8.toNatClampNeg a3) fun σ36 =>
  bd (hR σ36 a0 5) fun i39 =>
  chk (isO σ36 10 i39 ∧ inb v8 (hlen σ36 i39)) (lt (sA σ36 i39 v8.toNatClampNeg v8) fun σ44 =>
  bd (hR σ44 a0 6) fun i47 =>
  chk (isO σ44 10 i47 ∧ inb v8 (hlen σ44 i47)) (lt (sA σ44 i47 v8.toNatClampNeg v8) fun σ52 =>
  some (v8, σ52))))))
  else
  some ((-1 : Int32), σ)))
abbrev rm_X3_add : Room := { frames := 0, cells := 0, slots := 0, locals := 0 }
set_option maxHeartbeats 4000000 in
set_option maxRecDepth 100000 in
theorem c_X3_add (l : Launch) (D : va_G) (cs : Nat → ClassId) (q : Nat → Nat) (a0 : Nat) (a1 : Int32) (a2 : Int32) (a3 : Int32) (σ σ0 : HS) (r0 : Int32) (hf0 : f_X3_add a0 a1 a2 a3 σ = some (r0, σ0)) : MT l yX3_add (Cond.code yX3_add cX3_add 5 (some .int) :: lw_g) rm_X3_add D cs q σ σ0 [.ref (q a0), .int a1, .int a2, .int a3] (fun z => z = q) (fun _ => some (.int r0)) 0 0 := by
  unfold f_X3_add at hf0
  refine MT_of (cc := cX3_add) (lv0 := [(0, .ref (q a0)), (1, .int a1), (2, .int a2), (3, .int a3)]) (by decide) (Nat.le_of_ble_eq_true rfl) rfl (fun p e s m args below meth c A X hr hlk hin => ?_)
  refine j_aload_n X dX3_add_0 0 rfl rfl ?_
  obtain ⟨h1, hf2⟩ := chk_of hf0; clear hf0
  refine j_geti X fd_X3_37 h1 dX3_add_1 (fun v3 ev3 => ?_)
  replace hf2 := lt_of hf2 v3 ev3
  refine j_bipush X (v := 60) dX3_add_4 (by decide) ?_
  refine j_icmp_lt X (tgt := 11) dX3_add_6 (by decide) (fun c5 => ?_) (fun c5 => ?_)
  · have hf6 := br_y hf2 c5; clear hf2
    refine j_aload_n X dX3_add_11 0 rfl rfl ?_
    refine j_geti X fd_X3_37 h1 dX3_add_12 (fun v8 ev8 => ?_)
    replace hf6 := lt_of hf6 v8 ev8
    refine j_istore X (lv' := [(4, .int v8), (0, .ref (q a0)), (1, .int a1), (2, .int a2), (3, .int a3)]) dX3_add_15 (by decide) rfl ?_
    refine j_aload_n X dX3_add_17 1 rfl rfl ?_
    refine j_dup X dX3_add_18 rfl ?_
    refine j_geti X fd_X3_37 h1 dX3_add_19 (fun v10 ev10 => ?_)
    replace hf6 := lt_of hf6 v10 ev10
    refine j_iconst X (v := 1) dX3_add_22 (by decide) ?_
    refine j_iadd X dX3_add_23 ?_
    refine j_puti X fp_X3_37 h1 dX3_add_24 (fun σ12 eσ12 => ?_)
    replace hf6 := lt_of hf6 σ12 eσ12
    have h14 : isO σ12 3 a0 := by rw [eσ12]; exact h1
    refine j_aload_n X dX3_add_27 1 rfl rfl ?_
    obtain ⟨i15, h16, hf17⟩ := bd_of hf6; clear hf6
    refine j_getr X fd_X3_22 h14 h16 dX3_add_28 ?_
    refine j_iload X dX3_add_31 0 rfl ?_
    refine j_iload_n X dX3_add_33 2 rfl rfl ?_
    obtain ⟨h18, hf19⟩ := chk_of hf17; clear hf17
    refine j_iast X h18 dX3_add_34 (fun σ20 eσ20 => ?_)
    replace hf19 := lt_of hf19 σ20 eσ20
    have h22 : isO σ20 3 a0 := by rw [eσ20]; exact h14
    refine j_aload_n X dX3_add_35 1 rfl rfl ?_
    obtain ⟨i23, h24, hf25⟩ := bd_of hf19; clear hf19
    refine j_getr X fd_X3_25 h22 h24 dX3_add_36 ?_
    refine j_iload X dX3_add_39 0 rfl ?_
    refine j_iload_n X dX3_add_41 3 rfl rfl ?_
    obtain ⟨h26, hf27⟩ := chk_of hf25; clear hf25
    refine j_iast X h26 dX3_add_42 (fun σ28 eσ28 => ?_)
    replace hf27 := lt_of hf27 σ28 eσ28
    have h30 : isO σ28 3 a0 := by rw [eσ28]; exact h22
    refine j_aload_n X dX3_add_43 1 rfl rfl ?_
    obtain ⟨i31, h32, hf33⟩ := bd_of hf27; clear hf27
    refine j_getr X fd_X3_34 h30 h32 dX3_add_44 ?_
    refine j_iload X dX3_add_47 0 rfl ?_
    refine j_iload_n X dX3_add_49 4 rfl rfl ?_
    obtain ⟨h34, hf35⟩ := chk_of hf33; clear hf33
    refine j_iast X h34 dX3_add_50 (fun σ36 eσ36 => ?_)
    replace hf35 := lt_of hf35 σ36 eσ36
    have h38 : isO σ36 3 a0 := by rw [eσ36]; exact h30
    refine j_aload_n X dX3_add_51 1 rfl rfl ?_
    obtain ⟨i39, h40, hf41⟩ := bd_of hf35; clear hf35
    refine j_getr X fd_X3_28 h38 h40 dX3_add_52 ?_
    refine j_iload X dX3_add_55 0 rfl ?_
    refine j_iload X dX3_add_57 0 rfl ?_
    obtain ⟨h42, hf43⟩ := chk_of hf41; clear hf41
    refine j_iast X h42 dX3_add_59 (fun σ44 eσ44 => ?_)
    replace hf43 := lt_of hf43 σ44 eσ44
    have h46 : isO σ44 3 a0 := by rw [eσ44]; exact h38
    refine j_aload_n X dX3_add_60 1 rfl rfl ?_
    obtain ⟨i47, h48, hf49⟩ := bd_of hf43; clear hf43
    refine j_getr X fd_X3_31 h46 h48 dX3_add_61 ?_
    refine j_iload X dX3_add_64 0 rfl ?_
    refine j_iload X dX3_add_66 0 rfl ?_
    obtain ⟨h50, hf51⟩ := chk_of hf49; clear hf49
    refine j_iast X h50 dX3_add_68 (fun σ52 eσ52 => ?_)
    replace hf51 := lt_of hf51 σ52 eσ52
    have h54 : isO σ52 3 a0 := by rw [eσ52]; exact h46
    refine j_iload X dX3_add_69 0 rfl ?_
    obtain ⟨er, es⟩ := rt_of hf51
    subst er
    exact j_reti X hr hlk (Nat.le_of_ble_eq_true rfl) (Nat.le_of_ble_eq_true rfl) rfl es.symm rfl dX3_add_71
  · have hf7 := br_n hf2 c5; clear hf2
    refine j_iconst X (v := -1) dX3_add_9 (by decide) ?_
    obtain ⟨er, es⟩ := rt_of hf7
    subst er
    exact j_reti X hr hlk (Nat.le_of_ble_eq_true rfl) (Nat.le_of_ble_eq_true rfl) rfl es.symm rfl dX3_add_10
def f_X3_append (a0 : Nat) (a1 : Int32) (σ : HS) : Option (Int32 × HS) :=
  chk (isO σ 3 a0) (lt (hA σ a0 1) fun v3 =>
  (if v3 < (60 : Int32) then
  bd (hR σ a0 0) fun i8 =>
  lt (hA σ a0 1) fun v11 =>
  chk (isO σ 10 i8 ∧ inb v11 (hlen σ i8)) (lt (sA σ i8 v11.toNatClampNeg a1) fun σ15 =>
  lt (hA σ15 a0 1) fun v18 =>
  lt (sA σ15 a0 1 (v18 + (1 : Int32))) fun σ20 =>
  some ((1 : Int32), σ20))
  else
  some ((0 : Int32), σ)))
abbrev rm_X3_append : Room := { frames := 0, cells := 0, slots := 0, locals := 0 }
set_option maxHeartbeats 4000000 in
set_option maxRecDepth 100000 in
theorem c_X3_append (l : Launch) (D : va_G) (cs : Nat → ClassId) (q : Nat → Nat) (a0 : Nat) (a1 : Int32) (σ σ0 : HS) (r0 : Int32) (hf0 : f_X3_append a0 a1 σ = some (r0, σ0)) : MT l yX3_append (Cond.code yX3_append cX3_append 2 (some .boolean) :: lw_g) rm_X3_append D cs q σ σ0 [.ref (q a0), .int a1] (fun z => z = q) (fun _ => some (.int r0)) 0 0 := by
  unfold f_X3_append at hf0
  refine MT_of (cc := cX3_append) (lv0 := [(0, .ref (q a0)), (1, .int a1)]) (by decide) (Nat.le_of_ble_eq_true rfl) rfl (fun p e s m args below meth c A X hr hlk hin => ?_)
  refine j_aload_n X dX3_append_0 0 rfl rfl ?_
  obtain ⟨h1, hf2⟩ := chk_of hf0; clear hf0
  refine j_geti X fd_X3_15 h1 dX3_append_1 (fun v3 ev3 => ?_)
  replace hf2 := lt_of hf2 v3 ev3
  refine j_bipush X (v := 60) dX3_append_4 (by decide) ?_
  refine j_icmp_lt X (tgt := 11) dX3_append_6 (by decide) (fun c5 => ?_) (fun c5 => ?_)
  · have hf6 := br_y hf2 c5; clear hf2
    refine j_aload_n X dX3_append_11 0 rfl rfl ?_
    obtain ⟨i8, h9, hf10⟩ := bd_of hf6; clear hf6
    refine j_getr X fd_X3_9 h1 h9 dX3_append_12 ?_
    refine j_aload_n X dX3_append_15 0 rfl rfl ?_
    refine j_geti X fd_X3_15 h1 dX3_append_16 (fun v11 ev11 => ?_)
    replace hf10 := lt_of hf10 v11 ev11
    refine j_iload_n X dX3_append_19 1 rfl rfl ?_
    obtain ⟨h13, hf14⟩ := chk_of hf10; clear hf10
    refine j_iast X h13 dX3_append_20 (fun σ15 eσ15 => ?_)
    replace hf14 := lt_of hf14 σ15 eσ15
    have h17 : isO σ15 3 a0 := by rw [eσ15]; exact h1
    refine j_aload_n X dX3_append_21 0 rfl rfl ?_
    refine j_dup X dX3_append_22 rfl ?_
    refine j_geti X fd_X3_15 h17 dX3_append_23 (fun v18 ev18 => ?_)
    replace hf14 := lt_of hf14 v18 ev18
    refine j_iconst X (v := 1) dX3_append_26 (by decide) ?_
    refine j_iadd X dX3_append_27 ?_
    refine j_puti X fp_X3_15 h17 dX3_append_28 (fun σ20 eσ20 => ?_)
    replace hf14 := lt_of hf14 σ20 eσ20
    have h22 : isO σ20 3 a0 := by rw [eσ20]; exact h17
    refine j_iconst X (v := 1) dX3_append_31 (by decide) ?_
    obtain ⟨er, es⟩ := rt_of hf14
    subst er
    exact j_retz X hr hlk (Nat.le_of_ble_eq_true rfl) (Nat.le_of_ble_eq_true rfl) rfl es.symm rfl (Or.inr rfl) dX3_append_32
  · have hf7 := br_n hf2 c5; clear hf2
    refine j_iconst X (v := 0) dX3_append_9 (by decide) ?_
    obtain ⟨er, es⟩ := rt_of hf7
    subst er
    exact j_retz X hr hlk (Nat.le_of_ble_eq_true rfl) (Nat.le_of_ble_eq_true rfl) rfl es.symm rfl (Or.inl rfl) dX3_append_10
def f_X3_here (a0 : Nat) (σ : HS) : Option (Int32 × HS) :=
  chk (isO σ 3 a0) (lt (hA σ a0 2) fun v3 =>
  (if v3 < 0 then
  some ((0 : Int32), σ)
  else
  lt (hA σ a0 2) fun v8 =>
  lt (hA σ a0 1) fun v10 =>
  (if v10 ≤ v8 then
  some ((0 : Int32), σ)
  else
  bd (hR σ a0 0) fun i15 =>
  lt (hA σ a0 2) fun v18 =>
  chk (isO σ 10 i15 ∧ inb v18 (hlen σ i15)) (lt (hA σ i15 v18.toNatClampNeg) fun v22 =>
  some (v22, σ)))))
abbrev rm_X3_here : Room := { frames := 0, cells := 0, slots := 0, locals := 0 }
set_option maxHeartbeats 4000000 in
set_option maxRecDepth 100000 in
theorem c_X3_here (l : Launch) (D : va_G) (cs : Nat → ClassId) (q : Nat → Nat) (a0 : Nat) (σ σ0 : HS) (r0 : Int32) (hf0 : f_X3_here a0 σ = some (r0, σ0)) : MT l yX3_here (Cond.code yX3_here cX3_here 1 (some .int) :: lw_g) rm_X3_here D cs q σ σ0 [.ref (q a0)] (fun z => z = q) (fun _ => some (.int r0)) 0 0 := by
  unfold f_X3_here at hf0
  refine MT_of (cc := cX3_here) (lv0 := [(0, .ref (q a0))]) (by decide) (Nat.le_of_ble_eq_true rfl) rfl (fun p e s m args below meth c A X hr hlk hin => ?_)
  refine j_aload_n X dX3_here_0 0 rfl rfl ?_
  obtain ⟨h1, hf2⟩ := chk_of hf0; clear hf0
  refine j_geti X fd_X3_19 h1 dX3_here_1 (fun v3 ev3 => ?_)
  replace hf2 := lt_of hf2 v3 ev3
  refine j_if_lt X (tgt := 30) dX3_here_4 (by decide) (fun c5 => ?_) (fun c5 => ?_)
  · have hf6 := br_y hf2 c5; clear hf2
    refine j_iconst X (v := 0) dX3_here_30 (by decide) ?_
    obtain ⟨er, es⟩ := rt_of hf6
    subst er
    exact j_reti X hr hlk (Nat.le_of_ble_eq_true rfl) (Nat.le_of_ble_eq_true rfl) rfl es.symm rfl dX3_here_31
  · have hf7 := br_n hf2 c5; clear hf2
    refine j_aload_n X dX3_here_7 0 rfl rfl ?_
    refine j_geti X fd_X3_19 h1 dX3_here_8 (fun v8 ev8 => ?_)
    replace hf7 := lt_of hf7 v8 ev8
    refine j_aload_n X dX3_here_11 0 rfl rfl ?_
    refine j_geti X fd_X3_15 h1 dX3_here_12 (fun v10 ev10 => ?_)
    replace hf7 := lt_of hf7 v10 ev10
    refine j_icmp_ge X (tgt := 30) dX3_here_15 (by decide) (fun c12 => ?_) (fun c12 => ?_)
    · have hf13 := br_y hf7 c12; clear hf7
      refine j_iconst X (v := 0) dX3_here_30 (by decide) ?_
      obtain ⟨er, es⟩ := rt_of hf13
      subst er
      exact j_reti X hr hlk (Nat.le_of_ble_eq_true rfl) (Nat.le_of_ble_eq_true rfl) rfl es.symm rfl dX3_here_31
    · have hf14 := br_n hf7 c12; clear hf7
      refine j_aload_n X dX3_here_18 0 rfl rfl ?_
      obtain ⟨i15, h16, hf17⟩ := bd_of hf14; clear hf14
      refine j_getr X fd_X3_9 h1 h16 dX3_here_19 ?_
      refine j_aload_n X dX3_here_22 0 rfl rfl ?_
      refine j_geti X fd_X3_19 h1 dX3_here_23 (fun v18 ev18 => ?_)
      replace hf17 := lt_of hf17 v18 ev18
      obtain ⟨h20, hf21⟩ := chk_of hf17; clear hf17
      refine j_iald X h20 dX3_here_26 (fun v22 ev22 => ?_)
      replace hf21 := lt_of hf21 v22 ev22
      refine j_goto X (tgt := 31) dX3_here_27 (by decide) ?_
      obtain ⟨er, es⟩ := rt_of hf21
      subst er
      exact j_reti X hr hlk (Nat.le_of_ble_eq_true rfl) (Nat.le_of_ble_eq_true rfl) rfl es.symm rfl dX3_here_31
def f_X3_isFigure (a0 : Int32) (σ : HS) : Option (Int32 × HS) :=
  (if a0 < (48 : Int32) then
  some ((0 : Int32), σ)
  else
  (if (57 : Int32) < a0 then
  some ((0 : Int32), σ)
  else
  some ((1 : Int32), σ)))
abbrev rm_X3_isFigure : Room := { frames := 0, cells := 0, slots := 0, locals := 0 }
set_option maxHeartbeats 4000000 in
set_option maxRecDepth 100000 in
theorem c_X3_isFigure (l : Launch) (D : va_G) (cs : Nat → ClassId) (q : Nat → Nat) (a0 : Int32) (σ σ0 : HS) (r0 : Int32) (hf0 : f_X3_isFigure a0 σ = some (r0, σ0)) : MT l yX3_isFigure (Cond.code yX3_isFigure cX3_isFigure 1 (some .boolean) :: lw_g) rm_X3_isFigure D cs q σ σ0 [.int a0] (fun z => z = q) (fun _ => some (.int r0)) 0 0 := by
  unfold f_X3_isFigure at hf0
  refine MT_of (cc := cX3_isFigure) (lv0 := [(0, .int a0)]) (by decide) (Nat.le_of_ble_eq_true rfl) rfl (fun p e s m args below meth c A X hr hlk hin => ?_)
  refine j_iload_n X dX3_isFigure_0 0 rfl rfl ?_
  refine j_bipush X (v := 48) dX3_isFigure_1 (by decide) ?_
  refine j_icmp_lt X (tgt := 16) dX3_isFigure_3 (by decide) (fun c1 => ?_) (fun c1 => ?_)
  · have hf2 := br_y hf0 c1; clear hf0
    refine j_iconst X (v := 0) dX3_isFigure_16 (by decide) ?_
    obtain ⟨er, es⟩ := rt_of hf2
    subst er
    exact j_retz X hr hlk (Nat.le_of_ble_eq_true rfl) (Nat.le_of_ble_eq_true rfl) rfl es.symm rfl (Or.inl rfl) dX3_isFigure_17
  · have hf3 := br_n hf0 c1; clear hf0
    refine j_iload_n X dX3_isFigure_6 0 rfl rfl ?_
    refine j_bipush X (v := 57) dX3_isFigure_7 (by decide) ?_
    refine j_icmp_gt X (tgt := 16) dX3_isFigure_9 (by decide) (fun c4 => ?_) (fun c4 => ?_)
    · have hf5 := br_y hf3 c4; clear hf3
      refine j_iconst X (v := 0) dX3_isFigure_16 (by decide) ?_
      obtain ⟨er, es⟩ := rt_of hf5
      subst er
      exact j_retz X hr hlk (Nat.le_of_ble_eq_true rfl) (Nat.le_of_ble_eq_true rfl) rfl es.symm rfl (Or.inl rfl) dX3_isFigure_17
    · have hf6 := br_n hf3 c4; clear hf3
      refine j_iconst X (v := 1) dX3_isFigure_12 (by decide) ?_
      refine j_goto X (tgt := 17) dX3_isFigure_13 (by decide) ?_
      obtain ⟨er, es⟩ := rt_of hf6
      subst er
      exact j_retz X hr hlk (Nat.le_of_ble_eq_true rfl) (Nat.le_of_ble_eq_true rfl) rfl es.symm rfl (Or.inr rfl) dX3_isFigure_17
def f_X3_join (a0 : Nat) (a1 : Int32) (a2 : Int32) (a3 : Int32) (a4 : Int32) (σ : HS) : Option (Int32 × HS) :=
  (if a3 = (-1 : Int32) then
  some ((-1 : Int32), σ)
  else
  (if a4 = (-1 : Int32) then
  some ((-1 : Int32), σ)
  else
  chk (isO σ 3 a0) (bc (f_X3_add a0 a1 a2 (0 : Int32) σ) fun r9 σ10 =>
  (if r9 = (-1 : Int32) then
  some (r9, σ10)
  else
  chk (isO σ10 3 a0) (bd (hR σ10 a0 5) fun i18 =>
  chk (isO σ10 10 i18 ∧ inb r9 (hlen σ10 i18)) (lt (sA σ10 i18 r9.toNatClampNeg a3) fun σ23 =>
  bd (hR σ23 a0 6) fun i26 =>
  chk (isO σ23 10 i26 ∧ inb r9 (hlen σ23 i26)) (lt (sA σ23 i26 r9.toNatClampNeg a4) fun σ31 =>
  some (r9, σ31))))))))
abbrev rm_X3_join : Room := { frames := 1, cells := 0, slots := 0, locals := 64 }
set_option maxHeartbeats 4000000 in
set_option maxRecDepth 100000 in
theorem c_X3_join (l : Launch) (D : va_G) (cs : Nat → ClassId) (q : Nat → Nat) (a0 : Nat) (a1 : Int32) (a2 : Int32) (a3 : Int32) (a4 : Int32) (σ σ0 : HS) (r0 : Int32) (hf0 : f_X3_join a0 a1 a2 a3 a4 σ = some (r0, σ0)) : MT l yX3_join (Cond.code yX3_join cX3_join 6 (some .int) :: lw_g) rm_X3_join D cs q σ σ0 [.ref (q a0), .int a1, .int a2, .int a3, .int a4] (fun z => z = q) (fun _ => some (.int r0)) 0 0 := by
  unfold f_X3_join at hf0
  refine MT_of (cc := cX3_join) (lv0 := [(0, .ref (q a0)), (1, .int a1), (2, .int a2), (3, .int a3), (4, .int a4)]) (by decide) (Nat.le_of_ble_eq_true rfl) rfl (fun p e s m args below meth c A X hr hlk hin => ?_)
  refine j_iload_n X dX3_join_0 3 rfl rfl ?_
  refine j_iconst X (v := -1) dX3_join_1 (by decide) ?_
  refine j_icmp_eq X (tgt := 11) dX3_join_2 (by decide) (fun c1 => ?_) (fun c1 => ?_)
  · have hf2 := br_y hf0 c1; clear hf0
    refine j_iconst X (v := -1) dX3_join_11 (by decide) ?_
    obtain ⟨er, es⟩ := rt_of hf2
    subst er
    exact j_reti X hr hlk (Nat.le_of_ble_eq_true rfl) (Nat.le_of_ble_eq_true rfl) rfl es.symm rfl dX3_join_12
  · have hf3 := br_n hf0 c1; clear hf0
    refine j_iload X dX3_join_5 4 rfl ?_
    refine j_iconst X (v := -1) dX3_join_7 (by decide) ?_
    refine j_icmp_ne X (tgt := 13) dX3_join_8 (by decide) (fun c4 => ?_) (fun c4 => ?_)
    · have hf5 := br_n hf3 c4; clear hf3
      refine j_aload_n X dX3_join_13 0 rfl rfl ?_
      refine j_iload_n X dX3_join_14 1 rfl rfl ?_
      refine j_iload_n X dX3_join_15 2 rfl rfl ?_
      refine j_iconst X (v := 0) dX3_join_16 (by decide) ?_
      obtain ⟨h7, hf8⟩ := chk_of hf5; clear hf5
      obtain ⟨r9, σ10, h11, hf12⟩ := bc_of hf8; clear hf8
      refine j_callV0 X [.int a1, .int a2, .int (0 : Int32)] [] (c_X3_add l D cs q a0 a1 a2 (0 : Int32) σ _ _ h11) mk_X3_add mv_X3_add ml_X3_63 h7 rfl (by decide) ⟨rfl, rfl⟩ ⟨Nat.le_of_ble_eq_true rfl, Nat.le_of_ble_eq_true rfl⟩ rfl (Nat.le_of_ble_eq_true rfl) ⟨Nat.le_of_ble_eq_true rfl, Nat.le_of_ble_eq_true rfl⟩ dX3_join_17 rfl (st' := [.int r9]) rfl ?_
      refine j_istore X (lv' := [(5, .int r9), (0, .ref (q a0)), (1, .int a1), (2, .int a2), (3, .int a3), (4, .int a4)]) dX3_join_20 (by decide) rfl ?_
      refine j_iload X dX3_join_22 0 rfl ?_
      refine j_iconst X (v := -1) dX3_join_24 (by decide) ?_
      refine j_icmp_eq X (tgt := 45) dX3_join_25 (by decide) (fun c13 => ?_) (fun c13 => ?_)
      · have hf14 := br_y hf12 c13; clear hf12
        refine j_iload X dX3_join_45 0 rfl ?_
        obtain ⟨er, es⟩ := rt_of hf14
        subst er
        exact j_reti X hr hlk (Nat.le_of_ble_eq_true rfl) (Nat.le_of_ble_eq_true rfl) rfl es.symm rfl dX3_join_47
      · have hf15 := br_n hf12 c13; clear hf12
        refine j_aload_n X dX3_join_28 1 rfl rfl ?_
        obtain ⟨h16, hf17⟩ := chk_of hf15; clear hf15
        obtain ⟨i18, h19, hf20⟩ := bd_of hf17; clear hf17
        refine j_getr X fd_X3_28 h16 h19 dX3_join_29 ?_
        refine j_iload X dX3_join_32 0 rfl ?_
        refine j_iload_n X dX3_join_34 4 rfl rfl ?_
        obtain ⟨h21, hf22⟩ := chk_of hf20; clear hf20
        refine j_iast X h21 dX3_join_35 (fun σ23 eσ23 => ?_)
        replace hf22 := lt_of hf22 σ23 eσ23
        have h25 : isO σ23 3 a0 := by rw [eσ23]; exact h16
        refine j_aload_n X dX3_join_36 1 rfl rfl ?_
        obtain ⟨i26, h27, hf28⟩ := bd_of hf22; clear hf22
        refine j_getr X fd_X3_31 h25 h27 dX3_join_37 ?_
        refine j_iload X dX3_join_40 0 rfl ?_
        refine j_iload X dX3_join_42 5 rfl ?_
        obtain ⟨h29, hf30⟩ := chk_of hf28; clear hf28
        refine j_iast X h29 dX3_join_44 (fun σ31 eσ31 => ?_)
        replace hf30 := lt_of hf30 σ31 eσ31
        have h33 : isO σ31 3 a0 := by rw [eσ31]; exact h25
        refine j_iload X dX3_join_45 0 rfl ?_
        obtain ⟨er, es⟩ := rt_of hf30
        subst er
        exact j_reti X hr hlk (Nat.le_of_ble_eq_true rfl) (Nat.le_of_ble_eq_true rfl) rfl es.symm rfl dX3_join_47
    · have hf6 := br_y hf3 c4; clear hf3
      refine j_iconst X (v := -1) dX3_join_11 (by decide) ?_
      obtain ⟨er, es⟩ := rt_of hf6
      subst er
      exact j_reti X hr hlk (Nat.le_of_ble_eq_true rfl) (Nat.le_of_ble_eq_true rfl) rfl es.symm rfl dX3_join_12
def lp_X3_readNumber_9_b  (K9 : Nat → Int32 → Int32 → Int32 → HS → Option (Int32 × HS)) (x0 : Nat) (x1 : Int32) (x2 : Int32) (x3 : Int32) (τ : HS) : Option (Int32 × HS) :=
  (if (4 : Int32) ≤ x3 then
  chk (isO τ 3 x0) (bc (f_X3_add x0 (1 : Int32) x1 x2 τ) fun r14 σ15 =>
  some (r14, σ15))
  else
  chk (isO τ 3 x0) (bc (f_X3_here x0 τ) fun r20 σ21 =>
  bc (f_X3_isFigure r20 σ21) fun r24 σ25 =>
  (if r24 = 0 then
  chk (isO σ25 3 x0) (bc (f_X3_add x0 (1 : Int32) x1 x2 σ25) fun r33 σ34 =>
  some (r33, σ34))
  else
  chk (isO σ25 3 x0) (bc (f_X3_here x0 σ25) fun r39 σ40 =>
  lt ((((x2 * (10 : Int32)) + r39) - (48 : Int32))) fun v43 =>
  chk (isO σ40 3 x0) (lt (hA σ40 x0 2) fun v47 =>
  lt (sA σ40 x0 2 (v47 + (1 : Int32))) fun σ49 =>
  lt (x3 + (1 : Int32)) fun v52 =>
  K9 x0 x1 v43 v52 σ49)))))
def lp_X3_readNumber_9  : Nat → Nat → Int32 → Int32 → Int32 → HS → Option (Int32 × HS)
  | 0 => fun _ _ _ _ _ => none
  | n + 1 => lp_X3_readNumber_9_b  (lp_X3_readNumber_9  n)
def f_X3_readNumber (a0 : Nat) (σ : HS) : Option (Int32 × HS) :=
  chk (isO σ 3 a0) (lt (hA σ a0 2) fun v3 =>
  lt ((0 : Int32)) fun v5 =>
  lt ((0 : Int32)) fun v7 =>
  lp_X3_readNumber_9  1000 a0 v3 v5 v7 σ)
abbrev rm_X3_readNumber : Room := { frames := 1, cells := 0, slots := 0, locals := 64 }
set_option maxHeartbeats 4000000 in
set_option maxRecDepth 100000 in
theorem c_X3_readNumber (l : Launch) (D : va_G) (cs : Nat → ClassId) (q : Nat → Nat) (a0 : Nat) (σ σ0 : HS) (r0 : Int32) (hf0 : f_X3_readNumber a0 σ = some (r0, σ0)) : MT l yX3_readNumber (Cond.code yX3_readNumber cX3_readNumber 4 (some .int) :: lw_g) rm_X3_readNumber D cs q σ σ0 [.ref (q a0)] (fun z => z = q) (fun _ => some (.int r0)) 0 0 := by
  unfold f_X3_readNumber at hf0
  refine MT_of (cc := cX3_readNumber) (lv0 := [(0, .ref (q a0))]) (by decide) (Nat.le_of_ble_eq_true rfl) rfl (fun p e s m args below meth c A X hr hlk hin => ?_)
  have L9 : ∀ (nk : Nat) (x0 : Nat) (x1 : Int32) (x2 : Int32) (x3 : Int32) (τ : HS), lp_X3_readNumber_9  nk x0 x1 x2 x3 τ = some (r0, σ0) → J p l e rm_X3_readNumber s m args below meth c 4 D cs A s.heap 0 0 (MQ below (hQ D cs (fun z => z = q) (fun _ => some (.int r0)) σ0 A) args s 0 0 A) q τ [(0, .ref (q x0)), (1, .int x1), (2, .int x2), (3, .int x3)] 9 [] := by
    intro nk
    induction nk with
    | zero => intro x0 x1 x2 x3 τ hf0; have hf1 : (none : Option (Int32 × HS)) = some (r0, σ0) := hf0; cases hf1
    | succ nk ih =>
      intro x0 x1 x2 x3 τ hf0
      replace hf0 : lp_X3_readNumber_9_b  (lp_X3_readNumber_9  nk) x0 x1 x2 x3 τ = some (r0, σ0) := hf0
      unfold lp_X3_readNumber_9_b at hf0
      refine j_iload_n X dX3_readNumber_9 3 rfl rfl ?_
      refine j_iconst X (v := 4) dX3_readNumber_10 (by decide) ?_
      refine j_icmp_ge X (tgt := 53) dX3_readNumber_11 (by decide) (fun c9 => ?_) (fun c9 => ?_)
      · have hf10 := br_y hf0 c9; clear hf0
        refine j_aload_n X dX3_readNumber_53 0 rfl rfl ?_
        refine j_iconst X (v := 1) dX3_readNumber_54 (by decide) ?_
        refine j_iload_n X dX3_readNumber_55 1 rfl rfl ?_
        refine j_iload_n X dX3_readNumber_56 2 rfl rfl ?_
        obtain ⟨h12, hf13⟩ := chk_of hf10; clear hf10
        obtain ⟨r14, σ15, h16, hf17⟩ := bc_of hf13; clear hf13
        refine j_callV0 X [.int (1 : Int32), .int x1, .int x2] [] (c_X3_add l D cs q x0 (1 : Int32) x1 x2 τ _ _ h16) mk_X3_add mv_X3_add ml_X3_63 h12 rfl (by decide) ⟨rfl, rfl⟩ ⟨Nat.le_of_ble_eq_true rfl, Nat.le_of_ble_eq_true rfl⟩ rfl (Nat.le_of_ble_eq_true rfl) ⟨Nat.le_of_ble_eq_true rfl, Nat.le_of_ble_eq_true rfl⟩ dX3_readNumber_57 rfl (st' := [.int r14]) rfl ?_
        obtain ⟨er, es⟩ := rt_of hf17
        subst er
        exact j_reti X hr hlk (Nat.le_of_ble_eq_true rfl) (Nat.le_of_ble_eq_true rfl) rfl es.symm rfl dX3_readNumber_60
      · have hf11 := br_n hf0 c9; clear hf0
        refine j_aload_n X dX3_readNumber_14 0 rfl rfl ?_
        obtain ⟨h18, hf19⟩ := chk_of hf11; clear hf11
        obtain ⟨r20, σ21, h22, hf23⟩ := bc_of hf19; clear hf19
        refine j_callV0 X [] [] (c_X3_here l D cs q x0 τ _ _ h22) mk_X3_here mv_X3_here ml_X3_52 h18 rfl (by decide) ⟨rfl, rfl⟩ ⟨Nat.le_of_ble_eq_true rfl, Nat.le_of_ble_eq_true rfl⟩ rfl (Nat.le_of_ble_eq_true rfl) ⟨Nat.le_of_ble_eq_true rfl, Nat.le_of_ble_eq_true rfl⟩ dX3_readNumber_15 rfl (st' := [.int r20]) rfl ?_
        obtain ⟨r24, σ25, h26, hf27⟩ := bc_of hf23; clear hf23
        refine j_callS0 X [.int r20] [] (c_X3_isFigure l D cs q r20 σ21 _ _ h26) mk_X3_isFigure ms_X3_isFigure ml_X3_67 ⟨rfl, rfl⟩ ⟨Nat.le_of_ble_eq_true rfl, Nat.le_of_ble_eq_true rfl⟩ rfl (Nat.le_of_ble_eq_true rfl) ⟨Nat.le_of_ble_eq_true rfl, Nat.le_of_ble_eq_true rfl⟩ dX3_readNumber_18 rfl (st' := [.int r24]) rfl ?_
        refine j_if_eq X (tgt := 53) dX3_readNumber_21 (by decide) (fun c28 => ?_) (fun c28 => ?_)
        · have hf29 := br_y hf27 c28; clear hf27
          refine j_aload_n X dX3_readNumber_53 0 rfl rfl ?_
          refine j_iconst X (v := 1) dX3_readNumber_54 (by decide) ?_
          refine j_iload_n X dX3_readNumber_55 1 rfl rfl ?_
          refine j_iload_n X dX3_readNumber_56 2 rfl rfl ?_
          obtain ⟨h31, hf32⟩ := chk_of hf29; clear hf29
          obtain ⟨r33, σ34, h35, hf36⟩ := bc_of hf32; clear hf32
          refine j_callV0 X [.int (1 : Int32), .int x1, .int x2] [] (c_X3_add l D cs q x0 (1 : Int32) x1 x2 σ25 _ _ h35) mk_X3_add mv_X3_add ml_X3_63 h31 rfl (by decide) ⟨rfl, rfl⟩ ⟨Nat.le_of_ble_eq_true rfl, Nat.le_of_ble_eq_true rfl⟩ rfl (Nat.le_of_ble_eq_true rfl) ⟨Nat.le_of_ble_eq_true rfl, Nat.le_of_ble_eq_true rfl⟩ dX3_readNumber_57 rfl (st' := [.int r33]) rfl ?_
          obtain ⟨er, es⟩ := rt_of hf36
          subst er
          exact j_reti X hr hlk (Nat.le_of_ble_eq_true rfl) (Nat.le_of_ble_eq_true rfl) rfl es.symm rfl dX3_readNumber_60
        · have hf30 := br_n hf27 c28; clear hf27
          refine j_iload_n X dX3_readNumber_24 2 rfl rfl ?_
          refine j_bipush X (v := 10) dX3_readNumber_25 (by decide) ?_
          refine j_imul X dX3_readNumber_27 ?_
          refine j_aload_n X dX3_readNumber_28 0 rfl rfl ?_
          obtain ⟨h37, hf38⟩ := chk_of hf30; clear hf30
          obtain ⟨r39, σ40, h41, hf42⟩ := bc_of hf38; clear hf38
          refine j_callV0 X [] [.int (x2 * (10 : Int32))] (c_X3_here l D cs q x0 σ25 _ _ h41) mk_X3_here mv_X3_here ml_X3_52 h37 rfl (by decide) ⟨rfl, rfl⟩ ⟨Nat.le_of_ble_eq_true rfl, Nat.le_of_ble_eq_true rfl⟩ rfl (Nat.le_of_ble_eq_true rfl) ⟨Nat.le_of_ble_eq_true rfl, Nat.le_of_ble_eq_true rfl⟩ dX3_readNumber_29 rfl (st' := [.int r39, .int (x2 * (10 : Int32))]) rfl ?_
          refine j_iadd X dX3_readNumber_32 ?_
          refine j_bipush X (v := 48) dX3_readNumber_33 (by decide) ?_
          refine j_isub X dX3_readNumber_35 ?_
          refine j_nmi (fun v43 ev43 => ?_)
          replace hf42 := lt_of hf42 v43 ev43
          refine j_istore_n X (lv' := [(2, .int v43), (0, .ref (q x0)), (1, .int x1), (3, .int x3)]) dX3_readNumber_36 rfl (by decide) rfl ?_
          refine j_aload_n X dX3_readNumber_37 1 rfl rfl ?_
          refine j_dup X dX3_readNumber_38 rfl ?_
          obtain ⟨h45, hf46⟩ := chk_of hf42; clear hf42
          refine j_geti X fd_X3_19 h45 dX3_readNumber_39 (fun v47 ev47 => ?_)
          replace hf46 := lt_of hf46 v47 ev47
          refine j_iconst X (v := 1) dX3_readNumber_42 (by decide) ?_
          refine j_iadd X dX3_readNumber_43 ?_
          refine j_puti X fp_X3_19 h45 dX3_readNumber_44 (fun σ49 eσ49 => ?_)
          replace hf46 := lt_of hf46 σ49 eσ49
          have h51 : isO σ49 3 x0 := by rw [eσ49]; exact h45
          obtain ⟨v52, ev52⟩ : ∃ y : Int32, y = x3 + (1 : Int32) := ⟨_, rfl⟩
          replace hf46 := lt_of hf46 v52 ev52
          refine j_iinc X (v := v52) (lv' := [(3, .int v52), (2, .int v43), (0, .ref (q x0)), (1, .int x1)]) dX3_readNumber_47 3 rfl (by rw [ev52]; rfl) (by decide) rfl ?_
          refine j_goto X (tgt := 9) dX3_readNumber_50 (by decide) ?_
          refine j_lvsub [2, 3, 1, 0] (lv' := [(0, .ref (q x0)), (1, .int x1), (2, .int v43), (3, .int v52)]) rfl ?_
          exact ih x0 x1 v43 v52 σ49 hf46
  refine j_aload_n X dX3_readNumber_0 0 rfl rfl ?_
  obtain ⟨h1, hf2⟩ := chk_of hf0; clear hf0
  refine j_geti X fd_X3_19 h1 dX3_readNumber_1 (fun v3 ev3 => ?_)
  replace hf2 := lt_of hf2 v3 ev3
  refine j_istore_n X (lv' := [(1, .int v3), (0, .ref (q a0))]) dX3_readNumber_4 rfl (by decide) rfl ?_
  refine j_iconst X (v := 0) dX3_readNumber_5 (by decide) ?_
  refine j_nmi (fun v5 ev5 => ?_)
  replace hf2 := lt_of hf2 v5 ev5
  refine j_istore_n X (lv' := [(2, .int v5), (1, .int v3), (0, .ref (q a0))]) dX3_readNumber_6 rfl (by decide) rfl ?_
  refine j_iconst X (v := 0) dX3_readNumber_7 (by decide) ?_
  refine j_nmi (fun v7 ev7 => ?_)
  replace hf2 := lt_of hf2 v7 ev7
  refine j_istore_n X (lv' := [(3, .int v7), (2, .int v5), (1, .int v3), (0, .ref (q a0))]) dX3_readNumber_8 rfl (by decide) rfl ?_
  refine j_lvsub [3, 2, 1, 0] (lv' := [(0, .ref (q a0)), (1, .int v3), (2, .int v5), (3, .int v7)]) rfl ?_
  exact L9  1000 a0 v3 v5 v7 σ hf2
def lp_X3_readSum_8_b (F : Nat → Nat → Int32 → HS → Option (Int32 × HS))  (K8 : Nat → Int32 → Int32 → Int32 → HS → Option (Int32 × HS)) (x0 : Nat) (x1 : Int32) (x2 : Int32) (x3 : Int32) (τ : HS) : Option (Int32 × HS) :=
  (if (60 : Int32) ≤ x3 then
  some (x2, τ)
  else
  chk (isO τ 3 x0) (bc (f_X3_here x0 τ) fun r14 σ15 =>
  (if x2 = (-1 : Int32) then
  some (x2, σ15)
  else
  (if r14 = (43 : Int32) then
  chk (isO σ15 3 x0) (lt (hA σ15 x0 2) fun v26 =>
  lt (hA σ15 x0 2) fun v28 =>
  lt (sA σ15 x0 2 (v28 + (1 : Int32))) fun σ30 =>
  bc (F 1 x0 x1 σ30) fun r33 σ34 =>
  (if r14 = (43 : Int32) then
  chk (isO σ34 3 x0) (bc (f_X3_join x0 (3 : Int32) v26 x2 r33 σ34) fun r50 σ51 =>
  lt (x3 + (1 : Int32)) fun v54 =>
  K8 x0 x1 r50 v54 σ51)
  else
  chk (isO σ34 3 x0) (bc (f_X3_join x0 (4 : Int32) v26 x2 r33 σ34) fun r42 σ43 =>
  lt (x3 + (1 : Int32)) fun v46 =>
  K8 x0 x1 r42 v46 σ43)))
  else
  (if r14 = (45 : Int32) then
  chk (isO σ15 3 x0) (lt (hA σ15 x0 2) fun v61 =>
  lt (hA σ15 x0 2) fun v63 =>
  lt (sA σ15 x0 2 (v63 + (1 : Int32))) fun σ65 =>
  bc (F 1 x0 x1 σ65) fun r68 σ69 =>
  (if r14 = (43 : Int32) then
  chk (isO σ69 3 x0) (bc (f_X3_join x0 (3 : Int32) v61 x2 r68 σ69) fun r85 σ86 =>
  lt (x3 + (1 : Int32)) fun v89 =>
  K8 x0 x1 r85 v89 σ86)
  else
  chk (isO σ69 3 x0) (bc (f_X3_join x0 (4 : Int32) v61 x2 r68 σ69) fun r77 σ78 =>
  lt (x3 + (1 : Int32)) fun v81 =>
  K8 x0 x1 r77 v81 σ78)))
  else
  some (x2, σ15))))))
def lp_X3_readSum_8 (F : Nat → Nat → Int32 → HS → Option (Int32 × HS))  : Nat → Nat → Int32 → Int32 → Int32 → HS → Option (Int32 × HS)
  | 0 => fun _ _ _ _ _ => none
  | n + 1 => lp_X3_readSum_8_b F  (lp_X3_readSum_8 F  n)
def b_X3_readSum (F : Nat → Nat → Int32 → HS → Option (Int32 × HS)) (a0 : Nat) (a1 : Int32) (σ : HS) : Option (Int32 × HS) :=
  chk (isO σ 3 a0) (bc (F 1 a0 a1 σ) fun r3 σ4 =>
  lt ((0 : Int32)) fun v7 =>
  lp_X3_readSum_8 F  1000 a0 a1 r3 v7 σ4)
def lp_X3_readProduct_8_b (F : Nat → Nat → Int32 → HS → Option (Int32 × HS))  (K8 : Nat → Int32 → Int32 → Int32 → HS → Option (Int32 × HS)) (x0 : Nat) (x1 : Int32) (x2 : Int32) (x3 : Int32) (τ : HS) : Option (Int32 × HS) :=
  (if (60 : Int32) ≤ x3 then
  some (x2, τ)
  else
  (if x2 = (-1 : Int32) then
  some (x2, τ)
  else
  chk (isO τ 3 x0) (bc (f_X3_here x0 τ) fun r17 σ18 =>
  (if r17 = (42 : Int32) then
  chk (isO σ18 3 x0) (lt (hA σ18 x0 2) fun v26 =>
  lt (hA σ18 x0 2) fun v28 =>
  lt (sA σ18 x0 2 (v28 + (1 : Int32))) fun σ30 =>
  bc (F 2 x0 x1 σ30) fun r33 σ34 =>
  chk (isO σ34 3 x0) (bc (f_X3_join x0 (5 : Int32) v26 x2 r33 σ34) fun r39 σ40 =>
  lt (x3 + (1 : Int32)) fun v43 =>
  K8 x0 x1 r39 v43 σ40))
  else
  some (x2, σ18)))))
def lp_X3_readProduct_8 (F : Nat → Nat → Int32 → HS → Option (Int32 × HS))  : Nat → Nat → Int32 → Int32 → Int32 → HS → Option (Int32 × HS)
  | 0 => fun _ _ _ _ _ => none
  | n + 1 => lp_X3_readProduct_8_b F  (lp_X3_readProduct_8 F  n)
def b_X3_readProduct (F : Nat → Nat → Int32 → HS → Option (Int32 × HS)) (a0 : Nat) (a1 : Int32) (σ : HS) : Option (Int32 × HS) :=
  chk (isO σ 3 a0) (bc (F 2 a0 a1 σ) fun r3 σ4 =>
  lt ((0 : Int32)) fun v7 =>
  lp_X3_readProduct_8 F  1000 a0 a1 r3 v7 σ4)
def b_X3_readFactor (F : Nat → Nat → Int32 → HS → Option (Int32 × HS)) (a0 : Nat) (a1 : Int32) (σ : HS) : Option (Int32 × HS) :=
  chk (isO σ 3 a0) (bc (f_X3_here a0 σ) fun r3 σ4 =>
  (if r3 < (97 : Int32) then
  bc (f_X3_isFigure r3 σ4) fun r10 σ11 =>
  (if r10 = 0 then
  (if (6 : Int32) ≤ a1 then
  some ((-1 : Int32), σ11)
  else
  (if r3 = (45 : Int32) then
  chk (isO σ11 3 a0) (lt (hA σ11 a0 2) fun v25 =>
  lt (hA σ11 a0 2) fun v27 =>
  lt (sA σ11 a0 2 (v27 + (1 : Int32))) fun σ29 =>
  (if r3 = (45 : Int32) then
  bc (F 2 a0 (a1 + (1 : Int32)) σ29) fun r58 σ59 =>
  chk (isO σ59 3 a0) (bc (f_X3_join a0 (2 : Int32) v25 r58 r58 σ59) fun r64 σ65 =>
  some (r64, σ65))
  else
  bc (F 0 a0 (a1 + (1 : Int32)) σ29) fun r35 σ36 =>
  (if r35 = (-1 : Int32) then
  some ((-1 : Int32), σ36)
  else
  chk (isO σ36 3 a0) (bc (f_X3_here a0 σ36) fun r44 σ45 =>
  (if r44 = (41 : Int32) then
  chk (isO σ45 3 a0) (lt (hA σ45 a0 2) fun v53 =>
  lt (sA σ45 a0 2 (v53 + (1 : Int32))) fun σ55 =>
  some (r35, σ55))
  else
  some ((-1 : Int32), σ45))))))
  else
  (if r3 = (40 : Int32) then
  chk (isO σ11 3 a0) (lt (hA σ11 a0 2) fun v73 =>
  lt (hA σ11 a0 2) fun v75 =>
  lt (sA σ11 a0 2 (v75 + (1 : Int32))) fun σ77 =>
  (if r3 = (45 : Int32) then
  bc (F 2 a0 (a1 + (1 : Int32)) σ77) fun r106 σ107 =>
  chk (isO σ107 3 a0) (bc (f_X3_join a0 (2 : Int32) v73 r106 r106 σ107) fun r112 σ113 =>
  some (r112, σ113))
  else
  bc (F 0 a0 (a1 + (1 : Int32)) σ77) fun r83 σ84 =>
  (if r83 = (-1 : Int32) then
  some ((-1 : Int32), σ84)
  else
  chk (isO σ84 3 a0) (bc (f_X3_here a0 σ84) fun r92 σ93 =>
  (if r92 = (41 : Int32) then
  chk (isO σ93 3 a0) (lt (hA σ93 a0 2) fun v101 =>
  lt (sA σ93 a0 2 (v101 + (1 : Int32))) fun σ103 =>
  some (r83, σ103))
  else
  some ((-1 : Int32), σ93))))))
  else
  some ((-1 : Int32), σ11))))
  else
  chk (isO σ11 3 a0) (bc (f_X3_readNumber a0 σ11) fun r118 σ119 =>
  some (r118, σ119)))
  else
  (if (102 : Int32) < r3 then
  bc (f_X3_isFigure r3 σ4) fun r125 σ126 =>
  (if r125 = 0 then
  (if (6 : Int32) ≤ a1 then
  some ((-1 : Int32), σ126)
  else
  (if r3 = (45 : Int32) then
  chk (isO σ126 3 a0) (lt (hA σ126 a0 2) fun v140 =>
  lt (hA σ126 a0 2) fun v142 =>
  lt (sA σ126 a0 2 (v142 + (1 : Int32))) fun σ144 =>
  (if r3 = (45 : Int32) then
  bc (F 2 a0 (a1 + (1 : Int32)) σ144) fun r173 σ174 =>
  chk (isO σ174 3 a0) (bc (f_X3_join a0 (2 : Int32) v140 r173 r173 σ174) fun r179 σ180 =>
  some (r179, σ180))
  else
  bc (F 0 a0 (a1 + (1 : Int32)) σ144) fun r150 σ151 =>
  (if r150 = (-1 : Int32) then
  some ((-1 : Int32), σ151)
  else
  chk (isO σ151 3 a0) (bc (f_X3_here a0 σ151) fun r159 σ160 =>
  (if r159 = (41 : Int32) then
  chk (isO σ160 3 a0) (lt (hA σ160 a0 2) fun v168 =>
  lt (sA σ160 a0 2 (v168 + (1 : Int32))) fun σ170 =>
  some (r150, σ170))
  else
  some ((-1 : Int32), σ160))))))
  else
  (if r3 = (40 : Int32) then
  chk (isO σ126 3 a0) (lt (hA σ126 a0 2) fun v188 =>
  lt (hA σ126 a0 2) fun v190 =>
  lt (sA σ126 a0 2 (v190 + (1 : Int32))) fun σ192 =>
  (if r3 = (45 : Int32) then
  bc (F 2 a0 (a1 + (1 : Int32)) σ192) fun r221 σ222 =>
  chk (isO σ222 3 a0) (bc (f_X3_join a0 (2 : Int32) v188 r221 r221 σ222) fun r227 σ228 =>
  some (r227, σ228))
  else
  bc (F 0 a0 (a1 + (1 : Int32)) σ192) fun r198 σ199 =>
  (if r198 = (-1 : Int32) then
  some ((-1 : Int32), σ199)
  else
  chk (isO σ199 3 a0) (bc (f_X3_here a0 σ199) fun r207 σ208 =>
  (if r207 = (41 : Int32) then
  chk (isO σ208 3 a0) (lt (hA σ208 a0 2) fun v216 =>
  lt (sA σ208 a0 2 (v216 + (1 : Int32))) fun σ218 =>
  some (r198, σ218))
  else
  some ((-1 : Int32), σ208))))))
  else
  some ((-1 : Int32), σ126))))
  else
  chk (isO σ126 3 a0) (bc (f_X3_readNumber a0 σ126) fun r233 σ234 =>
  some (r233, σ234)))
  else
  chk (isO σ4 3 a0) (lt (hA σ4 a0 2) fun v239 =>
  lt (sA σ4 a0 2 (v239 + (1 : Int32))) fun σ241 =>
  lt (hA σ241 a0 2) fun v244 =>
  bc (f_X3_add a0 (0 : Int32) (v244 - (1 : Int32)) (r3 - (97 : Int32)) σ241) fun r246 σ247 =>
  some (r246, σ247)))))
def g_XP : Nat → Nat → Nat → Int32 → HS → Option (Int32 × HS)
  | 0 => fun _ _ _ _ => none
  | n + 1 => fun t a0 a1 σ => if t = 0 then b_X3_readSum (g_XP n) a0 a1 σ else if t = 1 then b_X3_readProduct (g_XP n) a0 a1 σ else if t = 2 then b_X3_readFactor (g_XP n) a0 a1 σ else none
def f_X3_readSum (a0 : Nat) (a1 : Int32) (σ : HS) : Option (Int32 × HS) := g_XP 40 0 a0 a1 σ
def f_X3_readProduct (a0 : Nat) (a1 : Int32) (σ : HS) : Option (Int32 × HS) := g_XP 40 1 a0 a1 σ
def f_X3_readFactor (a0 : Nat) (a1 : Int32) (σ : HS) : Option (Int32 × HS) := g_XP 40 2 a0 a1 σ
abbrev rg_XP (n : Nat) : Room := { frames := 2 + n, cells := 0, slots := 0, locals := 64 * (2 + n) }
set_option maxHeartbeats 4000000 in
set_option maxRecDepth 100000 in
theorem cg_XP (l : Launch) (D : va_G) (cs : Nat → ClassId) (q : Nat → Nat) : ∀ ng : Nat, (∀ (a0 : Nat) (a1 : Int32) (σ σ0 : HS) (r0 : Int32), g_XP ng 0 a0 a1 σ = some (r0, σ0) → MT l yX3_readSum (Cond.code yX3_readSum cX3_readSum 7 (some .int) :: lw_g) (rg_XP ng) D cs q σ σ0 [.ref (q a0), .int a1] (fun z => z = q) (fun _ => some (.int r0)) 0 0) ∧ (∀ (a0 : Nat) (a1 : Int32) (σ σ0 : HS) (r0 : Int32), g_XP ng 1 a0 a1 σ = some (r0, σ0) → MT l yX3_readProduct (Cond.code yX3_readProduct cX3_readProduct 6 (some .int) :: lw_g) (rg_XP ng) D cs q σ σ0 [.ref (q a0), .int a1] (fun z => z = q) (fun _ => some (.int r0)) 0 0) ∧ (∀ (a0 : Nat) (a1 : Int32) (σ σ0 : HS) (r0 : Int32), g_XP ng 2 a0 a1 σ = some (r0, σ0) → MT l yX3_readFactor (Cond.code yX3_readFactor cX3_readFactor 5 (some .int) :: lw_g) (rg_XP ng) D cs q σ σ0 [.ref (q a0), .int a1] (fun z => z = q) (fun _ => some (.int r0)) 0 0) := by
  intro ng
  induction ng with
  | zero => exact ⟨(fun _ _ _ _ _ h => (by have h9 : (none : Option (Int32 × HS)) = some _ := h; cases h9)), (fun _ _ _ _ _ h => (by have h9 : (none : Option (Int32 × HS)) = some _ := h; cases h9)), (fun _ _ _ _ _ h => (by have h9 : (none : Option (Int32 × HS)) = some _ := h; cases h9))⟩
  | succ ng ihg =>
    refine ⟨?_, ?_, ?_⟩
    · intro a0 a1 σ σ0 r0 hf0
      replace hf0 : b_X3_readSum (g_XP ng) a0 a1 σ = some (r0, σ0) := hf0
      unfold b_X3_readSum at hf0
      refine MT_of (cc := cX3_readSum) (lv0 := [(0, .ref (q a0)), (1, .int a1)]) (by decide) (Nat.le_of_ble_eq_true rfl) rfl (fun p e s m args below meth c A X hr hlk hin => ?_)
      have L8 : ∀ (nk : Nat) (x0 : Nat) (x1 : Int32) (x2 : Int32) (x3 : Int32) (τ : HS), lp_X3_readSum_8 (g_XP ng)  nk x0 x1 x2 x3 τ = some (r0, σ0) → J p l e (rg_XP (ng + 1)) s m args below meth c 7 D cs A s.heap 0 0 (MQ below (hQ D cs (fun z => z = q) (fun _ => some (.int r0)) σ0 A) args s 0 0 A) q τ [(0, .ref (q x0)), (1, .int x1), (2, .int x2), (3, .int x3)] 8 [] := by
        intro nk
        induction nk with
        | zero => intro x0 x1 x2 x3 τ hf0; have hf1 : (none : Option (Int32 × HS)) = some (r0, σ0) := hf0; cases hf1
        | succ nk ih =>
          intro x0 x1 x2 x3 τ hf0
          replace hf0 : lp_X3_readSum_8_b (g_XP ng)  (lp_X3_readSum_8 (g_XP ng)  nk) x0 x1 x2 x3 τ = some (r0, σ0) := hf0
          unfold lp_X3_readSum_8_b at hf0
          refine j_iload_n X dX3_readSum_8 3 rfl rfl ?_
          refine j_bipush X (v := 60) dX3_readSum_9 (by decide) ?_
          refine j_icmp_ge X (tgt := 92) dX3_readSum_11 (by decide) (fun c9 => ?_) (fun c9 => ?_)
          · have hf10 := br_y hf0 c9; clear hf0
            refine j_iload_n X dX3_readSum_92 2 rfl rfl ?_
            obtain ⟨er, es⟩ := rt_of hf10
            subst er
            exact j_reti X hr hlk (Nat.le_of_ble_eq_true rfl) (Nat.le_of_ble_eq_true rfl) rfl es.symm rfl dX3_readSum_93
          · have hf11 := br_n hf0 c9; clear hf0
            refine j_aload_n X dX3_readSum_14 0 rfl rfl ?_
            obtain ⟨h12, hf13⟩ := chk_of hf11; clear hf11
            obtain ⟨r14, σ15, h16, hf17⟩ := bc_of hf13; clear hf13
            refine j_callV0 X [] [] (c_X3_here l D cs q x0 τ _ _ h16) mk_X3_here mv_X3_here ml_X3_52 h12 rfl (by decide) ⟨rfl, rfl⟩ ⟨by dsimp only [rg_XP, rm_X3_here]; omega, by dsimp only [rg_XP, rm_X3_here]; omega⟩ rfl (Nat.le_of_ble_eq_true rfl) ⟨Nat.zero_le _, Nat.zero_le _⟩ dX3_readSum_15 rfl (st' := [.int r14]) rfl ?_
            refine j_istore X (lv' := [(4, .int r14), (0, .ref (q x0)), (1, .int x1), (2, .int x2), (3, .int x3)]) dX3_readSum_18 (by decide) rfl ?_
            refine j_iload_n X dX3_readSum_20 3 rfl rfl ?_
            refine j_iconst X (v := -1) dX3_readSum_21 (by decide) ?_
            refine j_icmp_eq X (tgt := 39) dX3_readSum_22 (by decide) (fun c18 => ?_) (fun c18 => ?_)
            · have hf19 := br_y hf17 c18; clear hf17
              refine j_iload_n X dX3_readSum_39 3 rfl rfl ?_
              obtain ⟨er, es⟩ := rt_of hf19
              subst er
              exact j_reti X hr hlk (Nat.le_of_ble_eq_true rfl) (Nat.le_of_ble_eq_true rfl) rfl es.symm rfl dX3_readSum_40
            · have hf20 := br_n hf17 c18; clear hf17
              refine j_iload X dX3_readSum_25 0 rfl ?_
              refine j_bipush X (v := 43) dX3_readSum_27 (by decide) ?_
              refine j_icmp_eq X (tgt := 41) dX3_readSum_29 (by decide) (fun c21 => ?_) (fun c21 => ?_)
              · have hf22 := br_y hf20 c21; clear hf20
                refine j_aload_n X dX3_readSum_41 1 rfl rfl ?_
                obtain ⟨h24, hf25⟩ := chk_of hf22; clear hf22
                refine j_geti X fd_X3_19 h24 dX3_readSum_42 (fun v26 ev26 => ?_)
                replace hf25 := lt_of hf25 v26 ev26
                refine j_istore X (lv' := [(5, .int v26), (4, .int r14), (0, .ref (q x0)), (1, .int x1), (2, .int x2), (3, .int x3)]) dX3_readSum_45 (by decide) rfl ?_
                refine j_aload_n X dX3_readSum_47 2 rfl rfl ?_
                refine j_dup X dX3_readSum_48 rfl ?_
                refine j_geti X fd_X3_19 h24 dX3_readSum_49 (fun v28 ev28 => ?_)
                replace hf25 := lt_of hf25 v28 ev28
                refine j_iconst X (v := 1) dX3_readSum_52 (by decide) ?_
                refine j_iadd X dX3_readSum_53 ?_
                refine j_puti X fp_X3_19 h24 dX3_readSum_54 (fun σ30 eσ30 => ?_)
                replace hf25 := lt_of hf25 σ30 eσ30
                have h32 : isO σ30 3 x0 := by rw [eσ30]; exact h24
                refine j_aload_n X dX3_readSum_57 2 rfl rfl ?_
                refine j_iload_n X dX3_readSum_58 3 rfl rfl ?_
                obtain ⟨r33, σ34, h35, hf36⟩ := bc_of hf25; clear hf25
                refine j_callV0 X [.int x1] [] (ihg.2.1 x0 x1 σ30 _ _ h35) mk_X3_readProduct mv_X3_readProduct ml_X3_49 h32 rfl (by decide) ⟨rfl, rfl⟩ ⟨by dsimp only [rg_XP]; omega, by dsimp only [rg_XP]; omega⟩ rfl (Nat.le_of_ble_eq_true rfl) ⟨Nat.zero_le _, Nat.zero_le _⟩ dX3_readSum_59 rfl (st' := [.int r33]) rfl ?_
                refine j_istore X (lv' := [(6, .int r33), (5, .int v26), (4, .int r14), (0, .ref (q x0)), (1, .int x1), (2, .int x2), (3, .int x3)]) dX3_readSum_62 (by decide) rfl ?_
                refine j_aload_n X dX3_readSum_64 3 rfl rfl ?_
                refine j_iload X dX3_readSum_65 2 rfl ?_
                refine j_bipush X (v := 43) dX3_readSum_67 (by decide) ?_
                refine j_icmp_ne X (tgt := 76) dX3_readSum_69 (by decide) (fun c37 => ?_) (fun c37 => ?_)
                · have hf38 := br_n hf36 c37; clear hf36
                  refine j_iconst X (v := 4) dX3_readSum_76 (by decide) ?_
                  refine j_iload X dX3_readSum_77 1 rfl ?_
                  refine j_iload_n X dX3_readSum_79 5 rfl rfl ?_
                  refine j_iload X dX3_readSum_80 0 rfl ?_
                  obtain ⟨h40, hf41⟩ := chk_of hf38; clear hf38
                  obtain ⟨r42, σ43, h44, hf45⟩ := bc_of hf41; clear hf41
                  refine j_callV0 X [.int (4 : Int32), .int v26, .int x2, .int r33] [] (c_X3_join l D cs q x0 (4 : Int32) v26 x2 r33 σ34 _ _ h44) mk_X3_join mv_X3_join ml_X3_56 h40 rfl (by decide) ⟨rfl, rfl⟩ ⟨by dsimp only [rg_XP, rm_X3_join]; omega, by dsimp only [rg_XP, rm_X3_join]; omega⟩ rfl (Nat.le_of_ble_eq_true rfl) ⟨Nat.zero_le _, Nat.zero_le _⟩ dX3_readSum_82 rfl (st' := [.int r42]) rfl ?_
                  refine j_istore_n X (lv' := [(2, .int r42), (6, .int r33), (5, .int v26), (4, .int r14), (0, .ref (q x0)), (1, .int x1), (3, .int x3)]) dX3_readSum_85 rfl (by decide) rfl ?_
                  obtain ⟨v46, ev46⟩ : ∃ y : Int32, y = x3 + (1 : Int32) := ⟨_, rfl⟩
                  replace hf45 := lt_of hf45 v46 ev46
                  refine j_iinc X (v := v46) (lv' := [(3, .int v46), (2, .int r42), (6, .int r33), (5, .int v26), (4, .int r14), (0, .ref (q x0)), (1, .int x1)]) dX3_readSum_86 6 rfl (by rw [ev46]; rfl) (by decide) rfl ?_
                  refine j_goto X (tgt := 8) dX3_readSum_89 (by decide) ?_
                  refine j_lvsub [5, 6, 1, 0] (lv' := [(0, .ref (q x0)), (1, .int x1), (2, .int r42), (3, .int v46)]) rfl ?_
                  exact ih x0 x1 r42 v46 σ43 hf45
                · have hf39 := br_y hf36 c37; clear hf36
                  refine j_iconst X (v := 3) dX3_readSum_72 (by decide) ?_
                  refine j_goto X (tgt := 77) dX3_readSum_73 (by decide) ?_
                  refine j_iload X dX3_readSum_77 1 rfl ?_
                  refine j_iload_n X dX3_readSum_79 5 rfl rfl ?_
                  refine j_iload X dX3_readSum_80 0 rfl ?_
                  obtain ⟨h48, hf49⟩ := chk_of hf39; clear hf39
                  obtain ⟨r50, σ51, h52, hf53⟩ := bc_of hf49; clear hf49
                  refine j_callV0 X [.int (3 : Int32), .int v26, .int x2, .int r33] [] (c_X3_join l D cs q x0 (3 : Int32) v26 x2 r33 σ34 _ _ h52) mk_X3_join mv_X3_join ml_X3_56 h48 rfl (by decide) ⟨rfl, rfl⟩ ⟨by dsimp only [rg_XP, rm_X3_join]; omega, by dsimp only [rg_XP, rm_X3_join]; omega⟩ rfl (Nat.le_of_ble_eq_true rfl) ⟨Nat.zero_le _, Nat.zero_le _⟩ dX3_readSum_82 rfl (st' := [.int r50]) rfl ?_
                  refine j_istore_n X (lv' := [(2, .int r50), (6, .int r33), (5, .int v26), (4, .int r14), (0, .ref (q x0)), (1, .int x1), (3, .int x3)]) dX3_readSum_85 rfl (by decide) rfl ?_
                  obtain ⟨v54, ev54⟩ : ∃ y : Int32, y = x3 + (1 : Int32) := ⟨_, rfl⟩
                  replace hf53 := lt_of hf53 v54 ev54
                  refine j_iinc X (v := v54) (lv' := [(3, .int v54), (2, .int r50), (6, .int r33), (5, .int v26), (4, .int r14), (0, .ref (q x0)), (1, .int x1)]) dX3_readSum_86 6 rfl (by rw [ev54]; rfl) (by decide) rfl ?_
                  refine j_goto X (tgt := 8) dX3_readSum_89 (by decide) ?_
                  refine j_lvsub [5, 6, 1, 0] (lv' := [(0, .ref (q x0)), (1, .int x1), (2, .int r50), (3, .int v54)]) rfl ?_
                  exact ih x0 x1 r50 v54 σ51 hf53
              · have hf23 := br_n hf20 c21; clear hf20
                refine j_iload X dX3_readSum_32 0 rfl ?_
                refine j_bipush X (v := 45) dX3_readSum_34 (by decide) ?_
                refine j_icmp_eq X (tgt := 41) dX3_readSum_36 (by decide) (fun c56 => ?_) (fun c56 => ?_)
                · have hf57 := br_y hf23 c56; clear hf23
                  refine j_aload_n X dX3_readSum_41 1 rfl rfl ?_
                  obtain ⟨h59, hf60⟩ := chk_of hf57; clear hf57
                  refine j_geti X fd_X3_19 h59 dX3_readSum_42 (fun v61 ev61 => ?_)
                  replace hf60 := lt_of hf60 v61 ev61
                  refine j_istore X (lv' := [(5, .int v61), (4, .int r14), (0, .ref (q x0)), (1, .int x1), (2, .int x2), (3, .int x3)]) dX3_readSum_45 (by decide) rfl ?_
                  refine j_aload_n X dX3_readSum_47 2 rfl rfl ?_
                  refine j_dup X dX3_readSum_48 rfl ?_
                  refine j_geti X fd_X3_19 h59 dX3_readSum_49 (fun v63 ev63 => ?_)
                  replace hf60 := lt_of hf60 v63 ev63
                  refine j_iconst X (v := 1) dX3_readSum_52 (by decide) ?_
                  refine j_iadd X dX3_readSum_53 ?_
                  refine j_puti X fp_X3_19 h59 dX3_readSum_54 (fun σ65 eσ65 => ?_)
                  replace hf60 := lt_of hf60 σ65 eσ65
                  have h67 : isO σ65 3 x0 := by rw [eσ65]; exact h59
                  refine j_aload_n X dX3_readSum_57 2 rfl rfl ?_
                  refine j_iload_n X dX3_readSum_58 3 rfl rfl ?_
                  obtain ⟨r68, σ69, h70, hf71⟩ := bc_of hf60; clear hf60
                  refine j_callV0 X [.int x1] [] (ihg.2.1 x0 x1 σ65 _ _ h70) mk_X3_readProduct mv_X3_readProduct ml_X3_49 h67 rfl (by decide) ⟨rfl, rfl⟩ ⟨by dsimp only [rg_XP]; omega, by dsimp only [rg_XP]; omega⟩ rfl (Nat.le_of_ble_eq_true rfl) ⟨Nat.zero_le _, Nat.zero_le _⟩ dX3_readSum_59 rfl (st' := [.int r68]) rfl ?_
                  refine j_istore X (lv' := [(6, .int r68), (5, .int v61), (4, .int r14), (0, .ref (q x0)), (1, .int x1), (2, .int x2), (3, .int x3)]) dX3_readSum_62 (by decide) rfl ?_
                  refine j_aload_n X dX3_readSum_64 3 rfl rfl ?_
                  refine j_iload X dX3_readSum_65 2 rfl ?_
                  refine j_bipush X (v := 43) dX3_readSum_67 (by decide) ?_
                  refine j_icmp_ne X (tgt := 76) dX3_readSum_69 (by decide) (fun c72 => ?_) (fun c72 => ?_)
                  · have hf73 := br_n hf71 c72; clear hf71
                    refine j_iconst X (v := 4) dX3_readSum_76 (by decide) ?_
                    refine j_iload X dX3_readSum_77 1 rfl ?_
                    refine j_iload_n X dX3_readSum_79 5 rfl rfl ?_
                    refine j_iload X dX3_readSum_80 0 rfl ?_
                    obtain ⟨h75, hf76⟩ := chk_of hf73; clear hf73
                    obtain ⟨r77, σ78, h79, hf80⟩ := bc_of hf76; clear hf76
                    refine j_callV0 X [.int (4 : Int32), .int v61, .int x2, .int r68] [] (c_X3_join l D cs q x0 (4 : Int32) v61 x2 r68 σ69 _ _ h79) mk_X3_join mv_X3_join ml_X3_56 h75 rfl (by decide) ⟨rfl, rfl⟩ ⟨by dsimp only [rg_XP, rm_X3_join]; omega, by dsimp only [rg_XP, rm_X3_join]; omega⟩ rfl (Nat.le_of_ble_eq_true rfl) ⟨Nat.zero_le _, Nat.zero_le _⟩ dX3_readSum_82 rfl (st' := [.int r77]) rfl ?_
                    refine j_istore_n X (lv' := [(2, .int r77), (6, .int r68), (5, .int v61), (4, .int r14), (0, .ref (q x0)), (1, .int x1), (3, .int x3)]) dX3_readSum_85 rfl (by decide) rfl ?_
                    obtain ⟨v81, ev81⟩ : ∃ y : Int32, y = x3 + (1 : Int32) := ⟨_, rfl⟩
                    replace hf80 := lt_of hf80 v81 ev81
                    refine j_iinc X (v := v81) (lv' := [(3, .int v81), (2, .int r77), (6, .int r68), (5, .int v61), (4, .int r14), (0, .ref (q x0)), (1, .int x1)]) dX3_readSum_86 6 rfl (by rw [ev81]; rfl) (by decide) rfl ?_
                    refine j_goto X (tgt := 8) dX3_readSum_89 (by decide) ?_
                    refine j_lvsub [5, 6, 1, 0] (lv' := [(0, .ref (q x0)), (1, .int x1), (2, .int r77), (3, .int v81)]) rfl ?_
                    exact ih x0 x1 r77 v81 σ78 hf80
                  · have hf74 := br_y hf71 c72; clear hf71
                    refine j_iconst X (v := 3) dX3_readSum_72 (by decide) ?_
                    refine j_goto X (tgt := 77) dX3_readSum_73 (by decide) ?_
                    refine j_iload X dX3_readSum_77 1 rfl ?_
                    refine j_iload_n X dX3_readSum_79 5 rfl rfl ?_
                    refine j_iload X dX3_readSum_80 0 rfl ?_
                    obtain ⟨h83, hf84⟩ := chk_of hf74; clear hf74
                    obtain ⟨r85, σ86, h87, hf88⟩ := bc_of hf84; clear hf84
                    refine j_callV0 X [.int (3 : Int32), .int v61, .int x2, .int r68] [] (c_X3_join l D cs q x0 (3 : Int32) v61 x2 r68 σ69 _ _ h87) mk_X3_join mv_X3_join ml_X3_56 h83 rfl (by decide) ⟨rfl, rfl⟩ ⟨by dsimp only [rg_XP, rm_X3_join]; omega, by dsimp only [rg_XP, rm_X3_join]; omega⟩ rfl (Nat.le_of_ble_eq_true rfl) ⟨Nat.zero_le _, Nat.zero_le _⟩ dX3_readSum_82 rfl (st' := [.int r85]) rfl ?_
                    refine j_istore_n X (lv' := [(2, .int r85), (6, .int r68), (5, .int v61), (4, .int r14), (0, .ref (q x0)), (1, .int x1), (3, .int x3)]) dX3_readSum_85 rfl (by decide) rfl ?_
                    obtain ⟨v89, ev89⟩ : ∃ y : Int32, y = x3 + (1 : Int32) := ⟨_, rfl⟩
                    replace hf88 := lt_of hf88 v89 ev89
                    refine j_iinc X (v := v89) (lv' := [(3, .int v89), (2, .int r85), (6, .int r68), (5, .int v61), (4, .int r14), (0, .ref (q x0)), (1, .int x1)]) dX3_readSum_86 6 rfl (by rw [ev89]; rfl) (by decide) rfl ?_
                    refine j_goto X (tgt := 8) dX3_readSum_89 (by decide) ?_
                    refine j_lvsub [5, 6, 1, 0] (lv' := [(0, .ref (q x0)), (1, .int x1), (2, .int r85), (3, .int v89)]) rfl ?_
                    exact ih x0 x1 r85 v89 σ86 hf88
                · have hf58 := br_n hf23 c56; clear hf23
                  refine j_iload_n X dX3_readSum_39 3 rfl rfl ?_
                  obtain ⟨er, es⟩ := rt_of hf58
                  subst er
                  exact j_reti X hr hlk (Nat.le_of_ble_eq_true rfl) (Nat.le_of_ble_eq_true rfl) rfl es.symm rfl dX3_readSum_40
      refine j_aload_n X dX3_readSum_0 0 rfl rfl ?_
      refine j_iload_n X dX3_readSum_1 1 rfl rfl ?_
      obtain ⟨h1, hf2⟩ := chk_of hf0; clear hf0
      obtain ⟨r3, σ4, h5, hf6⟩ := bc_of hf2; clear hf2
      refine j_callV0 X [.int a1] [] (ihg.2.1 a0 a1 σ _ _ h5) mk_X3_readProduct mv_X3_readProduct ml_X3_49 h1 rfl (by decide) ⟨rfl, rfl⟩ ⟨by dsimp only [rg_XP]; omega, by dsimp only [rg_XP]; omega⟩ rfl (Nat.le_of_ble_eq_true rfl) ⟨Nat.zero_le _, Nat.zero_le _⟩ dX3_readSum_2 rfl (st' := [.int r3]) rfl ?_
      refine j_istore_n X (lv' := [(2, .int r3), (0, .ref (q a0)), (1, .int a1)]) dX3_readSum_5 rfl (by decide) rfl ?_
      refine j_iconst X (v := 0) dX3_readSum_6 (by decide) ?_
      refine j_nmi (fun v7 ev7 => ?_)
      replace hf6 := lt_of hf6 v7 ev7
      refine j_istore_n X (lv' := [(3, .int v7), (2, .int r3), (0, .ref (q a0)), (1, .int a1)]) dX3_readSum_7 rfl (by decide) rfl ?_
      refine j_lvsub [2, 3, 1, 0] (lv' := [(0, .ref (q a0)), (1, .int a1), (2, .int r3), (3, .int v7)]) rfl ?_
      exact L8  1000 a0 a1 r3 v7 σ4 hf6
    · intro a0 a1 σ σ0 r0 hf0
      replace hf0 : b_X3_readProduct (g_XP ng) a0 a1 σ = some (r0, σ0) := hf0
      unfold b_X3_readProduct at hf0
      refine MT_of (cc := cX3_readProduct) (lv0 := [(0, .ref (q a0)), (1, .int a1)]) (by decide) (Nat.le_of_ble_eq_true rfl) rfl (fun p e s m args below meth c A X hr hlk hin => ?_)
      have L8 : ∀ (nk : Nat) (x0 : Nat) (x1 : Int32) (x2 : Int32) (x3 : Int32) (τ : HS), lp_X3_readProduct_8 (g_XP ng)  nk x0 x1 x2 x3 τ = some (r0, σ0) → J p l e (rg_XP (ng + 1)) s m args below meth c 6 D cs A s.heap 0 0 (MQ below (hQ D cs (fun z => z = q) (fun _ => some (.int r0)) σ0 A) args s 0 0 A) q τ [(0, .ref (q x0)), (1, .int x1), (2, .int x2), (3, .int x3)] 8 [] := by
        intro nk
        induction nk with
        | zero => intro x0 x1 x2 x3 τ hf0; have hf1 : (none : Option (Int32 × HS)) = some (r0, σ0) := hf0; cases hf1
        | succ nk ih =>
          intro x0 x1 x2 x3 τ hf0
          replace hf0 : lp_X3_readProduct_8_b (g_XP ng)  (lp_X3_readProduct_8 (g_XP ng)  nk) x0 x1 x2 x3 τ = some (r0, σ0) := hf0
          unfold lp_X3_readProduct_8_b at hf0
          refine j_iload_n X dX3_readProduct_8 3 rfl rfl ?_
          refine j_bipush X (v := 60) dX3_readProduct_9 (by decide) ?_
          refine j_icmp_ge X (tgt := 70) dX3_readProduct_11 (by decide) (fun c9 => ?_) (fun c9 => ?_)
          · have hf10 := br_y hf0 c9; clear hf0
            refine j_iload_n X dX3_readProduct_70 2 rfl rfl ?_
            obtain ⟨er, es⟩ := rt_of hf10
            subst er
            exact j_reti X hr hlk (Nat.le_of_ble_eq_true rfl) (Nat.le_of_ble_eq_true rfl) rfl es.symm rfl dX3_readProduct_71
          · have hf11 := br_n hf0 c9; clear hf0
            refine j_iload_n X dX3_readProduct_14 2 rfl rfl ?_
            refine j_iconst X (v := -1) dX3_readProduct_15 (by decide) ?_
            refine j_icmp_eq X (tgt := 28) dX3_readProduct_16 (by decide) (fun c12 => ?_) (fun c12 => ?_)
            · have hf13 := br_y hf11 c12; clear hf11
              refine j_iload_n X dX3_readProduct_28 2 rfl rfl ?_
              obtain ⟨er, es⟩ := rt_of hf13
              subst er
              exact j_reti X hr hlk (Nat.le_of_ble_eq_true rfl) (Nat.le_of_ble_eq_true rfl) rfl es.symm rfl dX3_readProduct_29
            · have hf14 := br_n hf11 c12; clear hf11
              refine j_aload_n X dX3_readProduct_19 0 rfl rfl ?_
              obtain ⟨h15, hf16⟩ := chk_of hf14; clear hf14
              obtain ⟨r17, σ18, h19, hf20⟩ := bc_of hf16; clear hf16
              refine j_callV0 X [] [] (c_X3_here l D cs q x0 τ _ _ h19) mk_X3_here mv_X3_here ml_X3_52 h15 rfl (by decide) ⟨rfl, rfl⟩ ⟨by dsimp only [rg_XP, rm_X3_here]; omega, by dsimp only [rg_XP, rm_X3_here]; omega⟩ rfl (Nat.le_of_ble_eq_true rfl) ⟨Nat.zero_le _, Nat.zero_le _⟩ dX3_readProduct_20 rfl (st' := [.int r17]) rfl ?_
              refine j_bipush X (v := 42) dX3_readProduct_23 (by decide) ?_
              refine j_icmp_eq X (tgt := 30) dX3_readProduct_25 (by decide) (fun c21 => ?_) (fun c21 => ?_)
              · have hf22 := br_y hf20 c21; clear hf20
                refine j_aload_n X dX3_readProduct_30 0 rfl rfl ?_
                obtain ⟨h24, hf25⟩ := chk_of hf22; clear hf22
                refine j_geti X fd_X3_19 h24 dX3_readProduct_31 (fun v26 ev26 => ?_)
                replace hf25 := lt_of hf25 v26 ev26
                refine j_istore X (lv' := [(4, .int v26), (0, .ref (q x0)), (1, .int x1), (2, .int x2), (3, .int x3)]) dX3_readProduct_34 (by decide) rfl ?_
                refine j_aload_n X dX3_readProduct_36 1 rfl rfl ?_
                refine j_dup X dX3_readProduct_37 rfl ?_
                refine j_geti X fd_X3_19 h24 dX3_readProduct_38 (fun v28 ev28 => ?_)
                replace hf25 := lt_of hf25 v28 ev28
                refine j_iconst X (v := 1) dX3_readProduct_41 (by decide) ?_
                refine j_iadd X dX3_readProduct_42 ?_
                refine j_puti X fp_X3_19 h24 dX3_readProduct_43 (fun σ30 eσ30 => ?_)
                replace hf25 := lt_of hf25 σ30 eσ30
                have h32 : isO σ30 3 x0 := by rw [eσ30]; exact h24
                refine j_aload_n X dX3_readProduct_46 1 rfl rfl ?_
                refine j_iload_n X dX3_readProduct_47 2 rfl rfl ?_
                obtain ⟨r33, σ34, h35, hf36⟩ := bc_of hf25; clear hf25
                refine j_callV0 X [.int x1] [] (ihg.2.2 x0 x1 σ30 _ _ h35) mk_X3_readFactor mv_X3_readFactor ml_X3_60 h32 rfl (by decide) ⟨rfl, rfl⟩ ⟨by dsimp only [rg_XP]; omega, by dsimp only [rg_XP]; omega⟩ rfl (Nat.le_of_ble_eq_true rfl) ⟨Nat.zero_le _, Nat.zero_le _⟩ dX3_readProduct_48 rfl (st' := [.int r33]) rfl ?_
                refine j_istore X (lv' := [(5, .int r33), (4, .int v26), (0, .ref (q x0)), (1, .int x1), (2, .int x2), (3, .int x3)]) dX3_readProduct_51 (by decide) rfl ?_
                refine j_aload_n X dX3_readProduct_53 2 rfl rfl ?_
                refine j_iconst X (v := 5) dX3_readProduct_54 (by decide) ?_
                refine j_iload X dX3_readProduct_55 1 rfl ?_
                refine j_iload_n X dX3_readProduct_57 4 rfl rfl ?_
                refine j_iload X dX3_readProduct_58 0 rfl ?_
                obtain ⟨h37, hf38⟩ := chk_of hf36; clear hf36
                obtain ⟨r39, σ40, h41, hf42⟩ := bc_of hf38; clear hf38
                refine j_callV0 X [.int (5 : Int32), .int v26, .int x2, .int r33] [] (c_X3_join l D cs q x0 (5 : Int32) v26 x2 r33 σ34 _ _ h41) mk_X3_join mv_X3_join ml_X3_56 h37 rfl (by decide) ⟨rfl, rfl⟩ ⟨by dsimp only [rg_XP, rm_X3_join]; omega, by dsimp only [rg_XP, rm_X3_join]; omega⟩ rfl (Nat.le_of_ble_eq_true rfl) ⟨Nat.zero_le _, Nat.zero_le _⟩ dX3_readProduct_60 rfl (st' := [.int r39]) rfl ?_
                refine j_istore_n X (lv' := [(2, .int r39), (5, .int r33), (4, .int v26), (0, .ref (q x0)), (1, .int x1), (3, .int x3)]) dX3_readProduct_63 rfl (by decide) rfl ?_
                obtain ⟨v43, ev43⟩ : ∃ y : Int32, y = x3 + (1 : Int32) := ⟨_, rfl⟩
                replace hf42 := lt_of hf42 v43 ev43
                refine j_iinc X (v := v43) (lv' := [(3, .int v43), (2, .int r39), (5, .int r33), (4, .int v26), (0, .ref (q x0)), (1, .int x1)]) dX3_readProduct_64 5 rfl (by rw [ev43]; rfl) (by decide) rfl ?_
                refine j_goto X (tgt := 8) dX3_readProduct_67 (by decide) ?_
                refine j_lvsub [4, 5, 1, 0] (lv' := [(0, .ref (q x0)), (1, .int x1), (2, .int r39), (3, .int v43)]) rfl ?_
                exact ih x0 x1 r39 v43 σ40 hf42
              · have hf23 := br_n hf20 c21; clear hf20
                refine j_iload_n X dX3_readProduct_28 2 rfl rfl ?_
                obtain ⟨er, es⟩ := rt_of hf23
                subst er
                exact j_reti X hr hlk (Nat.le_of_ble_eq_true rfl) (Nat.le_of_ble_eq_true rfl) rfl es.symm rfl dX3_readProduct_29
      refine j_aload_n X dX3_readProduct_0 0 rfl rfl ?_
      refine j_iload_n X dX3_readProduct_1 1 rfl rfl ?_
      obtain ⟨h1, hf2⟩ := chk_of hf0; clear hf0
      obtain ⟨r3, σ4, h5, hf6⟩ := bc_of hf2; clear hf2
      refine j_callV0 X [.int a1] [] (ihg.2.2 a0 a1 σ _ _ h5) mk_X3_readFactor mv_X3_readFactor ml_X3_60 h1 rfl (by decide) ⟨rfl, rfl⟩ ⟨by dsimp only [rg_XP]; omega, by dsimp only [rg_XP]; omega⟩ rfl (Nat.le_of_ble_eq_true rfl) ⟨Nat.zero_le _, Nat.zero_le _⟩ dX3_readProduct_2 rfl (st' := [.int r3]) rfl ?_
      refine j_istore_n X (lv' := [(2, .int r3), (0, .ref (q a0)), (1, .int a1)]) dX3_readProduct_5 rfl (by decide) rfl ?_
      refine j_iconst X (v := 0) dX3_readProduct_6 (by decide) ?_
      refine j_nmi (fun v7 ev7 => ?_)
      replace hf6 := lt_of hf6 v7 ev7
      refine j_istore_n X (lv' := [(3, .int v7), (2, .int r3), (0, .ref (q a0)), (1, .int a1)]) dX3_readProduct_7 rfl (by decide) rfl ?_
      refine j_lvsub [2, 3, 1, 0] (lv' := [(0, .ref (q a0)), (1, .int a1), (2, .int r3), (3, .int v7)]) rfl ?_
      exact L8  1000 a0 a1 r3 v7 σ4 hf6
    · intro a0 a1 σ σ0 r0 hf0
      replace hf0 : b_X3_readFactor (g_XP ng) a0 a1 σ = some (r0, σ0) := hf0
      unfold b_X3_readFactor at hf0
      refine MT_of (cc := cX3_readFactor) (lv0 := [(0, .ref (q a0)), (1, .int a1)]) (by decide) (Nat.le_of_ble_eq_true rfl) rfl (fun p e s m args below meth c A X hr hlk hin => ?_)
      refine j_aload_n X dX3_readFactor_0 0 rfl rfl ?_
      obtain ⟨h1, hf2⟩ := chk_of hf0; clear hf0
      obtain ⟨r3, σ4, h5, hf6⟩ := bc_of hf2; clear hf2
      refine j_callV0 X [] [] (c_X3_here l D cs q a0 σ _ _ h5) mk_X3_here mv_X3_here ml_X3_52 h1 rfl (by decide) ⟨rfl, rfl⟩ ⟨by dsimp only [rg_XP, rm_X3_here]; omega, by dsimp only [rg_XP, rm_X3_here]; omega⟩ rfl (Nat.le_of_ble_eq_true rfl) ⟨Nat.zero_le _, Nat.zero_le _⟩ dX3_readFactor_1 rfl (st' := [.int r3]) rfl ?_
      refine j_istore_n X (lv' := [(2, .int r3), (0, .ref (q a0)), (1, .int a1)]) dX3_readFactor_4 rfl (by decide) rfl ?_
      refine j_iload_n X dX3_readFactor_5 0 rfl rfl ?_
      refine j_bipush X (v := 97) dX3_readFactor_6 (by decide) ?_
      refine j_icmp_lt X (tgt := 43) dX3_readFactor_8 (by decide) (fun c7 => ?_) (fun c7 => ?_)
      · have hf8 := br_y hf6 c7; clear hf6
        refine j_iload_n X dX3_readFactor_43 0 rfl rfl ?_
        obtain ⟨r10, σ11, h12, hf13⟩ := bc_of hf8; clear hf8
        refine j_callS0 X [.int r3] [] (c_X3_isFigure l D cs q r3 σ4 _ _ h12) mk_X3_isFigure ms_X3_isFigure ml_X3_67 ⟨rfl, rfl⟩ ⟨by dsimp only [rg_XP, rm_X3_isFigure]; omega, by dsimp only [rg_XP, rm_X3_isFigure]; omega⟩ rfl (Nat.le_of_ble_eq_true rfl) ⟨Nat.zero_le _, Nat.zero_le _⟩ dX3_readFactor_44 rfl (st' := [.int r10]) rfl ?_
        refine j_if_eq X (tgt := 55) dX3_readFactor_47 (by decide) (fun c14 => ?_) (fun c14 => ?_)
        · have hf15 := br_y hf13 c14; clear hf13
          refine j_iload_n X dX3_readFactor_55 2 rfl rfl ?_
          refine j_bipush X (v := 6) dX3_readFactor_56 (by decide) ?_
          refine j_icmp_ge X (tgt := 73) dX3_readFactor_58 (by decide) (fun c17 => ?_) (fun c17 => ?_)
          · have hf18 := br_y hf15 c17; clear hf15
            refine j_iconst X (v := -1) dX3_readFactor_73 (by decide) ?_
            obtain ⟨er, es⟩ := rt_of hf18
            subst er
            exact j_reti X hr hlk (Nat.le_of_ble_eq_true rfl) (Nat.le_of_ble_eq_true rfl) rfl es.symm rfl dX3_readFactor_74
          · have hf19 := br_n hf15 c17; clear hf15
            refine j_iload_n X dX3_readFactor_61 0 rfl rfl ?_
            refine j_bipush X (v := 45) dX3_readFactor_62 (by decide) ?_
            refine j_icmp_eq X (tgt := 75) dX3_readFactor_64 (by decide) (fun c20 => ?_) (fun c20 => ?_)
            · have hf21 := br_y hf19 c20; clear hf19
              refine j_aload_n X dX3_readFactor_75 1 rfl rfl ?_
              obtain ⟨h23, hf24⟩ := chk_of hf21; clear hf21
              refine j_geti X fd_X3_19 h23 dX3_readFactor_76 (fun v25 ev25 => ?_)
              replace hf24 := lt_of hf24 v25 ev25
              refine j_istore_n X (lv' := [(3, .int v25), (2, .int r3), (0, .ref (q a0)), (1, .int a1)]) dX3_readFactor_79 rfl (by decide) rfl ?_
              refine j_aload_n X dX3_readFactor_80 2 rfl rfl ?_
              refine j_dup X dX3_readFactor_81 rfl ?_
              refine j_geti X fd_X3_19 h23 dX3_readFactor_82 (fun v27 ev27 => ?_)
              replace hf24 := lt_of hf24 v27 ev27
              refine j_iconst X (v := 1) dX3_readFactor_85 (by decide) ?_
              refine j_iadd X dX3_readFactor_86 ?_
              refine j_puti X fp_X3_19 h23 dX3_readFactor_87 (fun σ29 eσ29 => ?_)
              replace hf24 := lt_of hf24 σ29 eσ29
              have h31 : isO σ29 3 a0 := by rw [eσ29]; exact h23
              refine j_iload_n X dX3_readFactor_90 1 rfl rfl ?_
              refine j_bipush X (v := 45) dX3_readFactor_91 (by decide) ?_
              refine j_icmp_ne X (tgt := 116) dX3_readFactor_93 (by decide) (fun c32 => ?_) (fun c32 => ?_)
              · have hf33 := br_n hf24 c32; clear hf24
                refine j_aload_n X dX3_readFactor_116 2 rfl rfl ?_
                refine j_iload_n X dX3_readFactor_117 3 rfl rfl ?_
                refine j_iconst X (v := 1) dX3_readFactor_118 (by decide) ?_
                refine j_iadd X dX3_readFactor_119 ?_
                obtain ⟨r35, σ36, h37, hf38⟩ := bc_of hf33; clear hf33
                refine j_callV0 X [.int (a1 + (1 : Int32))] [] (ihg.1 a0 (a1 + (1 : Int32)) σ29 _ _ h37) mk_X3_readSum mv_X3_readSum ml_X3_40 h31 rfl (by decide) ⟨rfl, rfl⟩ ⟨by dsimp only [rg_XP]; omega, by dsimp only [rg_XP]; omega⟩ rfl (Nat.le_of_ble_eq_true rfl) ⟨Nat.zero_le _, Nat.zero_le _⟩ dX3_readFactor_120 rfl (st' := [.int r35]) rfl ?_
                refine j_istore X (lv' := [(4, .int r35), (3, .int v25), (2, .int r3), (0, .ref (q a0)), (1, .int a1)]) dX3_readFactor_123 (by decide) rfl ?_
                refine j_iload X dX3_readFactor_125 0 rfl ?_
                refine j_iconst X (v := -1) dX3_readFactor_127 (by decide) ?_
                refine j_icmp_eq X (tgt := 140) dX3_readFactor_128 (by decide) (fun c39 => ?_) (fun c39 => ?_)
                · have hf40 := br_y hf38 c39; clear hf38
                  refine j_iconst X (v := -1) dX3_readFactor_140 (by decide) ?_
                  obtain ⟨er, es⟩ := rt_of hf40
                  subst er
                  exact j_reti X hr hlk (Nat.le_of_ble_eq_true rfl) (Nat.le_of_ble_eq_true rfl) rfl es.symm rfl dX3_readFactor_141
                · have hf41 := br_n hf38 c39; clear hf38
                  refine j_aload_n X dX3_readFactor_131 3 rfl rfl ?_
                  obtain ⟨h42, hf43⟩ := chk_of hf41; clear hf41
                  obtain ⟨r44, σ45, h46, hf47⟩ := bc_of hf43; clear hf43
                  refine j_callV0 X [] [] (c_X3_here l D cs q a0 σ36 _ _ h46) mk_X3_here mv_X3_here ml_X3_52 h42 rfl (by decide) ⟨rfl, rfl⟩ ⟨by dsimp only [rg_XP, rm_X3_here]; omega, by dsimp only [rg_XP, rm_X3_here]; omega⟩ rfl (Nat.le_of_ble_eq_true rfl) ⟨Nat.zero_le _, Nat.zero_le _⟩ dX3_readFactor_132 rfl (st' := [.int r44]) rfl ?_
                  refine j_bipush X (v := 41) dX3_readFactor_135 (by decide) ?_
                  refine j_icmp_eq X (tgt := 142) dX3_readFactor_137 (by decide) (fun c48 => ?_) (fun c48 => ?_)
                  · have hf49 := br_y hf47 c48; clear hf47
                    refine j_aload_n X dX3_readFactor_142 3 rfl rfl ?_
                    refine j_dup X dX3_readFactor_143 rfl ?_
                    obtain ⟨h51, hf52⟩ := chk_of hf49; clear hf49
                    refine j_geti X fd_X3_19 h51 dX3_readFactor_144 (fun v53 ev53 => ?_)
                    replace hf52 := lt_of hf52 v53 ev53
                    refine j_iconst X (v := 1) dX3_readFactor_147 (by decide) ?_
                    refine j_iadd X dX3_readFactor_148 ?_
                    refine j_puti X fp_X3_19 h51 dX3_readFactor_149 (fun σ55 eσ55 => ?_)
                    replace hf52 := lt_of hf52 σ55 eσ55
                    have h57 : isO σ55 3 a0 := by rw [eσ55]; exact h51
                    refine j_iload X dX3_readFactor_152 0 rfl ?_
                    obtain ⟨er, es⟩ := rt_of hf52
                    subst er
                    exact j_reti X hr hlk (Nat.le_of_ble_eq_true rfl) (Nat.le_of_ble_eq_true rfl) rfl es.symm rfl dX3_readFactor_154
                  · have hf50 := br_n hf47 c48; clear hf47
                    refine j_iconst X (v := -1) dX3_readFactor_140 (by decide) ?_
                    obtain ⟨er, es⟩ := rt_of hf50
                    subst er
                    exact j_reti X hr hlk (Nat.le_of_ble_eq_true rfl) (Nat.le_of_ble_eq_true rfl) rfl es.symm rfl dX3_readFactor_141
              · have hf34 := br_y hf24 c32; clear hf24
                refine j_aload_n X dX3_readFactor_96 2 rfl rfl ?_
                refine j_iload_n X dX3_readFactor_97 3 rfl rfl ?_
                refine j_iconst X (v := 1) dX3_readFactor_98 (by decide) ?_
                refine j_iadd X dX3_readFactor_99 ?_
                obtain ⟨r58, σ59, h60, hf61⟩ := bc_of hf34; clear hf34
                refine j_callV0 X [.int (a1 + (1 : Int32))] [] (ihg.2.2 a0 (a1 + (1 : Int32)) σ29 _ _ h60) mk_X3_readFactor mv_X3_readFactor ml_X3_60 h31 rfl (by decide) ⟨rfl, rfl⟩ ⟨by dsimp only [rg_XP]; omega, by dsimp only [rg_XP]; omega⟩ rfl (Nat.le_of_ble_eq_true rfl) ⟨Nat.zero_le _, Nat.zero_le _⟩ dX3_readFactor_100 rfl (st' := [.int r58]) rfl ?_
                refine j_istore X (lv' := [(4, .int r58), (3, .int v25), (2, .int r3), (0, .ref (q a0)), (1, .int a1)]) dX3_readFactor_103 (by decide) rfl ?_
                refine j_aload_n X dX3_readFactor_105 3 rfl rfl ?_
                refine j_iconst X (v := 2) dX3_readFactor_106 (by decide) ?_
                refine j_iload_n X dX3_readFactor_107 1 rfl rfl ?_
                refine j_iload X dX3_readFactor_108 0 rfl ?_
                refine j_iload X dX3_readFactor_110 0 rfl ?_
                obtain ⟨h62, hf63⟩ := chk_of hf61; clear hf61
                obtain ⟨r64, σ65, h66, hf67⟩ := bc_of hf63; clear hf63
                refine j_callV0 X [.int (2 : Int32), .int v25, .int r58, .int r58] [] (c_X3_join l D cs q a0 (2 : Int32) v25 r58 r58 σ59 _ _ h66) mk_X3_join mv_X3_join ml_X3_56 h62 rfl (by decide) ⟨rfl, rfl⟩ ⟨by dsimp only [rg_XP, rm_X3_join]; omega, by dsimp only [rg_XP, rm_X3_join]; omega⟩ rfl (Nat.le_of_ble_eq_true rfl) ⟨Nat.zero_le _, Nat.zero_le _⟩ dX3_readFactor_112 rfl (st' := [.int r64]) rfl ?_
                obtain ⟨er, es⟩ := rt_of hf67
                subst er
                exact j_reti X hr hlk (Nat.le_of_ble_eq_true rfl) (Nat.le_of_ble_eq_true rfl) rfl es.symm rfl dX3_readFactor_115
            · have hf22 := br_n hf19 c20; clear hf19
              refine j_iload_n X dX3_readFactor_67 0 rfl rfl ?_
              refine j_bipush X (v := 40) dX3_readFactor_68 (by decide) ?_
              refine j_icmp_eq X (tgt := 75) dX3_readFactor_70 (by decide) (fun c68 => ?_) (fun c68 => ?_)
              · have hf69 := br_y hf22 c68; clear hf22
                refine j_aload_n X dX3_readFactor_75 1 rfl rfl ?_
                obtain ⟨h71, hf72⟩ := chk_of hf69; clear hf69
                refine j_geti X fd_X3_19 h71 dX3_readFactor_76 (fun v73 ev73 => ?_)
                replace hf72 := lt_of hf72 v73 ev73
                refine j_istore_n X (lv' := [(3, .int v73), (2, .int r3), (0, .ref (q a0)), (1, .int a1)]) dX3_readFactor_79 rfl (by decide) rfl ?_
                refine j_aload_n X dX3_readFactor_80 2 rfl rfl ?_
                refine j_dup X dX3_readFactor_81 rfl ?_
                refine j_geti X fd_X3_19 h71 dX3_readFactor_82 (fun v75 ev75 => ?_)
                replace hf72 := lt_of hf72 v75 ev75
                refine j_iconst X (v := 1) dX3_readFactor_85 (by decide) ?_
                refine j_iadd X dX3_readFactor_86 ?_
                refine j_puti X fp_X3_19 h71 dX3_readFactor_87 (fun σ77 eσ77 => ?_)
                replace hf72 := lt_of hf72 σ77 eσ77
                have h79 : isO σ77 3 a0 := by rw [eσ77]; exact h71
                refine j_iload_n X dX3_readFactor_90 1 rfl rfl ?_
                refine j_bipush X (v := 45) dX3_readFactor_91 (by decide) ?_
                refine j_icmp_ne X (tgt := 116) dX3_readFactor_93 (by decide) (fun c80 => ?_) (fun c80 => ?_)
                · have hf81 := br_n hf72 c80; clear hf72
                  refine j_aload_n X dX3_readFactor_116 2 rfl rfl ?_
                  refine j_iload_n X dX3_readFactor_117 3 rfl rfl ?_
                  refine j_iconst X (v := 1) dX3_readFactor_118 (by decide) ?_
                  refine j_iadd X dX3_readFactor_119 ?_
                  obtain ⟨r83, σ84, h85, hf86⟩ := bc_of hf81; clear hf81
                  refine j_callV0 X [.int (a1 + (1 : Int32))] [] (ihg.1 a0 (a1 + (1 : Int32)) σ77 _ _ h85) mk_X3_readSum mv_X3_readSum ml_X3_40 h79 rfl (by decide) ⟨rfl, rfl⟩ ⟨by dsimp only [rg_XP]; omega, by dsimp only [rg_XP]; omega⟩ rfl (Nat.le_of_ble_eq_true rfl) ⟨Nat.zero_le _, Nat.zero_le _⟩ dX3_readFactor_120 rfl (st' := [.int r83]) rfl ?_
                  refine j_istore X (lv' := [(4, .int r83), (3, .int v73), (2, .int r3), (0, .ref (q a0)), (1, .int a1)]) dX3_readFactor_123 (by decide) rfl ?_
                  refine j_iload X dX3_readFactor_125 0 rfl ?_
                  refine j_iconst X (v := -1) dX3_readFactor_127 (by decide) ?_
                  refine j_icmp_eq X (tgt := 140) dX3_readFactor_128 (by decide) (fun c87 => ?_) (fun c87 => ?_)
                  · have hf88 := br_y hf86 c87; clear hf86
                    refine j_iconst X (v := -1) dX3_readFactor_140 (by decide) ?_
                    obtain ⟨er, es⟩ := rt_of hf88
                    subst er
                    exact j_reti X hr hlk (Nat.le_of_ble_eq_true rfl) (Nat.le_of_ble_eq_true rfl) rfl es.symm rfl dX3_readFactor_141
                  · have hf89 := br_n hf86 c87; clear hf86
                    refine j_aload_n X dX3_readFactor_131 3 rfl rfl ?_
                    obtain ⟨h90, hf91⟩ := chk_of hf89; clear hf89
                    obtain ⟨r92, σ93, h94, hf95⟩ := bc_of hf91; clear hf91
                    refine j_callV0 X [] [] (c_X3_here l D cs q a0 σ84 _ _ h94) mk_X3_here mv_X3_here ml_X3_52 h90 rfl (by decide) ⟨rfl, rfl⟩ ⟨by dsimp only [rg_XP, rm_X3_here]; omega, by dsimp only [rg_XP, rm_X3_here]; omega⟩ rfl (Nat.le_of_ble_eq_true rfl) ⟨Nat.zero_le _, Nat.zero_le _⟩ dX3_readFactor_132 rfl (st' := [.int r92]) rfl ?_
                    refine j_bipush X (v := 41) dX3_readFactor_135 (by decide) ?_
                    refine j_icmp_eq X (tgt := 142) dX3_readFactor_137 (by decide) (fun c96 => ?_) (fun c96 => ?_)
                    · have hf97 := br_y hf95 c96; clear hf95
                      refine j_aload_n X dX3_readFactor_142 3 rfl rfl ?_
                      refine j_dup X dX3_readFactor_143 rfl ?_
                      obtain ⟨h99, hf100⟩ := chk_of hf97; clear hf97
                      refine j_geti X fd_X3_19 h99 dX3_readFactor_144 (fun v101 ev101 => ?_)
                      replace hf100 := lt_of hf100 v101 ev101
                      refine j_iconst X (v := 1) dX3_readFactor_147 (by decide) ?_
                      refine j_iadd X dX3_readFactor_148 ?_
                      refine j_puti X fp_X3_19 h99 dX3_readFactor_149 (fun σ103 eσ103 => ?_)
                      replace hf100 := lt_of hf100 σ103 eσ103
                      have h105 : isO σ103 3 a0 := by rw [eσ103]; exact h99
                      refine j_iload X dX3_readFactor_152 0 rfl ?_
                      obtain ⟨er, es⟩ := rt_of hf100
                      subst er
                      exact j_reti X hr hlk (Nat.le_of_ble_eq_true rfl) (Nat.le_of_ble_eq_true rfl) rfl es.symm rfl dX3_readFactor_154
                    · have hf98 := br_n hf95 c96; clear hf95
                      refine j_iconst X (v := -1) dX3_readFactor_140 (by decide) ?_
                      obtain ⟨er, es⟩ := rt_of hf98
                      subst er
                      exact j_reti X hr hlk (Nat.le_of_ble_eq_true rfl) (Nat.le_of_ble_eq_true rfl) rfl es.symm rfl dX3_readFactor_141
                · have hf82 := br_y hf72 c80; clear hf72
                  refine j_aload_n X dX3_readFactor_96 2 rfl rfl ?_
                  refine j_iload_n X dX3_readFactor_97 3 rfl rfl ?_
                  refine j_iconst X (v := 1) dX3_readFactor_98 (by decide) ?_
                  refine j_iadd X dX3_readFactor_99 ?_
                  obtain ⟨r106, σ107, h108, hf109⟩ := bc_of hf82; clear hf82
                  refine j_callV0 X [.int (a1 + (1 : Int32))] [] (ihg.2.2 a0 (a1 + (1 : Int32)) σ77 _ _ h108) mk_X3_readFactor mv_X3_readFactor ml_X3_60 h79 rfl (by decide) ⟨rfl, rfl⟩ ⟨by dsimp only [rg_XP]; omega, by dsimp only [rg_XP]; omega⟩ rfl (Nat.le_of_ble_eq_true rfl) ⟨Nat.zero_le _, Nat.zero_le _⟩ dX3_readFactor_100 rfl (st' := [.int r106]) rfl ?_
                  refine j_istore X (lv' := [(4, .int r106), (3, .int v73), (2, .int r3), (0, .ref (q a0)), (1, .int a1)]) dX3_readFactor_103 (by decide) rfl ?_
                  refine j_aload_n X dX3_readFactor_105 3 rfl rfl ?_
                  refine j_iconst X (v := 2) dX3_readFactor_106 (by decide) ?_
                  refine j_iload_n X dX3_readFactor_107 1 rfl rfl ?_
                  refine j_iload X dX3_readFactor_108 0 rfl ?_
                  refine j_iload X dX3_readFactor_110 0 rfl ?_
                  obtain ⟨h110, hf111⟩ := chk_of hf109; clear hf109
                  obtain ⟨r112, σ113, h114, hf115⟩ := bc_of hf111; clear hf111
                  refine j_callV0 X [.int (2 : Int32), .int v73, .int r106, .int r106] [] (c_X3_join l D cs q a0 (2 : Int32) v73 r106 r106 σ107 _ _ h114) mk_X3_join mv_X3_join ml_X3_56 h110 rfl (by decide) ⟨rfl, rfl⟩ ⟨by dsimp only [rg_XP, rm_X3_join]; omega, by dsimp only [rg_XP, rm_X3_join]; omega⟩ rfl (Nat.le_of_ble_eq_true rfl) ⟨Nat.zero_le _, Nat.zero_le _⟩ dX3_readFactor_112 rfl (st' := [.int r112]) rfl ?_
                  obtain ⟨er, es⟩ := rt_of hf115
                  subst er
                  exact j_reti X hr hlk (Nat.le_of_ble_eq_true rfl) (Nat.le_of_ble_eq_true rfl) rfl es.symm rfl dX3_readFactor_115
              · have hf70 := br_n hf22 c68; clear hf22
                refine j_iconst X (v := -1) dX3_readFactor_73 (by decide) ?_
                obtain ⟨er, es⟩ := rt_of hf70
                subst er
                exact j_reti X hr hlk (Nat.le_of_ble_eq_true rfl) (Nat.le_of_ble_eq_true rfl) rfl es.symm rfl dX3_readFactor_74
        · have hf16 := br_n hf13 c14; clear hf13
          refine j_aload_n X dX3_readFactor_50 1 rfl rfl ?_
          obtain ⟨h116, hf117⟩ := chk_of hf16; clear hf16
          obtain ⟨r118, σ119, h120, hf121⟩ := bc_of hf117; clear hf117
          refine j_callV0 X [] [] (c_X3_readNumber l D cs q a0 σ11 _ _ h120) mk_X3_readNumber mv_X3_readNumber ml_X3_71 h116 rfl (by decide) ⟨rfl, rfl⟩ ⟨by dsimp only [rg_XP, rm_X3_readNumber]; omega, by dsimp only [rg_XP, rm_X3_readNumber]; omega⟩ rfl (Nat.le_of_ble_eq_true rfl) ⟨Nat.zero_le _, Nat.zero_le _⟩ dX3_readFactor_51 rfl (st' := [.int r118]) rfl ?_
          obtain ⟨er, es⟩ := rt_of hf121
          subst er
          exact j_reti X hr hlk (Nat.le_of_ble_eq_true rfl) (Nat.le_of_ble_eq_true rfl) rfl es.symm rfl dX3_readFactor_54
      · have hf9 := br_n hf6 c7; clear hf6
        refine j_iload_n X dX3_readFactor_11 0 rfl rfl ?_
        refine j_bipush X (v := 102) dX3_readFactor_12 (by decide) ?_
        refine j_icmp_gt X (tgt := 43) dX3_readFactor_14 (by decide) (fun c122 => ?_) (fun c122 => ?_)
        · have hf123 := br_y hf9 c122; clear hf9
          refine j_iload_n X dX3_readFactor_43 0 rfl rfl ?_
          obtain ⟨r125, σ126, h127, hf128⟩ := bc_of hf123; clear hf123
          refine j_callS0 X [.int r3] [] (c_X3_isFigure l D cs q r3 σ4 _ _ h127) mk_X3_isFigure ms_X3_isFigure ml_X3_67 ⟨rfl, rfl⟩ ⟨by dsimp only [rg_XP, rm_X3_isFigure]; omega, by dsimp only [rg_XP, rm_X3_isFigure]; omega⟩ rfl (Nat.le_of_ble_eq_true rfl) ⟨Nat.zero_le _, Nat.zero_le _⟩ dX3_readFactor_44 rfl (st' := [.int r125]) rfl ?_
          refine j_if_eq X (tgt := 55) dX3_readFactor_47 (by decide) (fun c129 => ?_) (fun c129 => ?_)
          · have hf130 := br_y hf128 c129; clear hf128
            refine j_iload_n X dX3_readFactor_55 2 rfl rfl ?_
            refine j_bipush X (v := 6) dX3_readFactor_56 (by decide) ?_
            refine j_icmp_ge X (tgt := 73) dX3_readFactor_58 (by decide) (fun c132 => ?_) (fun c132 => ?_)
            · have hf133 := br_y hf130 c132; clear hf130
              refine j_iconst X (v := -1) dX3_readFactor_73 (by decide) ?_
              obtain ⟨er, es⟩ := rt_of hf133
              subst er
              exact j_reti X hr hlk (Nat.le_of_ble_eq_true rfl) (Nat.le_of_ble_eq_true rfl) rfl es.symm rfl dX3_readFactor_74
            · have hf134 := br_n hf130 c132; clear hf130
              refine j_iload_n X dX3_readFactor_61 0 rfl rfl ?_
              refine j_bipush X (v := 45) dX3_readFactor_62 (by decide) ?_
              refine j_icmp_eq X (tgt := 75) dX3_readFactor_64 (by decide) (fun c135 => ?_) (fun c135 => ?_)
              · have hf136 := br_y hf134 c135; clear hf134
                refine j_aload_n X dX3_readFactor_75 1 rfl rfl ?_
                obtain ⟨h138, hf139⟩ := chk_of hf136; clear hf136
                refine j_geti X fd_X3_19 h138 dX3_readFactor_76 (fun v140 ev140 => ?_)
                replace hf139 := lt_of hf139 v140 ev140
                refine j_istore_n X (lv' := [(3, .int v140), (2, .int r3), (0, .ref (q a0)), (1, .int a1)]) dX3_readFactor_79 rfl (by decide) rfl ?_
                refine j_aload_n X dX3_readFactor_80 2 rfl rfl ?_
                refine j_dup X dX3_readFactor_81 rfl ?_
                refine j_geti X fd_X3_19 h138 dX3_readFactor_82 (fun v142 ev142 => ?_)
                replace hf139 := lt_of hf139 v142 ev142
                refine j_iconst X (v := 1) dX3_readFactor_85 (by decide) ?_
                refine j_iadd X dX3_readFactor_86 ?_
                refine j_puti X fp_X3_19 h138 dX3_readFactor_87 (fun σ144 eσ144 => ?_)
                replace hf139 := lt_of hf139 σ144 eσ144
                have h146 : isO σ144 3 a0 := by rw [eσ144]; exact h138
                refine j_iload_n X dX3_readFactor_90 1 rfl rfl ?_
                refine j_bipush X (v := 45) dX3_readFactor_91 (by decide) ?_
                refine j_icmp_ne X (tgt := 116) dX3_readFactor_93 (by decide) (fun c147 => ?_) (fun c147 => ?_)
                · have hf148 := br_n hf139 c147; clear hf139
                  refine j_aload_n X dX3_readFactor_116 2 rfl rfl ?_
                  refine j_iload_n X dX3_readFactor_117 3 rfl rfl ?_
                  refine j_iconst X (v := 1) dX3_readFactor_118 (by decide) ?_
                  refine j_iadd X dX3_readFactor_119 ?_
                  obtain ⟨r150, σ151, h152, hf153⟩ := bc_of hf148; clear hf148
                  refine j_callV0 X [.int (a1 + (1 : Int32))] [] (ihg.1 a0 (a1 + (1 : Int32)) σ144 _ _ h152) mk_X3_readSum mv_X3_readSum ml_X3_40 h146 rfl (by decide) ⟨rfl, rfl⟩ ⟨by dsimp only [rg_XP]; omega, by dsimp only [rg_XP]; omega⟩ rfl (Nat.le_of_ble_eq_true rfl) ⟨Nat.zero_le _, Nat.zero_le _⟩ dX3_readFactor_120 rfl (st' := [.int r150]) rfl ?_
                  refine j_istore X (lv' := [(4, .int r150), (3, .int v140), (2, .int r3), (0, .ref (q a0)), (1, .int a1)]) dX3_readFactor_123 (by decide) rfl ?_
                  refine j_iload X dX3_readFactor_125 0 rfl ?_
                  refine j_iconst X (v := -1) dX3_readFactor_127 (by decide) ?_
                  refine j_icmp_eq X (tgt := 140) dX3_readFactor_128 (by decide) (fun c154 => ?_) (fun c154 => ?_)
                  · have hf155 := br_y hf153 c154; clear hf153
                    refine j_iconst X (v := -1) dX3_readFactor_140 (by decide) ?_
                    obtain ⟨er, es⟩ := rt_of hf155
                    subst er
                    exact j_reti X hr hlk (Nat.le_of_ble_eq_true rfl) (Nat.le_of_ble_eq_true rfl) rfl es.symm rfl dX3_readFactor_141
                  · have hf156 := br_n hf153 c154; clear hf153
                    refine j_aload_n X dX3_readFactor_131 3 rfl rfl ?_
                    obtain ⟨h157, hf158⟩ := chk_of hf156; clear hf156
                    obtain ⟨r159, σ160, h161, hf162⟩ := bc_of hf158; clear hf158
                    refine j_callV0 X [] [] (c_X3_here l D cs q a0 σ151 _ _ h161) mk_X3_here mv_X3_here ml_X3_52 h157 rfl (by decide) ⟨rfl, rfl⟩ ⟨by dsimp only [rg_XP, rm_X3_here]; omega, by dsimp only [rg_XP, rm_X3_here]; omega⟩ rfl (Nat.le_of_ble_eq_true rfl) ⟨Nat.zero_le _, Nat.zero_le _⟩ dX3_readFactor_132 rfl (st' := [.int r159]) rfl ?_
                    refine j_bipush X (v := 41) dX3_readFactor_135 (by decide) ?_
                    refine j_icmp_eq X (tgt := 142) dX3_readFactor_137 (by decide) (fun c163 => ?_) (fun c163 => ?_)
                    · have hf164 := br_y hf162 c163; clear hf162
                      refine j_aload_n X dX3_readFactor_142 3 rfl rfl ?_
                      refine j_dup X dX3_readFactor_143 rfl ?_
                      obtain ⟨h166, hf167⟩ := chk_of hf164; clear hf164
                      refine j_geti X fd_X3_19 h166 dX3_readFactor_144 (fun v168 ev168 => ?_)
                      replace hf167 := lt_of hf167 v168 ev168
                      refine j_iconst X (v := 1) dX3_readFactor_147 (by decide) ?_
                      refine j_iadd X dX3_readFactor_148 ?_
                      refine j_puti X fp_X3_19 h166 dX3_readFactor_149 (fun σ170 eσ170 => ?_)
                      replace hf167 := lt_of hf167 σ170 eσ170
                      have h172 : isO σ170 3 a0 := by rw [eσ170]; exact h166
                      refine j_iload X dX3_readFactor_152 0 rfl ?_
                      obtain ⟨er, es⟩ := rt_of hf167
                      subst er
                      exact j_reti X hr hlk (Nat.le_of_ble_eq_true rfl) (Nat.le_of_ble_eq_true rfl) rfl es.symm rfl dX3_readFactor_154
                    · have hf165 := br_n hf162 c163; clear hf162
                      refine j_iconst X (v := -1) dX3_readFactor_140 (by decide) ?_
                      obtain ⟨er, es⟩ := rt_of hf165
                      subst er
                      exact j_reti X hr hlk (Nat.le_of_ble_eq_true rfl) (Nat.le_of_ble_eq_true rfl) rfl es.symm rfl dX3_readFactor_141
                · have hf149 := br_y hf139 c147; clear hf139
                  refine j_aload_n X dX3_readFactor_96 2 rfl rfl ?_
                  refine j_iload_n X dX3_readFactor_97 3 rfl rfl ?_
                  refine j_iconst X (v := 1) dX3_readFactor_98 (by decide) ?_
                  refine j_iadd X dX3_readFactor_99 ?_
                  obtain ⟨r173, σ174, h175, hf176⟩ := bc_of hf149; clear hf149
                  refine j_callV0 X [.int (a1 + (1 : Int32))] [] (ihg.2.2 a0 (a1 + (1 : Int32)) σ144 _ _ h175) mk_X3_readFactor mv_X3_readFactor ml_X3_60 h146 rfl (by decide) ⟨rfl, rfl⟩ ⟨by dsimp only [rg_XP]; omega, by dsimp only [rg_XP]; omega⟩ rfl (Nat.le_of_ble_eq_true rfl) ⟨Nat.zero_le _, Nat.zero_le _⟩ dX3_readFactor_100 rfl (st' := [.int r173]) rfl ?_
                  refine j_istore X (lv' := [(4, .int r173), (3, .int v140), (2, .int r3), (0, .ref (q a0)), (1, .int a1)]) dX3_readFactor_103 (by decide) rfl ?_
                  refine j_aload_n X dX3_readFactor_105 3 rfl rfl ?_
                  refine j_iconst X (v := 2) dX3_readFactor_106 (by decide) ?_
                  refine j_iload_n X dX3_readFactor_107 1 rfl rfl ?_
                  refine j_iload X dX3_readFactor_108 0 rfl ?_
                  refine j_iload X dX3_readFactor_110 0 rfl ?_
                  obtain ⟨h177, hf178⟩ := chk_of hf176; clear hf176
                  obtain ⟨r179, σ180, h181, hf182⟩ := bc_of hf178; clear hf178
                  refine j_callV0 X [.int (2 : Int32), .int v140, .int r173, .int r173] [] (c_X3_join l D cs q a0 (2 : Int32) v140 r173 r173 σ174 _ _ h181) mk_X3_join mv_X3_join ml_X3_56 h177 rfl (by decide) ⟨rfl, rfl⟩ ⟨by dsimp only [rg_XP, rm_X3_join]; omega, by dsimp only [rg_XP, rm_X3_join]; omega⟩ rfl (Nat.le_of_ble_eq_true rfl) ⟨Nat.zero_le _, Nat.zero_le _⟩ dX3_readFactor_112 rfl (st' := [.int r179]) rfl ?_
                  obtain ⟨er, es⟩ := rt_of hf182
                  subst er
                  exact j_reti X hr hlk (Nat.le_of_ble_eq_true rfl) (Nat.le_of_ble_eq_true rfl) rfl es.symm rfl dX3_readFactor_115
              · have hf137 := br_n hf134 c135; clear hf134
                refine j_iload_n X dX3_readFactor_67 0 rfl rfl ?_
                refine j_bipush X (v := 40) dX3_readFactor_68 (by decide) ?_
                refine j_icmp_eq X (tgt := 75) dX3_readFactor_70 (by decide) (fun c183 => ?_) (fun c183 => ?_)
                · have hf184 := br_y hf137 c183; clear hf137
                  refine j_aload_n X dX3_readFactor_75 1 rfl rfl ?_
                  obtain ⟨h186, hf187⟩ := chk_of hf184; clear hf184
                  refine j_geti X fd_X3_19 h186 dX3_readFactor_76 (fun v188 ev188 => ?_)
                  replace hf187 := lt_of hf187 v188 ev188
                  refine j_istore_n X (lv' := [(3, .int v188), (2, .int r3), (0, .ref (q a0)), (1, .int a1)]) dX3_readFactor_79 rfl (by decide) rfl ?_
                  refine j_aload_n X dX3_readFactor_80 2 rfl rfl ?_
                  refine j_dup X dX3_readFactor_81 rfl ?_
                  refine j_geti X fd_X3_19 h186 dX3_readFactor_82 (fun v190 ev190 => ?_)
                  replace hf187 := lt_of hf187 v190 ev190
                  refine j_iconst X (v := 1) dX3_readFactor_85 (by decide) ?_
                  refine j_iadd X dX3_readFactor_86 ?_
                  refine j_puti X fp_X3_19 h186 dX3_readFactor_87 (fun σ192 eσ192 => ?_)
                  replace hf187 := lt_of hf187 σ192 eσ192
                  have h194 : isO σ192 3 a0 := by rw [eσ192]; exact h186
                  refine j_iload_n X dX3_readFactor_90 1 rfl rfl ?_
                  refine j_bipush X (v := 45) dX3_readFactor_91 (by decide) ?_
                  refine j_icmp_ne X (tgt := 116) dX3_readFactor_93 (by decide) (fun c195 => ?_) (fun c195 => ?_)
                  · have hf196 := br_n hf187 c195; clear hf187
                    refine j_aload_n X dX3_readFactor_116 2 rfl rfl ?_
                    refine j_iload_n X dX3_readFactor_117 3 rfl rfl ?_
                    refine j_iconst X (v := 1) dX3_readFactor_118 (by decide) ?_
                    refine j_iadd X dX3_readFactor_119 ?_
                    obtain ⟨r198, σ199, h200, hf201⟩ := bc_of hf196; clear hf196
                    refine j_callV0 X [.int (a1 + (1 : Int32))] [] (ihg.1 a0 (a1 + (1 : Int32)) σ192 _ _ h200) mk_X3_readSum mv_X3_readSum ml_X3_40 h194 rfl (by decide) ⟨rfl, rfl⟩ ⟨by dsimp only [rg_XP]; omega, by dsimp only [rg_XP]; omega⟩ rfl (Nat.le_of_ble_eq_true rfl) ⟨Nat.zero_le _, Nat.zero_le _⟩ dX3_readFactor_120 rfl (st' := [.int r198]) rfl ?_
                    refine j_istore X (lv' := [(4, .int r198), (3, .int v188), (2, .int r3), (0, .ref (q a0)), (1, .int a1)]) dX3_readFactor_123 (by decide) rfl ?_
                    refine j_iload X dX3_readFactor_125 0 rfl ?_
                    refine j_iconst X (v := -1) dX3_readFactor_127 (by decide) ?_
                    refine j_icmp_eq X (tgt := 140) dX3_readFactor_128 (by decide) (fun c202 => ?_) (fun c202 => ?_)
                    · have hf203 := br_y hf201 c202; clear hf201
                      refine j_iconst X (v := -1) dX3_readFactor_140 (by decide) ?_
                      obtain ⟨er, es⟩ := rt_of hf203
                      subst er
                      exact j_reti X hr hlk (Nat.le_of_ble_eq_true rfl) (Nat.le_of_ble_eq_true rfl) rfl es.symm rfl dX3_readFactor_141
                    · have hf204 := br_n hf201 c202; clear hf201
                      refine j_aload_n X dX3_readFactor_131 3 rfl rfl ?_
                      obtain ⟨h205, hf206⟩ := chk_of hf204; clear hf204
                      obtain ⟨r207, σ208, h209, hf210⟩ := bc_of hf206; clear hf206
                      refine j_callV0 X [] [] (c_X3_here l D cs q a0 σ199 _ _ h209) mk_X3_here mv_X3_here ml_X3_52 h205 rfl (by decide) ⟨rfl, rfl⟩ ⟨by dsimp only [rg_XP, rm_X3_here]; omega, by dsimp only [rg_XP, rm_X3_here]; omega⟩ rfl (Nat.le_of_ble_eq_true rfl) ⟨Nat.zero_le _, Nat.zero_le _⟩ dX3_readFactor_132 rfl (st' := [.int r207]) rfl ?_
                      refine j_bipush X (v := 41) dX3_readFactor_135 (by decide) ?_
                      refine j_icmp_eq X (tgt := 142) dX3_readFactor_137 (by decide) (fun c211 => ?_) (fun c211 => ?_)
                      · have hf212 := br_y hf210 c211; clear hf210
                        refine j_aload_n X dX3_readFactor_142 3 rfl rfl ?_
                        refine j_dup X dX3_readFactor_143 rfl ?_
                        obtain ⟨h214, hf215⟩ := chk_of hf212; clear hf212
                        refine j_geti X fd_X3_19 h214 dX3_readFactor_144 (fun v216 ev216 => ?_)
                        replace hf215 := lt_of hf215 v216 ev216
                        refine j_iconst X (v := 1) dX3_readFactor_147 (by decide) ?_
                        refine j_iadd X dX3_readFactor_148 ?_
                        refine j_puti X fp_X3_19 h214 dX3_readFactor_149 (fun σ218 eσ218 => ?_)
                        replace hf215 := lt_of hf215 σ218 eσ218
                        have h220 : isO σ218 3 a0 := by rw [eσ218]; exact h214
                        refine j_iload X dX3_readFactor_152 0 rfl ?_
                        obtain ⟨er, es⟩ := rt_of hf215
                        subst er
                        exact j_reti X hr hlk (Nat.le_of_ble_eq_true rfl) (Nat.le_of_ble_eq_true rfl) rfl es.symm rfl dX3_readFactor_154
                      · have hf213 := br_n hf210 c211; clear hf210
                        refine j_iconst X (v := -1) dX3_readFactor_140 (by decide) ?_
                        obtain ⟨er, es⟩ := rt_of hf213
                        subst er
                        exact j_reti X hr hlk (Nat.le_of_ble_eq_true rfl) (Nat.le_of_ble_eq_true rfl) rfl es.symm rfl dX3_readFactor_141
                  · have hf197 := br_y hf187 c195; clear hf187
                    refine j_aload_n X dX3_readFactor_96 2 rfl rfl ?_
                    refine j_iload_n X dX3_readFactor_97 3 rfl rfl ?_
                    refine j_iconst X (v := 1) dX3_readFactor_98 (by decide) ?_
                    refine j_iadd X dX3_readFactor_99 ?_
                    obtain ⟨r221, σ222, h223, hf224⟩ := bc_of hf197; clear hf197
                    refine j_callV0 X [.int (a1 + (1 : Int32))] [] (ihg.2.2 a0 (a1 + (1 : Int32)) σ192 _ _ h223) mk_X3_readFactor mv_X3_readFactor ml_X3_60 h194 rfl (by decide) ⟨rfl, rfl⟩ ⟨by dsimp only [rg_XP]; omega, by dsimp only [rg_XP]; omega⟩ rfl (Nat.le_of_ble_eq_true rfl) ⟨Nat.zero_le _, Nat.zero_le _⟩ dX3_readFactor_100 rfl (st' := [.int r221]) rfl ?_
                    refine j_istore X (lv' := [(4, .int r221), (3, .int v188), (2, .int r3), (0, .ref (q a0)), (1, .int a1)]) dX3_readFactor_103 (by decide) rfl ?_
                    refine j_aload_n X dX3_readFactor_105 3 rfl rfl ?_
                    refine j_iconst X (v := 2) dX3_readFactor_106 (by decide) ?_
                    refine j_iload_n X dX3_readFactor_107 1 rfl rfl ?_
                    refine j_iload X dX3_readFactor_108 0 rfl ?_
                    refine j_iload X dX3_readFactor_110 0 rfl ?_
                    obtain ⟨h225, hf226⟩ := chk_of hf224; clear hf224
                    obtain ⟨r227, σ228, h229, hf230⟩ := bc_of hf226; clear hf226
                    refine j_callV0 X [.int (2 : Int32), .int v188, .int r221, .int r221] [] (c_X3_join l D cs q a0 (2 : Int32) v188 r221 r221 σ222 _ _ h229) mk_X3_join mv_X3_join ml_X3_56 h225 rfl (by decide) ⟨rfl, rfl⟩ ⟨by dsimp only [rg_XP, rm_X3_join]; omega, by dsimp only [rg_XP, rm_X3_join]; omega⟩ rfl (Nat.le_of_ble_eq_true rfl) ⟨Nat.zero_le _, Nat.zero_le _⟩ dX3_readFactor_112 rfl (st' := [.int r227]) rfl ?_
                    obtain ⟨er, es⟩ := rt_of hf230
                    subst er
                    exact j_reti X hr hlk (Nat.le_of_ble_eq_true rfl) (Nat.le_of_ble_eq_true rfl) rfl es.symm rfl dX3_readFactor_115
                · have hf185 := br_n hf137 c183; clear hf137
                  refine j_iconst X (v := -1) dX3_readFactor_73 (by decide) ?_
                  obtain ⟨er, es⟩ := rt_of hf185
                  subst er
                  exact j_reti X hr hlk (Nat.le_of_ble_eq_true rfl) (Nat.le_of_ble_eq_true rfl) rfl es.symm rfl dX3_readFactor_74
          · have hf131 := br_n hf128 c129; clear hf128
            refine j_aload_n X dX3_readFactor_50 1 rfl rfl ?_
            obtain ⟨h231, hf232⟩ := chk_of hf131; clear hf131
            obtain ⟨r233, σ234, h235, hf236⟩ := bc_of hf232; clear hf232
            refine j_callV0 X [] [] (c_X3_readNumber l D cs q a0 σ126 _ _ h235) mk_X3_readNumber mv_X3_readNumber ml_X3_71 h231 rfl (by decide) ⟨rfl, rfl⟩ ⟨by dsimp only [rg_XP, rm_X3_readNumber]; omega, by dsimp only [rg_XP, rm_X3_readNumber]; omega⟩ rfl (Nat.le_of_ble_eq_true rfl) ⟨Nat.zero_le _, Nat.zero_le _⟩ dX3_readFactor_51 rfl (st' := [.int r233]) rfl ?_
            obtain ⟨er, es⟩ := rt_of hf236
            subst er
            exact j_reti X hr hlk (Nat.le_of_ble_eq_true rfl) (Nat.le_of_ble_eq_true rfl) rfl es.symm rfl dX3_readFactor_54
        · have hf124 := br_n hf9 c122; clear hf9
          refine j_aload_n X dX3_readFactor_17 1 rfl rfl ?_
          refine j_dup X dX3_readFactor_18 rfl ?_
          obtain ⟨h237, hf238⟩ := chk_of hf124; clear hf124
          refine j_geti X fd_X3_19 h237 dX3_readFactor_19 (fun v239 ev239 => ?_)
          replace hf238 := lt_of hf238 v239 ev239
          refine j_iconst X (v := 1) dX3_readFactor_22 (by decide) ?_
          refine j_iadd X dX3_readFactor_23 ?_
          refine j_puti X fp_X3_19 h237 dX3_readFactor_24 (fun σ241 eσ241 => ?_)
          replace hf238 := lt_of hf238 σ241 eσ241
          have h243 : isO σ241 3 a0 := by rw [eσ241]; exact h237
          refine j_aload_n X dX3_readFactor_27 1 rfl rfl ?_
          refine j_iconst X (v := 0) dX3_readFactor_28 (by decide) ?_
          refine j_aload_n X dX3_readFactor_29 1 rfl rfl ?_
          refine j_geti X fd_X3_19 h243 dX3_readFactor_30 (fun v244 ev244 => ?_)
          replace hf238 := lt_of hf238 v244 ev244
          refine j_iconst X (v := 1) dX3_readFactor_33 (by decide) ?_
          refine j_isub X dX3_readFactor_34 ?_
          refine j_iload_n X dX3_readFactor_35 0 rfl rfl ?_
          refine j_bipush X (v := 97) dX3_readFactor_36 (by decide) ?_
          refine j_isub X dX3_readFactor_38 ?_
          obtain ⟨r246, σ247, h248, hf249⟩ := bc_of hf238; clear hf238
          refine j_callV0 X [.int (0 : Int32), .int (v244 - (1 : Int32)), .int (r3 - (97 : Int32))] [] (c_X3_add l D cs q a0 (0 : Int32) (v244 - (1 : Int32)) (r3 - (97 : Int32)) σ241 _ _ h248) mk_X3_add mv_X3_add ml_X3_63 h243 rfl (by decide) ⟨rfl, rfl⟩ ⟨by dsimp only [rg_XP, rm_X3_add]; omega, by dsimp only [rg_XP, rm_X3_add]; omega⟩ rfl (Nat.le_of_ble_eq_true rfl) ⟨Nat.zero_le _, Nat.zero_le _⟩ dX3_readFactor_39 rfl (st' := [.int r246]) rfl ?_
          obtain ⟨er, es⟩ := rt_of hf249
          subst er
          exact j_reti X hr hlk (Nat.le_of_ble_eq_true rfl) (Nat.le_of_ble_eq_true rfl) rfl es.symm rfl dX3_readFactor_42
abbrev rm_X3_readSum : Room := rg_XP 40
theorem c_X3_readSum (l : Launch) (D : va_G) (cs : Nat → ClassId) (q : Nat → Nat) (a0 : Nat) (a1 : Int32) (σ σ0 : HS) (r0 : Int32) (hf0 : f_X3_readSum a0 a1 σ = some (r0, σ0)) : MT l yX3_readSum (Cond.code yX3_readSum cX3_readSum 7 (some .int) :: lw_g) rm_X3_readSum D cs q σ σ0 [.ref (q a0), .int a1] (fun z => z = q) (fun _ => some (.int r0)) 0 0 := (cg_XP l D cs q 40).1 a0 a1 σ σ0 r0 hf0
abbrev rm_X3_readProduct : Room := rg_XP 40
theorem c_X3_readProduct (l : Launch) (D : va_G) (cs : Nat → ClassId) (q : Nat → Nat) (a0 : Nat) (a1 : Int32) (σ σ0 : HS) (r0 : Int32) (hf0 : f_X3_readProduct a0 a1 σ = some (r0, σ0)) : MT l yX3_readProduct (Cond.code yX3_readProduct cX3_readProduct 6 (some .int) :: lw_g) rm_X3_readProduct D cs q σ σ0 [.ref (q a0), .int a1] (fun z => z = q) (fun _ => some (.int r0)) 0 0 := (cg_XP l D cs q 40).2.1 a0 a1 σ σ0 r0 hf0
abbrev rm_X3_readFactor : Room := rg_XP 40
theorem c_X3_readFactor (l : Launch) (D : va_G) (cs : Nat → ClassId) (q : Nat → Nat) (a0 : Nat) (a1 : Int32) (σ σ0 : HS) (r0 : Int32) (hf0 : f_X3_readFactor a0 a1 σ = some (r0, σ0)) : MT l yX3_readFactor (Cond.code yX3_readFactor cX3_readFactor 5 (some .int) :: lw_g) rm_X3_readFactor D cs q σ σ0 [.ref (q a0), .int a1] (fun z => z = q) (fun _ => some (.int r0)) 0 0 := (cg_XP l D cs q 40).2.2 a0 a1 σ σ0 r0 hf0
