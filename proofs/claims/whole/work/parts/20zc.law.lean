/-! the law -/
theorem lgc_self (x : Int64) : lg_cmp x x = 0 := (zc_eq x x).mpr rfl
theorem pure_loop (L : Nat) (hL : L ≤ 4608) (xs : Nat → Int32) : ∀ nf i σ V S C n FS, INV σ V S C n FS → L + 18 ≤ i + 9 * nf → i ≤ L + 9 → ∃ σ', lp_L_law_18 L xs nf 0 48 (nI i) σ = some (1, σ') := by
  intro nf
  induction nf with
  | zero => intro i σ V S C n FS I h h2; omega
  | succ nf ih =>
    intro i σ V S C n FS I h h2
    have t := I.1
    have cI : (nI L).toInt = L := nI_toInt (by omega)
    have ci : (nI i).toInt = i := nI_toInt (by omega)
    have c9 : (nI L - 9).toInt = (L : Int) - 9 := by rw [i_sub (by omega) (by omega) (by decide) (by decide), cI]; rfl
    have le : (nI L - 9 < nI i) = (L < i + 9) := by rw [i_lt, c9, ci]; exact propext ⟨fun z => by omega, fun z => by omega⟩
    show ∃ σ', lp_L_law_18_b L xs (lp_L_law_18 L xs nf) 0 48 (nI i) σ = some (1, σ')
    unfold lp_L_law_18_b
    rw [show Int32.ofNat L = nI L from rfl, lt_p]
    by_cases c : L < i + 9
    · rw [if_pos (of_eq_true (le.trans (eq_true c)))]
      exact ⟨σ, rfl⟩
    rw [if_neg (of_eq_false (le.trans (eq_false c)))]
    have hin : ∀ j, j < 9 → inb (nI i + nI j) L := fun j hj => by rw [nI_plus]; exact inb_i (by omega) (by omega)
    have h0 : inb (nI i) L := inb_i (by omega) (by omega)
    have h1 : inb (nI i + (1 : Int32)) L := hin 1 (by decide)
    have h2 : inb (nI i + (2 : Int32)) L := hin 2 (by decide)
    have h3 : inb (nI i + (3 : Int32)) L := hin 3 (by decide)
    have h4 : inb (nI i + (4 : Int32)) L := hin 4 (by decide)
    have h5 : inb (nI i + (5 : Int32)) L := hin 5 (by decide)
    have h6 : inb (nI i + (6 : Int32)) L := hin 6 (by decide)
    have h7 : inb (nI i + (7 : Int32)) L := hin 7 (by decide)
    have h8 : inb (nI i + (8 : Int32)) L := hin 8 (by decide)
    have s9 : nI i + (9 : Int32) = nI (i + 9) := nI_plus i 9
    have go : ∀ σ', (∃ V S C n FS, INV σ' V S C n FS) → ∃ σ'', lp_L_law_18 L xs nf 0 48 (nI (i + 9)) σ' = some (1, σ'') := fun σ' ⟨V, S, C, n, FS, I'⟩ => ih (i + 9) σ' V S C n FS I' (by omega) (by omega)
    rw [chk_p h0, lt_p, lt_p]
    generalize xs (nI i).toNatClampNeg &&& (31 : Int32) = v
    by_cases c0 : v = (0 : Int32)
    · obtain ⟨r, σ1, σ2, e1, t1, n1, e2, n2, I2⟩ := op_set (xs (nI i + (1 : Int32)).toNatClampNeg) (xs (nI i + (2 : Int32)).toNatClampNeg) (xs (nI i + (3 : Int32)).toNatClampNeg) σ V S C n FS I
      rw [if_pos c0, chk_p h1, lt_p, chk_p h2, lt_p, chk_p h3, lt_p, chk_p (o0 t), e1, bc_p, chk_p n1, chk_p h1, lt_p, chk_p h2, lt_p, chk_p h3, lt_p, chk_p (o48 t1), e2, bc_p, chk_p n2, if_pos (rfl), s9, lt_p]
      exact go σ2 I2
    rw [if_neg c0]
    by_cases c1 : v = (1 : Int32)
    · obtain ⟨r, σ1, σ2, e1, t1, n1, e2, n2, I2⟩ := op_of (xs (nI i + (1 : Int32)).toNatClampNeg) (xs (nI i + (2 : Int32)).toNatClampNeg) σ V S C n FS I
      rw [if_pos c1, chk_p h1, lt_p, chk_p h2, lt_p, chk_p (o0 t), e1, bc_p, chk_p n1, chk_p h1, lt_p, chk_p h2, lt_p, chk_p (o48 t1), e2, bc_p, chk_p n2, if_pos (rfl), s9, lt_p]
      exact go σ2 I2
    rw [if_neg c1]
    by_cases c2 : v = (2 : Int32)
    · obtain ⟨r, σ1, σ2, e1, t1, n1, e2, n2, I2⟩ := op_feed (xs (nI i + (1 : Int32)).toNatClampNeg) σ V S C n FS I
      rw [if_pos c2, chk_p h1, lt_p, chk_p (o0 t), e1, bc_p, chk_p n1, chk_p h1, lt_p, chk_p (o48 t1), e2, bc_p, chk_p n2, if_pos (rfl), s9, lt_p]
      exact go σ2 I2
    rw [if_neg c2]
    by_cases c3 : v = (3 : Int32)
    · obtain ⟨r, σ1, σ2, e1, t1, n1, e2, n2, I2⟩ := op_formula  σ V S C n FS I
      rw [if_pos c3, chk_p (o0 t), chk_p (Nat.lt_of_lt_of_le (by decide) t.1), e1, bc_p, chk_p (o48 t1), e2, bc_p, chk_p n2, if_pos rfl, s9, lt_p]
      exact go σ2 I2
    rw [if_neg c3]
    by_cases c4 : v = (4 : Int32)
    · obtain ⟨r, σ1, σ2, e1, t1, n1, e2, n2, I2⟩ := op_drop  σ V S C n FS I
      rw [if_pos c4, chk_p (o0 t), e1, bc_p, chk_p n1, chk_p (o48 t1), e2, bc_p, chk_p n2, if_pos (rfl), s9, lt_p]
      exact go σ2 I2
    rw [if_neg c4]
    by_cases c5 : v = (5 : Int32)
    · obtain ⟨r, σ1, σ2, e1, t1, n1, e2, n2, I2⟩ := op_parts (xs (nI i + (1 : Int32)).toNatClampNeg) (xs (nI i + (2 : Int32)).toNatClampNeg) σ V S C n FS I
      rw [if_pos c5, chk_p h1, lt_p, chk_p h2, lt_p, chk_p (o0 t), e1, bc_p, chk_p n1, chk_p h1, lt_p, chk_p h2, lt_p, chk_p (o48 t1), e2, bc_p, chk_p n2, if_pos (rfl), s9, lt_p]
      exact go σ2 I2
    rw [if_neg c5]
    by_cases c6 : v = (6 : Int32)
    · obtain ⟨r, σ1, σ2, e1, t1, n1, e2, n2, I2⟩ := op_alike (xs (nI i + (1 : Int32)).toNatClampNeg) (xs (nI i + (2 : Int32)).toNatClampNeg) σ V S C n FS I
      rw [if_pos c6, chk_p h1, lt_p, chk_p h2, lt_p, chk_p (o0 t), e1, bc_p, chk_p n1, chk_p h1, lt_p, chk_p h2, lt_p, chk_p (o48 t1), e2, bc_p, chk_p n2, if_pos (rfl), s9, lt_p]
      exact go σ2 I2
    rw [if_neg c6]
    by_cases c7 : v = (7 : Int32)
    · obtain ⟨r, σ1, σ2, e1, t1, n1, e2, n2, I2⟩ := op_span (xs (nI i + (1 : Int32)).toNatClampNeg) (xs (nI i + (2 : Int32)).toNatClampNeg) σ V S C n FS I
      rw [if_pos c7, chk_p h1, lt_p, chk_p h2, lt_p, chk_p (o0 t), e1, bc_p, chk_p n1, chk_p h1, lt_p, chk_p h2, lt_p, chk_p (o48 t1), e2, bc_p, chk_p n2, if_pos (lgc_self r), s9, lt_p]
      exact go σ2 I2
    rw [if_neg c7]
    by_cases c8 : v = (8 : Int32)
    · obtain ⟨r, σ1, σ2, e1, t1, n1, e2, n2, I2⟩ := op_way (xs (nI i + (1 : Int32)).toNatClampNeg) σ V S C n FS I
      rw [if_pos c8, chk_p h1, lt_p, chk_p (o0 t), e1, bc_p, chk_p n1, chk_p h1, lt_p, chk_p (o48 t1), e2, bc_p, chk_p n2, if_pos (rfl), s9, lt_p]
      exact go σ2 I2
    rw [if_neg c8]
    by_cases c9 : v = (9 : Int32)
    · obtain ⟨r, σ1, σ2, e1, t1, n1, e2, n2, I2⟩ := op_exact (xs (nI i + (1 : Int32)).toNatClampNeg) σ V S C n FS I
      rw [if_pos c9, chk_p h1, lt_p, chk_p (o0 t), e1, bc_p, chk_p n1, chk_p h1, lt_p, chk_p (o48 t1), e2, bc_p, chk_p n2, if_pos (lgc_self r), s9, lt_p]
      exact go σ2 I2
    rw [if_neg c9]
    by_cases c10 : v = (10 : Int32)
    · obtain ⟨r, σ1, σ2, e1, t1, n1, e2, n2, I2⟩ := op_corner (xs (nI i + (1 : Int32)).toNatClampNeg) (xs (nI i + (2 : Int32)).toNatClampNeg) σ V S C n FS I
      rw [if_pos c10, chk_p h1, lt_p, chk_p h2, lt_p, chk_p (o0 t), e1, bc_p, chk_p n1, chk_p h1, lt_p, chk_p h2, lt_p, chk_p (o48 t1), e2, bc_p, chk_p n2, if_pos (lgc_self r), s9, lt_p]
      exact go σ2 I2
    rw [if_neg c10]
    by_cases c11 : v = (11 : Int32)
    · obtain ⟨r, σ1, σ2, e1, t1, n1, e2, n2, I2⟩ := op_rises (xs (nI i + (1 : Int32)).toNatClampNeg) (xs (nI i + (2 : Int32)).toNatClampNeg) σ V S C n FS I
      rw [if_pos c11, chk_p h1, lt_p, chk_p h2, lt_p, chk_p (o0 t), e1, bc_p, chk_p n1, chk_p h1, lt_p, chk_p h2, lt_p, chk_p (o48 t1), e2, bc_p, chk_p n2, if_pos (rfl), s9, lt_p]
      exact go σ2 I2
    rw [if_neg c11]
    by_cases c12 : v = (12 : Int32)
    · obtain ⟨r, σ1, σ2, e1, t1, n1, e2, n2, I2⟩ := op_tight (xs (nI i + (1 : Int32)).toNatClampNeg) (xs (nI i + (2 : Int32)).toNatClampNeg) σ V S C n FS I
      rw [if_pos c12, chk_p h1, lt_p, chk_p h2, lt_p, chk_p (o0 t), e1, bc_p, chk_p n1, chk_p h1, lt_p, chk_p h2, lt_p, chk_p (o48 t1), e2, bc_p, chk_p n2, if_pos (lgc_self r), s9, lt_p]
      exact go σ2 I2
    rw [if_neg c12]
    by_cases c13 : v = (13 : Int32)
    · obtain ⟨r, σ1, σ2, e1, t1, n1, e2, n2, I2⟩ := op_split (xs (nI i + (1 : Int32)).toNatClampNeg) (xs (nI i + (2 : Int32)).toNatClampNeg) (xs (nI i + (3 : Int32)).toNatClampNeg) (xs (nI i + (4 : Int32)).toNatClampNeg) σ V S C n FS I
      rw [if_pos c13, chk_p h1, lt_p, chk_p h2, lt_p, chk_p h3, lt_p, chk_p h4, lt_p, chk_p (o0 t), e1, bc_p, chk_p n1, chk_p h1, lt_p, chk_p h2, lt_p, chk_p h3, lt_p, chk_p h4, lt_p, chk_p (o48 t1), e2, bc_p, chk_p n2, if_pos (lgc_self r), s9, lt_p]
      exact go σ2 I2
    rw [if_neg c13]
    by_cases c14 : v = (14 : Int32)
    · obtain ⟨r, σ1, σ2, e1, t1, n1, e2, n2, I2⟩ := op_best (xs (nI i + (1 : Int32)).toNatClampNeg) (xs (nI i + (2 : Int32)).toNatClampNeg) σ V S C n FS I
      rw [if_pos c14, chk_p h1, lt_p, chk_p h2, lt_p, chk_p (o0 t), e1, bc_p, chk_p n1, chk_p h1, lt_p, chk_p h2, lt_p, chk_p (o48 t1), e2, bc_p, chk_p n2, if_pos (lgc_self r), s9, lt_p]
      exact go σ2 I2
    rw [if_neg c14]
    by_cases c15 : v = (15 : Int32)
    · obtain ⟨r, σ1, σ2, e1, t1, n1, e2, n2, I2⟩ := op_widest (xs (nI i + (1 : Int32)).toNatClampNeg) σ V S C n FS I
      rw [if_pos c15, chk_p h1, lt_p, chk_p (o0 t), e1, bc_p, chk_p n1, chk_p h1, lt_p, chk_p (o48 t1), e2, bc_p, chk_p n2, if_pos (rfl), s9, lt_p]
      exact go σ2 I2
    rw [if_neg c15]
    by_cases c16 : v = (16 : Int32)
    · obtain ⟨r, σ1, σ2, e1, t1, n1, e2, n2, I2⟩ := op_again (xs (nI i + (1 : Int32)).toNatClampNeg) ((((xs (nI i + (2 : Int32)).toNatClampNeg)).toInt64 <<< (((32 : Int32)).toInt64 &&& 63)) ||| (((xs (nI i + (3 : Int32)).toNatClampNeg)).toInt64 &&& (4294967295 : Int64))) (xs (nI i + (4 : Int32)).toNatClampNeg) σ V S C n FS I
      rw [if_pos c16, chk_p h1, lt_p, chk_p h2, lt_p, chk_p h3, lt_p, chk_p h4, lt_p, chk_p (o0 t), e1, bc_p, chk_p n1, chk_p h1, lt_p, chk_p h2, lt_p, chk_p h3, lt_p, chk_p h4, lt_p, chk_p (o48 t1), e2, bc_p, chk_p n2, if_pos (rfl), s9, lt_p]
      exact go σ2 I2
    rw [if_neg c16]
    by_cases c17 : v = (17 : Int32)
    · obtain ⟨r, σ1, σ2, e1, t1, n1, e2, n2, I2⟩ := op_fits (xs (nI i + (1 : Int32)).toNatClampNeg) (xs (nI i + (2 : Int32)).toNatClampNeg) ((((xs (nI i + (3 : Int32)).toNatClampNeg)).toInt64 <<< (((32 : Int32)).toInt64 &&& 63)) ||| (((xs (nI i + (4 : Int32)).toNatClampNeg)).toInt64 &&& (4294967295 : Int64))) (xs (nI i + (5 : Int32)).toNatClampNeg) σ V S C n FS I
      rw [if_pos c17, chk_p h1, lt_p, chk_p h2, lt_p, chk_p h3, lt_p, chk_p h4, lt_p, chk_p h5, lt_p, chk_p (o0 t), e1, bc_p, chk_p n1, chk_p h1, lt_p, chk_p h2, lt_p, chk_p h3, lt_p, chk_p h4, lt_p, chk_p h5, lt_p, chk_p (o48 t1), e2, bc_p, chk_p n2, if_pos (rfl), s9, lt_p]
      exact go σ2 I2
    rw [if_neg c17]
    by_cases c18 : v = (18 : Int32)
    · obtain ⟨r, σ1, σ2, e1, t1, n1, e2, n2, I2⟩ := op_odds (xs (nI i + (1 : Int32)).toNatClampNeg) (xs (nI i + (2 : Int32)).toNatClampNeg) (xs (nI i + (3 : Int32)).toNatClampNeg) ((((xs (nI i + (4 : Int32)).toNatClampNeg)).toInt64 <<< (((32 : Int32)).toInt64 &&& 63)) ||| (((xs (nI i + (5 : Int32)).toNatClampNeg)).toInt64 &&& (4294967295 : Int64))) ((((xs (nI i + (6 : Int32)).toNatClampNeg)).toInt64 <<< (((32 : Int32)).toInt64 &&& 63)) ||| (((xs (nI i + (7 : Int32)).toNatClampNeg)).toInt64 &&& (4294967295 : Int64))) (xs (nI i + (8 : Int32)).toNatClampNeg) σ V S C n FS I
      rw [if_pos c18, chk_p h1, lt_p, chk_p h2, lt_p, chk_p h3, lt_p, chk_p h4, lt_p, chk_p h5, lt_p, chk_p h6, lt_p, chk_p h7, lt_p, chk_p h8, lt_p, chk_p (o0 t), e1, bc_p, chk_p n1, chk_p h1, lt_p, chk_p h2, lt_p, chk_p h3, lt_p, chk_p h4, lt_p, chk_p h5, lt_p, chk_p h6, lt_p, chk_p h7, lt_p, chk_p h8, lt_p, chk_p (o48 t1), e2, bc_p, chk_p n2, if_pos (lgc_self r), s9, lt_p]
      exact go σ2 I2
    rw [if_neg c18]
    by_cases c19 : v = (19 : Int32)
    · obtain ⟨r, σ1, σ2, e1, t1, n1, e2, n2, I2⟩ := op_plan (xs (nI i + (1 : Int32)).toNatClampNeg) (xs (nI i + (2 : Int32)).toNatClampNeg) (xs (nI i + (3 : Int32)).toNatClampNeg) σ V S C n FS I
      rw [if_pos c19, chk_p h1, lt_p, chk_p h2, lt_p, chk_p h3, lt_p, chk_p (o0 t), e1, bc_p, chk_p n1, chk_p h1, lt_p, chk_p h2, lt_p, chk_p h3, lt_p, chk_p (o48 t1), e2, bc_p, chk_p n2, if_pos (rfl), s9, lt_p]
      exact go σ2 I2
    rw [if_neg c19]
    by_cases c20 : v = (20 : Int32)
    · obtain ⟨r, σ1, σ2, e1, t1, n1, e2, n2, I2⟩ := op_ends (xs (nI i + (1 : Int32)).toNatClampNeg) σ V S C n FS I
      rw [if_pos c20, chk_p h1, lt_p, chk_p (o0 t), e1, bc_p, chk_p n1, chk_p h1, lt_p, chk_p (o48 t1), e2, bc_p, chk_p n2, if_pos (lgc_self r), s9, lt_p]
      exact go σ2 I2
    rw [if_neg c20]
    by_cases c21 : v = (21 : Int32)
    · obtain ⟨r, σ1, σ2, e1, t1, n1, e2, n2, I2⟩ := op_judge (xs (nI i + (1 : Int32)).toNatClampNeg) σ V S C n FS I
      rw [if_pos c21, chk_p h1, lt_p, chk_p (o0 t), e1, bc_p, chk_p n1, chk_p h1, lt_p, chk_p (o48 t1), e2, bc_p, chk_p n2, if_pos (rfl), s9, lt_p]
      exact go σ2 I2
    rw [if_neg c21]
    by_cases c22 : v = (22 : Int32)
    · obtain ⟨r, σ1, σ2, e1, t1, n1, e2, n2, I2⟩ := op_list (xs (nI i + (1 : Int32)).toNatClampNeg) (xs (nI i + (2 : Int32)).toNatClampNeg) σ V S C n FS I
      rw [if_pos c22, chk_p h1, lt_p, chk_p h2, lt_p, chk_p (o0 t), e1, bc_p, chk_p n1, chk_p h1, lt_p, chk_p h2, lt_p, chk_p (o48 t1), e2, bc_p, chk_p n2, if_pos (rfl), s9, lt_p]
      exact go σ2 I2
    rw [if_neg c22]
    by_cases c23 : v = (23 : Int32)
    · obtain ⟨r, σ1, σ2, e1, t1, n1, e2, n2, I2⟩ := op_put (xs (nI i + (1 : Int32)).toNatClampNeg) (xs (nI i + (2 : Int32)).toNatClampNeg) ((((xs (nI i + (3 : Int32)).toNatClampNeg)).toInt64 <<< (((32 : Int32)).toInt64 &&& 63)) ||| (((xs (nI i + (4 : Int32)).toNatClampNeg)).toInt64 &&& (4294967295 : Int64))) σ V S C n FS I
      rw [if_pos c23, chk_p h1, lt_p, chk_p h2, lt_p, chk_p h3, lt_p, chk_p h4, lt_p, chk_p (o0 t), e1, bc_p, chk_p n1, chk_p h1, lt_p, chk_p h2, lt_p, chk_p h3, lt_p, chk_p h4, lt_p, chk_p (o48 t1), e2, bc_p, chk_p n2, if_pos (rfl), s9, lt_p]
      exact go σ2 I2
    rw [if_neg c23]
    by_cases c24 : v = (24 : Int32)
    · obtain ⟨r, σ1, σ2, e1, t1, n1, e2, n2, I2⟩ := op_get (xs (nI i + (1 : Int32)).toNatClampNeg) (xs (nI i + (2 : Int32)).toNatClampNeg) σ V S C n FS I
      rw [if_pos c24, chk_p h1, lt_p, chk_p h2, lt_p, chk_p (o0 t), e1, bc_p, chk_p n1, chk_p h1, lt_p, chk_p h2, lt_p, chk_p (o48 t1), e2, bc_p, chk_p n2, if_pos (lgc_self r), s9, lt_p]
      exact go σ2 I2
    rw [if_neg c24]
    by_cases c25 : v = (25 : Int32)
    · obtain ⟨r, σ1, σ2, e1, t1, n1, e2, n2, I2⟩ := op_image  σ V S C n FS I
      rw [if_pos c25, chk_p (o0 t), e1, bc_p, chk_p n1, chk_p (o48 t1), e2, bc_p, chk_p n2, if_pos (rfl), s9, lt_p]
      exact go σ2 I2
    rw [if_neg c25]
    by_cases c26 : v = (26 : Int32)
    · obtain ⟨r, σ1, σ2, e1, t1, n1, e2, n2, I2⟩ := op_undo  σ V S C n FS I
      rw [if_pos c26, chk_p (o0 t), e1, bc_p, chk_p n1, chk_p (o48 t1), e2, bc_p, chk_p n2, if_pos (rfl), s9, lt_p]
      exact go σ2 I2
    rw [if_neg c26]
    by_cases c27 : v = (27 : Int32)
    · obtain ⟨r, σ1, σ2, e1, t1, n1, e2, n2, I2⟩ := op_count (xs (nI i + (1 : Int32)).toNatClampNeg) σ V S C n FS I
      rw [if_pos c27, chk_p h1, lt_p, chk_p (o0 t), e1, bc_p, chk_p n1, chk_p h1, lt_p, chk_p (o48 t1), e2, bc_p, chk_p n2, if_pos (rfl), s9, lt_p]
      exact go σ2 I2
    rw [if_neg c27]
    rw [s9, lt_p]
    exact go σ ⟨V, S, C, n, FS, I⟩
theorem law_pure {L : Nat} (hL : L ≤ 4608) (xs : Nat → Int32) : ∃ σ0, f_L_law L xs hE0 = some (1, σ0) := by
  obtain ⟨σ, h1, V, S, C, n, FS, I⟩ := ini_inv
  rw [law_ini L xs h1]
  exact pure_loop L hL xs 1000 0 σ V S C n FS I (by omega) (by omega)
