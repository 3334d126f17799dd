/-! the call split; what a formula's spans hang on; bits of sources -/
theorem op_split (a b c w : Int32) : OpOK (f_X5_split 0 a b c w) (f_X6_split 48 a b c w) := by
  intro σ V S C n FS I
  have t := I.1
  rcases start I a with ⟨k, φ, hk, rfl, ef, hg, hc, -, em⟩ | ⟨ef, em⟩
  · rcases srcC b with ⟨s, hs, rfl, xs, ms⟩ | ⟨xs, ms⟩
    · have v := cs_val hc hs
      obtain ⟨-, -, -, -, -, -, -, -, -, vl, vh⟩ := v
      have eml := em σ t rfl
      have ic := isIn_ok c (V s - S s) (V s + S s)
      have cl : (c < V s - S s) = (c.toInt < LO V S s) := by rw [i_lt, vl]
      have ch : (c ≤ V s + S s) = (c.toInt ≤ HI V S s) := by rw [i_le, vh]
      rw [vl, vh] at ic
      rcases rng2 w with ⟨e, he, rfl, w0, w2, wm⟩ | ⟨wm, wc⟩
      · by_cases hr : LO V S s ≤ c.toInt ∧ c.toInt ≤ HI V S s
        · have cl' : (c < V s - S s) = False := by rw [cl]; exact eq_false (by omega)
          have ch' : (c ≤ V s + S s) = True := by rw [ch]; exact eq_true (by omega)
          have ic' := fun τ => (ic τ).trans (by rw [if_pos hr])
          obtain ⟨σ1, x1, x2, x3, x4, x5, x6⟩ := c_now hg.1 hc
          have t1 := x3.1
          have eml1 := em σ1 t1 x2.k7
          cases hx : RT (FS k) (LO V S) (HI V S) with
          | none =>
            obtain ⟨σ2, z1, z2, z3, z4, z5, z6⟩ := m_now hk hg.1 x3
            rw [hx] at x5 z1
            have xo' : hA σ1 24 2 = 1 := x5
            refine opQ I ⟨-9223372036854775807, σ1, σ2, ?_, x2, ?_, z2⟩
            · unfold f_X5_split
              simp only [chk_p, lt_p, bd_p, bc_p, oc_n, oc_s, and_self, and_true, true_and, if_true, if_false, isO_sA', isO_sB', isO_rA', hlen_sA, hlen_sB, hlen_rA, hR_sA, hR_sB, hR_rA, Typ_sA', Typ_sB', Typ_rA', O0, r0_0, r0_1, r0_3, r0_4, r0_5, r0_6, r0_7, O1, r1_0, r1_1, r1_2, r1_3, r1_5, r1_6, r1_7, O24, r24_0, r24_1, r24_5, r24_6, r24_7, r24_8, r24_9, t, t1, ef, xs, w0, w2, c_low hc hs, c_high hc hs, cl', ch', x1, xo', beq1, if_false]
            · unfold f_X6_split
              simp only [chk_p, lt_p, bd_p, bc_p, oc_n, oc_s, and_self, and_true, true_and, if_true, if_false, isO_sA', isO_sB', isO_rA', hlen_sA, hlen_sB, hlen_rA, hR_sA, hR_sB, hR_rA, Typ_sA', Typ_sB', Typ_rA', O48, r48_0, r48_1, r48_2, r48_3, r48_4, r48_5, r48_6, r48_8, r48_9, r48_10, r48_11, r48_12, r48_15, r48_21, r48_22, r48_23, r48_24, r48_25, r48_28, r48_30, r48_31, r48_32, r48_35, r48_37, r48_39, r48_40, r48_41, t1, eml1, ms, m_of3 x3 hs, m_of4 x3 hs, ic', wm, beq1, if_false, z1, rc]
          | some p =>
            rw [hx] at x5
            have xo' : hA σ1 24 2 = 0 := x5.1
            obtain ⟨σ2, y1, y2, y3, y4, y5⟩ := c_split hg.1 x3 x6 hx hs hr.1 hr.2
            have t2 := y3.1
            have tl := told_ok t2 y5 he
            obtain ⟨σ3, z1, z2, z3, z4, z5, z6⟩ := m_now hk hg.1 y3
            rw [hx] at z1
            have t3 := z3.1
            obtain ⟨σ4, r, u1, u2, u3, u4, u5, u6, u7⟩ := m_split hk hg.1 z3 hx hs hr.1 hr.2
            have t4 := u3.1
            have ls := m_less (σ := sA σ4 48 20 0) t4 (by rw [hA_f]; exact Or.inl rfl) (hB σ4 48 34) (hB σ4 48 33)
            rw [hA_f, sA_sA, u5, u6] at ls
            obtain ⟨fv, hfv⟩ : ∃ fv, fv = fl (inR (r.2 - r.1)) (0 : Int32) := ⟨_, rfl⟩
            rw [← hfv] at ls
            have k5 : Kp σ4 (sA σ4 48 20 fv) := Mf.kp (S := []) (Mf_s (by decide) (by decide)) (by decide)
            have t2' := em σ2 t2 (x2.seq y2).k7
            refine opQ I ⟨EV (some r) e, σ2, sA σ4 48 20 fv, ?_, x2.seq y2, ?_, (z2.seq u2).seq k5⟩
            · rw [u4] at tl
              unfold f_X5_split
              simp only [chk_p, lt_p, bd_p, bc_p, oc_n, oc_s, and_self, and_true, true_and, if_true, if_false, isO_sA', isO_sB', isO_rA', hlen_sA, hlen_sB, hlen_rA, hR_sA, hR_sB, hR_rA, Typ_sA', Typ_sB', Typ_rA', O0, r0_0, r0_1, r0_3, r0_4, r0_5, r0_6, r0_7, O1, r1_0, r1_1, r1_2, r1_3, r1_5, r1_6, r1_7, O24, r24_0, r24_1, r24_5, r24_6, r24_7, r24_8, r24_9, t, t1, t2, ef, xs, w0, w2, c_low hc hs, c_high hc hs, cl', ch', x1, xo', y1, tl, beq1, if_false]
            · unfold f_X6_split
              have h3 : e = 0 ∨ e = 1 ∨ e = 2 := by omega
              rcases h3 with z | z | z <;> subst z
              · simp (decide := true) only [chk_p, lt_p, bd_p, bc_p, oc_n, oc_s, and_self, and_true, true_and, if_true, if_false, isO_sA', isO_sB', isO_rA', hlen_sA, hlen_sB, hlen_rA, hR_sA, hR_sB, hR_rA, Typ_sA', Typ_sB', Typ_rA', O48, r48_0, r48_1, r48_2, r48_3, r48_4, r48_5, r48_6, r48_8, r48_9, r48_10, r48_11, r48_12, r48_15, r48_21, r48_22, r48_23, r48_24, r48_25, r48_28, r48_30, r48_31, r48_32, r48_35, r48_37, r48_39, r48_40, r48_41, t2, t3, t4, t2', ms, m_of3 y3 hs, m_of4 y3 hs, ic', wm, beq1, if_false, z1, rc, u1, hB_sA, ls]
                rw [show EV (some r) 0 = Int64.ofInt r.1 from rfl, ofI_eq u5]
              · simp (decide := true) only [chk_p, lt_p, bd_p, bc_p, oc_n, oc_s, and_self, and_true, true_and, if_true, if_false, isO_sA', isO_sB', isO_rA', hlen_sA, hlen_sB, hlen_rA, hR_sA, hR_sB, hR_rA, Typ_sA', Typ_sB', Typ_rA', O48, r48_0, r48_1, r48_2, r48_3, r48_4, r48_5, r48_6, r48_8, r48_9, r48_10, r48_11, r48_12, r48_15, r48_21, r48_22, r48_23, r48_24, r48_25, r48_28, r48_30, r48_31, r48_32, r48_35, r48_37, r48_39, r48_40, r48_41, t2, t3, t4, t2', ms, m_of3 y3 hs, m_of4 y3 hs, ic', wm, beq1, if_false, z1, rc, u1, hB_sA, ls]
                rw [show EV (some r) 1 = Int64.ofInt r.2 from rfl, ofI_eq u6]
              · simp (decide := true) only [chk_p, lt_p, bd_p, bc_p, oc_n, oc_s, and_self, and_true, true_and, if_true, if_false, isO_sA', isO_sB', isO_rA', hlen_sA, hlen_sB, hlen_rA, hR_sA, hR_sB, hR_rA, Typ_sA', Typ_sB', Typ_rA', O48, r48_0, r48_1, r48_2, r48_3, r48_4, r48_5, r48_6, r48_8, r48_9, r48_10, r48_11, r48_12, r48_15, r48_21, r48_22, r48_23, r48_24, r48_25, r48_28, r48_30, r48_31, r48_32, r48_35, r48_37, r48_39, r48_40, r48_41, t2, t3, t4, t2', ms, m_of3 y3 hs, m_of4 y3 hs, ic', wm, beq1, if_false, z1, rc, u1, hB_sA, ls, hA_f]
                rw [show EV (some r) 2 = oW (WD (some r)) from rfl]
                by_cases g : inR (r.2 - r.1)
                · rw [fl_t g] at hfv
                  rw [show WD (some r) = some (r.2 - r.1) from if_pos g, hfv, if_pos rfl]
                  rw [show oW (some (r.2 - r.1)) = Int64.ofInt (r.2 - r.1) from rfl, ofI_eq (a := hB σ4 48 34 - hB σ4 48 33) (by rw [l_sub (by rw [u5, u6]; exact g), u5, u6])]
                · rw [fl_f g] at hfv
                  rw [show WD (some r) = none from if_neg g, hfv, if_neg (by decide)]; rfl
        · have ic' := fun τ => (ic τ).trans (by rw [if_neg hr])
          refine opN I (-9223372036854775808) ?_ ?_
          · unfold f_X5_split
            by_cases c1 : c.toInt < LO V S s
            · have cl' : (c < V s - S s) = True := by rw [cl]; exact eq_true c1
              simp only [chk_p, lt_p, bd_p, bc_p, oc_n, oc_s, and_self, and_true, true_and, if_true, if_false, isO_sA', isO_sB', isO_rA', hlen_sA, hlen_sB, hlen_rA, hR_sA, hR_sB, hR_rA, Typ_sA', Typ_sB', Typ_rA', O0, r0_0, r0_1, r0_3, r0_4, r0_5, r0_6, r0_7, O1, r1_0, r1_1, r1_2, r1_3, r1_5, r1_6, r1_7, t, ef, xs, w0, w2, c_low hc hs, cl', beq1, if_false]
            · have cl' : (c < V s - S s) = False := by rw [cl]; exact eq_false c1
              have ch' : (c ≤ V s + S s) = False := by rw [ch]; exact eq_false (by omega)
              simp only [chk_p, lt_p, bd_p, bc_p, oc_n, oc_s, and_self, and_true, true_and, if_true, if_false, isO_sA', isO_sB', isO_rA', hlen_sA, hlen_sB, hlen_rA, hR_sA, hR_sB, hR_rA, Typ_sA', Typ_sB', Typ_rA', O0, r0_0, r0_1, r0_3, r0_4, r0_5, r0_6, r0_7, O1, r1_0, r1_1, r1_2, r1_3, r1_5, r1_6, r1_7, t, ef, xs, w0, w2, c_low hc hs, c_high hc hs, cl', ch', beq1, if_false]
          · unfold f_X6_split
            simp only [chk_p, lt_p, bd_p, bc_p, oc_n, oc_s, and_self, and_true, true_and, if_true, if_false, isO_sA', isO_sB', isO_rA', hlen_sA, hlen_sB, hlen_rA, hR_sA, hR_sB, hR_rA, Typ_sA', Typ_sB', Typ_rA', O48, r48_0, r48_1, r48_2, r48_3, r48_4, r48_5, r48_6, r48_8, r48_9, r48_10, r48_11, r48_12, r48_15, r48_21, r48_22, r48_23, r48_24, r48_25, r48_28, r48_30, r48_31, r48_32, r48_35, r48_37, r48_39, r48_40, r48_41, t, eml, ms, m_of3 hc hs, m_of4 hc hs, ic', beq1, if_false]
      · refine opN I (-9223372036854775808) ?_ ?_
        · unfold f_X5_split
          rcases wc with wc | ⟨wc, wc2⟩
          · simp only [chk_p, lt_p, bd_p, bc_p, oc_n, oc_s, and_self, and_true, true_and, if_true, if_false, isO_sA', isO_sB', isO_rA', hlen_sA, hlen_sB, hlen_rA, hR_sA, hR_sB, hR_rA, Typ_sA', Typ_sB', Typ_rA', O0, r0_0, r0_1, r0_3, r0_4, r0_5, r0_6, r0_7, t, ef, xs, wc, beq1, if_false]
          · simp only [chk_p, lt_p, bd_p, bc_p, oc_n, oc_s, and_self, and_true, true_and, if_true, if_false, isO_sA', isO_sB', isO_rA', hlen_sA, hlen_sB, hlen_rA, hR_sA, hR_sB, hR_rA, Typ_sA', Typ_sB', Typ_rA', O0, r0_0, r0_1, r0_3, r0_4, r0_5, r0_6, r0_7, t, ef, xs, wc, wc2, beq1, if_false]
        · unfold f_X6_split
          by_cases hr : LO V S s ≤ c.toInt ∧ c.toInt ≤ HI V S s
          · have ic' := fun τ => (ic τ).trans (by rw [if_pos hr])
            simp only [chk_p, lt_p, bd_p, bc_p, oc_n, oc_s, and_self, and_true, true_and, if_true, if_false, isO_sA', isO_sB', isO_rA', hlen_sA, hlen_sB, hlen_rA, hR_sA, hR_sB, hR_rA, Typ_sA', Typ_sB', Typ_rA', O48, r48_0, r48_1, r48_2, r48_3, r48_4, r48_5, r48_6, r48_8, r48_9, r48_10, r48_11, r48_12, r48_15, r48_21, r48_22, r48_23, r48_24, r48_25, r48_28, r48_30, r48_31, r48_32, r48_35, r48_37, r48_39, r48_40, r48_41, t, eml, ms, m_of3 hc hs, m_of4 hc hs, ic', wm, beq1, if_false]
          · have ic' := fun τ => (ic τ).trans (by rw [if_neg hr])
            simp only [chk_p, lt_p, bd_p, bc_p, oc_n, oc_s, and_self, and_true, true_and, if_true, if_false, isO_sA', isO_sB', isO_rA', hlen_sA, hlen_sB, hlen_rA, hR_sA, hR_sB, hR_rA, Typ_sA', Typ_sB', Typ_rA', O48, r48_0, r48_1, r48_2, r48_3, r48_4, r48_5, r48_6, r48_8, r48_9, r48_10, r48_11, r48_12, r48_15, r48_21, r48_22, r48_23, r48_24, r48_25, r48_28, r48_30, r48_31, r48_32, r48_35, r48_37, r48_39, r48_40, r48_41, t, eml, ms, m_of3 hc hs, m_of4 hc hs, ic', beq1, if_false]
    · refine opN I (-9223372036854775808) ?_ ?_
      · unfold f_X5_split
        simp only [chk_p, lt_p, bd_p, bc_p, oc_n, oc_s, and_self, and_true, true_and, if_true, if_false, isO_sA', isO_sB', isO_rA', hlen_sA, hlen_sB, hlen_rA, hR_sA, hR_sB, hR_rA, Typ_sA', Typ_sB', Typ_rA', O0, r0_0, r0_1, r0_3, r0_4, r0_5, r0_6, r0_7, t, ef, xs]
      · unfold f_X6_split
        simp only [chk_p, lt_p, bd_p, bc_p, oc_n, oc_s, and_self, and_true, true_and, if_true, if_false, isO_sA', isO_sB', isO_rA', hlen_sA, hlen_sB, hlen_rA, hR_sA, hR_sB, hR_rA, Typ_sA', Typ_sB', Typ_rA', O48, r48_0, r48_1, r48_2, r48_3, r48_4, r48_5, r48_6, r48_8, r48_9, r48_10, r48_11, r48_12, r48_15, r48_21, r48_22, r48_23, r48_24, r48_25, r48_28, r48_30, r48_31, r48_32, r48_35, r48_37, r48_39, r48_40, r48_41, t, em σ t rfl, ms, beq1, if_false]
  · refine opN I (-9223372036854775808) ?_ ?_
    · unfold f_X5_split
      simp only [chk_p, lt_p, bd_p, bc_p, oc_n, oc_s, and_self, and_true, true_and, if_true, if_false, isO_sA', isO_sB', isO_rA', hlen_sA, hlen_sB, hlen_rA, hR_sA, hR_sB, hR_rA, Typ_sA', Typ_sB', Typ_rA', O0, r0_0, r0_1, r0_3, r0_4, r0_5, r0_6, r0_7, t, ef]
    · unfold f_X6_split
      simp only [chk_p, lt_p, bd_p, bc_p, oc_n, oc_s, and_self, and_true, true_and, if_true, if_false, isO_sA', isO_sB', isO_rA', hlen_sA, hlen_sB, hlen_rA, hR_sA, hR_sB, hR_rA, Typ_sA', Typ_sB', Typ_rA', O48, r48_0, r48_1, r48_2, r48_3, r48_4, r48_5, r48_6, r48_8, r48_9, r48_10, r48_11, r48_12, r48_15, r48_21, r48_22, r48_23, r48_24, r48_25, r48_28, r48_30, r48_31, r48_32, r48_35, r48_37, r48_39, r48_40, r48_41, t, em]
theorem SP_dep {Φ : FM} (hw : wfR Φ) {L H L' H' : Nat → Int} (h : ∀ i, i < mN Φ → mK Φ i = 0 → L (mU Φ i) = L' (mU Φ i) ∧ H (mU Φ i) = H' (mU Φ i)) : ∀ i, i < mN Φ → SP Φ L H i = SP Φ L' H' i := by
  intro i
  induction i using Nat.strongRecOn with
  | _ i ih =>
    intro hi
    obtain ⟨k5, ku0, ku1, ku, kv, -⟩ := hw i hi
    by_cases k0 : mK Φ i = 0
    · obtain ⟨e1, e2⟩ := h i hi k0
      rw [SP_0 k0, SP_0 k0, e1, e2]
    by_cases k1 : mK Φ i = 1
    · rw [SP_1 k1, SP_1 k1]
    have hu := ku (by omega)
    by_cases k2 : mK Φ i = 2
    · rw [SP_2 hw hi k2, SP_2 hw hi k2, ih _ hu (by omega)]
    · have hv := kv (by omega)
      rw [SP_3 hw hi (by omega), SP_3 hw hi (by omega), ih _ hu (by omega), ih _ hv (by omega)]
def sN (Φ : FM) : Nat → Nat
  | 0 => 0
  | i + 1 => sN Φ i ||| (if mK Φ i = 0 then 2 ^ (mU Φ i) else 0)
theorem bit_or : ∀ a, a < 64 → ∀ u, u < 6 → nI a ||| ((1 : Int32) <<< (nI u)) = nI (a ||| 2 ^ u) ∧ a ||| 2 ^ u < 64 := by decide +kernel
theorem bit_at : ∀ a, a < 64 → ∀ s, s < 6 → ((nI a >>> (nI s &&& 31)) &&& 1) = (if a.testBit s = true then (1 : Int32) else 0) := by decide +kernel
theorem sN_ok {Φ : FM} (hw : wfR Φ) : ∀ n, n ≤ mN Φ → sN Φ n < 64 ∧ srcs Φ n = nI (sN Φ n) := by
  intro n
  induction n with
  | zero => intro _; exact ⟨(by decide : 0 < 64), rfl⟩
  | succ n ih =>
    intro hn
    obtain ⟨h1, h2⟩ := ih (by omega)
    show sN Φ n ||| (if mK Φ n = 0 then 2 ^ (mU Φ n) else 0) < 64 ∧ srcs Φ n ||| (if mK Φ n = 0 then (1 : Int32) <<< (nI (mU Φ n)) else 0) = nI (sN Φ n ||| (if mK Φ n = 0 then 2 ^ (mU Φ n) else 0))
    by_cases k0 : mK Φ n = 0
    · obtain ⟨b1, b2⟩ := bit_or _ h1 _ ((hw n (by omega)).2.1 k0)
      rw [if_pos k0, if_pos k0, h2]
      exact ⟨b2, b1⟩
    · rw [if_neg k0, if_neg k0, h2, Int32.or_zero, Nat.or_zero]
      exact ⟨h1, rfl⟩
theorem sN_bit {Φ : FM} : ∀ n i, i < n → mK Φ i = 0 → (sN Φ n).testBit (mU Φ i) = true := by
  intro n
  induction n with
  | zero => intro i hi; omega
  | succ n ih =>
    intro i hi k
    show (sN Φ n ||| _).testBit _ = true
    rw [Nat.testBit_or]
    by_cases e : i = n
    · rw [if_pos (by rw [← e]; exact k), ← e, Nat.testBit_two_pow_self, Bool.or_true]
    · rw [ih i (by omega) k, Bool.true_or]
