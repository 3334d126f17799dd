/-! the reference's joins and changes -/
theorem sA_sB_c (σ : HS) (j k a b : Nat) (v : Int64) (w : Int32) : sA (sB σ j k v) a b w = sB (sA σ a b w) j k v := rfl
theorem mj_2 {σ : HS} (h : Typ σ) (hb : bit (hA σ 48 20)) {i a : Nat} (vb : Int32) (hi : i < 60) (ha : a < i) : f_X6_joins 48 2 (nI i) (nI a) vb σ = some ((), sB (sB (sA σ 48 20 (fl (inR ((0 : Int64).toInt - (hB σ 65 a).toInt) ∧ inR ((0 : Int64).toInt - (hB σ 64 a).toInt)) (hA σ 48 20))) 64 i (0 - hB σ 65 a)) 65 i (0 - hB σ 64 a)) := by
  have e1 := m_less h hb 0 (hB σ 65 a)
  have e2 : f_X6_less 48 0 (hB σ 64 a) (sB (sA σ 48 20 (fl (inR ((0 : Int64).toInt - (hB σ 65 a).toInt)) (hA σ 48 20))) 64 i (0 - hB σ 65 a)) = some (_, sA (sB (sA σ 48 20 (fl (inR ((0 : Int64).toInt - (hB σ 65 a).toInt)) (hA σ 48 20))) 64 i (0 - hB σ 65 a)) 48 20 (fl _ (fl (inR ((0 : Int64).toInt - (hB σ 65 a).toInt)) (hA σ 48 20)))) := m_less (σ := sB (sA σ 48 20 (fl (inR ((0 : Int64).toInt - (hB σ 65 a).toInt)) (hA σ 48 20))) 64 i (0 - hB σ 65 a)) h (fl_bit hb) 0 (hB σ 64 a)
  have ie := inbE (i := i) (n := 60) hi (by omega)
  have ae := inbE (i := a) (n := 60) (by omega) (by omega)
  have ci := cl1000 (i := i) (by omega)
  have ca := cl1000 (i := a) (by omega)
  have ne := eq_false (show ¬ a = i by omega)
  unfold f_X6_joins
  simp only [chk_p, lt_p, bd_p, bc_p, oc_n, oc_s, and_self, and_true, true_and, if_true, if_false, isO_sA', isO_sB', isO_rA', hlen_sA, hlen_sB, hlen_rA, hR_sA, hR_sB, hR_rA, Typ_sA', Typ_sB', Typ_rA', O48, r48_0, r48_1, r48_2, r48_3, r48_4, r48_5, r48_6, r48_8, r48_9, r48_10, r48_11, r48_12, r48_15, r48_21, r48_22, r48_23, r48_24, r48_25, r48_28, r48_30, r48_31, r48_32, r48_35, r48_37, r48_39, r48_40, r48_41, O64, l64, O65, l65, h, e1, e2, ie, ae, ci, ca, hB_sB, hB_sA, ne, and_false, if_false]
  simp only [sA_sB_c, sA_sA, fl_fl]
theorem mj_3 {σ : HS} (h : Typ σ) (hb : bit (hA σ 48 20)) {i a b : Nat} (hi : i < 60) (ha : a < i) (hb' : b < i) : f_X6_joins 48 3 (nI i) (nI a) (nI b) σ = some ((), sB (sB (sA σ 48 20 (fl (inR ((hB σ 64 a).toInt + (hB σ 64 b).toInt) ∧ inR ((hB σ 65 a).toInt + (hB σ 65 b).toInt)) (hA σ 48 20))) 64 i (hB σ 64 a + hB σ 64 b)) 65 i (hB σ 65 a + hB σ 65 b)) := by
  have e1 := m_sum h hb (hB σ 64 a) (hB σ 64 b)
  have e2 : f_X6_sum 48 (hB σ 65 a) (hB σ 65 b) (sB (sA σ 48 20 (fl (inR ((hB σ 64 a).toInt + (hB σ 64 b).toInt)) (hA σ 48 20))) 64 i (hB σ 64 a + hB σ 64 b)) = some (_, sA (sB (sA σ 48 20 (fl (inR ((hB σ 64 a).toInt + (hB σ 64 b).toInt)) (hA σ 48 20))) 64 i (hB σ 64 a + hB σ 64 b)) 48 20 (fl _ (fl (inR ((hB σ 64 a).toInt + (hB σ 64 b).toInt)) (hA σ 48 20)))) := m_sum (σ := sB (sA σ 48 20 (fl (inR ((hB σ 64 a).toInt + (hB σ 64 b).toInt)) (hA σ 48 20))) 64 i (hB σ 64 a + hB σ 64 b)) h (fl_bit hb) (hB σ 65 a) (hB σ 65 b)
  have ie := inbE (i := i) (n := 60) hi (by omega)
  have ae := inbE (i := a) (n := 60) (by omega) (by omega)
  have be := inbE (i := b) (n := 60) (by omega) (by omega)
  have ci := cl1000 (i := i) (by omega)
  have ca := cl1000 (i := a) (by omega)
  have cb := cl1000 (i := b) (by omega)
  unfold f_X6_joins
  rw [if_neg (by decide), if_pos rfl]
  simp only [chk_p, lt_p, bd_p, bc_p, oc_n, oc_s, and_self, and_true, true_and, if_true, if_false, isO_sA', isO_sB', isO_rA', hlen_sA, hlen_sB, hlen_rA, hR_sA, hR_sB, hR_rA, Typ_sA', Typ_sB', Typ_rA', O48, r48_0, r48_1, r48_2, r48_3, r48_4, r48_5, r48_6, r48_8, r48_9, r48_10, r48_11, r48_12, r48_15, r48_21, r48_22, r48_23, r48_24, r48_25, r48_28, r48_30, r48_31, r48_32, r48_35, r48_37, r48_39, r48_40, r48_41, O64, l64, O65, l65, h, e1, e2, ie, ae, be, ci, ca, cb, hB_sB, hB_sA, show ¬ (65 = 64) by decide, false_and, if_false]
  simp only [sA_sB_c, sA_sA, fl_fl]
theorem mj_4 {σ : HS} (h : Typ σ) (hb : bit (hA σ 48 20)) {i a b : Nat} (hi : i < 60) (ha : a < i) (hb' : b < i) : f_X6_joins 48 4 (nI i) (nI a) (nI b) σ = some ((), sB (sB (sA σ 48 20 (fl (inR ((hB σ 64 a).toInt - (hB σ 65 b).toInt) ∧ inR ((hB σ 65 a).toInt - (hB σ 64 b).toInt)) (hA σ 48 20))) 64 i (hB σ 64 a - hB σ 65 b)) 65 i (hB σ 65 a - hB σ 64 b)) := by
  have e1 := m_less h hb (hB σ 64 a) (hB σ 65 b)
  have e2 : f_X6_less 48 (hB σ 65 a) (hB σ 64 b) (sB (sA σ 48 20 (fl (inR ((hB σ 64 a).toInt - (hB σ 65 b).toInt)) (hA σ 48 20))) 64 i (hB σ 64 a - hB σ 65 b)) = some (_, sA (sB (sA σ 48 20 (fl (inR ((hB σ 64 a).toInt - (hB σ 65 b).toInt)) (hA σ 48 20))) 64 i (hB σ 64 a - hB σ 65 b)) 48 20 (fl _ (fl (inR ((hB σ 64 a).toInt - (hB σ 65 b).toInt)) (hA σ 48 20)))) := m_less (σ := sB (sA σ 48 20 (fl (inR ((hB σ 64 a).toInt - (hB σ 65 b).toInt)) (hA σ 48 20))) 64 i (hB σ 64 a - hB σ 65 b)) h (fl_bit hb) (hB σ 65 a) (hB σ 64 b)
  have ie := inbE (i := i) (n := 60) hi (by omega)
  have ae := inbE (i := a) (n := 60) (by omega) (by omega)
  have be := inbE (i := b) (n := 60) (by omega) (by omega)
  have ci := cl1000 (i := i) (by omega)
  have ca := cl1000 (i := a) (by omega)
  have cb := cl1000 (i := b) (by omega)
  have ne := eq_false (show ¬ b = i by omega)
  unfold f_X6_joins
  rw [if_neg (by decide), if_neg (by decide), if_pos rfl]
  simp only [chk_p, lt_p, bd_p, bc_p, oc_n, oc_s, and_self, and_true, true_and, if_true, if_false, isO_sA', isO_sB', isO_rA', hlen_sA, hlen_sB, hlen_rA, hR_sA, hR_sB, hR_rA, Typ_sA', Typ_sB', Typ_rA', O48, r48_0, r48_1, r48_2, r48_3, r48_4, r48_5, r48_6, r48_8, r48_9, r48_10, r48_11, r48_12, r48_15, r48_21, r48_22, r48_23, r48_24, r48_25, r48_28, r48_30, r48_31, r48_32, r48_35, r48_37, r48_39, r48_40, r48_41, O64, l64, O65, l65, h, e1, e2, ie, ae, be, ci, ca, cb, hB_sB, hB_sA, show ¬ (65 = 64) by decide, ne, and_false, false_and, if_false]
  simp only [sA_sB_c, sA_sA, fl_fl]
theorem mc_2 {σ : HS} (h : Typ σ) (hb : bit (hA σ 48 20)) {i a : Nat} (vb : Int32) (hi : i < 60) (ha : a < i) : f_X6_changes 48 2 (nI i) (nI a) vb σ = some ((), sB (sB (sA σ 48 20 (fl (inR ((0 : Int64).toInt - (hB σ 69 a).toInt) ∧ inR ((0 : Int64).toInt - (hB σ 68 a).toInt)) (hA σ 48 20))) 68 i (0 - hB σ 69 a)) 69 i (0 - hB σ 68 a)) := by
  have e1 := m_less h hb 0 (hB σ 69 a)
  have e2 : f_X6_less 48 0 (hB σ 68 a) (sB (sA σ 48 20 (fl (inR ((0 : Int64).toInt - (hB σ 69 a).toInt)) (hA σ 48 20))) 68 i (0 - hB σ 69 a)) = some (_, sA (sB (sA σ 48 20 (fl (inR ((0 : Int64).toInt - (hB σ 69 a).toInt)) (hA σ 48 20))) 68 i (0 - hB σ 69 a)) 48 20 (fl _ (fl (inR ((0 : Int64).toInt - (hB σ 69 a).toInt)) (hA σ 48 20)))) := m_less (σ := sB (sA σ 48 20 (fl (inR ((0 : Int64).toInt - (hB σ 69 a).toInt)) (hA σ 48 20))) 68 i (0 - hB σ 69 a)) h (fl_bit hb) 0 (hB σ 68 a)
  have ie := inbE (i := i) (n := 60) hi (by omega)
  have ae := inbE (i := a) (n := 60) (by omega) (by omega)
  have ci := cl1000 (i := i) (by omega)
  have ca := cl1000 (i := a) (by omega)
  have ne := eq_false (show ¬ a = i by omega)
  unfold f_X6_changes
  simp only [chk_p, lt_p, bd_p, bc_p, oc_n, oc_s, and_self, and_true, true_and, if_true, if_false, isO_sA', isO_sB', isO_rA', hlen_sA, hlen_sB, hlen_rA, hR_sA, hR_sB, hR_rA, Typ_sA', Typ_sB', Typ_rA', O48, r48_0, r48_1, r48_2, r48_3, r48_4, r48_5, r48_6, r48_8, r48_9, r48_10, r48_11, r48_12, r48_15, r48_21, r48_22, r48_23, r48_24, r48_25, r48_28, r48_30, r48_31, r48_32, r48_35, r48_37, r48_39, r48_40, r48_41, O68, l68, O69, l69, h, e1, e2, ie, ae, ci, ca, hB_sB, hB_sA, ne, and_false, if_false]
  simp only [sA_sB_c, sA_sA, fl_fl]
theorem mc_3 {σ : HS} (h : Typ σ) (hb : bit (hA σ 48 20)) {i a b : Nat} (hi : i < 60) (ha : a < i) (hb' : b < i) : f_X6_changes 48 3 (nI i) (nI a) (nI b) σ = some ((), sB (sB (sA σ 48 20 (fl (inR ((hB σ 68 a).toInt + (hB σ 68 b).toInt) ∧ inR ((hB σ 69 a).toInt + (hB σ 69 b).toInt)) (hA σ 48 20))) 68 i (hB σ 68 a + hB σ 68 b)) 69 i (hB σ 69 a + hB σ 69 b)) := by
  have e1 := m_sum h hb (hB σ 68 a) (hB σ 68 b)
  have e2 : f_X6_sum 48 (hB σ 69 a) (hB σ 69 b) (sB (sA σ 48 20 (fl (inR ((hB σ 68 a).toInt + (hB σ 68 b).toInt)) (hA σ 48 20))) 68 i (hB σ 68 a + hB σ 68 b)) = some (_, sA (sB (sA σ 48 20 (fl (inR ((hB σ 68 a).toInt + (hB σ 68 b).toInt)) (hA σ 48 20))) 68 i (hB σ 68 a + hB σ 68 b)) 48 20 (fl _ (fl (inR ((hB σ 68 a).toInt + (hB σ 68 b).toInt)) (hA σ 48 20)))) := m_sum (σ := sB (sA σ 48 20 (fl (inR ((hB σ 68 a).toInt + (hB σ 68 b).toInt)) (hA σ 48 20))) 68 i (hB σ 68 a + hB σ 68 b)) h (fl_bit hb) (hB σ 69 a) (hB σ 69 b)
  have ie := inbE (i := i) (n := 60) hi (by omega)
  have ae := inbE (i := a) (n := 60) (by omega) (by omega)
  have be := inbE (i := b) (n := 60) (by omega) (by omega)
  have ci := cl1000 (i := i) (by omega)
  have ca := cl1000 (i := a) (by omega)
  have cb := cl1000 (i := b) (by omega)
  unfold f_X6_changes
  rw [if_neg (by decide), if_pos rfl]
  simp only [chk_p, lt_p, bd_p, bc_p, oc_n, oc_s, and_self, and_true, true_and, if_true, if_false, isO_sA', isO_sB', isO_rA', hlen_sA, hlen_sB, hlen_rA, hR_sA, hR_sB, hR_rA, Typ_sA', Typ_sB', Typ_rA', O48, r48_0, r48_1, r48_2, r48_3, r48_4, r48_5, r48_6, r48_8, r48_9, r48_10, r48_11, r48_12, r48_15, r48_21, r48_22, r48_23, r48_24, r48_25, r48_28, r48_30, r48_31, r48_32, r48_35, r48_37, r48_39, r48_40, r48_41, O68, l68, O69, l69, h, e1, e2, ie, ae, be, ci, ca, cb, hB_sB, hB_sA, show ¬ (69 = 68) by decide, false_and, if_false]
  simp only [sA_sB_c, sA_sA, fl_fl]
theorem mc_4 {σ : HS} (h : Typ σ) (hb : bit (hA σ 48 20)) {i a b : Nat} (hi : i < 60) (ha : a < i) (hb' : b < i) : f_X6_changes 48 4 (nI i) (nI a) (nI b) σ = some ((), sB (sB (sA σ 48 20 (fl (inR ((hB σ 68 a).toInt - (hB σ 69 b).toInt) ∧ inR ((hB σ 69 a).toInt - (hB σ 68 b).toInt)) (hA σ 48 20))) 68 i (hB σ 68 a - hB σ 69 b)) 69 i (hB σ 69 a - hB σ 68 b)) := by
  have e1 := m_less h hb (hB σ 68 a) (hB σ 69 b)
  have e2 : f_X6_less 48 (hB σ 69 a) (hB σ 68 b) (sB (sA σ 48 20 (fl (inR ((hB σ 68 a).toInt - (hB σ 69 b).toInt)) (hA σ 48 20))) 68 i (hB σ 68 a - hB σ 69 b)) = some (_, sA (sB (sA σ 48 20 (fl (inR ((hB σ 68 a).toInt - (hB σ 69 b).toInt)) (hA σ 48 20))) 68 i (hB σ 68 a - hB σ 69 b)) 48 20 (fl _ (fl (inR ((hB σ 68 a).toInt - (hB σ 69 b).toInt)) (hA σ 48 20)))) := m_less (σ := sB (sA σ 48 20 (fl (inR ((hB σ 68 a).toInt - (hB σ 69 b).toInt)) (hA σ 48 20))) 68 i (hB σ 68 a - hB σ 69 b)) h (fl_bit hb) (hB σ 69 a) (hB σ 68 b)
  have ie := inbE (i := i) (n := 60) hi (by omega)
  have ae := inbE (i := a) (n := 60) (by omega) (by omega)
  have be := inbE (i := b) (n := 60) (by omega) (by omega)
  have ci := cl1000 (i := i) (by omega)
  have ca := cl1000 (i := a) (by omega)
  have cb := cl1000 (i := b) (by omega)
  have ne := eq_false (show ¬ b = i by omega)
  unfold f_X6_changes
  rw [if_neg (by decide), if_neg (by decide), if_pos rfl]
  simp only [chk_p, lt_p, bd_p, bc_p, oc_n, oc_s, and_self, and_true, true_and, if_true, if_false, isO_sA', isO_sB', isO_rA', hlen_sA, hlen_sB, hlen_rA, hR_sA, hR_sB, hR_rA, Typ_sA', Typ_sB', Typ_rA', O48, r48_0, r48_1, r48_2, r48_3, r48_4, r48_5, r48_6, r48_8, r48_9, r48_10, r48_11, r48_12, r48_15, r48_21, r48_22, r48_23, r48_24, r48_25, r48_28, r48_30, r48_31, r48_32, r48_35, r48_37, r48_39, r48_40, r48_41, O68, l68, O69, l69, h, e1, e2, ie, ae, be, ci, ca, cb, hB_sB, hB_sA, show ¬ (69 = 68) by decide, ne, and_false, false_and, if_false]
  simp only [sA_sB_c, sA_sA, fl_fl]
theorem hA_f (σ : HS) (v : Int32) : hA (sA σ 48 20 v) 48 20 = v := by rw [hA_sA, if_pos ⟨rfl, rfl⟩]
theorem m_products' {σ : HS} (h : Typ σ) (hb : bit (hA σ 48 20)) (a b c d : Int64) : ∃ v l g, v = fl (fit4 a b c d) (hA σ 48 20) ∧ l = gMin a b c d ∧ g = gMax a b c d ∧ f_X6_products_ 48 a b c d σ = some ((), sB (sB (sA σ 48 20 v) 48 26 l) 48 27 g) := ⟨_, _, _, rfl, rfl, rfl, m_products h hb a b c d⟩
theorem m_sum' {σ : HS} (h : Typ σ) (hb : bit (hA σ 48 20)) (a b : Int64) : ∃ v, v = fl (inR (a.toInt + b.toInt)) (hA σ 48 20) ∧ f_X6_sum 48 a b σ = some (a + b, sA σ 48 20 v) := ⟨_, rfl, m_sum h hb a b⟩
theorem mj_5 {σ : HS} (h : Typ σ) (hb : bit (hA σ 48 20)) {i a b : Nat} (hi : i < 60) (ha : a < i) (hb' : b < i) : ∃ v l g, v = fl (fit4 (hB σ 64 a) (hB σ 65 a) (hB σ 64 b) (hB σ 65 b)) (hA σ 48 20) ∧ l = gMin (hB σ 64 a) (hB σ 65 a) (hB σ 64 b) (hB σ 65 b) ∧ g = gMax (hB σ 64 a) (hB σ 65 a) (hB σ 64 b) (hB σ 65 b) ∧ f_X6_joins 48 5 (nI i) (nI a) (nI b) σ = some ((), sB (sB (sB (sB (sA σ 48 20 v) 48 26 l) 48 27 g) 64 i l) 65 i g) := by
  obtain ⟨v, l, g, ev, el, eg, e1⟩ := m_products' h hb (hB σ 64 a) (hB σ 65 a) (hB σ 64 b) (hB σ 65 b)
  refine ⟨v, l, g, ev, el, eg, ?_⟩
  have ie := inbE (i := i) (n := 60) hi (by omega)
  have ae := inbE (i := a) (n := 60) (by omega) (by omega)
  have be := inbE (i := b) (n := 60) (by omega) (by omega)
  have ci := cl1000 (i := i) (by omega)
  have ca := cl1000 (i := a) (by omega)
  have cb := cl1000 (i := b) (by omega)
  unfold f_X6_joins
  rw [if_neg (by decide), if_neg (by decide), if_neg (by decide)]
  simp only [chk_p, lt_p, bd_p, bc_p, oc_n, oc_s, and_self, and_true, true_and, if_true, if_false, isO_sA', isO_sB', isO_rA', hlen_sA, hlen_sB, hlen_rA, hR_sA, hR_sB, hR_rA, Typ_sA', Typ_sB', Typ_rA', O48, r48_0, r48_1, r48_2, r48_3, r48_4, r48_5, r48_6, r48_8, r48_9, r48_10, r48_11, r48_12, r48_15, r48_21, r48_22, r48_23, r48_24, r48_25, r48_28, r48_30, r48_31, r48_32, r48_35, r48_37, r48_39, r48_40, r48_41, O64, l64, O65, l65, h, e1, ie, ae, be, ci, ca, cb, hB_sB, hB_sA, show ¬ (27 = 26) by decide, show ¬ (26 = 27) by decide, show ¬ (48 = 64) by decide, and_false, false_and, if_false]
theorem mc_5 {σ : HS} (h : Typ σ) (hb : bit (hA σ 48 20)) {i a b : Nat} (hi : i < 60) (ha : a < i) (hb' : b < i) :
    ∃ (v v1 v2 v3 : Int32) (l1 g1 l2 g2 : Int64), l1 = gMin (hB σ 68 a) (hB σ 69 a) (hB σ 64 b) (hB σ 65 b) ∧ g1 = gMax (hB σ 68 a) (hB σ 69 a) (hB σ 64 b) (hB σ 65 b) ∧ l2 = gMin (hB σ 64 a) (hB σ 65 a) (hB σ 68 b) (hB σ 69 b) ∧ g2 = gMax (hB σ 64 a) (hB σ 65 a) (hB σ 68 b) (hB σ 69 b) ∧
    v1 = fl (fit4 (hB σ 68 a) (hB σ 69 a) (hB σ 64 b) (hB σ 65 b)) (hA σ 48 20) ∧ v2 = fl (fit4 (hB σ 64 a) (hB σ 65 a) (hB σ 68 b) (hB σ 69 b)) v1 ∧ v3 = fl (inR (l1.toInt + l2.toInt)) v2 ∧ v = fl (inR (g1.toInt + g2.toInt)) v3 ∧
    f_X6_changes 48 5 (nI i) (nI a) (nI b) σ = some ((), sB (sB (sB (sB (sB (sB (sA σ 48 20 v) 48 26 l1) 48 27 g1) 48 26 l2) 48 27 g2) 68 i (l1 + l2)) 69 i (g1 + g2)) := by
  obtain ⟨v1, l1, g1, ev1, el1, eg1, e1⟩ := m_products' h hb (hB σ 68 a) (hB σ 69 a) (hB σ 64 b) (hB σ 65 b)
  have b1 : bit v1 := by rw [ev1]; exact fl_bit hb
  obtain ⟨v2, l2, g2, ev2, el2, eg2, e2⟩ := m_products' (σ := sB (sB (sA σ 48 20 v1) 48 26 l1) 48 27 g1) h (by rw [hA_sB, hA_sB, hA_f]; exact b1) (hB σ 64 a) (hB σ 65 a) (hB σ 68 b) (hB σ 69 b)
  rw [hA_sB, hA_sB, hA_f] at ev2
  rw [sA_sB_c, sA_sB_c, sA_sA] at e2
  have b2 : bit v2 := by rw [ev2]; exact fl_bit b1
  obtain ⟨v3, ev3, e3⟩ := m_sum' (σ := sB (sB (sB (sB (sA σ 48 20 v2) 48 26 l1) 48 27 g1) 48 26 l2) 48 27 g2) h (by rw [hA_sB, hA_sB, hA_sB, hA_sB, hA_f]; exact b2) l1 l2
  rw [hA_sB, hA_sB, hA_sB, hA_sB, hA_f] at ev3
  rw [sA_sB_c, sA_sB_c, sA_sB_c, sA_sB_c, sA_sA] at e3
  have b3 : bit v3 := by rw [ev3]; exact fl_bit b2
  obtain ⟨v, ev, e4⟩ := m_sum' (σ := sB (sB (sB (sB (sB (sA σ 48 20 v3) 48 26 l1) 48 27 g1) 48 26 l2) 48 27 g2) 68 i (l1 + l2)) h (by rw [hA_sB, hA_sB, hA_sB, hA_sB, hA_sB, hA_f]; exact b3) g1 g2
  rw [hA_sB, hA_sB, hA_sB, hA_sB, hA_sB, hA_f] at ev
  rw [sA_sB_c, sA_sB_c, sA_sB_c, sA_sB_c, sA_sB_c, sA_sA] at e4
  refine ⟨v, v1, v2, v3, l1, g1, l2, g2, el1, eg1, el2, eg2, ev1, ev2, ev3, ev, ?_⟩
  have ie := inbE (i := i) (n := 60) hi (by omega)
  have ae := inbE (i := a) (n := 60) (by omega) (by omega)
  have be := inbE (i := b) (n := 60) (by omega) (by omega)
  have ci := cl1000 (i := i) (by omega)
  have ca := cl1000 (i := a) (by omega)
  have cb := cl1000 (i := b) (by omega)
  unfold f_X6_changes
  rw [if_neg (by decide), if_neg (by decide), if_neg (by decide)]
  simp only [chk_p, lt_p, bd_p, bc_p, oc_n, oc_s, and_self, and_true, true_and, if_true, if_false, isO_sA', isO_sB', isO_rA', hlen_sA, hlen_sB, hlen_rA, hR_sA, hR_sB, hR_rA, Typ_sA', Typ_sB', Typ_rA', O48, r48_0, r48_1, r48_2, r48_3, r48_4, r48_5, r48_6, r48_8, r48_9, r48_10, r48_11, r48_12, r48_15, r48_21, r48_22, r48_23, r48_24, r48_25, r48_28, r48_30, r48_31, r48_32, r48_35, r48_37, r48_39, r48_40, r48_41, O64, l64, O65, l65, O68, l68, O69, l69, h, e1, e2, e3, e4, ie, ae, be, ci, ca, cb, hB_sB, hB_sA, show ¬ (27 = 26) by decide, show ¬ (26 = 27) by decide, show ¬ (48 = 64) by decide, show ¬ (64 = 48) by decide, show ¬ (65 = 48) by decide, show ¬ (68 = 48) by decide, show ¬ (69 = 48) by decide, show ¬ (48 = 68) by decide, and_false, false_and, if_false]
