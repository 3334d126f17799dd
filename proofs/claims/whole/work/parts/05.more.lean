def okF (σ : HS) (o : Option Nat) : Bool := match o with | none => true | some v => decide (v < hN σ) && decide (hty σ v = 0)
theorem hE_obj_cs {q q' : Nat → Nat} {cs : Nat → ClassId} {σ : HS} {i : Nat} (h : ∀ k z, hR σ i k = some z → q' z = q z) : hE cs q' σ i = hE cs q σ i := by
  have e : ∀ k, Option.map q' (hR σ i k) = Option.map q (hR σ i k) := fun k => by
    cases hz : hR σ i k with
    | none => rfl
    | some z => exact congrArg some (h k z hz)
  unfold hE hF
  simp only [e]
/-- a new cell behind the others -/
theorem hW_push {cs : Nat → ClassId} {q : Nat → Nat} {σ σ' : HS} {a : Nat} {x : va_E} (hO : hOK σ) (hn : hN σ' = hN σ + 1) (ht : ∀ i, i < hN σ → hE cs (va_up q (hN σ) a) σ' i = hE cs (va_up q (hN σ) a) σ i) (hx : hE cs (va_up q (hN σ) a) σ' (hN σ) = x) : hWl cs q σ ++ [(a, x)] = hWl cs (va_up q (hN σ) a) σ' := by
  unfold hWl
  rw [hn, List.range_succ, List.map_append]
  congr 1
  · apply List.map_congr_left
    intro i hi
    have hi := List.mem_range.mp hi
    rw [ht i hi, hE_obj_cs (q := q) (q' := va_up q (hN σ) a) (fun k z hz => if_neg (Nat.ne_of_lt (hO i k z hz)))]
    exact congrArg (fun z => (z, hE cs q σ i)) (if_neg (Nat.ne_of_lt hi)).symm
  · show [(a, x)] = [(va_up q (hN σ) a (hN σ), hE cs (va_up q (hN σ) a) σ' (hN σ))]
    rw [hx]
    exact congrArg (fun z => [(z, x)]) (if_pos rfl).symm
theorem upr_o {α : Type} {f : Nat → Nat → α} {j i : Nat} {g : Nat → α} (h : i < j) : upr f j g i = f i := if_neg (Nat.ne_of_lt h)
theorem vau_o {α : Type} {f : Nat → α} {j i : Nat} {g : α} (h : i < j) : va_up f j g i = f i := if_neg (Nat.ne_of_lt h)
theorem hE_nw {cs : Nat → ClassId} {q : Nat → Nat} {σ : HS} {t n i : Nat} (h : i < hN σ) : hE cs q (nw σ t n) i = hE cs q σ i := hE_cong (vau_o h) (vau_o h) (upr_o h) (upr_o h) (upr_o h)
theorem hE_nwc {cs : Nat → ClassId} {q : Nat → Nat} {σ : HS} {t n i : Nat} {g : Nat → Int32} (h : i < hN σ) : hE cs q (nwc σ t n g) i = hE cs q σ i := hE_cong (vau_o h) (vau_o h) (upr_o h) (upr_o h) (upr_o h)
theorem nw_ty (σ : HS) (t n : Nat) : hty (nw σ t n) (hN σ) = t := if_pos rfl
theorem nw_len (σ : HS) (t n : Nat) : hlen (nw σ t n) (hN σ) = n := if_pos rfl
theorem nw_A (σ : HS) (t n : Nat) : hA (nw σ t n) (hN σ) = fun _ => 0 := if_pos rfl
theorem nw_B (σ : HS) (t n : Nat) : hB (nw σ t n) (hN σ) = fun _ => 0 := if_pos rfl
theorem nw_R (σ : HS) (t n : Nat) : hR (nw σ t n) (hN σ) = fun _ => none := if_pos rfl
theorem nwc_ty (σ : HS) (t n : Nat) (g : Nat → Int32) : hty (nwc σ t n g) (hN σ) = t := if_pos rfl
theorem nwc_len (σ : HS) (t n : Nat) (g : Nat → Int32) : hlen (nwc σ t n g) (hN σ) = n := if_pos rfl
theorem nwc_A (σ : HS) (t n : Nat) (g : Nat → Int32) : hA (nwc σ t n g) (hN σ) = g := if_pos rfl
theorem hOK_nw {σ : HS} {t n : Nat} (h : hOK σ) : hOK (nw σ t n) := by
  intro a b i hi
  by_cases z : a = hN σ
  · subst z; rw [nw_R] at hi; cases hi
  · have h0 : hR (nw σ t n) a b = hR σ a b := congrFun (upr_ne (f := σ.2.2.2.2.2) z) b
    exact Nat.lt_succ_of_lt (h a b i (h0.symm.trans hi))
theorem hOK_nwc {σ : HS} {t n : Nat} {g : Nat → Int32} (h : hOK σ) : hOK (nwc σ t n g) := hOK_nw (σ := σ) (t := t) (n := n) h
section HM
theorem w_math : Cond.initialized "java/lang/Math" ∈ lw_g := gw 62 (by decide +kernel) rfl
theorem w_sys : Cond.initialized "java/lang/System" ∈ lw_g := gw 63 (by decide +kernel) rfl
theorem w_acn : Cond.native arraycopyName ∈ lw_g := gw 350 (by decide +kernel) rfl
theorem w_acs : Cond.static arraycopyName ∈ lw_g := gw 349 (by decide +kernel) rfl
variable {p : Program} {l : Launch} {e : Env} {R : Room} {s : State} {m : MethodId} {args : Array Value} {below : List Frame} {meth : Method} {c : Code} {nL : Nat} {D : va_G} {cs : Nat → ClassId} {A : Nat → Prop} {H0 : Heap} {cells slots : Nat} {Q : State → Prop} {q : Nat → Nat} {σ : HS} {lv : List (Nat × Value)} {pc : Nat} {st : List Value} {cc : ByteArray} {own : String}
theorem j_lvsub (is : List Nat) {lv' : List (Nat × Value)} (h : lv_pick lv is = lv') (k : J p l e R s m args below meth c nL D cs A H0 cells slots Q q σ lv' pc st) : J p l e R s m args below meth c nL D cs A H0 cells slots Q q σ lv pc st := fun H locs ls hO hP hD hS hl => k H locs ls hO hP hD hS (lv_sub hl is h)
theorem w_oi1 : Cond.instanceMethod objectInit ∈ lw_g := gw 70 (by decide +kernel) rfl
set_option maxRecDepth 100000 in
theorem w_oi2 : Cond.code objectInit ⟨#[0xb1]⟩ 1 none ∈ lw_g := gw 71 rfl rfl
theorem j_objInit (X : Cx p s m args c cc nL own D cs A H0) {index a : Nat} (hlk : Cond.methodLink own index objectInit ∈ lw_g) (hfr : 1 ≤ R.frames) (hlo : (st.map fun v => v.category).sum + 12 ≤ R.locals) (hd : decode cc pc = .ok (.invokespecial index, 3)) (k : J p l e R s m args below meth c nL D cs A H0 cells slots Q q σ lv (pc + 3) st) : J p l e R s m args below meth c nL D cs A H0 cells slots Q q σ lv pc (.ref a :: st) := fun H locs ls hO hP hD hS hl =>
  W.objInit X.1 X.2.1 X.2.2.2.1 (X.2.2.2.2.1 _ hlk) (X.2.2.2.2.1 _ w_oi1) (X.2.2.2.2.1 _ w_oi2) rfl (hl.1.trans X.2.2.1.symm) rfl hd hfr (by show 2 * 0 + _ + 12 ≤ _; omega) (k H locs ls hO hP hD hS hl)
theorem w_smax : Cond.static Lib.Math.max.name ∈ lw_g := gw 361 (by decide +kernel) rfl
set_option maxRecDepth 100000 in
theorem w_cmax : Cond.code Lib.Math.max.name Lib.Math.max.code 2 (some .int) ∈ lw_g := gw 362 rfl rfl
theorem j_mmax (X : Cx p s m args c cc nL own D cs A H0) {index : Nat} {x y : Int32} (hlk : Cond.methodLink own index Lib.Math.max.name ∈ lw_g) (hfr : 1 ≤ R.frames) (hlo : (st.map fun v => v.category).sum + 13 ≤ R.locals) (hc : cells ≤ R.cells) (hs : slots ≤ R.slots) (hd : decode cc pc = .ok (.invokestatic index, 3)) (kk : ∀ v : Int32, v = (if x < y then y else x) → J p l e R s m args below meth c nL D cs A H0 cells slots Q q σ lv (pc + 3) (.int v :: st)) : J p l e R s m args below meth c nL D cs A H0 cells slots Q q σ lv pc (.int y :: .int x :: st) := fun H locs ls hO hP hD hS hl =>
  va_mmax X.1 X.2.1 (X.2.2.1.trans hl.1.symm) X.2.2.2.1 (X.2.2.2.2.1 _ hlk) (X.2.2.2.2.1 _ w_smax) (X.2.2.2.2.1 _ w_math) (X.2.2.2.2.1 _ w_cmax) hfr hlo hc hs hd (kk _ rfl H locs ls hO hP hD hS hl)
theorem w_smin : Cond.static Lib.Math.min.name ∈ lw_g := gw 346 (by decide +kernel) rfl
set_option maxRecDepth 100000 in
theorem w_cmin : Cond.code Lib.Math.min.name Lib.Math.min.code 2 (some .int) ∈ lw_g := gw 347 rfl rfl
theorem j_mmin (X : Cx p s m args c cc nL own D cs A H0) {index : Nat} {x y : Int32} (hlk : Cond.methodLink own index Lib.Math.min.name ∈ lw_g) (hfr : 1 ≤ R.frames) (hlo : (st.map fun v => v.category).sum + 13 ≤ R.locals) (hc : cells ≤ R.cells) (hs : slots ≤ R.slots) (hd : decode cc pc = .ok (.invokestatic index, 3)) (kk : ∀ v : Int32, v = (if y < x then y else x) → J p l e R s m args below meth c nL D cs A H0 cells slots Q q σ lv (pc + 3) (.int v :: st)) : J p l e R s m args below meth c nL D cs A H0 cells slots Q q σ lv pc (.int y :: .int x :: st) := fun H locs ls hO hP hD hS hl =>
  va_mmin X.1 X.2.1 (X.2.2.1.trans hl.1.symm) X.2.2.2.1 (X.2.2.2.2.1 _ hlk) (X.2.2.2.2.1 _ w_smin) (X.2.2.2.2.1 _ w_math) (X.2.2.2.2.1 _ w_cmin) hfr hlo hc hs hd (kk _ rfl H locs ls hO hP hD hS hl)
theorem w_smax_long : Cond.static Lib.MathLoose.max_long.x ∈ lw_g := gw 500 (by decide +kernel) rfl
set_option maxRecDepth 100000 in
theorem w_cmax_long : Cond.code Lib.MathLoose.max_long.x Lib.MathLoose.max_long.code 4 (some .long) ∈ lw_g := gw 501 rfl rfl
theorem j_mmax_long (X : Cx p s m args c cc nL own D cs A H0) {index : Nat} {x y : Int64} (hlk : Cond.methodLink own index Lib.MathLoose.max_long.x ∈ lw_g) (hfr : 1 ≤ R.frames) (hlo : (st.map fun v => v.category).sum + 15 ≤ R.locals) (hc : cells ≤ R.cells) (hs : slots ≤ R.slots) (hd : decode cc pc = .ok (.invokestatic index, 3)) (kk : ∀ v : Int64, v = (if y < x then x else y) → J p l e R s m args below meth c nL D cs A H0 cells slots Q q σ lv (pc + 3) (.long v :: st)) : J p l e R s m args below meth c nL D cs A H0 cells slots Q q σ lv pc (.long y :: .long x :: st) := fun H locs ls hO hP hD hS hl =>
  va_mmax_long X.1 X.2.1 (X.2.2.1.trans hl.1.symm) X.2.2.2.1 (X.2.2.2.2.1 _ hlk) (X.2.2.2.2.1 _ w_smax_long) (X.2.2.2.2.1 _ w_math) (X.2.2.2.2.1 _ w_cmax_long) hfr hlo hc hs hd (kk _ rfl H locs ls hO hP hD hS hl)
theorem w_smin_long : Cond.static Lib.MathLoose.min_long.x ∈ lw_g := gw 497 (by decide +kernel) rfl
set_option maxRecDepth 100000 in
theorem w_cmin_long : Cond.code Lib.MathLoose.min_long.x Lib.MathLoose.min_long.code 4 (some .long) ∈ lw_g := gw 498 rfl rfl
theorem j_mmin_long (X : Cx p s m args c cc nL own D cs A H0) {index : Nat} {x y : Int64} (hlk : Cond.methodLink own index Lib.MathLoose.min_long.x ∈ lw_g) (hfr : 1 ≤ R.frames) (hlo : (st.map fun v => v.category).sum + 15 ≤ R.locals) (hc : cells ≤ R.cells) (hs : slots ≤ R.slots) (hd : decode cc pc = .ok (.invokestatic index, 3)) (kk : ∀ v : Int64, v = (if y < x then y else x) → J p l e R s m args below meth c nL D cs A H0 cells slots Q q σ lv (pc + 3) (.long v :: st)) : J p l e R s m args below meth c nL D cs A H0 cells slots Q q σ lv pc (.long y :: .long x :: st) := fun H locs ls hO hP hD hS hl =>
  va_mmin_long X.1 X.2.1 (X.2.2.1.trans hl.1.symm) X.2.2.2.1 (X.2.2.2.2.1 _ hlk) (X.2.2.2.2.1 _ w_smin_long) (X.2.2.2.2.1 _ w_math) (X.2.2.2.2.1 _ w_cmin_long) hfr hlo hc hs hd (kk _ rfl H locs ls hO hP hD hS hl)
theorem j_copy (X : Cx p s m args c cc nL own D cs A H0) {index src dst : Nat} {sp dp n : Int32} (h : (isO σ 10 src ∧ isO σ 10 dst) ∧ ((¬ sp < 0 ∧ ¬ dp < 0 ∧ ¬ n < 0) ∧ (sp.toNatClampNeg + n.toNatClampNeg ≤ hlen σ src ∧ dp.toNatClampNeg + n.toNatClampNeg ≤ hlen σ dst))) (hlk : Cond.methodLink own index arraycopyName ∈ lw_g) (hfr : 1 ≤ R.frames) (hlo : (st.map fun v => v.category).sum + (nativeFrameWords "java/lang/System" "arraycopy" 5 + 11) ≤ R.locals) (hd : decode cc pc = .ok (.invokestatic index, 3)) (kk : ∀ σ' : HS, σ' = rA σ dst (va_cpy (hA σ src) (hA σ dst) sp.toNatClampNeg dp.toNatClampNeg n.toNatClampNeg) → J p l e R s m args below meth c nL D cs A H0 cells slots Q q σ' lv (pc + 3) st) : J p l e R s m args below meth c nL D cs A H0 cells slots Q q σ lv pc (.int n :: .int dp :: .ref (q dst) :: .int sp :: .ref (q src) :: st) := fun H locs ls hO hP hD hS hl => by
  obtain ⟨⟨h1, h2⟩, ⟨h3, h4, h5⟩, h6, h7⟩ := h
  refine va_copyi X.1 X.2.1 (X.2.2.1.trans hl.1.symm) X.2.2.2.1 (X.2.2.2.2.1 _ hlk) (X.2.2.2.2.1 _ w_acn) (X.2.2.2.2.1 _ w_acs) (X.2.2.2.2.1 _ w_sys) X.2.2.2.2.2.1 hP hD hS src dst 0 0 (by rw [hW_get h1.1, hE_i h1.2]) (by rw [hW_get h2.1, hE_i h2.2]) rfl rfl rfl h3 h4 h5 h6 h7 (fun _ _ => rfl) hfr hlo hd (fun H1 locs1 hP1 hD1 hS1 => ?_)
  have e0 : (hWl cs q σ).set dst (q dst, .inl (cs 0, hlen σ dst, .inl (va_cpy (hA σ src) (hA σ dst) sp.toNatClampNeg dp.toNatClampNeg n.toNatClampNeg))) = hWl cs q (rA σ dst (va_cpy (hA σ src) (hA σ dst) sp.toNatClampNeg dp.toNatClampNeg n.toNatClampNeg)) := hW_set rfl (by rw [hE_i (σ := rA σ dst _) h2.2]; exact congrArg (fun z => (Sum.inl (cs 0, hlen σ dst, .inl z) : va_E)) upr_s) hE_rA
  rw [e0] at hP1 hD1
  exact kk _ rfl H1 locs1 ls hO hP1 hD1 hS1 hl
theorem j_aast (X : Cx p s m args c cc nL own D cs A H0) {j : Nat} {i : Int32} {o : Option Nat} (h : isO σ 13 j ∧ inb i (hlen σ j)) (hv : okF σ o = true) (hd : decode cc pc = .ok (.aastore, 1)) (kk : ∀ σ' : HS, σ' = sR σ j i.toNatClampNeg o → J p l e R s m args below meth c nL D cs A H0 cells slots Q q σ' lv (pc + 1) st) : J p l e R s m args below meth c nL D cs A H0 cells slots Q q σ lv pc (va_rf (Option.map q o) :: .int i :: .ref (q j) :: st) := fun H locs ls hO hP hD hS hl => by
  have ha : (hWl cs q σ)[j]? = some (q j, .inl (cs 3, hlen σ j, .inr (.inr (.inr (.inr (fun k => (hR σ j k).map q)))))) := by rw [hW_get h.1.1, hE_q h.1.2]
  have e0 : (hWl cs q σ).set j (q j, .inl (cs 3, hlen σ j, .inr (.inr (.inr (.inr (va_up (fun k => (hR σ j k).map q) i.toNatClampNeg (Option.map q o))))))) = hWl cs q (sR σ j i.toNatClampNeg o) := hW_set rfl (by
    rw [hE_q (σ := sR σ j i.toNatClampNeg o) h.1.2]
    refine congrArg (fun z => (Sum.inl (cs 3, hlen σ j, .inr (.inr (.inr (.inr z)))) : va_E)) (funext fun k => ?_)
    show Option.map q (up2 σ.2.2.2.2.2 j i.toNatClampNeg o j k) = _
    rw [up2_row]
    unfold va_up
    dsimp only
    by_cases hk : k = i.toNatClampNeg
    · rw [if_pos hk, if_pos hk]
    · rw [if_neg hk, if_neg hk]; rfl) hE_sR
  cases o with
  | some v =>
    have hv2 : v < hN σ ∧ hty σ v = 0 := by simpa [okF] using hv
    refine va_astq X.1 X.2.1 X.2.2.2.2.2.1 hP hD hS j 3 v 0 (r := (RX0, TX0, 10)) ha rfl (by rw [hW_get hv2.1, hE_o hv2.2 (by decide)]) rfl h.2 hd (fun H1 locs1 hP1 hD1 hS1 => ?_)
    have hP1' : va_P D classes ((hWl cs q σ).set j (q j, .inl (cs 3, hlen σ j, .inr (.inr (.inr (.inr (va_up (fun k => (hR σ j k).map q) i.toNatClampNeg (Option.map q (some v))))))))) H1 := hP1
    have hD1' : va_D A ((hWl cs q σ).set j (q j, .inl (cs 3, hlen σ j, .inr (.inr (.inr (.inr (va_up (fun k => (hR σ j k).map q) i.toNatClampNeg (Option.map q (some v))))))))) := hD1
    rw [e0] at hP1' hD1'
    exact kk _ rfl H1 locs1 ls (hOK_sR hO (fun z hz => by cases hz; exact hv2.1)) hP1' hD1' hS1 hl
  | none =>
    refine va_WaastN X.1 X.2.1 (hP j _ ha) ((X.2.2.2.2.2.1.2 3 (cs 3, .object RX0) rfl).1 (hlen σ j) (fun k => va_rf ((hR σ j k).map q))) (fun z => by cases z) (by show ¬ (i < 0 ∨ (arrV _ _ _).slots.size ≤ _); rw [arrV_size]; exact h.2) rfl rfl hd (fun H1 e1 z oq => ?_)
    have hP1 : va_P D classes ((hWl cs q σ).set j (q j, .inl (cs 3, hlen σ j, .inr (.inr (.inr (.inr (va_up (fun k => (hR σ j k).map q) i.toNatClampNeg (Option.map q none)))))))) H1 := hP.set hD ha (by
      show H1[q j]? = some (vp_cell _ _)
      rw [e1, vp_cell_q, vp_cell_q, arrV_store]
      congr 2
      funext k
      by_cases hk : k = i.toNatClampNeg
      · subst hk; simp [updV, va_up, va_rf]
      · simp [updV, va_up, hk]) oq
    have hD1 := hD.set (e := .inl (cs 3, hlen σ j, .inr (.inr (.inr (.inr (va_up (fun k => (hR σ j k).map q) i.toNatClampNeg (Option.map q none))))))) ha
    rw [e0] at hP1 hD1
    exact kk _ rfl H1 _ ls (hOK_sR hO (fun z hz => by cases hz)) hP1 hD1 (hS.put z oq (hD.2 j _ ha)) hl
end HM
