def nwM (σ : HS) : HS := sR (sR (sR (sR (nw (nw (nw (nw (nw σ 14 4) 12 8) 12 8) 12 8) 12 8) (hN σ) 0 (some (hN σ + 1))) (hN σ) 1 (some (hN σ + 2))) (hN σ) 2 (some (hN σ + 3))) (hN σ) 3 (some (hN σ + 4))
def f_J7_copyOf_59c91 (a0 : Nat) (a1 : Int32) (σ : HS) : Option ((Option Nat) × HS) :=
  chk (isO σ 10 a0) (lt (Int32.ofNat (hlen σ a0)) fun v3 =>
  (if a1 = v3 then
  chk (isO σ 10 a0 ∧ hlen σ a0 ≤ 60) (lt (hN σ) fun n31 =>
  lt (nwc σ 10 (hlen σ a0) (hA σ a0)) fun σ30 =>
  some ((some n31), σ30))
  else
  chk (¬ a1 < 0 ∧ a1.toNatClampNeg ≤ 60) (lt (hN σ) fun n12 =>
  lt (nw σ 10 a1.toNatClampNeg) fun σ11 =>
  lt (Int32.ofNat (hlen σ11 a0)) fun v16 =>
  lt (if a1 < v16 then a1 else v16) fun v18 =>
  chk ((isO σ11 10 a0 ∧ isO σ11 10 n12) ∧ ((¬ (0 : Int32) < 0 ∧ ¬ (0 : Int32) < 0 ∧ ¬ v18 < 0) ∧ (((0 : Int32)).toNatClampNeg + v18.toNatClampNeg ≤ hlen σ11 a0 ∧ ((0 : Int32)).toNatClampNeg + v18.toNatClampNeg ≤ hlen σ11 n12))) (lt (rA σ11 n12 (va_cpy (hA σ11 a0) (hA σ11 n12) ((0 : Int32)).toNatClampNeg ((0 : Int32)).toNatClampNeg v18.toNatClampNeg)) fun σ22 =>
  some ((some n12), σ22)))))
def lp_X0_depthOf_11_b  (K11 : Nat → Nat → Int32 → Int32 → HS → Option (Int32 × HS)) (x0 : Nat) (x1 : Nat) (x2 : Int32) (x3 : Int32) (τ : HS) : Option (Int32 × HS) :=
  chk (isO τ 3 x0) (lt (hA τ x0 8) fun v19 =>
  (if v19 ≤ x3 then
  some (x2, τ)
  else
  bd (hR τ x0 3) fun i24 =>
  chk (isO τ 10 i24 ∧ inb x3 (hlen τ i24)) (lt (hA τ i24 x3.toNatClampNeg) fun v29 =>
  bc (f_X0_isMade v29 τ) fun r31 σ32 =>
  chk (hN τ ≤ hN σ32) ((if r31 = 0 then
  chk (isO σ32 10 x1 ∧ inb x3 (hlen σ32 x1)) (lt (hA σ32 x1 x3.toNatClampNeg) fun v42 =>
  lt (if x2 < v42 then v42 else x2) fun v44 =>
  lt (x3 + (1 : Int32)) fun v46 =>
  K11 x0 x1 v44 v46 σ32)
  else
  chk (isO σ32 3 x0) (bd (hR σ32 x0 5) fun i50 =>
  chk (isO σ32 10 i50 ∧ inb x3 (hlen σ32 i50)) (lt (hA σ32 i50 x3.toNatClampNeg) fun v55 =>
  chk (isO σ32 10 x1 ∧ inb v55 (hlen σ32 x1)) (lt (hA σ32 x1 v55.toNatClampNeg) fun v59 =>
  bd (hR σ32 x0 6) fun i61 =>
  chk (isO σ32 10 i61 ∧ inb x3 (hlen σ32 i61)) (lt (hA σ32 i61 x3.toNatClampNeg) fun v66 =>
  chk (isO σ32 10 x1 ∧ inb v66 (hlen σ32 x1)) (lt (hA σ32 x1 v66.toNatClampNeg) fun v70 =>
  lt (if v59 < v70 then v70 else v59) fun v72 =>
  chk (isO σ32 10 x1 ∧ inb x3 (hlen σ32 x1)) (lt (sA σ32 x1 x3.toNatClampNeg ((1 : Int32) + v72)) fun σ76 =>
  chk (isO σ76 10 x1 ∧ inb x3 (hlen σ76 x1)) (lt (hA σ76 x1 x3.toNatClampNeg) fun v82 =>
  lt (if x2 < v82 then v82 else x2) fun v84 =>
  lt (x3 + (1 : Int32)) fun v86 =>
  K11 x0 x1 v84 v86 σ76))))))))))))
def lp_X0_depthOf_11  : Nat → Nat → Nat → Int32 → Int32 → HS → Option (Int32 × HS)
  | 0 => fun _ _ _ _ _ => none
  | n + 1 => lp_X0_depthOf_11_b  (lp_X0_depthOf_11  n)
def f_X0_depthOf (a0 : Nat) (σ : HS) : Option (Int32 × HS) :=
  chk (isO σ 3 a0) (lt (hA σ a0 8) fun v3 =>
  chk (¬ v3 < 0 ∧ v3.toNatClampNeg ≤ 60) (lt (hN σ) fun n9 =>
  lt (nw σ 10 v3.toNatClampNeg) fun σ8 =>
  lt ((0 : Int32)) fun v13 =>
  lt ((0 : Int32)) fun v15 =>
  lp_X0_depthOf_11  1000 a0 n9 v13 v15 σ8))
def lp_X0_likenessIn_19_b (K9 : Nat → Nat → Int32 → HS → Option ((Option Nat) × HS)) (K19 : Nat → Nat → Int32 → Int32 → HS → Option ((Option Nat) × HS)) (x0 : Nat) (x1 : Nat) (x2 : Int32) (x3 : Int32) (τ : HS) : Option ((Option Nat) × HS) :=
  (if x2 ≤ x3 then
  chk (isO τ 10 x1 ∧ inb x2 (hlen τ x1)) (lt (sA τ x1 x2.toNatClampNeg x3) fun σ29 =>
  lt (x2 + (1 : Int32)) fun v32 =>
  K9 x0 x1 v32 σ29)
  else
  bc (f_X0_areAlike x0 x1 x3 x2 τ) fun r34 σ35 =>
  chk (hN τ ≤ hN σ35) ((if r34 = 0 then
  lt (x3 + (1 : Int32)) fun v50 =>
  K19 x0 x1 x2 v50 σ35
  else
  chk (isO σ35 10 x1 ∧ inb x2 (hlen σ35 x1)) (lt (sA σ35 x1 x2.toNatClampNeg x3) fun σ45 =>
  lt (x2 + (1 : Int32)) fun v48 =>
  K9 x0 x1 v48 σ45))))
def lp_X0_likenessIn_19 (K9 : Nat → Nat → Int32 → HS → Option ((Option Nat) × HS)) : Nat → Nat → Nat → Int32 → Int32 → HS → Option ((Option Nat) × HS)
  | 0 => fun _ _ _ _ _ => none
  | n + 1 => lp_X0_likenessIn_19_b K9 (lp_X0_likenessIn_19 K9 n)
def lp_X0_likenessIn_9_b  (K9 : Nat → Nat → Int32 → HS → Option ((Option Nat) × HS)) (x0 : Nat) (x1 : Nat) (x2 : Int32) (τ : HS) : Option ((Option Nat) × HS) :=
  chk (isO τ 3 x0) (lt (hA τ x0 8) fun v17 =>
  (if v17 ≤ x2 then
  some ((some x1), τ)
  else
  lt ((0 : Int32)) fun v22 =>
  lp_X0_likenessIn_19 (K9) 1000 x0 x1 x2 v22 τ))
def lp_X0_likenessIn_9  : Nat → Nat → Nat → Int32 → HS → Option ((Option Nat) × HS)
  | 0 => fun _ _ _ _ => none
  | n + 1 => lp_X0_likenessIn_9_b  (lp_X0_likenessIn_9  n)
def f_X0_likenessIn (a0 : Nat) (σ : HS) : Option ((Option Nat) × HS) :=
  chk (isO σ 3 a0) (lt (hA σ a0 8) fun v3 =>
  chk (¬ v3 < 0 ∧ v3.toNatClampNeg ≤ 60) (lt (hN σ) fun n9 =>
  lt (nw σ 10 v3.toNatClampNeg) fun σ8 =>
  lt ((0 : Int32)) fun v13 =>
  lp_X0_likenessIn_9  1000 a0 n9 v13 σ8))
def lp_X0_mostAlikeIn_16_b  (K16 : Nat → Nat → Int32 → Nat → Int32 → Int32 → HS → Option (Int32 × HS)) (x0 : Nat) (x1 : Nat) (x2 : Int32) (x3 : Nat) (x4 : Int32) (x5 : Int32) (τ : HS) : Option (Int32 × HS) :=
  (if x4 ≤ x5 then
  some (x2, τ)
  else
  chk (isO τ 10 x3 ∧ inb x5 (hlen τ x3)) (lt (hA τ x3 x5.toNatClampNeg) fun v24 =>
  chk (isO τ 10 x1 ∧ inb v24 (hlen τ x1)) (lt (hA τ x1 v24.toNatClampNeg) fun v28 =>
  chk (isO τ 10 x1 ∧ inb v24 (hlen τ x1)) (lt (sA τ x1 v24.toNatClampNeg (v28 + (1 : Int32))) fun σ32 =>
  chk (isO σ32 10 x1 ∧ inb v24 (hlen σ32 x1)) (lt (hA σ32 x1 v24.toNatClampNeg) fun v37 =>
  lt (if x2 < v37 then v37 else x2) fun v39 =>
  lt (x5 + (1 : Int32)) fun v41 =>
  K16 x0 x1 v39 x3 x4 v41 σ32)))))
def lp_X0_mostAlikeIn_16  : Nat → Nat → Nat → Int32 → Nat → Int32 → Int32 → HS → Option (Int32 × HS)
  | 0 => fun _ _ _ _ _ _ _ => none
  | n + 1 => lp_X0_mostAlikeIn_16_b  (lp_X0_mostAlikeIn_16  n)
def f_X0_mostAlikeIn (a0 : Nat) (σ : HS) : Option (Int32 × HS) :=
  chk (isO σ 10 a0) (lt (Int32.ofNat (hlen σ a0)) fun v3 =>
  chk (¬ v3 < 0 ∧ v3.toNatClampNeg ≤ 60) (lt (hN σ) fun n9 =>
  lt (nw σ 10 v3.toNatClampNeg) fun σ8 =>
  lt ((0 : Int32)) fun v13 =>
  lt (Int32.ofNat (hlen σ8 a0)) fun v15 =>
  lt ((0 : Int32)) fun v17 =>
  lp_X0_mostAlikeIn_16  1000 a0 n9 v13 a0 v15 v17 σ8))
def f_X0_init (a0 : Nat) (a1 : Nat) (σ : HS) : Option (Unit × HS) :=
  chk (isO σ 3 a1) (lt (hA σ a1 8) fun v3 =>
  chk (isO σ 0 a0) (lt (sA σ a0 0 v3) fun σ7 =>
  bd (hR σ7 a1 3) fun i12 =>
  lt (hA σ7 a0 0) fun v15 =>
  bc (f_J7_copyOf_59c91 i12 v15 σ7) fun r17 σ18 =>
  bd r17 fun i23 =>
  chk (isO σ18 0 a0) (chk (i23 < hN σ18) (lt (sR σ18 a0 1 (some i23)) fun σ28 =>
  chk (isO σ28 3 a1) (bd (hR σ28 a1 4) fun i36 =>
  lt (hA σ28 a0 0) fun v39 =>
  bc (f_J7_copyOf_59c91 i36 v39 σ28) fun r41 σ42 =>
  bd r41 fun i47 =>
  chk (isO σ42 0 a0) (chk (i47 < hN σ42) (lt (sR σ42 a0 2 (some i47)) fun σ52 =>
  chk (isO σ52 3 a1) (bd (hR σ52 a1 5) fun i60 =>
  lt (hA σ52 a0 0) fun v63 =>
  bc (f_J7_copyOf_59c91 i60 v63 σ52) fun r65 σ66 =>
  bd r65 fun i71 =>
  chk (isO σ66 0 a0) (chk (i71 < hN σ66) (lt (sR σ66 a0 3 (some i71)) fun σ76 =>
  chk (isO σ76 3 a1) (bd (hR σ76 a1 6) fun i84 =>
  lt (hA σ76 a0 0) fun v87 =>
  bc (f_J7_copyOf_59c91 i84 v87 σ76) fun r89 σ90 =>
  bd r89 fun i95 =>
  chk (isO σ90 0 a0) (chk (i95 < hN σ90) (lt (sR σ90 a0 4 (some i95)) fun σ100 =>
  chk (isO σ100 3 a1) (bd (hR σ100 a1 7) fun i108 =>
  lt (hA σ100 a0 0) fun v111 =>
  bc (f_J7_copyOf_59c91 i108 v111 σ100) fun r113 σ114 =>
  bd r113 fun i119 =>
  chk (isO σ114 0 a0) (chk (i119 < hN σ114) (lt (sR σ114 a0 5 (some i119)) fun σ124 =>
  bc (f_X0_sourcesIn a1 σ124) fun r130 σ131 =>
  chk (hN σ124 ≤ hN σ131) (chk (isO σ131 0 a0) (lt (sA σ131 a0 6 r130) fun σ138 =>
  chk (a1 < hN σ138) (bc (f_X0_depthOf a1 σ138) fun r142 σ143 =>
  chk (isO σ143 0 a0) (lt (sA σ143 a0 7 r142) fun σ152 =>
  chk (a1 < hN σ152) (bc (f_X0_likenessIn a1 σ152) fun r156 σ157 =>
  bd r156 fun i164 =>
  bc (f_X0_unlikeIn i164 σ157) fun r167 σ168 =>
  chk (hN σ157 ≤ hN σ168) (chk (isO σ168 0 a0) (lt (sA σ168 a0 8 r167) fun σ175 =>
  chk (i164 < hN σ175) (chk (a1 < hN σ175) (bc (f_X0_mostAlikeIn i164 σ175) fun r179 σ180 =>
  chk (isO σ180 0 a0) (lt (sA σ180 a0 9 r179) fun σ191 =>
  some ((), σ191)))))))))))))))))))))))))))
def f_X3_readFormula (a0 : Nat) (σ : HS) : Option ((Option Nat) × HS) :=
  chk (isO σ 3 a0) (lt (sA σ a0 2 (0 : Int32)) fun σ3 =>
  lt (sA σ3 a0 8 (0 : Int32)) fun σ7 =>
  bc (f_X3_readSum a0 (0 : Int32) σ7) fun r11 σ12 =>
  chk (hN σ7 ≤ hN σ12) ((if r11 = (-1 : Int32) then
  some (none, σ12)
  else
  chk (isO σ12 3 a0) (lt (hA σ12 a0 2) fun v22 =>
  lt (hA σ12 a0 1) fun v24 =>
  (if v24 ≤ v22 then
  lt (hN σ12) fun n31 =>
  lt (nw σ12 0 0) fun σ30 =>
  bc (f_X0_init n31 a0 σ30) fun r35 σ36 =>
  some ((some n31), σ36)
  else
  some (none, σ12))))))
def f_X5_formula (a0 : Nat) (σ : HS) : Option (Int32 × HS) :=
  chk (isO σ 5 a0) (bd (hR σ a0 3) fun i3 =>
  chk (isO σ 3 i3) (bc (f_X3_readFormula i3 σ) fun r8 σ9 =>
  chk (isO σ9 5 a0) (bd (hR σ9 a0 3) fun i16 =>
  chk (isO σ9 3 i16) (lt (sA σ9 i16 1 (0 : Int32)) fun σ21 =>
  (oc r8
  (bd (hR σ21 a0 3) fun i29 =>
  chk (isO σ21 3 i29) (lt (hA σ21 i29 2) fun v34 =>
  some (((-100 : Int32) - v34), σ21)))
  (fun i26 =>
  bd (hR σ21 a0 0) fun i36 =>
  chk (isO σ21 2 i36) (lt (hA σ21 i36 4) fun v41 =>
  (if v41 < (6 : Int32) then
  lt (hA σ21 i36 4) fun v49 =>
  bd (hR σ21 i36 3) fun i54 =>
  chk (isO σ21 13 i54 ∧ inb v49 (hlen σ21 i54)) (chk (okF σ21 (some i26) = true) (lt (sR σ21 i54 v49.toNatClampNeg (some i26)) fun σ61 =>
  bd (hR σ61 a0 0) fun i67 =>
  chk (isO σ61 2 i67) (lt (hA σ61 i67 4) fun v72 =>
  lt (sA σ61 i67 4 (v72 + (1 : Int32))) fun σ74 =>
  some (v49, σ74))))
  else
  some ((-4 : Int32), σ21)))))))))
def f_X1_init (a0 : Nat) (a1 : Int32) (σ : HS) : Option (Unit × HS) :=
  chk (¬ a1 < 0 ∧ a1.toNatClampNeg ≤ 60) (chk (a0 < hN σ) (lt (hN σ) fun n7 =>
  lt (nw σ 12 a1.toNatClampNeg) fun σ6 =>
  chk (isO σ6 1 a0) (chk (n7 < hN σ6) (lt (sR σ6 a0 0 (some n7)) fun σ12 =>
  chk (¬ a1 < 0 ∧ a1.toNatClampNeg ≤ 60) (lt (hN σ12) fun n23 =>
  lt (nw σ12 12 a1.toNatClampNeg) fun σ22 =>
  chk (n23 < hN σ22) (lt (sR σ22 a0 1 (some n23)) fun σ28 =>
  chk (¬ a1 < 0 ∧ a1.toNatClampNeg ≤ 60) (lt (hN σ28) fun n40 =>
  lt (nw σ28 11 a1.toNatClampNeg) fun σ39 =>
  chk (n40 < hN σ39) (lt (sR σ39 a0 2 (some n40)) fun σ46 =>
  some ((), σ46)))))))))
def f_X2_init (a0 : Nat) (σ : HS) : Option (Unit × HS) :=
  chk (a0 < hN σ) (lt (hN σ) fun n5 =>
  lt (nw σ 10 ((6 : Int32)).toNatClampNeg) fun σ4 =>
  chk (isO σ4 2 a0) (chk (n5 < hN σ4) (lt (sR σ4 a0 0 (some n5)) fun σ10 =>
  lt (hN σ10) fun n19 =>
  lt (nw σ10 10 ((6 : Int32)).toNatClampNeg) fun σ18 =>
  chk (n19 < hN σ18) (lt (sR σ18 a0 1 (some n19)) fun σ24 =>
  lt (hN σ24) fun n34 =>
  lt (nw σ24 10 ((6 : Int32)).toNatClampNeg) fun σ33 =>
  chk (n34 < hN σ33) (lt (sR σ33 a0 2 (some n34)) fun σ40 =>
  lt (hN σ40) fun n51 =>
  lt (nw σ40 13 ((6 : Int32)).toNatClampNeg) fun σ50 =>
  chk (n51 < hN σ50) (lt (sR σ50 a0 3 (some n51)) fun σ58 =>
  lt (sA σ58 a0 4 (0 : Int32)) fun σ68 =>
  lt (hN σ68) fun n78 =>
  lt (nw σ68 10 ((8 : Int32)).toNatClampNeg) fun σ77 =>
  chk (n78 < hN σ77) (lt (sR σ77 a0 5 (some n78)) fun σ86 =>
  lt (hN σ86) fun n99 =>
  lt (nw σ86 10 ((8 : Int32)).toNatClampNeg) fun σ98 =>
  chk (n99 < hN σ98) (lt (sR σ98 a0 6 (some n99)) fun σ108 =>
  lt (hN σ108) fun n122 =>
  lt (nw σ108 10 ((8 : Int32)).toNatClampNeg) fun σ121 =>
  chk (n122 < hN σ121) (lt (sR σ121 a0 7 (some n122)) fun σ132 =>
  lt (sA σ132 a0 8 (0 : Int32)) fun σ145 =>
  bd (hR σ145 a0 2) fun i156 =>
  bc (f_J7_fill_53178 i156 (1 : Int32) σ145) fun r159 σ160 =>
  chk (hN σ145 ≤ hN σ160) (some ((), σ160)))))))))))
def f_X3_init (a0 : Nat) (σ : HS) : Option (Unit × HS) :=
  chk (a0 < hN σ) (lt (hN σ) fun n5 =>
  lt (nw σ 10 ((60 : Int32)).toNatClampNeg) fun σ4 =>
  chk (isO σ4 3 a0) (chk (n5 < hN σ4) (lt (sR σ4 a0 0 (some n5)) fun σ10 =>
  lt (sA σ10 a0 1 (0 : Int32)) fun σ17 =>
  lt (sA σ17 a0 2 (0 : Int32)) fun σ22 =>
  lt (hN σ22) fun n29 =>
  lt (nw σ22 10 ((60 : Int32)).toNatClampNeg) fun σ28 =>
  chk (n29 < hN σ28) (lt (sR σ28 a0 3 (some n29)) fun σ34 =>
  lt (hN σ34) fun n44 =>
  lt (nw σ34 10 ((60 : Int32)).toNatClampNeg) fun σ43 =>
  chk (n44 < hN σ43) (lt (sR σ43 a0 4 (some n44)) fun σ50 =>
  lt (hN σ50) fun n61 =>
  lt (nw σ50 10 ((60 : Int32)).toNatClampNeg) fun σ60 =>
  chk (n61 < hN σ60) (lt (sR σ60 a0 5 (some n61)) fun σ68 =>
  lt (hN σ68) fun n80 =>
  lt (nw σ68 10 ((60 : Int32)).toNatClampNeg) fun σ79 =>
  chk (n80 < hN σ79) (lt (sR σ79 a0 6 (some n80)) fun σ88 =>
  lt (hN σ88) fun n101 =>
  lt (nw σ88 10 ((60 : Int32)).toNatClampNeg) fun σ100 =>
  chk (n101 < hN σ100) (lt (sR σ100 a0 7 (some n101)) fun σ110 =>
  lt (sA σ110 a0 8 (0 : Int32)) fun σ122 =>
  some ((), σ122)))))))))
def f_X4_init (a0 : Nat) (σ : HS) : Option (Unit × HS) :=
  chk (a0 < hN σ) (lt (hN σ) fun n5 =>
  lt (nw σ 10 ((6 : Int32)).toNatClampNeg) fun σ4 =>
  chk (isO σ4 4 a0) (chk (n5 < hN σ4) (lt (sR σ4 a0 0 (some n5)) fun σ10 =>
  lt (hN σ10) fun n19 =>
  lt (nw σ10 10 ((6 : Int32)).toNatClampNeg) fun σ18 =>
  chk (n19 < hN σ18) (lt (sR σ18 a0 1 (some n19)) fun σ24 =>
  lt (sA σ24 a0 2 (0 : Int32)) fun σ32 =>
  lt (sB σ32 a0 3 (0 : Int64)) fun σ38 =>
  lt (sB σ38 a0 4 (0 : Int64)) fun σ44 =>
  lt (hN σ44) fun n52 =>
  lt (nw σ44 10 ((6 : Int32)).toNatClampNeg) fun σ51 =>
  chk (n52 < hN σ51) (lt (sR σ51 a0 5 (some n52)) fun σ58 =>
  lt (hN σ58) fun n69 =>
  lt (nw σ58 1 0) fun σ68 =>
  bc (f_X1_init n69 (60 : Int32) σ68) fun r76 σ77 =>
  chk (isO σ77 4 a0) (chk (n69 < hN σ77) (lt (sR σ77 a0 6 (some n69)) fun σ84 =>
  lt (hN σ84) fun n92 =>
  lt (nw σ84 1 0) fun σ91 =>
  bc (f_X1_init n92 (60 : Int32) σ91) fun r96 σ97 =>
  chk (isO σ97 4 a0) (chk (n92 < hN σ97) (lt (sR σ97 a0 7 (some n92)) fun σ104 =>
  lt (hN σ104) fun n112 =>
  lt (nw σ104 1 0) fun σ111 =>
  bc (f_X1_init n112 (2 : Int32) σ111) fun r116 σ117 =>
  chk (isO σ117 4 a0) (chk (n112 < hN σ117) (lt (sR σ117 a0 8 (some n112)) fun σ124 =>
  lt (hN σ124) fun n132 =>
  lt (nw σ124 12 ((60 : Int32)).toNatClampNeg) fun σ131 =>
  chk (n132 < hN σ131) (lt (sR σ131 a0 9 (some n132)) fun σ136 =>
  some ((), σ136)))))))))))))
def lp_X6_init_245_b  (K245 : Nat → Int32 → HS → Option (Unit × HS)) (x0 : Nat) (x1 : Int32) (τ : HS) : Option (Unit × HS) :=
  (if (6 : Int32) ≤ x1 then
  some ((), τ)
  else
  chk (isO τ 6 x0) (bd (hR τ x0 0) fun i1192 =>
  chk (isO τ 10 i1192 ∧ inb (((3 : Int32) * x1) + (2 : Int32)) (hlen τ i1192)) (lt (sA τ i1192 ((((3 : Int32) * x1) + (2 : Int32))).toNatClampNeg (1 : Int32)) fun σ1197 =>
  lt (x1 + (1 : Int32)) fun v1201 =>
  K245 x0 v1201 σ1197)))
def lp_X6_init_245  : Nat → Nat → Int32 → HS → Option (Unit × HS)
  | 0 => fun _ _ _ => none
  | n + 1 => lp_X6_init_245_b  (lp_X6_init_245  n)
def f_X6_init (a0 : Nat) (σ : HS) : Option (Unit × HS) :=
  chk (a0 < hN σ) (lt (hN σ) fun n5 =>
  lt (nw σ 10 ((18 : Int32)).toNatClampNeg) fun σ4 =>
  chk (isO σ4 6 a0) (chk (n5 < hN σ4) (lt (sR σ4 a0 0 (some n5)) fun σ10 =>
  lt (hN σ10) fun n19 =>
  lt (nw σ10 10 ((18 : Int32)).toNatClampNeg) fun σ18 =>
  chk (n19 < hN σ18) (lt (sR σ18 a0 1 (some n19)) fun σ24 =>
  lt (hN σ24) fun n34 =>
  lt (nw σ24 10 ((420 : Int32)).toNatClampNeg) fun σ33 =>
  chk (n34 < hN σ33) (lt (sR σ33 a0 2 (some n34)) fun σ40 =>
  lt (hN σ40) fun n51 =>
  lt (nw σ40 10 ((420 : Int32)).toNatClampNeg) fun σ50 =>
  chk (n51 < hN σ50) (lt (sR σ50 a0 3 (some n51)) fun σ58 =>
  lt (hN σ58) fun n70 =>
  lt (nw σ58 10 ((420 : Int32)).toNatClampNeg) fun σ69 =>
  chk (n70 < hN σ69) (lt (sR σ69 a0 4 (some n70)) fun σ78 =>
  lt (hN σ78) fun n91 =>
  lt (nw σ78 10 ((420 : Int32)).toNatClampNeg) fun σ90 =>
  chk (n91 < hN σ90) (lt (sR σ90 a0 5 (some n91)) fun σ100 =>
  lt (hN σ100) fun n114 =>
  lt (nw σ100 10 ((7 : Int32)).toNatClampNeg) fun σ113 =>
  chk (n114 < hN σ113) (lt (sR σ113 a0 6 (some n114)) fun σ124 =>
  lt (hN σ124) fun n139 =>
  lt (nw σ124 10 ((360 : Int32)).toNatClampNeg) fun σ138 =>
  chk (n139 < hN σ138) (lt (sR σ138 a0 8 (some n139)) fun σ150 =>
  lt (hN σ150) fun n166 =>
  lt (nw σ150 10 ((360 : Int32)).toNatClampNeg) fun σ165 =>
  chk (n166 < hN σ165) (lt (sR σ165 a0 9 (some n166)) fun σ178 =>
  lt (hN σ178) fun n195 =>
  lt (nw σ178 10 ((360 : Int32)).toNatClampNeg) fun σ194 =>
  chk (n195 < hN σ194) (lt (sR σ194 a0 10 (some n195)) fun σ208 =>
  lt (hN σ208) fun n226 =>
  lt (nw σ208 10 ((360 : Int32)).toNatClampNeg) fun σ225 =>
  chk (n226 < hN σ225) (lt (sR σ225 a0 11 (some n226)) fun σ240 =>
  lt (hN σ240) fun n259 =>
  lt (nw σ240 10 ((6 : Int32)).toNatClampNeg) fun σ258 =>
  chk (n259 < hN σ258) (lt (sR σ258 a0 12 (some n259)) fun σ274 =>
  lt (hN σ274) fun n294 =>
  lt (nw σ274 10 ((60 : Int32)).toNatClampNeg) fun σ293 =>
  chk (n294 < hN σ293) (lt (sR σ293 a0 15 (some n294)) fun σ310 =>
  lt (hN σ310) fun n331 =>
  lt (nw σ310 10 ((6 : Int32)).toNatClampNeg) fun σ330 =>
  chk (n331 < hN σ330) (lt (sR σ330 a0 21 (some n331)) fun σ348 =>
  lt (hN σ348) fun n370 =>
  lt (nw σ348 10 ((6 : Int32)).toNatClampNeg) fun σ369 =>
  chk (n370 < hN σ369) (lt (sR σ369 a0 22 (some n370)) fun σ388 =>
  lt (hN σ388) fun n411 =>
  lt (nw σ388 12 ((60 : Int32)).toNatClampNeg) fun σ410 =>
  chk (n411 < hN σ410) (lt (sR σ410 a0 23 (some n411)) fun σ430 =>
  lt (hN σ430) fun n454 =>
  lt (nw σ430 12 ((60 : Int32)).toNatClampNeg) fun σ453 =>
  chk (n454 < hN σ453) (lt (sR σ453 a0 24 (some n454)) fun σ474 =>
  lt (hN σ474) fun n499 =>
  lt (nw σ474 11 ((60 : Int32)).toNatClampNeg) fun σ498 =>
  chk (n499 < hN σ498) (lt (sR σ498 a0 25 (some n499)) fun σ520 =>
  lt (hN σ520) fun n546 =>
  lt (nw σ520 10 ((60 : Int32)).toNatClampNeg) fun σ545 =>
  chk (n546 < hN σ545) (lt (sR σ545 a0 28 (some n546)) fun σ568 =>
  lt (hN σ568) fun n595 =>
  lt (nw σ568 12 ((60 : Int32)).toNatClampNeg) fun σ594 =>
  chk (n595 < hN σ594) (lt (sR σ594 a0 30 (some n595)) fun σ618 =>
  lt (hN σ618) fun n646 =>
  lt (nw σ618 12 ((60 : Int32)).toNatClampNeg) fun σ645 =>
  chk (n646 < hN σ645) (lt (sR σ645 a0 31 (some n646)) fun σ670 =>
  lt (hN σ670) fun n699 =>
  lt (nw σ670 10 ((6 : Int32)).toNatClampNeg) fun σ698 =>
  chk (n699 < hN σ698) (lt (sR σ698 a0 32 (some n699)) fun σ724 =>
  lt (hN σ724) fun n754 =>
  lt (nw σ724 10 ((24 : Int32)).toNatClampNeg) fun σ753 =>
  chk (n754 < hN σ753) (lt (sR σ753 a0 35 (some n754)) fun σ780 =>
  lt (hN σ780) fun n811 =>
  lt (nw σ780 10 ((24 : Int32)).toNatClampNeg) fun σ810 =>
  chk (n811 < hN σ810) (lt (sR σ810 a0 37 (some n811)) fun σ838 =>
  lt (hN σ838) fun n870 =>
  lt (nw σ838 10 ((18 : Int32)).toNatClampNeg) fun σ869 =>
  chk (n870 < hN σ869) (lt (sR σ869 a0 39 (some n870)) fun σ898 =>
  lt (hN σ898) fun n931 =>
  lt (nw σ898 10 ((4 : Int32)).toNatClampNeg) fun σ930 =>
  chk (isO σ930 10 n931 ∧ inb (0 : Int32) (hlen σ930 n931)) (lt (sA σ930 n931 ((0 : Int32)).toNatClampNeg (-1 : Int32)) fun σ962 =>
  chk (isO σ962 10 n931 ∧ inb (1 : Int32) (hlen σ962 n931)) (lt (sA σ962 n931 ((1 : Int32)).toNatClampNeg (-1 : Int32)) fun σ994 =>
  chk (isO σ994 10 n931 ∧ inb (2 : Int32) (hlen σ994 n931)) (lt (sA σ994 n931 ((2 : Int32)).toNatClampNeg (-1 : Int32)) fun σ1026 =>
  chk (isO σ1026 10 n931 ∧ inb (3 : Int32) (hlen σ1026 n931)) (lt (sA σ1026 n931 ((3 : Int32)).toNatClampNeg (-1 : Int32)) fun σ1058 =>
  chk (n931 < hN σ1058) (lt (sR σ1058 a0 40 (some n931)) fun σ1088 =>
  lt (hN σ1088) fun n1122 =>
  lt (nw σ1088 12 ((32 : Int32)).toNatClampNeg) fun σ1121 =>
  chk (n1122 < hN σ1121) (lt (sR σ1121 a0 41 (some n1122)) fun σ1152 =>
  lt ((0 : Int32)) fun v1185 =>
  lp_X6_init_245  1000 a0 v1185 σ1152)))))))))))))))))))))))))))))))))
def f_X5_init (a0 : Nat) (σ : HS) : Option (Unit × HS) :=
  chk (a0 < hN σ) (lt (hN σ) fun n5 =>
  lt (nw σ 2 0) fun σ4 =>
  chk (a0 < hN σ4) (bc (f_X2_init n5 σ4) fun r8 σ9 =>
  chk (isO σ9 5 a0) (chk (n5 < hN σ9) (lt (sR σ9 a0 0 (some n5)) fun σ18 =>
  lt (hN σ18) fun n26 =>
  lt (nw σ18 2 0) fun σ25 =>
  bc (f_X2_init n26 σ25) fun r30 σ31 =>
  chk (isO σ31 5 a0) (chk (n26 < hN σ31) (lt (sR σ31 a0 1 (some n26)) fun σ38 =>
  lt (sA σ38 a0 2 (0 : Int32)) fun σ44 =>
  lt (hN σ44) fun n50 =>
  lt (nw σ44 3 0) fun σ49 =>
  bc (f_X3_init n50 σ49) fun r54 σ55 =>
  chk (isO σ55 5 a0) (chk (n50 < hN σ55) (lt (sR σ55 a0 3 (some n50)) fun σ62 =>
  lt (hN σ62) fun n70 =>
  lt (nw σ62 4 0) fun σ69 =>
  bc (f_X4_init n70 σ69) fun r74 σ75 =>
  chk (isO σ75 5 a0) (chk (n70 < hN σ75) (lt (sR σ75 a0 4 (some n70)) fun σ82 =>
  lt (hN σ82) fun n90 =>
  lt (nwM σ82) fun σ89 =>
  chk (n90 < hN σ89) (lt (sR σ89 a0 5 (some n90)) fun σ94 =>
  lt (hN σ94) fun n103 =>
  lt (nw σ94 10 ((4 : Int32)).toNatClampNeg) fun σ102 =>
  chk (n103 < hN σ102) (lt (sR σ102 a0 6 (some n103)) fun σ108 =>
  lt (hN σ108) fun n118 =>
  lt (nw σ108 10 ((60 : Int32)).toNatClampNeg) fun σ117 =>
  chk (n118 < hN σ117) (lt (sR σ117 a0 7 (some n118)) fun σ124 =>
  lt (sA σ124 a0 8 (0 : Int32)) fun σ133 =>
  bd (hR σ133 a0 6) fun i140 =>
  bc (f_J7_fill_53178 i140 (-11 : Int32) σ133) fun r143 σ144 =>
  chk (hN σ133 ≤ hN σ144) (some ((), σ144)))))))))))))))
