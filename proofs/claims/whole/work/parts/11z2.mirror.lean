def nwM (σ : HS) : HS := sR (sR (sR (sR (nw (nw (nw (nw (nw σ 14 4) 12 8) 12 8) 12 8) 12 8) (hN σ) 0 (some (hN σ + 1))) (hN σ) 1 (some (hN σ + 2))) (hN σ) 2 (some (hN σ + 3))) (hN σ) 3 (some (hN σ + 4))
def f_J7_copyOf_59c91 (a0 : Nat) (a1 : Int32) (σ : HS) : Option ((Option Nat) × HS) :=
  chk (isO σ 10 a0) (lt (Int32.ofNat (hlen σ a0)) fun v3 =>
  (if a1 = v3 then
  chk (isO σ 10 a0 ∧ hlen σ a0 ≤ 60) (lt (hN σ) fun n31 =>
  lt (nwc σ 10 (hlen σ a0) (hA σ a0)) fun σ30 =>
  some ((some n31), σ30))
  else
  chk (¬ a1 < 0 ∧ a1.toNatClampNeg ≤ 60) (lt (hN σ) fun n12 =>
  lt (nw σ 10 a1.toNatClampNeg) fun σ11 =>
  lt (Int32.ofNat (hlen σ11 a0)) fun v16 =>
  lt (if a1 < v16 then a1 else v16) fun v18 =>
  chk ((isO σ11 10 a0 ∧ isO σ11 10 n12) ∧ ((¬ (0 : Int32) < 0 ∧ ¬ (0 : Int32) < 0 ∧ ¬ v18 < 0) ∧ (((0 : Int32)).toNatClampNeg + v18.toNatClampNeg ≤ hlen σ11 a0 ∧ ((0 : Int32)).toNatClampNeg + v18.toNatClampNeg ≤ hlen σ11 n12))) (lt (rA σ11 n12 (va_cpy (hA σ11 a0) (hA σ11 n12) ((0 : Int32)).toNatClampNeg ((0 : Int32)).toNatClampNeg v18.toNatClampNeg)) fun σ22 =>
  some ((some n12), σ22)))))
def lp_X0_depthOf_11_b  (K11 : Nat → Nat → Int32 → Int32 → HS → Option (Int32 × HS)) (x0 : Nat) (x1 : Nat) (x2 : Int32) (x3 : Int32) (τ : HS) : Option (Int32 × HS) :=
  chk (isO τ 3 x0) (lt (hA τ x0 8) fun v19 =>
  (if v19 ≤ x3 then
  some (x2, τ)
  else
  bd (hR τ x0 3) fun i24 =>
  chk (isO τ 10 i24 ∧ inb x3 (hlen τ i24)) (lt (hA τ i24 x3.toNatClampNeg) fun v29 =>
  bc (f_X0_isMade v29 τ) fun r31 σ32 =>
  chk (hN τ ≤ hN σ32) ((if r31 = 0 then
  chk (isO σ32 10 x1 ∧ inb x3 (hlen σ32 x1)) (lt (hA σ32 x1 x3.toNatClampNeg) fun v42 =>
  lt (if x2 < v42 then v42 else x2) fun v44 =>
  lt (x3 + (1 : Int32)) fun v46 =>
  K11 x0 x1 v44 v46 σ32)
  else
  chk (isO σ32 3 x0) (bd (hR σ32 x0 5) fun i50 =>
  chk (isO σ32 10 i50 ∧ inb x3 (hlen σ32 i50)) (lt (hA σ32 i50 x3.toNatClampNeg) fun v55 =>
  chk (isO σ32 10 x1 ∧ inb v55 (hlen σ32 x1)) (lt (hA σ32 x1 v55.toNatClampNeg) fun v59 =>
  bd (hR σ32 x0 6) fun i61 =>
  chk (isO σ32 10 i61 ∧ inb x3 (hlen σ32 i61)) (lt (hA σ32 i61 x3.toNatClampNeg) fun v66 =>
  chk (isO σ32 10 x1 ∧ inb v66 (hlen σ32 x1)) (lt (hA σ32 x1 v66.toNatClampNeg) fun v70 =>
  lt (if v59 < v70 then v70 else v59) fun v72 =>
  chk (isO σ32 10 x1 ∧ inb x3 (hlen σ32 x1)) (lt (sA σ32 x1 x3.toNatClampNeg ((1 : Int32) + v72)) fun σ76 =>
  chk (isO σ76 10 x1 ∧ inb x3 (hlen σ76 x1)) (lt (hA σ76 x1 x3.toNatClampNeg) fun v82 =>
  lt (if x2 < v82 then v82 else x2) fun v84 =>
  lt (x3 + (1 : Int32)) fun v86 =>
  K11 x0 x1 v84 v86 σ76))))))))))))
def lp_X0_depthOf_11  : Nat → Nat → Nat → Int32 → Int32 → HS → Option (Int32 × HS)
  | 0 => fun _ _ _ _ _ => none
  | n + 1 => lp_X0_depthOf_11_b  (lp_X0_depthOf_11  n)
def f_X0_depthOf (a0 : Nat) (σ : HS) : Option (Int32 × HS) :=
  chk (isO σ 3 a0) (lt (hA σ a0 8) fun v3 =>
  chk (¬ v3 < 0 ∧ v3.toNatClampNeg ≤ 60) (lt (hN σ) fun n9 =>
  lt (nw σ 10 v3.toNatClampNeg) fun σ8 =>
  lt ((0 : Int32)) fun v13 =>
  lt ((0 : Int32)) fun v15 =>
  lp_X0_depthOf_11  1000 a0 n9 v13 v15 σ8))
def lp_X0_likenessIn_19_b (K9 : Nat → Nat → Int32 → HS → Option ((Option Nat) × HS)) (K19 : Nat → Nat → Int32 → Int32 → HS → Option ((Option Nat) × HS)) (x0 : Nat) (x1 : Nat) (x2 : Int32) (x3 : Int32) (τ : HS) : Option ((Option Nat) × HS) :=
  (if x2 ≤ x3 then
  chk (isO τ 10 x1 ∧ inb x2 (hlen τ x1)) (lt (sA τ x1 x2.toNatClampNeg x3) fun σ29 =>
  lt (x2 + (1 : Int32)) fun v32 =>
  K9 x0 x1 v32 σ29)
  else
  bc (f_X0_areAlike x0 x1 x3 x2 τ) fun r34 σ35 =>
  chk (hN τ ≤ hN σ35) ((if r34 = 0 then
  lt (x3 + (1 : Int32)) fun v50 =>
  K19 x0 x1 x2 v50 σ35
  else
  chk (isO σ35 10 x1 ∧ inb x2 (hlen σ35 x1)) (lt (sA σ35 x1 x2.toNatClampNeg x3) fun σ45 =>
  lt (x2 + (1 : Int32)) fun v48 =>
  K9 x0 x1 v48 σ45))))
def lp_X0_likenessIn_19 (K9 : Nat → Nat → Int32 → HS → Option ((Option Nat) × HS)) : Nat → Nat → Nat → Int32 → Int32 → HS → Option ((Option Nat) × HS)
  | 0 => fun _ _ _ _ _ => none
  | n + 1 => lp_X0_likenessIn_19_b K9 (lp_X0_likenessIn_19 K9 n)
def lp_X0_likenessIn_9_b  (K9 : Nat → Nat → Int32 → HS → Option ((Option Nat) × HS)) (x0 : Nat) (x1 : Nat) (x2 : Int32) (τ : HS) : Option ((Option Nat) × HS) :=
  chk (isO τ 3 x0) (lt (hA τ x0 8) fun v17 =>
  (if v17 ≤ x2 then
  some ((some x1), τ)
  else
  lt ((0 : Int32)) fun v22 =>
  lp_X0_likenessIn_19 (K9) 1000 x0 x1 x2 v22 τ))
def lp_X0_likenessIn_9  : Nat → Nat → Nat → Int32 → HS → Option ((Option Nat) × HS)
  | 0 => fun _ _ _ _ => none
  | n + 1 => lp_X0_likenessIn_9_b  (lp_X0_likenessIn_9  n)
def f_X0_likenessIn (a0 : Nat) (σ : HS) : Option ((Option Nat) × HS) :=
  chk (isO σ 3 a0) (lt (hA σ a0 8) fun v3 =>
  chk (¬ v3 < 0 ∧ v3.toNatClampNeg ≤ 60) (lt (hN σ) fun n9 =>
  lt (nw σ 10 v3.toNatClampNeg) fun σ8 =>
  lt ((0 : Int32)) fun v13 =>
  lp_X0_likenessIn_9  1000 a0 n9 v13 σ8))
def lp_X0_mostAlikeIn_16_b  (K16 : Nat → Nat → Int32 → Nat → Int32 → Int32 → HS → Option (Int32 × HS)) (x0 : Nat) (x1 : Nat) (x2 : Int32) (x3 : Nat) (x4 : Int32) (x5 : Int32) (τ : HS) : Option (Int32 × HS) :=
  (if x4 ≤ x5 then
  some (x2, τ)
  else
  chk (isO τ 10 x3 ∧ inb x5 (hlen τ x3)) (lt (hA τ x3 x5.toNatClampNeg) fun v24 =>
  chk (isO τ 10 x1 ∧ inb v24 (hlen τ x1)) (lt (hA τ x1 v24.toNatClampNeg) fun v28 =>
  chk (isO τ 10 x1 ∧ inb v24 (hlen τ x1)) (lt (sA τ x1 v24.toNatClampNeg (v28 + (1 : Int32))) fun σ32 =>
  chk (isO σ32 10 x1 ∧ inb v24 (hlen σ32 x1)) (lt (hA σ32 x1 v24.toNatClampNeg) fun v37 =>
  lt (if x2 < v37 then v37 else x2) fun v39 =>
  lt (x5 + (1 : Int32)) fun v41 =>
  K16 x0 x1 v39 x3 x4 v41 σ32)))))
def lp_X0_mostAlikeIn_16  : Nat → Nat → Nat → Int32 → Nat → Int32 → Int32 → HS → Option (Int32 × HS)
  | 0 => fun _ _ _ _ _ _ _ => none
  | n + 1 => lp_X0_mostAlikeIn_16_b  (lp_X0_mostAlikeIn_16  n)
def f_X0_mostAlikeIn (a0 : Nat) (σ : HS) : Option (Int32 × HS) :=
  chk (isO σ 10 a0) (lt (Int32.ofNat (hlen σ a0)) fun v3 =>
  chk (¬ v3 < 0 ∧ v3.toNatClampNeg ≤ 60) (lt (hN σ) fun n9 =>
  lt (nw σ 10 v3.toNatClampNeg) fun σ8 =>
  lt ((0 : Int32)) fun v13 =>
  lt (Int32.ofNat (hlen σ8 a0)) fun v15 =>
  lt ((0 : Int32)) fun v17 =>
  lp_X0_mostAlikeIn_16  1000 a0 n9 v13 a0 v15 v17 σ8))
def f_X0_init (a0 : Nat) (a1 : Nat) (σ : HS) : Option (Unit × HS) :=
  chk (isO σ 3 a1) (lt (hA σ a1 8) fun v3 =>
  chk (isO σ 0 a0) (lt (sA σ a0 0 v3) fun σ7 =>
  bd (hR σ7 a1 3) fun i12 =>
  lt (hA σ7 a0 0) fun v15 =>
  bc (f_J7_copyOf_59c91 i12 v15 σ7) fun r17 σ18 =>
  bd r17 fun i23 =>
  chk (isO σ18 0 a0) (chk (i23 < hN σ18) (lt (sR σ18 a0 1 (some i23)) fun σ28 =>
  chk (isO σ28 3 a1) (bd (hR σ28 a1 4) fun i36 =>
  lt (hA σ28 a0 0) fun v39 =>
  bc (f_J7_copyOf_59c91 i36 v39 σ28) fun r41 σ42 =>
  bd r41 fun i47 =>
  chk (isO σ42 0 a0) (chk (i47 < hN σ42) (lt (sR σ42 a0 2 (some i47)) fun σ52 =>
  chk (isO σ52 3 a1) (bd (hR σ52 a1 5) fun i60 =>
  lt (hA σ52 a0 0) fun v63 =>
  bc (f_J7_copyOf_59c91 i60 v63 σ52) fun r65 σ66 =>
  bd r65 fun i71 =>
  chk (isO σ66 0 a0) (chk (i71 < hN σ66) (lt (sR σ66 a0 3 (some i71)) fun σ76 =>
  chk (isO σ76 3 a1) (bd (hR σ76 a1 6) fun i84 =>
  lt (hA σ76 a0 0) fun v87 =>
  bc (f_J7_copyOf_59c91 i84 v87 σ76) fun r89 σ90 =>
  bd r89 fun i95 =>
  chk (isO σ90 0 a0) (chk (i95 < hN σ90) (lt (sR σ90 a0 4 (some i95)) fun σ100 =>
  chk (isO σ100 3 a1) (bd (hR σ100 a1 7) fun i108 =>
  lt (hA σ100 a0 0) fun v111 =>
  bc (f_J7_copyOf_59c91 i108 v111 σ100) fun r113 σ114 =>
  bd r113 fun i119 =>
  chk (isO σ114 0 a0) (chk (i119 < hN σ114) (lt (sR σ114 a0 5 (some i119)) fun σ124 =>
  bc (f_X0_sourcesIn a1 σ124) fun r130 σ131 =>
  chk (hN σ124 ≤ hN σ131) (chk (isO σ131 0 a0) (lt (sA σ131 a0 6 r130) fun σ138 =>
  chk (a1 < hN σ138) (bc (f_X0_depthOf a1 σ138) fun r142 σ143 =>
  chk (isO σ143 0 a0) (lt (sA σ143 a0 7 r142) fun σ152 =>
  chk (a1 < hN σ152) (bc (f_X0_likenessIn a1 σ152) fun r156 σ157 =>
  bd r156 fun i164 =>
  bc (f_X0_unlikeIn i164 σ157) fun r167 σ168 =>
  chk (hN σ157 ≤ hN σ168) (chk (isO σ168 0 a0) (lt (sA σ168 a0 8 r167) fun σ175 =>
  chk (i164 < hN σ175) (chk (a1 < hN σ175) (bc (f_X0_mostAlikeIn i164 σ175) fun r179 σ180 =>
  chk (isO σ180 0 a0) (lt (sA σ180 a0 9 r179) fun σ191 =>
  some ((), σ191)))))))))))))))))))))))))))
def f_X3_readFormula (a0 : Nat) (σ : HS) : Option ((Option Nat) × HS) :=
  chk (isO σ 3 a0) (lt (sA σ a0 2 (0 : Int32)) fun σ3 =>
  lt (sA σ3 a0 8 (0 : Int32)) fun σ7 =>
  bc (f_X3_readSum a0 (0 : Int32) σ7) fun r11 σ12 =>
  chk (hN σ7 ≤ hN σ12) ((if r11 = (-1 : Int32) then
  some (none, σ12)
  else
  chk (isO σ12 3 a0) (lt (hA σ12 a0 2) fun v22 =>
  lt (hA σ12 a0 1) fun v24 =>
  (if v24 ≤ v22 then
  lt (hN σ12) fun n31 =>
  lt (nw σ12 0 0) fun σ30 =>
  bc (f_X0_init n31 a0 σ30) fun r35 σ36 =>
  some ((some n31), σ36)
  else
  some (none, σ12))))))
def f_X5_formula (a0 : Nat) (σ : HS) : Option (Int32 × HS) :=
  chk (isO σ 5 a0) (bd (hR σ a0 3) fun i3 =>
  chk (isO σ 3 i3) (bc (f_X3_readFormula i3 σ) fun r8 σ9 =>
  chk (isO σ9 5 a0) (bd (hR σ9 a0 3) fun i16 =>
  chk (isO σ9 3 i16) (lt (sA σ9 i16 1 (0 : Int32)) fun σ21 =>
  (oc r8
  (bd (hR σ21 a0 3) fun i29 =>
  chk (isO σ21 3 i29) (lt (hA σ21 i29 2) fun v34 =>
  some (((-100 : Int32) - v34), σ21)))
  (fun i26 =>
  bd (hR σ21 a0 0) fun i36 =>
  chk (isO σ21 2 i36) (lt (hA σ21 i36 4) fun v41 =>
  (if v41 < (6 : Int32) then
  chk (isO σ21 2 i36) (lt (hA σ21 i36 4) fun v51 =>
  chk (isO σ21 2 i36) (bd (hR σ21 i36 3) fun i58 =>
  chk (isO σ21 13 i58 ∧ inb v51 (hlen σ21 i58)) (chk (okF σ21 (some i26) = true) (lt (sR σ21 i58 v51.toNatClampNeg (some i26)) fun σ65 =>
  bd (hR σ65 a0 0) fun i69 =>
  chk (isO σ65 2 i69) (lt (hA σ65 i69 4) fun v74 =>
  lt (sA σ65 i69 4 (v74 + (1 : Int32))) fun σ76 =>
  some (v51, σ76))))))
  else
  some ((-4 : Int32), σ21)))))))))
def f_X1_init (a0 : Nat) (a1 : Int32) (σ : HS) : Option (Unit × HS) :=
  chk (¬ a1 < 0 ∧ a1.toNatClampNeg ≤ 60) (chk (a0 < hN σ) (lt (hN σ) fun n7 =>
  lt (nw σ 12 a1.toNatClampNeg) fun σ6 =>
  chk (isO σ6 1 a0) (chk (n7 < hN σ6) (lt (sR σ6 a0 0 (some n7)) fun σ12 =>
  chk (¬ a1 < 0 ∧ a1.toNatClampNeg ≤ 60) (lt (hN σ12) fun n23 =>
  lt (nw σ12 12 a1.toNatClampNeg) fun σ22 =>
  chk (n23 < hN σ22) (lt (sR σ22 a0 1 (some n23)) fun σ27 =>
  chk (¬ a1 < 0 ∧ a1.toNatClampNeg ≤ 60) (lt (hN σ27) fun n38 =>
  lt (nw σ27 11 a1.toNatClampNeg) fun σ37 =>
  chk (n38 < hN σ37) (lt (sR σ37 a0 2 (some n38)) fun σ42 =>
  some ((), σ42)))))))))
def f_X2_init (a0 : Nat) (σ : HS) : Option (Unit × HS) :=
  chk (a0 < hN σ) (lt (hN σ) fun n5 =>
  lt (nw σ 10 ((6 : Int32)).toNatClampNeg) fun σ4 =>
  chk (isO σ4 2 a0) (chk (n5 < hN σ4) (lt (sR σ4 a0 0 (some n5)) fun σ10 =>
  lt (hN σ10) fun n19 =>
  lt (nw σ10 10 ((6 : Int32)).toNatClampNeg) fun σ18 =>
  chk (n19 < hN σ18) (lt (sR σ18 a0 1 (some n19)) fun σ23 =>
  lt (hN σ23) fun n32 =>
  lt (nw σ23 10 ((6 : Int32)).toNatClampNeg) fun σ31 =>
  chk (n32 < hN σ31) (lt (sR σ31 a0 2 (some n32)) fun σ36 =>
  lt (hN σ36) fun n45 =>
  lt (nw σ36 13 ((6 : Int32)).toNatClampNeg) fun σ44 =>
  chk (n45 < hN σ44) (lt (sR σ44 a0 3 (some n45)) fun σ49 =>
  lt (sA σ49 a0 4 (0 : Int32)) fun σ56 =>
  lt (hN σ56) fun n62 =>
  lt (nw σ56 10 ((8 : Int32)).toNatClampNeg) fun σ61 =>
  chk (n62 < hN σ61) (lt (sR σ61 a0 5 (some n62)) fun σ66 =>
  lt (hN σ66) fun n75 =>
  lt (nw σ66 10 ((8 : Int32)).toNatClampNeg) fun σ74 =>
  chk (n75 < hN σ74) (lt (sR σ74 a0 6 (some n75)) fun σ79 =>
  lt (hN σ79) fun n88 =>
  lt (nw σ79 10 ((8 : Int32)).toNatClampNeg) fun σ87 =>
  chk (n88 < hN σ87) (lt (sR σ87 a0 7 (some n88)) fun σ92 =>
  lt (sA σ92 a0 8 (0 : Int32)) fun σ99 =>
  bd (hR σ99 a0 2) fun i103 =>
  bc (f_J7_fill_53178 i103 (1 : Int32) σ99) fun r106 σ107 =>
  chk (hN σ99 ≤ hN σ107) (some ((), σ107)))))))))))
def f_X3_init (a0 : Nat) (σ : HS) : Option (Unit × HS) :=
  chk (a0 < hN σ) (lt (hN σ) fun n5 =>
  lt (nw σ 10 ((60 : Int32)).toNatClampNeg) fun σ4 =>
  chk (isO σ4 3 a0) (chk (n5 < hN σ4) (lt (sR σ4 a0 0 (some n5)) fun σ10 =>
  lt (sA σ10 a0 1 (0 : Int32)) fun σ17 =>
  lt (sA σ17 a0 2 (0 : Int32)) fun σ21 =>
  lt (hN σ21) fun n27 =>
  lt (nw σ21 10 ((60 : Int32)).toNatClampNeg) fun σ26 =>
  chk (n27 < hN σ26) (lt (sR σ26 a0 3 (some n27)) fun σ31 =>
  lt (hN σ31) fun n40 =>
  lt (nw σ31 10 ((60 : Int32)).toNatClampNeg) fun σ39 =>
  chk (n40 < hN σ39) (lt (sR σ39 a0 4 (some n40)) fun σ44 =>
  lt (hN σ44) fun n53 =>
  lt (nw σ44 10 ((60 : Int32)).toNatClampNeg) fun σ52 =>
  chk (n53 < hN σ52) (lt (sR σ52 a0 5 (some n53)) fun σ57 =>
  lt (hN σ57) fun n66 =>
  lt (nw σ57 10 ((60 : Int32)).toNatClampNeg) fun σ65 =>
  chk (n66 < hN σ65) (lt (sR σ65 a0 6 (some n66)) fun σ70 =>
  lt (hN σ70) fun n79 =>
  lt (nw σ70 10 ((60 : Int32)).toNatClampNeg) fun σ78 =>
  chk (n79 < hN σ78) (lt (sR σ78 a0 7 (some n79)) fun σ83 =>
  lt (sA σ83 a0 8 (0 : Int32)) fun σ90 =>
  some ((), σ90)))))))))
def f_X4_init (a0 : Nat) (σ : HS) : Option (Unit × HS) :=
  chk (a0 < hN σ) (lt (hN σ) fun n5 =>
  lt (nw σ 10 ((6 : Int32)).toNatClampNeg) fun σ4 =>
  chk (isO σ4 4 a0) (chk (n5 < hN σ4) (lt (sR σ4 a0 0 (some n5)) fun σ10 =>
  lt (hN σ10) fun n19 =>
  lt (nw σ10 10 ((6 : Int32)).toNatClampNeg) fun σ18 =>
  chk (n19 < hN σ18) (lt (sR σ18 a0 1 (some n19)) fun σ23 =>
  lt (sA σ23 a0 2 (0 : Int32)) fun σ30 =>
  lt (sB σ30 a0 3 (0 : Int64)) fun σ34 =>
  lt (sB σ34 a0 4 (0 : Int64)) fun σ38 =>
  lt (hN σ38) fun n44 =>
  lt (nw σ38 10 ((6 : Int32)).toNatClampNeg) fun σ43 =>
  chk (n44 < hN σ43) (lt (sR σ43 a0 5 (some n44)) fun σ48 =>
  lt (hN σ48) fun n57 =>
  lt (nw σ48 1 0) fun σ56 =>
  bc (f_X1_init n57 (60 : Int32) σ56) fun r61 σ62 =>
  chk (isO σ62 4 a0) (chk (n57 < hN σ62) (lt (sR σ62 a0 6 (some n57)) fun σ69 =>
  lt (hN σ69) fun n77 =>
  lt (nw σ69 1 0) fun σ76 =>
  bc (f_X1_init n77 (60 : Int32) σ76) fun r81 σ82 =>
  chk (isO σ82 4 a0) (chk (n77 < hN σ82) (lt (sR σ82 a0 7 (some n77)) fun σ89 =>
  lt (hN σ89) fun n97 =>
  lt (nw σ89 1 0) fun σ96 =>
  bc (f_X1_init n97 (2 : Int32) σ96) fun r101 σ102 =>
  chk (isO σ102 4 a0) (chk (n97 < hN σ102) (lt (sR σ102 a0 8 (some n97)) fun σ109 =>
  lt (hN σ109) fun n117 =>
  lt (nw σ109 12 ((60 : Int32)).toNatClampNeg) fun σ116 =>
  chk (n117 < hN σ116) (lt (sR σ116 a0 9 (some n117)) fun σ121 =>
  some ((), σ121)))))))))))))
def lp_X6_init_245_b  (K245 : Nat → Int32 → HS → Option (Unit × HS)) (x0 : Nat) (x1 : Int32) (τ : HS) : Option (Unit × HS) :=
  (if (6 : Int32) ≤ x1 then
  some ((), τ)
  else
  chk (isO τ 6 x0) (bd (hR τ x0 0) fun i390 =>
  chk (isO τ 10 i390 ∧ inb (((3 : Int32) * x1) + (2 : Int32)) (hlen τ i390)) (lt (sA τ i390 ((((3 : Int32) * x1) + (2 : Int32))).toNatClampNeg (1 : Int32)) fun σ395 =>
  lt (x1 + (1 : Int32)) fun v399 =>
  K245 x0 v399 σ395)))
def lp_X6_init_245  : Nat → Nat → Int32 → HS → Option (Unit × HS)
  | 0 => fun _ _ _ => none
  | n + 1 => lp_X6_init_245_b  (lp_X6_init_245  n)
def f_X6_init (a0 : Nat) (σ : HS) : Option (Unit × HS) :=
  chk (a0 < hN σ) (lt (hN σ) fun n5 =>
  lt (nw σ 10 ((18 : Int32)).toNatClampNeg) fun σ4 =>
  chk (isO σ4 6 a0) (chk (n5 < hN σ4) (lt (sR σ4 a0 0 (some n5)) fun σ10 =>
  lt (hN σ10) fun n19 =>
  lt (nw σ10 10 ((18 : Int32)).toNatClampNeg) fun σ18 =>
  chk (n19 < hN σ18) (lt (sR σ18 a0 1 (some n19)) fun σ23 =>
  lt (hN σ23) fun n32 =>
  lt (nw σ23 10 ((420 : Int32)).toNatClampNeg) fun σ31 =>
  chk (n32 < hN σ31) (lt (sR σ31 a0 2 (some n32)) fun σ36 =>
  lt (hN σ36) fun n45 =>
  lt (nw σ36 10 ((420 : Int32)).toNatClampNeg) fun σ44 =>
  chk (n45 < hN σ44) (lt (sR σ44 a0 3 (some n45)) fun σ49 =>
  lt (hN σ49) fun n58 =>
  lt (nw σ49 10 ((420 : Int32)).toNatClampNeg) fun σ57 =>
  chk (n58 < hN σ57) (lt (sR σ57 a0 4 (some n58)) fun σ62 =>
  lt (hN σ62) fun n71 =>
  lt (nw σ62 10 ((420 : Int32)).toNatClampNeg) fun σ70 =>
  chk (n71 < hN σ70) (lt (sR σ70 a0 5 (some n71)) fun σ75 =>
  lt (hN σ75) fun n84 =>
  lt (nw σ75 10 ((7 : Int32)).toNatClampNeg) fun σ83 =>
  chk (n84 < hN σ83) (lt (sR σ83 a0 6 (some n84)) fun σ88 =>
  lt (hN σ88) fun n97 =>
  lt (nw σ88 10 ((360 : Int32)).toNatClampNeg) fun σ96 =>
  chk (n97 < hN σ96) (lt (sR σ96 a0 8 (some n97)) fun σ101 =>
  lt (hN σ101) fun n110 =>
  lt (nw σ101 10 ((360 : Int32)).toNatClampNeg) fun σ109 =>
  chk (n110 < hN σ109) (lt (sR σ109 a0 9 (some n110)) fun σ114 =>
  lt (hN σ114) fun n123 =>
  lt (nw σ114 10 ((360 : Int32)).toNatClampNeg) fun σ122 =>
  chk (n123 < hN σ122) (lt (sR σ122 a0 10 (some n123)) fun σ127 =>
  lt (hN σ127) fun n136 =>
  lt (nw σ127 10 ((360 : Int32)).toNatClampNeg) fun σ135 =>
  chk (n136 < hN σ135) (lt (sR σ135 a0 11 (some n136)) fun σ140 =>
  lt (hN σ140) fun n149 =>
  lt (nw σ140 10 ((6 : Int32)).toNatClampNeg) fun σ148 =>
  chk (n149 < hN σ148) (lt (sR σ148 a0 12 (some n149)) fun σ153 =>
  lt (hN σ153) fun n162 =>
  lt (nw σ153 10 ((60 : Int32)).toNatClampNeg) fun σ161 =>
  chk (n162 < hN σ161) (lt (sR σ161 a0 15 (some n162)) fun σ166 =>
  lt (hN σ166) fun n175 =>
  lt (nw σ166 10 ((6 : Int32)).toNatClampNeg) fun σ174 =>
  chk (n175 < hN σ174) (lt (sR σ174 a0 21 (some n175)) fun σ179 =>
  lt (hN σ179) fun n188 =>
  lt (nw σ179 10 ((6 : Int32)).toNatClampNeg) fun σ187 =>
  chk (n188 < hN σ187) (lt (sR σ187 a0 22 (some n188)) fun σ192 =>
  lt (hN σ192) fun n201 =>
  lt (nw σ192 12 ((60 : Int32)).toNatClampNeg) fun σ200 =>
  chk (n201 < hN σ200) (lt (sR σ200 a0 23 (some n201)) fun σ205 =>
  lt (hN σ205) fun n214 =>
  lt (nw σ205 12 ((60 : Int32)).toNatClampNeg) fun σ213 =>
  chk (n214 < hN σ213) (lt (sR σ213 a0 24 (some n214)) fun σ218 =>
  lt (hN σ218) fun n227 =>
  lt (nw σ218 11 ((60 : Int32)).toNatClampNeg) fun σ226 =>
  chk (n227 < hN σ226) (lt (sR σ226 a0 25 (some n227)) fun σ231 =>
  lt (hN σ231) fun n240 =>
  lt (nw σ231 10 ((60 : Int32)).toNatClampNeg) fun σ239 =>
  chk (n240 < hN σ239) (lt (sR σ239 a0 28 (some n240)) fun σ244 =>
  lt (hN σ244) fun n253 =>
  lt (nw σ244 12 ((60 : Int32)).toNatClampNeg) fun σ252 =>
  chk (n253 < hN σ252) (lt (sR σ252 a0 30 (some n253)) fun σ257 =>
  lt (hN σ257) fun n266 =>
  lt (nw σ257 12 ((60 : Int32)).toNatClampNeg) fun σ265 =>
  chk (n266 < hN σ265) (lt (sR σ265 a0 31 (some n266)) fun σ270 =>
  lt (hN σ270) fun n279 =>
  lt (nw σ270 10 ((6 : Int32)).toNatClampNeg) fun σ278 =>
  chk (n279 < hN σ278) (lt (sR σ278 a0 32 (some n279)) fun σ283 =>
  lt (hN σ283) fun n292 =>
  lt (nw σ283 10 ((24 : Int32)).toNatClampNeg) fun σ291 =>
  chk (n292 < hN σ291) (lt (sR σ291 a0 35 (some n292)) fun σ296 =>
  lt (hN σ296) fun n305 =>
  lt (nw σ296 10 ((24 : Int32)).toNatClampNeg) fun σ304 =>
  chk (n305 < hN σ304) (lt (sR σ304 a0 37 (some n305)) fun σ309 =>
  lt (hN σ309) fun n318 =>
  lt (nw σ309 10 ((18 : Int32)).toNatClampNeg) fun σ317 =>
  chk (n318 < hN σ317) (lt (sR σ317 a0 39 (some n318)) fun σ322 =>
  lt (hN σ322) fun n331 =>
  lt (nw σ322 10 ((4 : Int32)).toNatClampNeg) fun σ330 =>
  chk (isO σ330 10 n331 ∧ inb (0 : Int32) (hlen σ330 n331)) (lt (sA σ330 n331 ((0 : Int32)).toNatClampNeg (-1 : Int32)) fun σ337 =>
  chk (isO σ337 10 n331 ∧ inb (1 : Int32) (hlen σ337 n331)) (lt (sA σ337 n331 ((1 : Int32)).toNatClampNeg (-1 : Int32)) fun σ344 =>
  chk (isO σ344 10 n331 ∧ inb (2 : Int32) (hlen σ344 n331)) (lt (sA σ344 n331 ((2 : Int32)).toNatClampNeg (-1 : Int32)) fun σ351 =>
  chk (isO σ351 10 n331 ∧ inb (3 : Int32) (hlen σ351 n331)) (lt (sA σ351 n331 ((3 : Int32)).toNatClampNeg (-1 : Int32)) fun σ358 =>
  chk (n331 < hN σ358) (lt (sR σ358 a0 40 (some n331)) fun σ363 =>
  lt (hN σ363) fun n372 =>
  lt (nw σ363 12 ((32 : Int32)).toNatClampNeg) fun σ371 =>
  chk (n372 < hN σ371) (lt (sR σ371 a0 41 (some n372)) fun σ376 =>
  lt ((0 : Int32)) fun v383 =>
  lp_X6_init_245  1000 a0 v383 σ376)))))))))))))))))))))))))))))))))
def f_X5_init (a0 : Nat) (σ : HS) : Option (Unit × HS) :=
  chk (a0 < hN σ) (lt (hN σ) fun n5 =>
  lt (nw σ 2 0) fun σ4 =>
  chk (a0 < hN σ4) (bc (f_X2_init n5 σ4) fun r8 σ9 =>
  chk (isO σ9 5 a0) (chk (n5 < hN σ9) (lt (sR σ9 a0 0 (some n5)) fun σ18 =>
  lt (hN σ18) fun n26 =>
  lt (nw σ18 2 0) fun σ25 =>
  bc (f_X2_init n26 σ25) fun r30 σ31 =>
  chk (isO σ31 5 a0) (chk (n26 < hN σ31) (lt (sR σ31 a0 1 (some n26)) fun σ38 =>
  lt (sA σ38 a0 2 (0 : Int32)) fun σ44 =>
  lt (hN σ44) fun n50 =>
  lt (nw σ44 3 0) fun σ49 =>
  bc (f_X3_init n50 σ49) fun r54 σ55 =>
  chk (isO σ55 5 a0) (chk (n50 < hN σ55) (lt (sR σ55 a0 3 (some n50)) fun σ62 =>
  lt (hN σ62) fun n70 =>
  lt (nw σ62 4 0) fun σ69 =>
  bc (f_X4_init n70 σ69) fun r74 σ75 =>
  chk (isO σ75 5 a0) (chk (n70 < hN σ75) (lt (sR σ75 a0 4 (some n70)) fun σ82 =>
  lt (hN σ82) fun n90 =>
  lt (nwM σ82) fun σ89 =>
  chk (n90 < hN σ89) (lt (sR σ89 a0 5 (some n90)) fun σ94 =>
  lt (hN σ94) fun n103 =>
  lt (nw σ94 10 ((4 : Int32)).toNatClampNeg) fun σ102 =>
  chk (n103 < hN σ102) (lt (sR σ102 a0 6 (some n103)) fun σ107 =>
  lt (hN σ107) fun n116 =>
  lt (nw σ107 10 ((60 : Int32)).toNatClampNeg) fun σ115 =>
  chk (n116 < hN σ115) (lt (sR σ115 a0 7 (some n116)) fun σ120 =>
  lt (sA σ120 a0 8 (0 : Int32)) fun σ127 =>
  bd (hR σ127 a0 6) fun i131 =>
  bc (f_J7_fill_53178 i131 (-11 : Int32) σ127) fun r134 σ135 =>
  chk (hN σ127 ≤ hN σ135) (some ((), σ135)))))))))))))))
