def lp_L_law_18_b (L : Nat) (xs : Nat → Int32) (K18 : Nat → Nat → Int32 → HS → Option (Int32 × HS)) (x1 : Nat) (x2 : Nat) (x3 : Int32) (τ : HS) : Option (Int32 × HS) :=
  lt (Int32.ofNat L) fun v29 =>
  (if (v29 - (9 : Int32)) < x3 then
  some ((1 : Int32), τ)
  else
  chk (inb x3 L) (lt (xs x3.toNatClampNeg) fun v36 =>
  lt ((v36 &&& (31 : Int32))) fun v38 =>
  (if v38 = (0 : Int32) then
  chk (inb (x3 + (1 : Int32)) L) (lt (xs ((x3 + (1 : Int32))).toNatClampNeg) fun v45 =>
  chk (inb (x3 + (2 : Int32)) L) (lt (xs ((x3 + (2 : Int32))).toNatClampNeg) fun v49 =>
  chk (inb (x3 + (3 : Int32)) L) (lt (xs ((x3 + (3 : Int32))).toNatClampNeg) fun v53 =>
  chk (isO τ 5 x1) (bc (f_X5_set x1 v45 v49 v53 τ) fun r57 σ58 =>
  chk (hN τ ≤ hN σ58) (chk (inb (x3 + (1 : Int32)) L) (lt (xs ((x3 + (1 : Int32))).toNatClampNeg) fun v65 =>
  chk (inb (x3 + (2 : Int32)) L) (lt (xs ((x3 + (2 : Int32))).toNatClampNeg) fun v69 =>
  chk (inb (x3 + (3 : Int32)) L) (lt (xs ((x3 + (3 : Int32))).toNatClampNeg) fun v73 =>
  chk (isO σ58 6 x2) (bc (f_X6_set x2 v65 v69 v73 σ58) fun r77 σ78 =>
  chk (hN σ58 ≤ hN σ78) ((if r57 = r77 then
  lt (x3 + (9 : Int32)) fun v86 =>
  K18 x1 x2 v86 σ78
  else
  some ((0 : Int32), σ78))))))))))))
  else if v38 = (1 : Int32) then
  chk (inb (x3 + (1 : Int32)) L) (lt (xs ((x3 + (1 : Int32))).toNatClampNeg) fun v93 =>
  chk (inb (x3 + (2 : Int32)) L) (lt (xs ((x3 + (2 : Int32))).toNatClampNeg) fun v97 =>
  chk (isO τ 5 x1) (bc (f_X5_of x1 v93 v97 τ) fun r101 σ102 =>
  chk (hN τ ≤ hN σ102) (chk (inb (x3 + (1 : Int32)) L) (lt (xs ((x3 + (1 : Int32))).toNatClampNeg) fun v109 =>
  chk (inb (x3 + (2 : Int32)) L) (lt (xs ((x3 + (2 : Int32))).toNatClampNeg) fun v113 =>
  chk (isO σ102 6 x2) (bc (f_X6_of x2 v109 v113 σ102) fun r117 σ118 =>
  chk (hN σ102 ≤ hN σ118) ((if r101 = r117 then
  lt (x3 + (9 : Int32)) fun v126 =>
  K18 x1 x2 v126 σ118
  else
  some ((0 : Int32), σ118))))))))))
  else if v38 = (2 : Int32) then
  chk (inb (x3 + (1 : Int32)) L) (lt (xs ((x3 + (1 : Int32))).toNatClampNeg) fun v133 =>
  chk (isO τ 5 x1) (bc (f_X5_feed x1 v133 τ) fun r137 σ138 =>
  chk (hN τ ≤ hN σ138) (chk (inb (x3 + (1 : Int32)) L) (lt (xs ((x3 + (1 : Int32))).toNatClampNeg) fun v145 =>
  chk (isO σ138 6 x2) (bc (f_X6_feed x2 v145 σ138) fun r149 σ150 =>
  chk (hN σ138 ≤ hN σ150) ((if r137 = r149 then
  lt (x3 + (9 : Int32)) fun v158 =>
  K18 x1 x2 v158 σ150
  else
  some ((0 : Int32), σ150))))))))
  else if v38 = (3 : Int32) then
  chk (isO τ 5 x1) (chk (x2 < hN τ) (bc (f_X5_formula x1 τ) fun r165 σ166 =>
  chk (isO σ166 6 x2) (bc (f_X6_formula x2 σ166) fun r175 σ176 =>
  chk (hN σ166 ≤ hN σ176) ((if r165 = r175 then
  lt (x3 + (9 : Int32)) fun v184 =>
  K18 x1 x2 v184 σ176
  else
  some ((0 : Int32), σ176))))))
  else if v38 = (4 : Int32) then
  chk (isO τ 5 x1) (bc (f_X5_drop x1 τ) fun r191 σ192 =>
  chk (hN τ ≤ hN σ192) (chk (isO σ192 6 x2) (bc (f_X6_drop x2 σ192) fun r199 σ200 =>
  chk (hN σ192 ≤ hN σ200) ((if r191 = r199 then
  lt (x3 + (9 : Int32)) fun v208 =>
  K18 x1 x2 v208 σ200
  else
  some ((0 : Int32), σ200))))))
  else if v38 = (5 : Int32) then
  chk (inb (x3 + (1 : Int32)) L) (lt (xs ((x3 + (1 : Int32))).toNatClampNeg) fun v215 =>
  chk (inb (x3 + (2 : Int32)) L) (lt (xs ((x3 + (2 : Int32))).toNatClampNeg) fun v219 =>
  chk (isO τ 5 x1) (bc (f_X5_parts x1 v215 v219 τ) fun r223 σ224 =>
  chk (hN τ ≤ hN σ224) (chk (inb (x3 + (1 : Int32)) L) (lt (xs ((x3 + (1 : Int32))).toNatClampNeg) fun v231 =>
  chk (inb (x3 + (2 : Int32)) L) (lt (xs ((x3 + (2 : Int32))).toNatClampNeg) fun v235 =>
  chk (isO σ224 6 x2) (bc (f_X6_parts x2 v231 v235 σ224) fun r239 σ240 =>
  chk (hN σ224 ≤ hN σ240) ((if r223 = r239 then
  lt (x3 + (9 : Int32)) fun v248 =>
  K18 x1 x2 v248 σ240
  else
  some ((0 : Int32), σ240))))))))))
  else if v38 = (6 : Int32) then
  chk (inb (x3 + (1 : Int32)) L) (lt (xs ((x3 + (1 : Int32))).toNatClampNeg) fun v255 =>
  chk (inb (x3 + (2 : Int32)) L) (lt (xs ((x3 + (2 : Int32))).toNatClampNeg) fun v259 =>
  chk (isO τ 5 x1) (bc (f_X5_alike x1 v255 v259 τ) fun r263 σ264 =>
  chk (hN τ ≤ hN σ264) (chk (inb (x3 + (1 : Int32)) L) (lt (xs ((x3 + (1 : Int32))).toNatClampNeg) fun v271 =>
  chk (inb (x3 + (2 : Int32)) L) (lt (xs ((x3 + (2 : Int32))).toNatClampNeg) fun v275 =>
  chk (isO σ264 6 x2) (bc (f_X6_alike x2 v271 v275 σ264) fun r279 σ280 =>
  chk (hN σ264 ≤ hN σ280) ((if r263 = r279 then
  lt (x3 + (9 : Int32)) fun v288 =>
  K18 x1 x2 v288 σ280
  else
  some ((0 : Int32), σ280))))))))))
  else if v38 = (7 : Int32) then
  chk (inb (x3 + (1 : Int32)) L) (lt (xs ((x3 + (1 : Int32))).toNatClampNeg) fun v295 =>
  chk (inb (x3 + (2 : Int32)) L) (lt (xs ((x3 + (2 : Int32))).toNatClampNeg) fun v299 =>
  chk (isO τ 5 x1) (bc (f_X5_span x1 v295 v299 τ) fun r303 σ304 =>
  chk (hN τ ≤ hN σ304) (chk (inb (x3 + (1 : Int32)) L) (lt (xs ((x3 + (1 : Int32))).toNatClampNeg) fun v311 =>
  chk (inb (x3 + (2 : Int32)) L) (lt (xs ((x3 + (2 : Int32))).toNatClampNeg) fun v315 =>
  chk (isO σ304 6 x2) (bc (f_X6_span x2 v311 v315 σ304) fun r319 σ320 =>
  chk (hN σ304 ≤ hN σ320) ((if (lg_cmp r303 r319) = 0 then
  lt (x3 + (9 : Int32)) fun v328 =>
  K18 x1 x2 v328 σ320
  else
  some ((0 : Int32), σ320))))))))))
  else if v38 = (8 : Int32) then
  chk (inb (x3 + (1 : Int32)) L) (lt (xs ((x3 + (1 : Int32))).toNatClampNeg) fun v335 =>
  chk (isO τ 5 x1) (bc (f_X5_way x1 v335 τ) fun r339 σ340 =>
  chk (hN τ ≤ hN σ340) (chk (inb (x3 + (1 : Int32)) L) (lt (xs ((x3 + (1 : Int32))).toNatClampNeg) fun v347 =>
  chk (isO σ340 6 x2) (bc (f_X6_way x2 v347 σ340) fun r351 σ352 =>
  chk (hN σ340 ≤ hN σ352) ((if r339 = r351 then
  lt (x3 + (9 : Int32)) fun v360 =>
  K18 x1 x2 v360 σ352
  else
  some ((0 : Int32), σ352))))))))
  else if v38 = (9 : Int32) then
  chk (inb (x3 + (1 : Int32)) L) (lt (xs ((x3 + (1 : Int32))).toNatClampNeg) fun v367 =>
  chk (isO τ 5 x1) (bc (f_X5_exact x1 v367 τ) fun r371 σ372 =>
  chk (hN τ ≤ hN σ372) (chk (inb (x3 + (1 : Int32)) L) (lt (xs ((x3 + (1 : Int32))).toNatClampNeg) fun v379 =>
  chk (isO σ372 6 x2) (bc (f_X6_exact x2 v379 σ372) fun r383 σ384 =>
  chk (hN σ372 ≤ hN σ384) ((if (lg_cmp r371 r383) = 0 then
  lt (x3 + (9 : Int32)) fun v392 =>
  K18 x1 x2 v392 σ384
  else
  some ((0 : Int32), σ384))))))))
  else if v38 = (10 : Int32) then
  chk (inb (x3 + (1 : Int32)) L) (lt (xs ((x3 + (1 : Int32))).toNatClampNeg) fun v399 =>
  chk (inb (x3 + (2 : Int32)) L) (lt (xs ((x3 + (2 : Int32))).toNatClampNeg) fun v403 =>
  chk (isO τ 5 x1) (bc (f_X5_corner x1 v399 v403 τ) fun r407 σ408 =>
  chk (hN τ ≤ hN σ408) (chk (inb (x3 + (1 : Int32)) L) (lt (xs ((x3 + (1 : Int32))).toNatClampNeg) fun v415 =>
  chk (inb (x3 + (2 : Int32)) L) (lt (xs ((x3 + (2 : Int32))).toNatClampNeg) fun v419 =>
  chk (isO σ408 6 x2) (bc (f_X6_corner x2 v415 v419 σ408) fun r423 σ424 =>
  chk (hN σ408 ≤ hN σ424) ((if (lg_cmp r407 r423) = 0 then
  lt (x3 + (9 : Int32)) fun v432 =>
  K18 x1 x2 v432 σ424
  else
  some ((0 : Int32), σ424))))))))))
  else if v38 = (11 : Int32) then
  chk (inb (x3 + (1 : Int32)) L) (lt (xs ((x3 + (1 : Int32))).toNatClampNeg) fun v439 =>
  chk (inb (x3 + (2 : Int32)) L) (lt (xs ((x3 + (2 : Int32))).toNatClampNeg) fun v443 =>
  chk (isO τ 5 x1) (bc (f_X5_rises x1 v439 v443 τ) fun r447 σ448 =>
  chk (hN τ ≤ hN σ448) (chk (inb (x3 + (1 : Int32)) L) (lt (xs ((x3 + (1 : Int32))).toNatClampNeg) fun v455 =>
  chk (inb (x3 + (2 : Int32)) L) (lt (xs ((x3 + (2 : Int32))).toNatClampNeg) fun v459 =>
  chk (isO σ448 6 x2) (bc (f_X6_rises x2 v455 v459 σ448) fun r463 σ464 =>
  chk (hN σ448 ≤ hN σ464) ((if r447 = r463 then
  lt (x3 + (9 : Int32)) fun v472 =>
  K18 x1 x2 v472 σ464
  else
  some ((0 : Int32), σ464))))))))))
  else if v38 = (12 : Int32) then
  chk (inb (x3 + (1 : Int32)) L) (lt (xs ((x3 + (1 : Int32))).toNatClampNeg) fun v479 =>
  chk (inb (x3 + (2 : Int32)) L) (lt (xs ((x3 + (2 : Int32))).toNatClampNeg) fun v483 =>
  chk (isO τ 5 x1) (bc (f_X5_tight x1 v479 v483 τ) fun r487 σ488 =>
  chk (hN τ ≤ hN σ488) (chk (inb (x3 + (1 : Int32)) L) (lt (xs ((x3 + (1 : Int32))).toNatClampNeg) fun v495 =>
  chk (inb (x3 + (2 : Int32)) L) (lt (xs ((x3 + (2 : Int32))).toNatClampNeg) fun v499 =>
  chk (isO σ488 6 x2) (bc (f_X6_tight x2 v495 v499 σ488) fun r503 σ504 =>
  chk (hN σ488 ≤ hN σ504) ((if (lg_cmp r487 r503) = 0 then
  lt (x3 + (9 : Int32)) fun v512 =>
  K18 x1 x2 v512 σ504
  else
  some ((0 : Int32), σ504))))))))))
  else if v38 = (13 : Int32) then
  chk (inb (x3 + (1 : Int32)) L) (lt (xs ((x3 + (1 : Int32))).toNatClampNeg) fun v519 =>
  chk (inb (x3 + (2 : Int32)) L) (lt (xs ((x3 + (2 : Int32))).toNatClampNeg) fun v523 =>
  chk (inb (x3 + (3 : Int32)) L) (lt (xs ((x3 + (3 : Int32))).toNatClampNeg) fun v527 =>
  chk (inb (x3 + (4 : Int32)) L) (lt (xs ((x3 + (4 : Int32))).toNatClampNeg) fun v531 =>
  chk (isO τ 5 x1) (bc (f_X5_split x1 v519 v523 v527 v531 τ) fun r535 σ536 =>
  chk (hN τ ≤ hN σ536) (chk (inb (x3 + (1 : Int32)) L) (lt (xs ((x3 + (1 : Int32))).toNatClampNeg) fun v543 =>
  chk (inb (x3 + (2 : Int32)) L) (lt (xs ((x3 + (2 : Int32))).toNatClampNeg) fun v547 =>
  chk (inb (x3 + (3 : Int32)) L) (lt (xs ((x3 + (3 : Int32))).toNatClampNeg) fun v551 =>
  chk (inb (x3 + (4 : Int32)) L) (lt (xs ((x3 + (4 : Int32))).toNatClampNeg) fun v555 =>
  chk (isO σ536 6 x2) (bc (f_X6_split x2 v543 v547 v551 v555 σ536) fun r559 σ560 =>
  chk (hN σ536 ≤ hN σ560) ((if (lg_cmp r535 r559) = 0 then
  lt (x3 + (9 : Int32)) fun v568 =>
  K18 x1 x2 v568 σ560
  else
  some ((0 : Int32), σ560))))))))))))))
  else if v38 = (14 : Int32) then
  chk (inb (x3 + (1 : Int32)) L) (lt (xs ((x3 + (1 : Int32))).toNatClampNeg) fun v575 =>
  chk (inb (x3 + (2 : Int32)) L) (lt (xs ((x3 + (2 : Int32))).toNatClampNeg) fun v579 =>
  chk (isO τ 5 x1) (bc (f_X5_best x1 v575 v579 τ) fun r583 σ584 =>
  chk (hN τ ≤ hN σ584) (chk (inb (x3 + (1 : Int32)) L) (lt (xs ((x3 + (1 : Int32))).toNatClampNeg) fun v591 =>
  chk (inb (x3 + (2 : Int32)) L) (lt (xs ((x3 + (2 : Int32))).toNatClampNeg) fun v595 =>
  chk (isO σ584 6 x2) (bc (f_X6_best x2 v591 v595 σ584) fun r599 σ600 =>
  chk (hN σ584 ≤ hN σ600) ((if (lg_cmp r583 r599) = 0 then
  lt (x3 + (9 : Int32)) fun v608 =>
  K18 x1 x2 v608 σ600
  else
  some ((0 : Int32), σ600))))))))))
  else if v38 = (15 : Int32) then
  chk (inb (x3 + (1 : Int32)) L) (lt (xs ((x3 + (1 : Int32))).toNatClampNeg) fun v615 =>
  chk (isO τ 5 x1) (bc (f_X5_widest x1 v615 τ) fun r619 σ620 =>
  chk (hN τ ≤ hN σ620) (chk (inb (x3 + (1 : Int32)) L) (lt (xs ((x3 + (1 : Int32))).toNatClampNeg) fun v627 =>
  chk (isO σ620 6 x2) (bc (f_X6_widest x2 v627 σ620) fun r631 σ632 =>
  chk (hN σ620 ≤ hN σ632) ((if r619 = r631 then
  lt (x3 + (9 : Int32)) fun v640 =>
  K18 x1 x2 v640 σ632
  else
  some ((0 : Int32), σ632))))))))
  else if v38 = (16 : Int32) then
  chk (inb (x3 + (1 : Int32)) L) (lt (xs ((x3 + (1 : Int32))).toNatClampNeg) fun v647 =>
  chk (inb (x3 + (2 : Int32)) L) (lt (xs ((x3 + (2 : Int32))).toNatClampNeg) fun v651 =>
  chk (inb (x3 + (3 : Int32)) L) (lt (xs ((x3 + (3 : Int32))).toNatClampNeg) fun v655 =>
  chk (inb (x3 + (4 : Int32)) L) (lt (xs ((x3 + (4 : Int32))).toNatClampNeg) fun v659 =>
  chk (isO τ 5 x1) (bc (f_X5_again x1 v647 (((v651).toInt64 <<< (((32 : Int32)).toInt64 &&& 63)) ||| ((v655).toInt64 &&& (4294967295 : Int64))) v659 τ) fun r663 σ664 =>
  chk (hN τ ≤ hN σ664) (chk (inb (x3 + (1 : Int32)) L) (lt (xs ((x3 + (1 : Int32))).toNatClampNeg) fun v671 =>
  chk (inb (x3 + (2 : Int32)) L) (lt (xs ((x3 + (2 : Int32))).toNatClampNeg) fun v675 =>
  chk (inb (x3 + (3 : Int32)) L) (lt (xs ((x3 + (3 : Int32))).toNatClampNeg) fun v679 =>
  chk (inb (x3 + (4 : Int32)) L) (lt (xs ((x3 + (4 : Int32))).toNatClampNeg) fun v683 =>
  chk (isO σ664 6 x2) (bc (f_X6_again x2 v671 (((v675).toInt64 <<< (((32 : Int32)).toInt64 &&& 63)) ||| ((v679).toInt64 &&& (4294967295 : Int64))) v683 σ664) fun r687 σ688 =>
  chk (hN σ664 ≤ hN σ688) ((if r663 = r687 then
  lt (x3 + (9 : Int32)) fun v696 =>
  K18 x1 x2 v696 σ688
  else
  some ((0 : Int32), σ688))))))))))))))
  else if v38 = (17 : Int32) then
  chk (inb (x3 + (1 : Int32)) L) (lt (xs ((x3 + (1 : Int32))).toNatClampNeg) fun v703 =>
  chk (inb (x3 + (2 : Int32)) L) (lt (xs ((x3 + (2 : Int32))).toNatClampNeg) fun v707 =>
  chk (inb (x3 + (3 : Int32)) L) (lt (xs ((x3 + (3 : Int32))).toNatClampNeg) fun v711 =>
  chk (inb (x3 + (4 : Int32)) L) (lt (xs ((x3 + (4 : Int32))).toNatClampNeg) fun v715 =>
  chk (inb (x3 + (5 : Int32)) L) (lt (xs ((x3 + (5 : Int32))).toNatClampNeg) fun v719 =>
  chk (isO τ 5 x1) (bc (f_X5_fits x1 v703 v707 (((v711).toInt64 <<< (((32 : Int32)).toInt64 &&& 63)) ||| ((v715).toInt64 &&& (4294967295 : Int64))) v719 τ) fun r723 σ724 =>
  chk (hN τ ≤ hN σ724) (chk (inb (x3 + (1 : Int32)) L) (lt (xs ((x3 + (1 : Int32))).toNatClampNeg) fun v731 =>
  chk (inb (x3 + (2 : Int32)) L) (lt (xs ((x3 + (2 : Int32))).toNatClampNeg) fun v735 =>
  chk (inb (x3 + (3 : Int32)) L) (lt (xs ((x3 + (3 : Int32))).toNatClampNeg) fun v739 =>
  chk (inb (x3 + (4 : Int32)) L) (lt (xs ((x3 + (4 : Int32))).toNatClampNeg) fun v743 =>
  chk (inb (x3 + (5 : Int32)) L) (lt (xs ((x3 + (5 : Int32))).toNatClampNeg) fun v747 =>
  chk (isO σ724 6 x2) (bc (f_X6_fits x2 v731 v735 (((v739).toInt64 <<< (((32 : Int32)).toInt64 &&& 63)) ||| ((v743).toInt64 &&& (4294967295 : Int64))) v747 σ724) fun r751 σ752 =>
  chk (hN σ724 ≤ hN σ752) ((if r723 = r751 then
  lt (x3 + (9 : Int32)) fun v760 =>
  K18 x1 x2 v760 σ752
  else
  some ((0 : Int32), σ752))))))))))))))))
  else if v38 = (18 : Int32) then
  chk (inb (x3 + (1 : Int32)) L) (lt (xs ((x3 + (1 : Int32))).toNatClampNeg) fun v767 =>
  chk (inb (x3 + (2 : Int32)) L) (lt (xs ((x3 + (2 : Int32))).toNatClampNeg) fun v771 =>
  chk (inb (x3 + (3 : Int32)) L) (lt (xs ((x3 + (3 : Int32))).toNatClampNeg) fun v775 =>
  chk (inb (x3 + (4 : Int32)) L) (lt (xs ((x3 + (4 : Int32))).toNatClampNeg) fun v779 =>
  chk (inb (x3 + (5 : Int32)) L) (lt (xs ((x3 + (5 : Int32))).toNatClampNeg) fun v783 =>
  chk (inb (x3 + (6 : Int32)) L) (lt (xs ((x3 + (6 : Int32))).toNatClampNeg) fun v787 =>
  chk (inb (x3 + (7 : Int32)) L) (lt (xs ((x3 + (7 : Int32))).toNatClampNeg) fun v791 =>
  chk (inb (x3 + (8 : Int32)) L) (lt (xs ((x3 + (8 : Int32))).toNatClampNeg) fun v795 =>
  chk (isO τ 5 x1) (bc (f_X5_odds x1 v767 v771 v775 (((v779).toInt64 <<< (((32 : Int32)).toInt64 &&& 63)) ||| ((v783).toInt64 &&& (4294967295 : Int64))) (((v787).toInt64 <<< (((32 : Int32)).toInt64 &&& 63)) ||| ((v791).toInt64 &&& (4294967295 : Int64))) v795 τ) fun r799 σ800 =>
  chk (hN τ ≤ hN σ800) (chk (inb (x3 + (1 : Int32)) L) (lt (xs ((x3 + (1 : Int32))).toNatClampNeg) fun v807 =>
  chk (inb (x3 + (2 : Int32)) L) (lt (xs ((x3 + (2 : Int32))).toNatClampNeg) fun v811 =>
  chk (inb (x3 + (3 : Int32)) L) (lt (xs ((x3 + (3 : Int32))).toNatClampNeg) fun v815 =>
  chk (inb (x3 + (4 : Int32)) L) (lt (xs ((x3 + (4 : Int32))).toNatClampNeg) fun v819 =>
  chk (inb (x3 + (5 : Int32)) L) (lt (xs ((x3 + (5 : Int32))).toNatClampNeg) fun v823 =>
  chk (inb (x3 + (6 : Int32)) L) (lt (xs ((x3 + (6 : Int32))).toNatClampNeg) fun v827 =>
  chk (inb (x3 + (7 : Int32)) L) (lt (xs ((x3 + (7 : Int32))).toNatClampNeg) fun v831 =>
  chk (inb (x3 + (8 : Int32)) L) (lt (xs ((x3 + (8 : Int32))).toNatClampNeg) fun v835 =>
  chk (isO σ800 6 x2) (bc (f_X6_odds x2 v807 v811 v815 (((v819).toInt64 <<< (((32 : Int32)).toInt64 &&& 63)) ||| ((v823).toInt64 &&& (4294967295 : Int64))) (((v827).toInt64 <<< (((32 : Int32)).toInt64 &&& 63)) ||| ((v831).toInt64 &&& (4294967295 : Int64))) v835 σ800) fun r839 σ840 =>
  chk (hN σ800 ≤ hN σ840) ((if (lg_cmp r799 r839) = 0 then
  lt (x3 + (9 : Int32)) fun v848 =>
  K18 x1 x2 v848 σ840
  else
  some ((0 : Int32), σ840))))))))))))))))))))))
  else if v38 = (19 : Int32) then
  chk (inb (x3 + (1 : Int32)) L) (lt (xs ((x3 + (1 : Int32))).toNatClampNeg) fun v855 =>
  chk (inb (x3 + (2 : Int32)) L) (lt (xs ((x3 + (2 : Int32))).toNatClampNeg) fun v859 =>
  chk (inb (x3 + (3 : Int32)) L) (lt (xs ((x3 + (3 : Int32))).toNatClampNeg) fun v863 =>
  chk (isO τ 5 x1) (bc (f_X5_plan x1 v855 v859 v863 τ) fun r867 σ868 =>
  chk (hN τ ≤ hN σ868) (chk (inb (x3 + (1 : Int32)) L) (lt (xs ((x3 + (1 : Int32))).toNatClampNeg) fun v875 =>
  chk (inb (x3 + (2 : Int32)) L) (lt (xs ((x3 + (2 : Int32))).toNatClampNeg) fun v879 =>
  chk (inb (x3 + (3 : Int32)) L) (lt (xs ((x3 + (3 : Int32))).toNatClampNeg) fun v883 =>
  chk (isO σ868 6 x2) (bc (f_X6_plan x2 v875 v879 v883 σ868) fun r887 σ888 =>
  chk (hN σ868 ≤ hN σ888) ((if r867 = r887 then
  lt (x3 + (9 : Int32)) fun v896 =>
  K18 x1 x2 v896 σ888
  else
  some ((0 : Int32), σ888))))))))))))
  else if v38 = (20 : Int32) then
  chk (inb (x3 + (1 : Int32)) L) (lt (xs ((x3 + (1 : Int32))).toNatClampNeg) fun v903 =>
  chk (isO τ 5 x1) (bc (f_X5_ends x1 v903 τ) fun r907 σ908 =>
  chk (hN τ ≤ hN σ908) (chk (inb (x3 + (1 : Int32)) L) (lt (xs ((x3 + (1 : Int32))).toNatClampNeg) fun v915 =>
  chk (isO σ908 6 x2) (bc (f_X6_ends x2 v915 σ908) fun r919 σ920 =>
  chk (hN σ908 ≤ hN σ920) ((if (lg_cmp r907 r919) = 0 then
  lt (x3 + (9 : Int32)) fun v928 =>
  K18 x1 x2 v928 σ920
  else
  some ((0 : Int32), σ920))))))))
  else if v38 = (21 : Int32) then
  chk (inb (x3 + (1 : Int32)) L) (lt (xs ((x3 + (1 : Int32))).toNatClampNeg) fun v935 =>
  chk (isO τ 5 x1) (bc (f_X5_judge x1 v935 τ) fun r939 σ940 =>
  chk (hN τ ≤ hN σ940) (chk (inb (x3 + (1 : Int32)) L) (lt (xs ((x3 + (1 : Int32))).toNatClampNeg) fun v947 =>
  chk (isO σ940 6 x2) (bc (f_X6_judge x2 v947 σ940) fun r951 σ952 =>
  chk (hN σ940 ≤ hN σ952) ((if r939 = r951 then
  lt (x3 + (9 : Int32)) fun v960 =>
  K18 x1 x2 v960 σ952
  else
  some ((0 : Int32), σ952))))))))
  else if v38 = (22 : Int32) then
  chk (inb (x3 + (1 : Int32)) L) (lt (xs ((x3 + (1 : Int32))).toNatClampNeg) fun v967 =>
  chk (inb (x3 + (2 : Int32)) L) (lt (xs ((x3 + (2 : Int32))).toNatClampNeg) fun v971 =>
  chk (isO τ 5 x1) (bc (f_X5_list x1 v967 v971 τ) fun r975 σ976 =>
  chk (hN τ ≤ hN σ976) (chk (inb (x3 + (1 : Int32)) L) (lt (xs ((x3 + (1 : Int32))).toNatClampNeg) fun v983 =>
  chk (inb (x3 + (2 : Int32)) L) (lt (xs ((x3 + (2 : Int32))).toNatClampNeg) fun v987 =>
  chk (isO σ976 6 x2) (bc (f_X6_list x2 v983 v987 σ976) fun r991 σ992 =>
  chk (hN σ976 ≤ hN σ992) ((if r975 = r991 then
  lt (x3 + (9 : Int32)) fun v1000 =>
  K18 x1 x2 v1000 σ992
  else
  some ((0 : Int32), σ992))))))))))
  else if v38 = (23 : Int32) then
  chk (inb (x3 + (1 : Int32)) L) (lt (xs ((x3 + (1 : Int32))).toNatClampNeg) fun v1007 =>
  chk (inb (x3 + (2 : Int32)) L) (lt (xs ((x3 + (2 : Int32))).toNatClampNeg) fun v1011 =>
  chk (inb (x3 + (3 : Int32)) L) (lt (xs ((x3 + (3 : Int32))).toNatClampNeg) fun v1015 =>
  chk (inb (x3 + (4 : Int32)) L) (lt (xs ((x3 + (4 : Int32))).toNatClampNeg) fun v1019 =>
  chk (isO τ 5 x1) (bc (f_X5_put x1 v1007 v1011 (((v1015).toInt64 <<< (((32 : Int32)).toInt64 &&& 63)) ||| ((v1019).toInt64 &&& (4294967295 : Int64))) τ) fun r1023 σ1024 =>
  chk (hN τ ≤ hN σ1024) (chk (inb (x3 + (1 : Int32)) L) (lt (xs ((x3 + (1 : Int32))).toNatClampNeg) fun v1031 =>
  chk (inb (x3 + (2 : Int32)) L) (lt (xs ((x3 + (2 : Int32))).toNatClampNeg) fun v1035 =>
  chk (inb (x3 + (3 : Int32)) L) (lt (xs ((x3 + (3 : Int32))).toNatClampNeg) fun v1039 =>
  chk (inb (x3 + (4 : Int32)) L) (lt (xs ((x3 + (4 : Int32))).toNatClampNeg) fun v1043 =>
  chk (isO σ1024 6 x2) (bc (f_X6_put x2 v1031 v1035 (((v1039).toInt64 <<< (((32 : Int32)).toInt64 &&& 63)) ||| ((v1043).toInt64 &&& (4294967295 : Int64))) σ1024) fun r1047 σ1048 =>
  chk (hN σ1024 ≤ hN σ1048) ((if r1023 = r1047 then
  lt (x3 + (9 : Int32)) fun v1056 =>
  K18 x1 x2 v1056 σ1048
  else
  some ((0 : Int32), σ1048))))))))))))))
  else if v38 = (24 : Int32) then
  chk (inb (x3 + (1 : Int32)) L) (lt (xs ((x3 + (1 : Int32))).toNatClampNeg) fun v1063 =>
  chk (inb (x3 + (2 : Int32)) L) (lt (xs ((x3 + (2 : Int32))).toNatClampNeg) fun v1067 =>
  chk (isO τ 5 x1) (bc (f_X5_get x1 v1063 v1067 τ) fun r1071 σ1072 =>
  chk (hN τ ≤ hN σ1072) (chk (inb (x3 + (1 : Int32)) L) (lt (xs ((x3 + (1 : Int32))).toNatClampNeg) fun v1079 =>
  chk (inb (x3 + (2 : Int32)) L) (lt (xs ((x3 + (2 : Int32))).toNatClampNeg) fun v1083 =>
  chk (isO σ1072 6 x2) (bc (f_X6_get x2 v1079 v1083 σ1072) fun r1087 σ1088 =>
  chk (hN σ1072 ≤ hN σ1088) ((if (lg_cmp r1071 r1087) = 0 then
  lt (x3 + (9 : Int32)) fun v1096 =>
  K18 x1 x2 v1096 σ1088
  else
  some ((0 : Int32), σ1088))))))))))
  else if v38 = (25 : Int32) then
  chk (isO τ 5 x1) (bc (f_X5_image x1 τ) fun r1103 σ1104 =>
  chk (hN τ ≤ hN σ1104) (chk (isO σ1104 6 x2) (bc (f_X6_image x2 σ1104) fun r1111 σ1112 =>
  chk (hN σ1104 ≤ hN σ1112) ((if r1103 = r1111 then
  lt (x3 + (9 : Int32)) fun v1120 =>
  K18 x1 x2 v1120 σ1112
  else
  some ((0 : Int32), σ1112))))))
  else if v38 = (26 : Int32) then
  chk (isO τ 5 x1) (bc (f_X5_undo x1 τ) fun r1127 σ1128 =>
  chk (hN τ ≤ hN σ1128) (chk (isO σ1128 6 x2) (bc (f_X6_undo x2 σ1128) fun r1135 σ1136 =>
  chk (hN σ1128 ≤ hN σ1136) ((if r1127 = r1135 then
  lt (x3 + (9 : Int32)) fun v1144 =>
  K18 x1 x2 v1144 σ1136
  else
  some ((0 : Int32), σ1136))))))
  else if v38 = (27 : Int32) then
  chk (inb (x3 + (1 : Int32)) L) (lt (xs ((x3 + (1 : Int32))).toNatClampNeg) fun v1151 =>
  chk (isO τ 5 x1) (bc (f_X5_count x1 v1151 τ) fun r1155 σ1156 =>
  chk (hN τ ≤ hN σ1156) (chk (inb (x3 + (1 : Int32)) L) (lt (xs ((x3 + (1 : Int32))).toNatClampNeg) fun v1163 =>
  chk (isO σ1156 6 x2) (bc (f_X6_count x2 v1163 σ1156) fun r1167 σ1168 =>
  chk (hN σ1156 ≤ hN σ1168) ((if r1155 = r1167 then
  lt (x3 + (9 : Int32)) fun v1176 =>
  K18 x1 x2 v1176 σ1168
  else
  some ((0 : Int32), σ1168))))))))
  else lt (x3 + (9 : Int32)) fun v1178 =>
  K18 x1 x2 v1178 τ)))
def lp_L_law_18 (L : Nat) (xs : Nat → Int32) : Nat → Nat → Nat → Int32 → HS → Option (Int32 × HS)
  | 0 => fun _ _ _ _ => none
  | n + 1 => lp_L_law_18_b L xs (lp_L_law_18 L xs n)
def f_L_law (L : Nat) (xs : Nat → Int32) (σ : HS) : Option (Int32 × HS) :=
  lt (hN σ) fun n3 =>
  lt (nw σ 5 0) fun σ2 =>
  bc (f_X5_init n3 σ2) fun r6 σ7 =>
  chk (n3 < hN σ7) (lt (hN σ7) fun n16 =>
  lt (nw σ7 6 0) fun σ15 =>
  chk (n3 < hN σ15) (bc (f_X6_init n16 σ15) fun r19 σ20 =>
  lt ((0 : Int32)) fun v27 =>
  lp_L_law_18 L xs 1000 n3 n16 v27 σ20))
