def fX7_thrown (s0 : zS) : zO :=
  some (0, (s0 168 25), s0)
def fX7_in (p1 : Int) (p2 : Int) (p3 : Int) (s0 : zS) : zO :=
  if w32 p1 < w32 p2 then (some (0, 0, s0)) else (if w32 p3 < w32 p1 then (some (0, 0, s0)) else (some (0, 1, s0)))
def fX7_isLand (p1 : Int) (s0 : zS) : zO :=
  zbn0 (fX7_in p1 0 3 s0) (fun v_1 s_2 => zchk (v_1 = 0 ∨ v_1 = 1) (some (0, v_1, s_2)))
def fX7_isParty (p1 : Int) (s0 : zS) : zO :=
  zbn0 (fX7_in p1 0 ((s0 168 3) - 1) s0) (fun v_1 s_2 => zchk (v_1 = 0 ∨ v_1 = 1) (some (0, v_1, s_2)))
def fX7_isShip (p1 : Int) (s0 : zS) : zO :=
  zbn0 (fX7_in p1 0 ((s0 168 6) - 1) s0) (fun v_1 s_2 => zchk (v_1 = 0 ∨ v_1 = 1) (some (0, v_1, s_2)))
def fX7_isMortgage (p1 : Int) (s0 : zS) : zO :=
  zbn0 (fX7_in p1 0 ((s0 168 20) - 1) s0) (fun v_1 s_2 => zchk (v_1 = 0 ∨ v_1 = 1) (some (0, v_1, s_2)))
def fX7_letter (p1 : Int) (s0 : zS) : zO :=
  if w32 p1 < w32 97 then (zsto s0 168 25 1 (fun s_2 => some (0, 0, s_2))) else (if w32 p1 ≤ w32 122 then (if w32 (s0 168 1) = w32 8 then (zsto s0 168 25 2 (fun s_13 => some (0, 0, s_13))) else (zsto s0 168 25 0 (fun s_6 => zchk (0 ≤ w32 (s0 168 1) ∧ w32 (s0 168 1) < 8) (zsto s_6 169 ((w32 (s0 168 1)).toNat) p1 (fun s_9 => zsto s_9 168 1 ((s0 168 1) + 1) (fun s_11 => some (0, ((s0 168 1) + 1), s_11))))))) else (zsto s0 168 25 1 (fun s_15 => some (0, 0, s_15))))
def fX7_person (p1 : Int) (s0 : zS) : zO :=
  zbn0 (fX7_isLand p1 s0) (fun v_1 s_2 => if w32 v_1 = 0 then (zsto s_2 168 25 1 (fun s_15 => some (0, 0, s_15))) else (if w32 (s_2 168 3) = w32 10 then (zsto s_2 168 25 2 (fun s_13 => some (0, 0, s_13))) else (zsto s_2 168 25 0 (fun s_6 => zchk (0 ≤ w32 (s_2 168 3) ∧ w32 (s_2 168 3) < 10) (zsto s_6 170 ((w32 (s_2 168 3)).toNat) p1 (fun s_9 => zsto s_9 168 3 ((s_2 168 3) + 1) (fun s_11 => some (0, (((s_2 168 3) + 1) - 1), s_11))))))))
def fX7_company (s0 : zS) : zO :=
  if w32 (s0 168 3) = w32 10 then (zsto s0 168 25 1 (fun s_9 => some (0, 0, s_9))) else (zsto s0 168 25 0 (fun s_2 => zchk (0 ≤ w32 (s0 168 3) ∧ w32 (s0 168 3) < 10) (zsto s_2 170 ((w32 (s0 168 3)).toNat) (-1) (fun s_5 => zsto s_5 168 3 ((s0 168 3) + 1) (fun s_7 => some (0, (((s0 168 3) + 1) - 1), s_7))))))
def fX7_landOf_l12 (kf : (Int → Int → zS → zO)) : Nat → Int → Int → Int → Int → zS → zO
  | 0, _, _, _, _, _ => none
  | n + 1, x1, x2, x3, x4, s0 =>
    if w32 (s0 168 3) ≤ w32 x4 then (if w32 x3 ≤ w32 32 then (kf x1 (x2 + 1) s0) else (some (0, x2, s0))) else (zchk (0 ≤ w32 x4 ∧ w32 x4 < 10) (if w32 (s0 188 ((w32 x4).toNat)) = w32 x2 then (zchk (0 ≤ w32 ((10 * x1) + x4) ∧ w32 ((10 * x1) + x4) < 100) (fX7_landOf_l12 kf n x1 x2 (x3 + (s0 171 ((w32 ((10 * x1) + x4)).toNat))) (x4 + 1) s0)) else (fX7_landOf_l12 kf n x1 x2 (x3 + 0) (x4 + 1) s0)))
def fX7_landOf_l2 : Nat → Int → Int → zS → zO
  | 0, _, _, _ => none
  | n + 1, x1, x2, s0 =>
    if w32 4 ≤ w32 x2 then (some (0, (-1), s0)) else (fX7_landOf_l12 (fun y1 y2 sx => fX7_landOf_l2 n y1 y2 sx) zfu x1 x2 0 0 s0)
def fX7_landOf (p1 : Int) (s0 : zS) : zO :=
  fX7_landOf_l2 zfu p1 0 s0
def fX7_findLands_l83 (kf : (Int → zS → zO)) : Nat → Int → Int → zS → zO
  | 0, _, _, _ => none
  | n + 1, x1, x2, s0 =>
    if w32 (s0 168 3) ≤ w32 x2 then (kf (x1 + 1) s0) else (zchk (0 ≤ w32 x2 ∧ w32 x2 < 10) (zchk (0 ≤ w32 x2 ∧ w32 x2 < 10) (zsto s0 188 ((w32 x2).toNat) (s0 189 ((w32 x2).toNat)) (fun s_7 => fX7_findLands_l83 kf n x1 (x2 + 1) s_7))))
def fX7_findLands_l37 (kf : (Int → zS → zO)) : Nat → Int → Int → zS → zO
  | 0, _, _, _ => none
  | n + 1, x1, x2, s0 =>
    if w32 (s0 168 3) ≤ w32 x2 then (fX7_findLands_l83 kf zfu x1 0 s0) else (zchk (0 ≤ w32 x2 ∧ w32 x2 < 10) (if w32 (s0 170 ((w32 x2).toNat)) = w32 (-1) then (zbn0 (fX7_landOf x2 s0) (fun v_15 s_16 => zchk (0 ≤ w32 x2 ∧ w32 x2 < 10) (zsto s_16 189 ((w32 x2).toNat) v_15 (fun s_19 => fX7_findLands_l37 kf n x1 (x2 + 1) s_19)))) else (zchk (0 ≤ w32 x2 ∧ w32 x2 < 10) (zchk (0 ≤ w32 x2 ∧ w32 x2 < 10) (zsto s0 189 ((w32 x2).toNat) (s0 170 ((w32 x2).toNat)) (fun s_13 => fX7_findLands_l37 kf n x1 (x2 + 1) s_13))))))
def fX7_findLands_l30 : Nat → Int → zS → zO
  | 0, _, _ => none
  | n + 1, x1, s0 =>
    if w32 5 ≤ w32 x1 then (some (0, 0, s0)) else (fX7_findLands_l37 (fun y1 sx => fX7_findLands_l30 n y1 sx) zfu x1 0 s0)
def fX7_findLands_l2 : Nat → Int → zS → zO
  | 0, _, _ => none
  | n + 1, x1, s0 =>
    if w32 (s0 168 3) ≤ w32 x1 then (fX7_findLands_l30 zfu 0 s0) else (zchk (0 ≤ w32 x1 ∧ w32 x1 < 10) (zchk (0 ≤ w32 x1 ∧ w32 x1 < 10) (zsto s0 188 ((w32 x1).toNat) (s0 170 ((w32 x1).toNat)) (fun s_23 => fX7_findLands_l2 n (x1 + 1) s_23))))
def fX7_findLands (s0 : zS) : zO :=
  fX7_findLands_l2 zfu 0 s0
def fX7_canFly_l9 : Nat → Int → Int → Int → Int → zS → zO
  | 0, _, _, _, _, _ => none
  | n + 1, x1, x2, x3, x4, s0 =>
    if w32 (s0 168 3) ≤ w32 x4 then (if w32 x3 ≤ w32 32 then (some (0, 0, s0)) else (some (0, 1, s0))) else (zchk (0 ≤ w32 x4 ∧ w32 x4 < 10) (if w32 (s0 188 ((w32 x4).toNat)) = w32 x2 then (zchk (0 ≤ w32 ((10 * x1) + x4) ∧ w32 ((10 * x1) + x4) < 60) (fX7_canFly_l9 n x1 x2 (x3 + (s0 173 ((w32 ((10 * x1) + x4)).toNat))) (x4 + 1) s0)) else (fX7_canFly_l9 n x1 x2 (x3 + 0) (x4 + 1) s0)))
def fX7_canFly (p1 : Int) (p2 : Int) (s0 : zS) : zO :=
  zbn0 (fX7_findLands s0) (fun v_1 s_2 => fX7_canFly_l9 zfu p1 p2 0 0 s_2)
def fX7_lookAtFlag (p1 : Int) (s0 : zS) : zO :=
  zchk (0 ≤ w32 p1 ∧ w32 p1 < 6) (if w32 (s0 174 ((w32 p1).toNat)) = w32 (-1) then (some (0, 0, s0)) else (zchk (0 ≤ w32 p1 ∧ w32 p1 < 6) (zbn0 (fX7_canFly p1 (s0 174 ((w32 p1).toNat)) s0) (fun v_4 s_5 => if w32 v_4 = 0 then (zchk (0 ≤ w32 p1 ∧ w32 p1 < 6) (if w64 (s_5 175 ((w32 p1).toNat)) = w64 (-1) then (zchk (0 ≤ w32 p1 ∧ w32 p1 < 6) (zsto s_5 175 ((w32 p1).toNat) (s_5 168 0) (fun s_15 => some (0, 0, s_15)))) else (zchk (0 ≤ w32 p1 ∧ w32 p1 < 6) (zchk (0 ≤ w32 p1 ∧ w32 p1 < 6) (zsto s_5 175 ((w32 p1).toNat) (s_5 175 ((w32 p1).toNat)) (fun s_12 => some (0, 0, s_12))))))) else (zchk (0 ≤ w32 p1 ∧ w32 p1 < 6) (zsto s_5 175 ((w32 p1).toNat) (-1) (fun s_18 => some (0, 0, s_18))))))))
def fX7_part_l159 : Nat → Int → Int → zS → zO
  | 0, _, _, _ => none
  | n + 1, x4, x5, s0 =>
    if w32 (s0 168 6) ≤ w32 x5 then (some (0, x4, s0)) else (zbn0 (fX7_lookAtFlag x5 s0) (fun v_31 s_32 => fX7_part_l159 n x4 (x5 + 1) s_32))
def fX7_part_l64 : Nat → Int → Int → Int → Int → Int → zS → zO
  | 0, _, _, _, _, _, _ => none
  | n + 1, x1, x2, x3, x4, x5, s0 =>
    if w32 (s0 168 3) ≤ w32 x5 then (zchk (0 ≤ w32 x1 ∧ w32 x1 < 10) (if w32 (s0 170 ((w32 x1).toNat)) = w32 (-1) then (if w32 x4 ≤ w32 64 then (zsto s0 168 25 0 (fun s_24 => zchk (0 ≤ w32 ((10 * x1) + x2) ∧ w32 ((10 * x1) + x2) < 100) (zchk (0 ≤ w32 ((10 * x1) + x2) ∧ w32 ((10 * x1) + x2) < 100) (zsto s_24 171 ((w32 ((10 * x1) + x2)).toNat) x3 (fun s_28 => fX7_part_l159 zfu (s_24 171 ((w32 ((10 * x1) + x2)).toNat)) 0 s_28))))) else (zsto s0 168 25 3 (fun s_34 => some (0, 0, s_34)))) else (zsto s0 168 25 3 (fun s_21 => some (0, 0, s_21))))) else (zchk (0 ≤ w32 ((10 * x1) + x5) ∧ w32 ((10 * x1) + x5) < 100) (fX7_part_l64 n x1 x2 x3 (x4 + (s0 171 ((w32 ((10 * x1) + x5)).toNat))) (x5 + 1) s0))
def fX7_part (p1 : Int) (p2 : Int) (p3 : Int) (s0 : zS) : zO :=
  zbn0 (fX7_isParty p1 s0) (fun v_1 s_2 => if w32 v_1 = 0 then (zsto s_2 168 25 1 (fun s_5 => some (0, 0, s_5))) else (zbn0 (fX7_isParty p2 s_2) (fun v_7 s_8 => if w32 v_7 = 0 then (zsto s_8 168 25 1 (fun s_39 => some (0, 0, s_39))) else (zbn0 (fX7_in p3 0 64 s_8) (fun v_11 s_12 => if w32 v_11 = 0 then (zsto s_12 168 25 2 (fun s_37 => some (0, 0, s_37))) else (zsto s_12 168 25 0 (fun s_15 => zchk (0 ≤ w32 ((10 * p1) + p2) ∧ w32 ((10 * p1) + p2) < 100) (fX7_part_l64 zfu p1 p2 p3 (p3 - (s_15 171 ((w32 ((10 * p1) + p2)).toNat))) 0 s_15))))))))
def fX7_land (p1 : Int) (s0 : zS) : zO :=
  zbn0 (fX7_isParty p1 s0) (fun v_1 s_2 => if w32 v_1 = 0 then (zsto s_2 168 25 1 (fun s_5 => some (0, 0, s_5))) else (zsto s_2 168 25 0 (fun s_7 => zbn0 (fX7_findLands s_7) (fun v_9 s_10 => zchk (0 ≤ w32 p1 ∧ w32 p1 < 10) (some (0, (s_10 188 ((w32 p1).toNat)), s_10))))))
def fX7_isVowel (p1 : Int) (s0 : zS) : zO :=
  if w32 p1 = w32 97 then (some (0, 1, s0)) else (if w32 p1 = w32 101 then (some (0, 1, s0)) else (if w32 p1 = w32 105 then (some (0, 1, s0)) else (if w32 p1 = w32 111 then (some (0, 1, s0)) else (if w32 p1 = w32 117 then (some (0, 1, s0)) else (some (0, 0, s0))))))
def fX7_hear_l25 : Nat → Int → Int → zS → zO
  | 0, _, _, _ => none
  | n + 1, x1, x2, s0 =>
    if w32 (s0 168 1) ≤ w32 x2 then (some (0, 0, s0)) else (zchk (0 ≤ w32 x2 ∧ w32 x2 < 8) (zbn0 (fX7_isVowel (s0 169 ((w32 x2).toNat)) s0) (fun v_4 s_5 => if w32 v_4 = 0 then (if w32 x1 = 0 then (zchk (0 ≤ w32 x2 ∧ w32 x2 < 8) (zchk (0 ≤ w32 x1 ∧ w32 x1 < 8) (zsto s_5 190 ((w32 x1).toNat) (s_5 169 ((w32 x2).toNat)) (fun s_11 => fX7_hear_l25 n (x1 + 1) (x2 + 1) s_11)))) else (zchk (0 ≤ w32 (x1 - 1) ∧ w32 (x1 - 1) < 8) (zchk (0 ≤ w32 x2 ∧ w32 x2 < 8) (if w32 (s_5 190 ((w32 (x1 - 1)).toNat)) = w32 (s_5 169 ((w32 x2).toNat)) then (fX7_hear_l25 n x1 (x2 + 1) s_5) else (zchk (0 ≤ w32 x2 ∧ w32 x2 < 8) (zchk (0 ≤ w32 x1 ∧ w32 x1 < 8) (zsto s_5 190 ((w32 x1).toNat) (s_5 169 ((w32 x2).toNat)) (fun s_18 => fX7_hear_l25 n (x1 + 1) (x2 + 1) s_18)))))))) else (fX7_hear_l25 n x1 (x2 + 1) s_5))))
def fX7_hear_l4 : Nat → Int → Int → zS → zO
  | 0, _, _, _ => none
  | n + 1, x1, x2, s0 =>
    if w32 8 ≤ w32 x2 then (fX7_hear_l25 zfu x1 0 s0) else (zchk (0 ≤ w32 x2 ∧ w32 x2 < 8) (zsto s0 190 ((w32 x2).toNat) 0 (fun s_21 => fX7_hear_l4 n x1 (x2 + 1) s_21)))
def fX7_hear (s0 : zS) : zO :=
  fX7_hear_l4 zfu 0 0 s0
def fX7_isHeard_l4 : Nat → Int → Int → Int → zS → zO
  | 0, _, _, _, _ => none
  | n + 1, x1, x2, x3, s0 =>
    if w32 8 ≤ w32 x3 then (zchk (x2 = 0 ∨ x2 = 1) (some (0, x2, s0))) else (if w32 x2 = 0 then (fX7_isHeard_l4 n x1 0 (x3 + 1) s0) else (zchk (0 ≤ w32 ((8 * x1) + x3) ∧ w32 ((8 * x1) + x3) < 48) (zchk (0 ≤ w32 x3 ∧ w32 x3 < 8) (if w32 (s0 172 ((w32 ((8 * x1) + x3)).toNat)) = w32 (s0 190 ((w32 x3).toNat)) then (fX7_isHeard_l4 n x1 1 (x3 + 1) s0) else (fX7_isHeard_l4 n x1 0 (x3 + 1) s0)))))
def fX7_isHeard (p1 : Int) (s0 : zS) : zO :=
  fX7_isHeard_l4 zfu p1 1 0 s0
def fX7_ship_l83 : Nat → Int → Int → zS → zO
  | 0, _, _, _ => none
  | n + 1, x1, x2, s0 =>
    if w32 8 ≤ w32 x2 then (zchk (0 ≤ w32 ((10 * (s0 168 6)) + x1) ∧ w32 ((10 * (s0 168 6)) + x1) < 60) (zsto s0 173 ((w32 ((10 * (s0 168 6)) + x1)).toNat) 64 (fun s_19 => zchk (0 ≤ w32 (s0 168 6) ∧ w32 (s0 168 6) < 6) (zsto s_19 174 ((w32 (s0 168 6)).toNat) (-1) (fun s_22 => zchk (0 ≤ w32 (s0 168 6) ∧ w32 (s0 168 6) < 6) (zsto s_22 175 ((w32 (s0 168 6)).toNat) (-1) (fun s_25 => zsto s_25 168 6 ((s0 168 6) + 1) (fun s_27 => some (0, (((s0 168 6) + 1) - 1), s_27))))))))) else (zchk (0 ≤ w32 x2 ∧ w32 x2 < 8) (zchk (0 ≤ w32 ((8 * (s0 168 6)) + x2) ∧ w32 ((8 * (s0 168 6)) + x2) < 48) (zsto s0 172 ((w32 ((8 * (s0 168 6)) + x2)).toNat) (s0 190 ((w32 x2).toNat)) (fun s_31 => fX7_ship_l83 n x1 (x2 + 1) s_31))))
def fX7_ship_l57 : Nat → Int → Int → zS → zO
  | 0, _, _, _ => none
  | n + 1, x1, x2, s0 =>
    if w32 (s0 168 6) ≤ w32 x2 then (fX7_ship_l83 zfu x1 0 s0) else (zbn0 (fX7_isHeard x2 s0) (fun v_33 s_34 => if w32 v_33 = 0 then (fX7_ship_l57 n x1 (x2 + 1) s_34) else (some (0, (-1), s_34))))
def fX7_ship (p1 : Int) (s0 : zS) : zO :=
  zbn0 (fX7_isParty p1 s0) (fun v_1 s_2 => if w32 v_1 = 0 then (zsto s_2 168 25 1 (fun s_39 => some (0, 0, s_39))) else (if w32 (s_2 168 1) = 0 then (zsto s_2 168 25 2 (fun s_6 => some (0, 0, s_6))) else (if w32 (s_2 168 6) = w32 6 then (zsto s_2 168 25 2 (fun s_37 => some (0, 0, s_37))) else (zsto s_2 168 25 0 (fun s_9 => zbn0 (fX7_hear s_9) (fun v_11 s_12 => zsto s_12 168 1 0 (fun s_14 => fX7_ship_l57 zfu p1 0 s_14)))))))
def fX7_sell (p1 : Int) (p2 : Int) (p3 : Int) (p4 : Int) (s0 : zS) : zO :=
  zbn0 (fX7_isShip p1 s0) (fun v_1 s_2 => if w32 v_1 = 0 then (zsto s_2 168 25 1 (fun s_5 => some (0, 0, s_5))) else (zbn0 (fX7_isParty p2 s_2) (fun v_7 s_8 => if w32 v_7 = 0 then (zsto s_8 168 25 1 (fun s_11 => some (0, 0, s_11))) else (zbn0 (fX7_isParty p3 s_8) (fun v_13 s_14 => if w32 v_13 = 0 then (zsto s_14 168 25 1 (fun s_46 => some (0, 0, s_46))) else (if w32 p2 = w32 p3 then (zsto s_14 168 25 2 (fun s_18 => some (0, 0, s_18))) else (zbn0 (fX7_in p4 1 64 s_14) (fun v_20 s_21 => if w32 v_20 = 0 then (zsto s_21 168 25 2 (fun s_44 => some (0, 0, s_44))) else (zsto s_21 168 25 0 (fun s_24 => zchk (0 ≤ w32 ((10 * p1) + p2) ∧ w32 ((10 * p1) + p2) < 60) (if w32 p4 ≤ w32 (s_24 173 ((w32 ((10 * p1) + p2)).toNat)) then (zsto s_24 168 25 0 (fun s_28 => zchk (0 ≤ w32 ((10 * p1) + p2) ∧ w32 ((10 * p1) + p2) < 60) (zchk (0 ≤ w32 ((10 * p1) + p2) ∧ w32 ((10 * p1) + p2) < 60) (zsto s_28 173 ((w32 ((10 * p1) + p2)).toNat) ((s_28 173 ((w32 ((10 * p1) + p2)).toNat)) - p4) (fun s_32 => zchk (0 ≤ w32 ((10 * p1) + p3) ∧ w32 ((10 * p1) + p3) < 60) (zchk (0 ≤ w32 ((10 * p1) + p3) ∧ w32 ((10 * p1) + p3) < 60) (zsto s_32 173 ((w32 ((10 * p1) + p3)).toNat) ((s_32 173 ((w32 ((10 * p1) + p3)).toNat)) + p4) (fun s_36 => zbn0 (fX7_lookAtFlag p1 s_36) (fun v_38 s_39 => zchk (0 ≤ w32 ((10 * p1) + p3) ∧ w32 ((10 * p1) + p3) < 60) (some (0, (s_39 173 ((w32 ((10 * p1) + p3)).toNat)), s_39))))))))))) else (zsto s_24 168 25 3 (fun s_42 => some (0, 0, s_42))))))))))))))
def fX7_flagNow (p1 : Int) (s0 : zS) : zO :=
  zchk (0 ≤ w32 p1 ∧ w32 p1 < 6) (if w64 (s0 175 ((w32 p1).toNat)) = w64 (-1) then (zchk (0 ≤ w32 p1 ∧ w32 p1 < 6) (some (0, (s0 174 ((w32 p1).toNat)), s0))) else (zchk (0 ≤ w32 p1 ∧ w32 p1 < 6) (if w64 129600 ≤ w64 (((s0 168 0) - (s0 175 ((w32 p1).toNat)))) then (some (0, (-1), s0)) else (zchk (0 ≤ w32 p1 ∧ w32 p1 < 6) (some (0, (s0 174 ((w32 p1).toNat)), s0))))))
def fX7_fly (p1 : Int) (p2 : Int) (s0 : zS) : zO :=
  zbn0 (fX7_isShip p1 s0) (fun v_1 s_2 => if w32 v_1 = 0 then (zsto s_2 168 25 1 (fun s_5 => some (0, 0, s_5))) else (zbn0 (fX7_isLand p2 s_2) (fun v_7 s_8 => if w32 v_7 = 0 then (zsto s_8 168 25 1 (fun s_28 => some (0, 0, s_28))) else (zbn0 (fX7_canFly p1 p2 s_8) (fun v_11 s_12 => if w32 v_11 = 0 then (zsto s_12 168 25 2 (fun s_15 => some (0, 0, s_15))) else (zsto s_12 168 25 0 (fun s_17 => zbn0 (fX7_flagNow p1 s_17) (fun v_19 s_20 => zchk (0 ≤ w32 p1 ∧ w32 p1 < 6) (zsto s_20 174 ((w32 p1).toNat) p2 (fun s_23 => zchk (0 ≤ w32 p1 ∧ w32 p1 < 6) (zsto s_23 175 ((w32 p1).toNat) (-1) (fun s_26 => some (0, v_19, s_26)))))))))))))
def fX7_enter (p1 : Int) (p2 : Int) (p3 : Int) (p4 : Int) (p5 : Int) (s0 : zS) : zO :=
  zchk (0 ≤ w32 (s0 168 11) ∧ w32 (s0 168 11) < 60) (zsto s0 176 ((w32 (s0 168 11)).toNat) p1 (fun s_2 => zchk (0 ≤ w32 (s0 168 11) ∧ w32 (s0 168 11) < 60) (zsto s_2 177 ((w32 (s0 168 11)).toNat) p2 (fun s_5 => zchk (0 ≤ w32 (s0 168 11) ∧ w32 (s0 168 11) < 60) (zsto s_5 178 ((w32 (s0 168 11)).toNat) p3 (fun s_8 => zchk (0 ≤ w32 (s0 168 11) ∧ w32 (s0 168 11) < 60) (zsto s_8 179 ((w32 (s0 168 11)).toNat) p4 (fun s_11 => zchk (0 ≤ w32 (s0 168 11) ∧ w32 (s0 168 11) < 60) (zsto s_11 180 ((w32 (s0 168 11)).toNat) p5 (fun s_14 => zchk (0 ≤ w32 (s0 168 11) ∧ w32 (s0 168 11) < 60) (zsto s_14 181 ((w32 (s0 168 11)).toNat) (s0 168 0) (fun s_17 => zsto s_17 168 11 ((s0 168 11) + 1) (fun s_19 => some (0, ((s0 168 11) + 1), s_19))))))))))))))
def fX7_notice (p1 : Int) (p2 : Int) (s0 : zS) : zO :=
  zbn0 (fX7_isShip p1 s0) (fun v_1 s_2 => if w32 v_1 = 0 then (zsto s_2 168 25 1 (fun s_5 => some (0, 0, s_5))) else (zbn0 (fX7_isParty p2 s_2) (fun v_7 s_8 => if w32 v_7 = 0 then (zsto s_8 168 25 1 (fun s_19 => some (0, 0, s_19))) else (if w32 (s_8 168 11) = w32 60 then (zsto s_8 168 25 2 (fun s_17 => some (0, 0, s_17))) else (zsto s_8 168 25 0 (fun s_12 => zbn0 (fX7_enter 0 p1 p2 0 0 s_12) (fun v_14 s_15 => some (0, v_14, s_15))))))))
def fX7_noticeFor_l2 : Nat → Int → Int → Int → zS → zO
  | 0, _, _, _, _ => none
  | n + 1, x1, x2, x3, s0 =>
    if w32 (s0 168 11) ≤ w32 x3 then (if w32 (s0 168 11) ≤ w32 x3 then (some (0, (-1), s0)) else (some (0, x3, s0))) else (zchk (0 ≤ w32 x3 ∧ w32 x3 < 60) (if w32 (s0 176 ((w32 x3).toNat)) = 0 then (zchk (0 ≤ w32 x3 ∧ w32 x3 < 60) (if w32 (s0 177 ((w32 x3).toNat)) = w32 x1 then (zchk (0 ≤ w32 x3 ∧ w32 x3 < 60) (if w32 (s0 178 ((w32 x3).toNat)) = w32 x2 then (zchk (0 ≤ w32 x3 ∧ w32 x3 < 60) (if w32 (s0 182 ((w32 x3).toNat)) = 0 then (zchk (0 ≤ w32 x3 ∧ w32 x3 < 60) (if w32 (s0 183 ((w32 x3).toNat)) = 0 then (zchk (0 ≤ w32 x3 ∧ w32 x3 < 60) (if w64 (((s0 168 0) - (s0 181 ((w32 x3).toNat)))) ≤ w64 20160 then (if w32 (s0 168 11) ≤ w32 x3 then (some (0, (-1), s0)) else (some (0, x3, s0))) else (fX7_noticeFor_l2 n x1 x2 (x3 + 1) s0))) else (fX7_noticeFor_l2 n x1 x2 (x3 + 1) s0))) else (fX7_noticeFor_l2 n x1 x2 (x3 + 1) s0))) else (fX7_noticeFor_l2 n x1 x2 (x3 + 1) s0))) else (fX7_noticeFor_l2 n x1 x2 (x3 + 1) s0))) else (fX7_noticeFor_l2 n x1 x2 (x3 + 1) s0)))
def fX7_noticeFor (p1 : Int) (p2 : Int) (s0 : zS) : zO :=
  fX7_noticeFor_l2 zfu p1 p2 0 s0
def fX7_mortgage (p1 : Int) (p2 : Int) (p3 : Int) (s0 : zS) : zO :=
  zbn0 (fX7_isShip p1 s0) (fun v_1 s_2 => if w32 v_1 = 0 then (zsto s_2 168 25 1 (fun s_5 => some (0, 0, s_5))) else (zbn0 (fX7_isParty p2 s_2) (fun v_7 s_8 => if w32 v_7 = 0 then (zsto s_8 168 25 1 (fun s_63 => some (0, 0, s_63))) else (zbn0 (fX7_in p3 1 1000000000 s_8) (fun v_11 s_12 => if w32 v_11 = 0 then (zsto s_12 168 25 2 (fun s_61 => some (0, 0, s_61))) else (if w32 (s_12 168 11) = w32 60 then (zsto s_12 168 25 3 (fun s_59 => some (0, 0, s_59))) else (zsto s_12 168 25 0 (fun s_16 => zbn0 (fX7_noticeFor p1 p2 s_16) (fun v_18 s_19 => zchk (0 ≤ w32 (s_19 168 20) ∧ w32 (s_19 168 20) < 60) (zsto s_19 184 ((w32 (s_19 168 20)).toNat) (s_19 168 11) (fun s_22 => if w32 v_18 = w32 (-1) then (zchk (0 ≤ w32 (s_19 168 20) ∧ w32 (s_19 168 20) < 60) (zsto s_22 185 ((w32 (s_19 168 20)).toNat) (s_19 168 11) (fun s_43 => if w32 v_18 = w32 (-1) then (zbn0 (fX7_enter 1 p1 p2 p3 (s_19 168 20) s_43) (fun v_46 s_47 => zsto s_47 168 20 ((s_47 168 20) + 1) (fun s_49 => some (0, (((s_47 168 20) + 1) - 1), s_49)))) else (zchk (0 ≤ w32 v_18 ∧ w32 v_18 < 60) (zsto s_43 182 ((w32 v_18).toNat) 1 (fun s_52 => zbn0 (fX7_enter 1 p1 p2 p3 (s_19 168 20) s_52) (fun v_54 s_55 => zsto s_55 168 20 ((s_55 168 20) + 1) (fun s_57 => some (0, (((s_55 168 20) + 1) - 1), s_57))))))))) else (zchk (0 ≤ w32 (s_19 168 20) ∧ w32 (s_19 168 20) < 60) (zsto s_22 185 ((w32 (s_19 168 20)).toNat) v_18 (fun s_26 => if w32 v_18 = w32 (-1) then (zbn0 (fX7_enter 1 p1 p2 p3 (s_19 168 20) s_26) (fun v_29 s_30 => zsto s_30 168 20 ((s_30 168 20) + 1) (fun s_32 => some (0, (((s_30 168 20) + 1) - 1), s_32)))) else (zchk (0 ≤ w32 v_18 ∧ w32 v_18 < 60) (zsto s_26 182 ((w32 v_18).toNat) 1 (fun s_35 => zbn0 (fX7_enter 1 p1 p2 p3 (s_19 168 20) s_35) (fun v_37 s_38 => zsto s_38 168 20 ((s_38 168 20) + 1) (fun s_40 => some (0, (((s_38 168 20) + 1) - 1), s_40))))))))))))))))))))
def fX7_discharge (p1 : Int) (p2 : Int) (s0 : zS) : zO :=
  zbn0 (fX7_isMortgage p1 s0) (fun v_1 s_2 => if w32 v_1 = 0 then (zsto s_2 168 25 1 (fun s_41 => some (0, 0, s_41))) else (zsto s_2 168 25 0 (fun s_5 => if w32 (s_2 168 11) = w32 60 then (zsto s_5 168 25 2 (fun s_8 => some (0, 0, s_8))) else (zchk (0 ≤ w32 p1 ∧ w32 p1 < 60) (zchk (0 ≤ w32 (s_5 184 ((w32 p1).toNat)) ∧ w32 (s_5 184 ((w32 p1).toNat)) < 60) (if w32 (s_5 183 ((w32 (s_5 184 ((w32 p1).toNat))).toNat)) = 0 then (zchk (0 ≤ w32 p1 ∧ w32 p1 < 60) (if w32 (s_5 186 ((w32 p1).toNat)) = w32 p2 then (zsto s_5 168 25 2 (fun s_39 => some (0, 0, s_39))) else (zsto s_5 168 25 0 (fun s_17 => zchk (0 ≤ w32 p1 ∧ w32 p1 < 60) (if w32 p2 = 0 then (zchk (0 ≤ w32 (s_17 184 ((w32 p1).toNat)) ∧ w32 (s_17 184 ((w32 p1).toNat)) < 60) (zchk (0 ≤ w32 (s_17 184 ((w32 p1).toNat)) ∧ w32 (s_17 184 ((w32 p1).toNat)) < 60) (zbn0 (fX7_enter 3 (s_17 177 ((w32 (s_17 184 ((w32 p1).toNat))).toNat)) (s_17 178 ((w32 (s_17 184 ((w32 p1).toNat))).toNat)) 0 p1 s_17) (fun v_23 s_24 => zchk (0 ≤ w32 p1 ∧ w32 p1 < 60) (zchk (p2 = 0 ∨ p2 = 1) (zsto s_24 186 ((w32 p1).toNat) p2 (fun s_27 => some (0, 0, s_27)))))))) else (zchk (0 ≤ w32 (s_17 184 ((w32 p1).toNat)) ∧ w32 (s_17 184 ((w32 p1).toNat)) < 60) (zchk (0 ≤ w32 (s_17 184 ((w32 p1).toNat)) ∧ w32 (s_17 184 ((w32 p1).toNat)) < 60) (zbn0 (fX7_enter 2 (s_17 177 ((w32 (s_17 184 ((w32 p1).toNat))).toNat)) (s_17 178 ((w32 (s_17 184 ((w32 p1).toNat))).toNat)) 0 p1 s_17) (fun v_32 s_33 => zchk (0 ≤ w32 p1 ∧ w32 p1 < 60) (zchk (p2 = 0 ∨ p2 = 1) (zsto s_33 186 ((w32 p1).toNat) p2 (fun s_36 => some (0, 0, s_36))))))))))))) else (zsto s_5 168 25 2 (fun s_13 => some (0, 0, s_13)))))))))
def fX7_lien (p1 : Int) (p2 : Int) (p3 : Int) (p4 : Int) (s0 : zS) : zO :=
  zbn0 (fX7_isShip p1 s0) (fun v_1 s_2 => if w32 v_1 = 0 then (zsto s_2 168 25 1 (fun s_5 => some (0, 0, s_5))) else (zbn0 (fX7_isParty p2 s_2) (fun v_7 s_8 => if w32 v_7 = 0 then (zsto s_8 168 25 1 (fun s_31 => some (0, 0, s_31))) else (zbn0 (fX7_in p3 0 3 s_8) (fun v_11 s_12 => if w32 v_11 = 0 then (zsto s_12 168 25 2 (fun s_15 => some (0, 0, s_15))) else (zbn0 (fX7_in p4 1 1000000000 s_12) (fun v_17 s_18 => if w32 v_17 = 0 then (zsto s_18 168 25 2 (fun s_29 => some (0, 0, s_29))) else (if w32 (s_18 168 11) = w32 60 then (zsto s_18 168 25 3 (fun s_27 => some (0, 0, s_27))) else (zsto s_18 168 25 0 (fun s_22 => zbn0 (fX7_enter 4 p1 p2 p4 p3 s_22) (fun v_24 s_25 => some (0, v_24, s_25))))))))))))
def fX7_isLien (p1 : Int) (p2 : Int) (s0 : zS) : zO :=
  zchk (0 ≤ w32 p1 ∧ w32 p1 < 60) (if w32 (s0 176 ((w32 p1).toNat)) = w32 4 then (zchk (0 ≤ w32 p1 ∧ w32 p1 < 60) (if w32 (s0 177 ((w32 p1).toNat)) = w32 p2 then (zchk (0 ≤ w32 p1 ∧ w32 p1 < 60) (if w32 (s0 183 ((w32 p1).toNat)) = 0 then (zchk (0 ≤ w32 p1 ∧ w32 p1 < 60) (if w64 525600 < w64 (((s0 168 0) - (s0 181 ((w32 p1).toNat)))) then (some (0, 0, s0)) else (some (0, 1, s0)))) else (some (0, 0, s0)))) else (some (0, 0, s0)))) else (some (0, 0, s0)))
def fX7_isThere (p1 : Int) (p2 : Int) (s0 : zS) : zO :=
  zchk (0 ≤ w32 p1 ∧ w32 p1 < 60) (zchk (0 ≤ w32 (s0 184 ((w32 p1).toNat)) ∧ w32 (s0 184 ((w32 p1).toNat)) < 60) (if w32 (s0 177 ((w32 (s0 184 ((w32 p1).toNat))).toNat)) = w32 p2 then (zchk (0 ≤ w32 p1 ∧ w32 p1 < 60) (zchk (0 ≤ w32 (s0 184 ((w32 p1).toNat)) ∧ w32 (s0 184 ((w32 p1).toNat)) < 60) (if w32 (s0 183 ((w32 (s0 184 ((w32 p1).toNat))).toNat)) = 0 then (zchk (0 ≤ w32 p1 ∧ w32 p1 < 60) (if w32 (s0 186 ((w32 p1).toNat)) = 0 then (some (0, 1, s0)) else (some (0, 0, s0)))) else (some (0, 0, s0))))) else (some (0, 0, s0))))
def fX7_rankOf_l4 : Nat → Int → Int → Int → zS → zO
  | 0, _, _, _, _ => none
  | n + 1, x1, x2, x3, s0 =>
    if w32 (s0 168 20) ≤ w32 x3 then (some (0, x2, s0)) else (zchk (0 ≤ w32 x1 ∧ w32 x1 < 60) (zchk (0 ≤ w32 (s0 184 ((w32 x1).toNat)) ∧ w32 (s0 184 ((w32 x1).toNat)) < 60) (zbn0 (fX7_isThere x3 (s0 177 ((w32 (s0 184 ((w32 x1).toNat))).toNat)) s0) (fun v_4 s_5 => if w32 v_4 = 0 then (fX7_rankOf_l4 n x1 (x2 + 0) (x3 + 1) s_5) else (zchk (0 ≤ w32 x3 ∧ w32 x3 < 60) (zchk (0 ≤ w32 x1 ∧ w32 x1 < 60) (if w32 (s_5 185 ((w32 x1).toNat)) ≤ w32 (s_5 185 ((w32 x3).toNat)) then (fX7_rankOf_l4 n x1 (x2 + 0) (x3 + 1) s_5) else (fX7_rankOf_l4 n x1 (x2 + 1) (x3 + 1) s_5))))))))
def fX7_rankOf (p1 : Int) (s0 : zS) : zO :=
  fX7_rankOf_l4 zfu p1 0 0 s0
def fX7_pays (p1 : Int) (s0 : zS) : zO :=
  zchk (0 ≤ w32 p1 ∧ w32 p1 < 60) (if w64 (s0 168 29) ≤ w64 (w32 (s0 179 ((w32 p1).toNat))) then (zchk (0 ≤ w32 p1 ∧ w32 p1 < 60) (zchk (0 ≤ w32 (s0 178 ((w32 p1).toNat)) ∧ w32 (s0 178 ((w32 p1).toNat)) < 10) (zchk (0 ≤ w32 (s0 178 ((w32 p1).toNat)) ∧ w32 (s0 178 ((w32 p1).toNat)) < 10) (zsto s0 187 ((w32 (s0 178 ((w32 p1).toNat))).toNat) (((s0 187 ((w32 (s0 178 ((w32 p1).toNat))).toNat)) + (s0 168 29))) (fun s_6 => zsto s_6 168 29 (((s0 168 29) - (s0 168 29))) (fun s_8 => some (0, 0, s_8))))))) else (zchk (0 ≤ w32 p1 ∧ w32 p1 < 60) (zchk (0 ≤ w32 p1 ∧ w32 p1 < 60) (zchk (0 ≤ w32 (s0 178 ((w32 p1).toNat)) ∧ w32 (s0 178 ((w32 p1).toNat)) < 10) (zchk (0 ≤ w32 (s0 178 ((w32 p1).toNat)) ∧ w32 (s0 178 ((w32 p1).toNat)) < 10) (zsto s0 187 ((w32 (s0 178 ((w32 p1).toNat))).toNat) (((s0 187 ((w32 (s0 178 ((w32 p1).toNat))).toNat)) + (w32 (s0 179 ((w32 p1).toNat))))) (fun s_14 => zsto s_14 168 29 (((s0 168 29) - (w32 (s0 179 ((w32 p1).toNat))))) (fun s_16 => some (0, 0, s_16)))))))))
def fX7_paysAll_l122 : Nat → Int → Int → Int → zS → zO
  | 0, _, _, _, _ => none
  | n + 1, x1, x2, x4, s0 =>
    if w32 (s0 168 3) ≤ w32 x4 then (some (0, 0, s0)) else (zchk (0 ≤ w32 ((10 * x1) + x4) ∧ w32 ((10 * x1) + x4) < 60) (zchk (0 ≤ w32 x4 ∧ w32 x4 < 10) (zchk (0 ≤ w32 x4 ∧ w32 x4 < 10) (zsto s0 187 ((w32 x4).toNat) (((s0 187 ((w32 x4).toNat)) + ((w64 (x2 * (w32 (s0 173 ((w32 ((10 * x1) + x4)).toNat))))).tdiv 64))) (fun s_7 => zsto s_7 168 29 (((s0 168 29) - ((w64 (x2 * (w32 (s0 173 ((w32 ((10 * x1) + x4)).toNat))))).tdiv 64))) (fun s_9 => fX7_paysAll_l122 n x1 x2 (x4 + 1) s_9))))))
def fX7_paysAll_l66 (kf : (Int → Int → zS → zO)) : Nat → Int → Int → Int → zS → zO
  | 0, _, _, _, _ => none
  | n + 1, x1, x2, x3, s0 =>
    if w32 (s0 168 20) ≤ w32 x3 then (kf x1 (x2 + 1) s0) else (zbn0 (fX7_isThere x3 x1 s0) (fun v_12 s_13 => if w32 v_12 = 0 then (fX7_paysAll_l66 kf n x1 x2 (x3 + 1) s_13) else (zbn0 (fX7_rankOf x3 s_13) (fun v_16 s_17 => if w32 v_16 = w32 x2 then (zchk (0 ≤ w32 x3 ∧ w32 x3 < 60) (zbn0 (fX7_pays (s_17 184 ((w32 x3).toNat)) s_17) (fun v_21 s_22 => fX7_paysAll_l66 kf n x1 x2 (x3 + 1) s_22))) else (fX7_paysAll_l66 kf n x1 x2 (x3 + 1) s_17)))))
def fX7_paysAll_l56 : Nat → Int → Int → zS → zO
  | 0, _, _, _ => none
  | n + 1, x1, x2, s0 =>
    if w32 (s0 168 20) ≤ w32 x2 then (fX7_paysAll_l122 zfu x1 (s0 168 29) 0 s0) else (fX7_paysAll_l66 (fun y1 y2 sx => fX7_paysAll_l56 n y1 y2 sx) zfu x1 x2 0 s0)
def fX7_paysAll_l14 (kf : (Int → Int → zS → zO)) : Nat → Int → Int → Int → zS → zO
  | 0, _, _, _, _ => none
  | n + 1, x1, x2, x3, s0 =>
    if w32 x3 < 0 then (kf x1 (x2 + 1) s0) else (zbn0 (fX7_isLien x3 x1 s0) (fun v_25 s_26 => if w32 v_25 = 0 then (fX7_paysAll_l14 kf n x1 x2 (x3 + (-1)) s_26) else (zchk (0 ≤ w32 x3 ∧ w32 x3 < 60) (if w32 (s_26 180 ((w32 x3).toNat)) = w32 x2 then (zbn0 (fX7_pays x3 s_26) (fun v_31 s_32 => fX7_paysAll_l14 kf n x1 x2 (x3 + (-1)) s_32)) else (fX7_paysAll_l14 kf n x1 x2 (x3 + (-1)) s_26)))))
def fX7_paysAll_l2 : Nat → Int → Int → zS → zO
  | 0, _, _, _ => none
  | n + 1, x1, x2, s0 =>
    if w32 4 ≤ w32 x2 then (fX7_paysAll_l56 zfu x1 0 s0) else (fX7_paysAll_l14 (fun y1 y2 sx => fX7_paysAll_l2 n y1 y2 sx) zfu x1 x2 ((s0 168 11) - 1) s0)
def fX7_paysAll (p1 : Int) (s0 : zS) : zO :=
  fX7_paysAll_l2 zfu p1 0 s0
def fX7_court_l126 : Nat → Int → Int → Int → Int → zS → zO
  | 0, _, _, _, _, _ => none
  | n + 1, x1, x2, x3, x4, s0 =>
    if w32 (s0 168 3) ≤ w32 x4 then (zchk (0 ≤ w32 x1 ∧ w32 x1 < 6) (zsto s0 174 ((w32 x1).toNat) (-1) (fun s_26 => zchk (0 ≤ w32 x1 ∧ w32 x1 < 6) (zsto s_26 175 ((w32 x1).toNat) (-1) (fun s_29 => zbn0 (fX7_enter 5 x1 x2 x3 0 s_29) (fun v_31 s_32 => some (0, (s_32 168 29), s_32))))))) else (if w32 x4 = w32 x2 then (zchk (0 ≤ w32 ((10 * x1) + x4) ∧ w32 ((10 * x1) + x4) < 60) (zsto s0 173 ((w32 ((10 * x1) + x4)).toNat) 64 (fun s_39 => fX7_court_l126 n x1 x2 x3 (x4 + 1) s_39))) else (zchk (0 ≤ w32 ((10 * x1) + x4) ∧ w32 ((10 * x1) + x4) < 60) (zsto s0 173 ((w32 ((10 * x1) + x4)).toNat) 0 (fun s_36 => fX7_court_l126 n x1 x2 x3 (x4 + 1) s_36))))
def fX7_court_l75 : Nat → Int → Int → Int → Int → zS → zO
  | 0, _, _, _, _, _ => none
  | n + 1, x1, x2, x3, x4, s0 =>
    if w32 (s0 168 11) ≤ w32 x4 then (fX7_court_l126 zfu x1 x2 x3 0 s0) else (zchk (0 ≤ w32 x4 ∧ w32 x4 < 60) (if w32 (s0 183 ((w32 x4).toNat)) = 0 then (zchk (0 ≤ w32 x4 ∧ w32 x4 < 60) (if w32 (s0 177 ((w32 x4).toNat)) = w32 x1 then (zchk (0 ≤ w32 x4 ∧ w32 x4 < 60) (zsto s0 183 ((w32 x4).toNat) 1 (fun s_52 => fX7_court_l75 n x1 x2 x3 (x4 + 1) s_52))) else (zchk (0 ≤ w32 x4 ∧ w32 x4 < 60) (zsto s0 183 ((w32 x4).toNat) 0 (fun s_49 => fX7_court_l75 n x1 x2 x3 (x4 + 1) s_49))))) else (zchk (0 ≤ w32 x4 ∧ w32 x4 < 60) (zsto s0 183 ((w32 x4).toNat) 1 (fun s_44 => fX7_court_l75 n x1 x2 x3 (x4 + 1) s_44)))))
def fX7_court (p1 : Int) (p2 : Int) (p3 : Int) (s0 : zS) : zO :=
  zbn0 (fX7_isShip p1 s0) (fun v_1 s_2 => if w32 v_1 = 0 then (zsto s_2 168 25 1 (fun s_5 => some (0, 0, s_5))) else (zbn0 (fX7_isParty p2 s_2) (fun v_7 s_8 => if w32 v_7 = 0 then (zsto s_8 168 25 1 (fun s_58 => some (0, 0, s_58))) else (zbn0 (fX7_in p3 1 2000000000 s_8) (fun v_11 s_12 => if w32 v_11 = 0 then (zsto s_12 168 25 2 (fun s_56 => some (0, 0, s_56))) else (if w32 (s_12 168 11) = w32 60 then (zsto s_12 168 25 3 (fun s_54 => some (0, 0, s_54))) else (zsto s_12 168 25 0 (fun s_16 => zsto s_16 168 29 (w32 p3) (fun s_18 => zbn0 (fX7_paysAll p1 s_18) (fun v_20 s_21 => fX7_court_l75 zfu p1 p2 p3 0 s_21))))))))))
def fX7_pass (p1 : Int) (s0 : zS) : zO :=
  zbn0 (fX7_in p1 1 1000000 s0) (fun v_1 s_2 => if w32 v_1 = 0 then (zsto s_2 168 25 1 (fun s_5 => zsto s_5 168 0 ((s_2 168 0) + 0) (fun s_7 => some (0, 0, s_7)))) else (zsto s_2 168 25 0 (fun s_9 => zsto s_9 168 0 (((s_2 168 0) + (w32 p1))) (fun s_11 => some (0, ((s_2 168 0) + (w32 p1)), s_11)))))
def fX7_share (p1 : Int) (p2 : Int) (s0 : zS) : zO :=
  zbn0 (fX7_isShip p1 s0) (fun v_1 s_2 => if w32 v_1 = 0 then (zsto s_2 168 25 1 (fun s_5 => some (0, 0, s_5))) else (zbn0 (fX7_isParty p2 s_2) (fun v_7 s_8 => if w32 v_7 = 0 then (zsto s_8 168 25 1 (fun s_11 => some (0, 0, s_11))) else (zsto s_8 168 25 0 (fun s_13 => zchk (0 ≤ w32 ((10 * p1) + p2) ∧ w32 ((10 * p1) + p2) < 60) (some (0, (s_13 173 ((w32 ((10 * p1) + p2)).toNat)), s_13)))))))
def fX7_sound (p1 : Int) (p2 : Int) (s0 : zS) : zO :=
  zbn0 (fX7_isShip p1 s0) (fun v_1 s_2 => if w32 v_1 = 0 then (zsto s_2 168 25 1 (fun s_5 => some (0, 0, s_5))) else (if w32 p2 < 0 then (zsto s_2 168 25 1 (fun s_8 => some (0, 0, s_8))) else (zsto s_2 168 25 0 (fun s_10 => if w32 8 ≤ w32 p2 then (some (0, 32, s_10)) else (zchk (0 ≤ w32 ((8 * p1) + p2) ∧ w32 ((8 * p1) + p2) < 48) (if w32 (s_10 172 ((w32 ((8 * p1) + p2)).toNat)) = 0 then (some (0, 32, s_10)) else (zchk (0 ≤ ((s_10 172 ((w32 ((8 * p1) + p2)).toNat)) % 65536) ∧ ((s_10 172 ((w32 ((8 * p1) + p2)).toNat)) % 65536) < 65536) (some (0, ((s_10 172 ((w32 ((8 * p1) + p2)).toNat)) % 65536), s_10)))))))))
def fX7_flag (p1 : Int) (s0 : zS) : zO :=
  zbn0 (fX7_isShip p1 s0) (fun v_1 s_2 => if w32 v_1 = 0 then (zsto s_2 168 25 1 (fun s_5 => some (0, 0, s_5))) else (zsto s_2 168 25 0 (fun s_7 => zbn0 (fX7_flagNow p1 s_7) (fun v_9 s_10 => some (0, v_9, s_10)))))
def fX7_rank (p1 : Int) (s0 : zS) : zO :=
  zbn0 (fX7_isMortgage p1 s0) (fun v_1 s_2 => if w32 v_1 = 0 then (zsto s_2 168 25 1 (fun s_5 => some (0, 0, s_5))) else (zsto s_2 168 25 0 (fun s_7 => zchk (0 ≤ w32 p1 ∧ w32 p1 < 60) (zchk (0 ≤ w32 (s_7 184 ((w32 p1).toNat)) ∧ w32 (s_7 184 ((w32 p1).toNat)) < 60) (zbn0 (fX7_isThere p1 (s_7 177 ((w32 (s_7 184 ((w32 p1).toNat))).toNat)) s_7) (fun v_11 s_12 => if w32 v_11 = 0 then (some (0, (-1), s_12)) else (zbn0 (fX7_rankOf p1 s_12) (fun v_15 s_16 => some (0, v_15, s_16)))))))))
def fX7_findBook_l64 (kf : (Int → Int → Int → zS → zO)) : Nat → Int → Int → Int → Int → zS → zO
  | 0, _, _, _, _, _ => none
  | n + 1, x1, x2, x4, x5, s0 =>
    if w32 (s0 168 20) ≤ w32 x5 then (zchk (0 ≤ w32 x4 ∧ w32 x4 < 60) (if w32 (s0 176 ((w32 x4).toNat)) = w32 1 then (zchk (0 ≤ w32 x4 ∧ w32 x4 < 60) (zchk (0 ≤ w32 x4 ∧ w32 x4 < 60) (if w32 (s0 176 ((w32 x4).toNat)) = w32 2 then (zchk (0 ≤ w32 (s0 180 ((w32 x4).toNat)) ∧ w32 (s0 180 ((w32 x4).toNat)) < 60) (zsto s0 191 ((w32 (s0 180 ((w32 x4).toNat))).toNat) 0 (fun s_14 => kf x1 x2 (x4 + 1) s_14))) else (zchk (0 ≤ w32 (s0 180 ((w32 x4).toNat)) ∧ w32 (s0 180 ((w32 x4).toNat)) < 60) (zsto s0 191 ((w32 (s0 180 ((w32 x4).toNat))).toNat) 1 (fun s_17 => kf x1 x2 (x4 + 1) s_17)))))) else (zchk (0 ≤ w32 x4 ∧ w32 x4 < 60) (if w32 (s0 176 ((w32 x4).toNat)) = w32 2 then (zchk (0 ≤ w32 x4 ∧ w32 x4 < 60) (zchk (0 ≤ w32 x4 ∧ w32 x4 < 60) (if w32 (s0 176 ((w32 x4).toNat)) = w32 2 then (zchk (0 ≤ w32 (s0 180 ((w32 x4).toNat)) ∧ w32 (s0 180 ((w32 x4).toNat)) < 60) (zsto s0 191 ((w32 (s0 180 ((w32 x4).toNat))).toNat) 0 (fun s_25 => kf x1 x2 (x4 + 1) s_25))) else (zchk (0 ≤ w32 (s0 180 ((w32 x4).toNat)) ∧ w32 (s0 180 ((w32 x4).toNat)) < 60) (zsto s0 191 ((w32 (s0 180 ((w32 x4).toNat))).toNat) 1 (fun s_28 => kf x1 x2 (x4 + 1) s_28)))))) else (zchk (0 ≤ w32 x4 ∧ w32 x4 < 60) (if w32 (s0 176 ((w32 x4).toNat)) = w32 3 then (zchk (0 ≤ w32 x4 ∧ w32 x4 < 60) (zchk (0 ≤ w32 x4 ∧ w32 x4 < 60) (if w32 (s0 176 ((w32 x4).toNat)) = w32 2 then (zchk (0 ≤ w32 (s0 180 ((w32 x4).toNat)) ∧ w32 (s0 180 ((w32 x4).toNat)) < 60) (zsto s0 191 ((w32 (s0 180 ((w32 x4).toNat))).toNat) 0 (fun s_36 => kf x1 x2 (x4 + 1) s_36))) else (zchk (0 ≤ w32 (s0 180 ((w32 x4).toNat)) ∧ w32 (s0 180 ((w32 x4).toNat)) < 60) (zsto s0 191 ((w32 (s0 180 ((w32 x4).toNat))).toNat) 1 (fun s_39 => kf x1 x2 (x4 + 1) s_39)))))) else (kf x1 x2 (x4 + 1) s0))))))) else (zchk (0 ≤ w32 x4 ∧ w32 x4 < 60) (if w32 (s0 176 ((w32 x4).toNat)) = w32 5 then (zchk (0 ≤ w32 x5 ∧ w32 x5 < 60) (zsto s0 191 ((w32 x5).toNat) 0 (fun s_77 => fX7_findBook_l64 kf n x1 x2 x4 (x5 + 1) s_77))) else (zchk (0 ≤ w32 x4 ∧ w32 x4 < 60) (if w32 (s0 176 ((w32 x4).toNat)) = w32 1 then (zchk (0 ≤ w32 x4 ∧ w32 x4 < 60) (zchk (0 ≤ w32 x4 ∧ w32 x4 < 60) (if w32 (s0 176 ((w32 x4).toNat)) = w32 2 then (zchk (0 ≤ w32 (s0 180 ((w32 x4).toNat)) ∧ w32 (s0 180 ((w32 x4).toNat)) < 60) (zsto s0 191 ((w32 (s0 180 ((w32 x4).toNat))).toNat) 0 (fun s_49 => kf x1 x2 (x4 + 1) s_49))) else (zchk (0 ≤ w32 (s0 180 ((w32 x4).toNat)) ∧ w32 (s0 180 ((w32 x4).toNat)) < 60) (zsto s0 191 ((w32 (s0 180 ((w32 x4).toNat))).toNat) 1 (fun s_52 => kf x1 x2 (x4 + 1) s_52)))))) else (zchk (0 ≤ w32 x4 ∧ w32 x4 < 60) (if w32 (s0 176 ((w32 x4).toNat)) = w32 2 then (zchk (0 ≤ w32 x4 ∧ w32 x4 < 60) (zchk (0 ≤ w32 x4 ∧ w32 x4 < 60) (if w32 (s0 176 ((w32 x4).toNat)) = w32 2 then (zchk (0 ≤ w32 (s0 180 ((w32 x4).toNat)) ∧ w32 (s0 180 ((w32 x4).toNat)) < 60) (zsto s0 191 ((w32 (s0 180 ((w32 x4).toNat))).toNat) 0 (fun s_60 => kf x1 x2 (x4 + 1) s_60))) else (zchk (0 ≤ w32 (s0 180 ((w32 x4).toNat)) ∧ w32 (s0 180 ((w32 x4).toNat)) < 60) (zsto s0 191 ((w32 (s0 180 ((w32 x4).toNat))).toNat) 1 (fun s_63 => kf x1 x2 (x4 + 1) s_63)))))) else (zchk (0 ≤ w32 x4 ∧ w32 x4 < 60) (if w32 (s0 176 ((w32 x4).toNat)) = w32 3 then (zchk (0 ≤ w32 x4 ∧ w32 x4 < 60) (zchk (0 ≤ w32 x4 ∧ w32 x4 < 60) (if w32 (s0 176 ((w32 x4).toNat)) = w32 2 then (zchk (0 ≤ w32 (s0 180 ((w32 x4).toNat)) ∧ w32 (s0 180 ((w32 x4).toNat)) < 60) (zsto s0 191 ((w32 (s0 180 ((w32 x4).toNat))).toNat) 0 (fun s_71 => kf x1 x2 (x4 + 1) s_71))) else (zchk (0 ≤ w32 (s0 180 ((w32 x4).toNat)) ∧ w32 (s0 180 ((w32 x4).toNat)) < 60) (zsto s0 191 ((w32 (s0 180 ((w32 x4).toNat))).toNat) 1 (fun s_74 => kf x1 x2 (x4 + 1) s_74)))))) else (kf x1 x2 (x4 + 1) s0)))))))))
def fX7_findBook_l29 : Nat → Int → Int → Int → zS → zO
  | 0, _, _, _, _ => none
  | n + 1, x1, x2, x4, s0 =>
    if w32 (s0 168 11) ≤ w32 x4 then (some (0, 0, s0)) else (zchk (0 ≤ w32 x4 ∧ w32 x4 < 60) (if w32 (s0 177 ((w32 x4).toNat)) = w32 x1 then (zchk (0 ≤ w32 x4 ∧ w32 x4 < 60) (if w64 x2 < w64 (s0 181 ((w32 x4).toNat)) then (fX7_findBook_l29 n x1 x2 (x4 + 1) s0) else (fX7_findBook_l64 (fun y1 y2 y4 sx => fX7_findBook_l29 n y1 y2 y4 sx) zfu x1 x2 x4 0 s0))) else (fX7_findBook_l29 n x1 x2 (x4 + 1) s0)))
def fX7_findBook_l3 : Nat → Int → Int → Int → zS → zO
  | 0, _, _, _, _ => none
  | n + 1, x1, x2, x4, s0 =>
    if w32 (s0 168 20) ≤ w32 x4 then (fX7_findBook_l29 zfu x1 x2 0 s0) else (zchk (0 ≤ w32 x4 ∧ w32 x4 < 60) (zsto s0 191 ((w32 x4).toNat) 0 (fun s_80 => fX7_findBook_l3 n x1 x2 (x4 + 1) s_80)))
def fX7_findBook (p1 : Int) (p2 : Int) (s0 : zS) : zO :=
  fX7_findBook_l3 zfu p1 p2 0 s0
def fX7_search_l77 (kf : (Int → Int → Int → zS → zO)) : Nat → Int → Int → Int → Int → Int → zS → zO
  | 0, _, _, _, _, _, _ => none
  | n + 1, x4, x5, x6, x7, x8, s0 =>
    if w32 (s0 168 20) ≤ w32 x8 then (zchk (0 ≤ w32 x6 ∧ w32 x6 < 60) (if w32 (s0 191 ((w32 x6).toNat)) = 0 then (kf x4 x5 (x6 + 1) s0) else (if w32 x7 = w32 x4 then (kf x4 x6 (x6 + 1) s0) else (kf x4 x5 (x6 + 1) s0)))) else (zchk (0 ≤ w32 x8 ∧ w32 x8 < 60) (if w32 (s0 191 ((w32 x8).toNat)) = 0 then (fX7_search_l77 kf n x4 x5 x6 (x7 + 0) (x8 + 1) s0) else (zchk (0 ≤ w32 x8 ∧ w32 x8 < 60) (zchk (0 ≤ w32 x6 ∧ w32 x6 < 60) (if w32 (s0 185 ((w32 x6).toNat)) ≤ w32 (s0 185 ((w32 x8).toNat)) then (fX7_search_l77 kf n x4 x5 x6 (x7 + 0) (x8 + 1) s0) else (fX7_search_l77 kf n x4 x5 x6 (x7 + 1) (x8 + 1) s0))))))
def fX7_search_l62 : Nat → Int → Int → Int → zS → zO
  | 0, _, _, _, _ => none
  | n + 1, x4, x5, x6, s0 =>
    if w32 (s0 168 20) ≤ w32 x6 then (some (0, x5, s0)) else (fX7_search_l77 (fun y4 y5 y6 sx => fX7_search_l62 n y4 y5 y6 sx) zfu x4 x5 x6 0 0 s0)
def fX7_search (p1 : Int) (p2 : Int) (p3 : Int) (s0 : zS) : zO :=
  zbn0 (fX7_isShip p1 s0) (fun v_1 s_2 => if w32 v_1 = 0 then (zsto s_2 168 25 1 (fun s_5 => some (0, 0, s_5))) else (if 0 ≤ w32 p3 then (if w64 p2 < w64 0 then (zsto s_2 168 25 2 (fun s_9 => some (0, 0, s_9))) else (if w64 p2 ≤ w64 (s_2 168 0) then (zsto s_2 168 25 0 (fun s_12 => zbn0 (fX7_findBook p1 p2 s_12) (fun v_14 s_15 => fX7_search_l62 zfu p3 (-1) 0 s_15))) else (zsto s_2 168 25 2 (fun s_27 => some (0, 0, s_27))))) else (zsto s_2 168 25 1 (fun s_29 => some (0, 0, s_29)))))
def fX7_got (p1 : Int) (s0 : zS) : zO :=
  zbn0 (fX7_isParty p1 s0) (fun v_1 s_2 => if w32 v_1 = 0 then (zsto s_2 168 25 1 (fun s_5 => some (0, 0, s_5))) else (zsto s_2 168 25 0 (fun s_7 => zchk (0 ≤ w32 p1 ∧ w32 p1 < 10) (some (0, (s_7 187 ((w32 p1).toNat)), s_7)))))
def fX7_liens_l21 : Nat → Int → Int → Int → zS → zO
  | 0, _, _, _, _ => none
  | n + 1, x1, x2, x3, s0 =>
    if w32 (s0 168 11) ≤ w32 x3 then (some (0, x2, s0)) else (if w32 (s0 168 25) = 0 then (zbn0 (fX7_isLien x3 x1 s0) (fun v_9 s_10 => if w32 v_9 = 0 then (fX7_liens_l21 n x1 (x2 + 0) (x3 + 1) s_10) else (fX7_liens_l21 n x1 (x2 + 1) (x3 + 1) s_10))) else (some (0, x2, s0)))
def fX7_liens (p1 : Int) (s0 : zS) : zO :=
  zbn0 (fX7_isShip p1 s0) (fun v_1 s_2 => if w32 v_1 = 0 then (zsto s_2 168 25 1 (fun s_5 => fX7_liens_l21 zfu p1 0 0 s_5)) else (zsto s_2 168 25 0 (fun s_13 => fX7_liens_l21 zfu p1 0 0 s_13)))
def fX6_sound (p1 : Int) (p2 : Int) (s0 : zS) : zO :=
  zbnd (fX6_needShip p1 s0) (fun v_1 s_2 => zbnd (fX6_needNotNegative p2 s_2) (fun v_4 s_5 => zchk (0 ≤ w32 p1 ∧ w32 p1 < 6) (if w32 (s_5 (36 + (w32 p1).toNat) 2) ≤ w32 p2 then (some (0, 32, s_5)) else (zchk (0 ≤ w32 p2 ∧ w32 p2 < 8) (zchk (0 ≤ (s_5 ((36 + (w32 p1).toNat) + 6) ((w32 p2).toNat)) ∧ (s_5 ((36 + (w32 p1).toNat) + 6) ((w32 p2).toNat)) < 65536) (some (0, (s_5 ((36 + (w32 p1).toNat) + 6) ((w32 p2).toNat)), s_5)))))))
