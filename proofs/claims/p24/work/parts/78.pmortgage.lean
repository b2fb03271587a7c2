theorem mm_v {s sn2 s3 : zS} {mn pn pl : Nat} {p q u : Int} (h1 : fX7_isShip p s = some (0, 1, s)) (h2 : fX7_isParty q s = some (0, 1, s)) (h3 : fX7_in u 1 1000000000 s = some (0, 1, s)) (nf : fX7_noticeFor p q (zsu s 168 25 0) = some (0, if pl < pn then (pl : Int) else -1, zsu s 168 25 0)) (e20 : s 168 20 = mn) (e11 : s 168 11 = pn) (hpn : pn < 60) (hmn : mn ≤ pn) (hpl : pl ≤ pn)
    (hsn2 : sn2 = if pl < pn then zsu (zsu (zsu (zsu s 168 25 0) 184 mn (pn : Int)) 185 mn (pl : Int)) 182 pl 1 else zsu (zsu (zsu s 168 25 0) 184 mn (pn : Int)) 185 mn (pl : Int)) (f1 : fX7_enter 1 p q u (mn : Int) sn2 = some (0, (pn : Int) + 1, s3)) (f20 : s3 168 20 = mn) : fX7_mortgage p q u s = some (0, (mn : Int), zsu s3 168 20 ((mn : Int) + 1)) := by
  unfold fX7_mortgage
  rw [h1, zbn0_0, w32_1, if_neg (by decide), h2, zbn0_0, w32_1, if_neg (by decide), h3, zbn0_0, w32_1, if_neg (by decide), e11, w32_nat (n := pn) (by omega), w32_60, if_neg (by omega)]
  show zbn0 (fX7_noticeFor p q (zsu s 168 25 0)) _ = _
  have x20 : zsu s 168 25 0 168 20 = mn := by rw [zsu_o (by omega)]; exact e20
  have x11 : zsu s 168 25 0 168 11 = pn := by rw [zsu_o (by omega)]; exact e11
  rw [nf, zbn0_0, x20, x11, w32_nat (n := mn) (by omega), zchk_p (by omega), Int.toNat_natCast]
  unfold zsto
  dsimp only
  by_cases cp : pl < pn
  · rw [if_pos cp] at hsn2
    rw [if_pos cp, w32_nat (n := pl) (by omega), w32_m1, if_neg (by omega), zchk_p (by omega), if_neg (by omega), zchk_p (by omega), Int.toNat_natCast, ← hsn2, f1, zbn0_0, f20, show (mn : Int) + 1 - 1 = mn by omega]
  · have e : pl = pn := by omega
    rw [if_neg cp, e] at hsn2
    rw [if_neg cp, if_pos rfl, zchk_p (by omega), if_pos rfl, ← hsn2, f1, zbn0_0, f20, show (mn : Int) + 1 - 1 = mn by omega]
