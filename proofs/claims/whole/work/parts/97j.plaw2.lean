/-! ===== the law's cases ===== -/
theorem Lc0 {B : Int} {xs : Nat → Int32} {L : Nat} {i : Int} {kf : zS → zO} {s0 : zS} (h : Iv B s0) (h1 : 0 ≤ w32 (i + 1) ∧ w32 (i + 1) < (L : Int)) : ∃ s5, fLc0 xs L i kf s0 = kf s5 ∧ Iv B s5 := by
  obtain ⟨k, s3, b, s5, e1, e2, e3, e4, e5, e6, e7⟩ := lw_evI (fun (tt : Nat) (s_2 : zS) => (if tt = 2 then (some (0, 1, s_2)) else (if tt = 3 then (some (0, 2, s_2)) else (none)) : zO)) zH_cd23 zR_cd23 rfl (op_letter h (p := ((xs (w32 (i + 1)).toNat).toInt) % 65536) ⟨by omega, by omega⟩)
  refine ⟨s5, ?_, e7⟩
  unfold fLc0 fL_letter
  rw [zchk_p h1, e1, zbn0_0, zchk_p h1, e2, zbn0_0, e3, zbn0_0]
  exact lw_tlI e4 e5 e6
theorem Lc1 {B : Int} {xs : Nat → Int32} {L : Nat} {i : Int} {kf : zS → zO} {s0 : zS} (h : Iv B s0) (h1 : 0 ≤ w32 (i + 1) ∧ w32 (i + 1) < (L : Int)) : ∃ s5, fLc1 xs L i kf s0 = kf s5 ∧ Iv B s5 := by
  obtain ⟨k, s3, b, s5, e1, e2, e3, e4, e5, e6, e7⟩ := lw_evI (fun (tt : Nat) (s_2 : zS) => (if tt = 1 then (some (0, 1, s_2)) else (if tt = 3 then (some (0, 2, s_2)) else (none)) : zO)) zH_cd13 zR_cd13 rfl (op_person h (zr_x (xs (w32 (i + 1)).toNat)))
  refine ⟨s5, ?_, e7⟩
  unfold fLc1 fL_person
  rw [zchk_p h1, e1, zbn0_0, zchk_p h1, e2, zbn0_0, e3, zbn0_0]
  exact lw_tlI e4 e5 e6
theorem Lc2 {B : Int} {xs : Nat → Int32} {L : Nat} {i : Int} {kf : zS → zO} {s0 : zS} (h : Iv B s0) : ∃ s5, fLc2 xs L i kf s0 = kf s5 ∧ Iv B s5 := by
  obtain ⟨k, s3, b, s5, e1, e2, e3, e4, e5, e6, e7⟩ := lw_evI (fun (tt : Nat) (s_2 : zS) => (if tt = 3 then (some (0, 1, s_2)) else (none) : zO)) zH_cd3 zR_cd3 rfl (op_company h)
  refine ⟨s5, ?_, e7⟩
  unfold fLc2 fL_company
  rw [e1, zbn0_0, e2, zbn0_0, e3, zbn0_0]
  exact lw_tlI e4 e5 e6
theorem Lc3 {B : Int} {xs : Nat → Int32} {L : Nat} {i : Int} {kf : zS → zO} {s0 : zS} (h : Iv B s0) (h1 : 0 ≤ w32 (i + 1) ∧ w32 (i + 1) < (L : Int)) (h2 : 0 ≤ w32 (i + 2) ∧ w32 (i + 2) < (L : Int)) (h3 : 0 ≤ w32 (i + 3) ∧ w32 (i + 3) < (L : Int)) : ∃ s5, fLc3 xs L i kf s0 = kf s5 ∧ Iv B s5 := by
  obtain ⟨k, s3, b, s5, e1, e2, e3, e4, e5, e6, e7⟩ := lw_evI (fun (tt : Nat) (s_2 : zS) => (if tt = 1 then (some (0, 1, s_2)) else (if tt = 2 then (some (0, 2, s_2)) else (if tt = 3 then (some (0, 3, s_2)) else (none))) : zO)) zH_cd123 zR_cd123 rfl (op_part h (zr_x (xs (w32 (i + 1)).toNat)) (zr_x (xs (w32 (i + 2)).toNat)) (zr_x (xs (w32 (i + 3)).toNat)))
  refine ⟨s5, ?_, e7⟩
  unfold fLc3 fL_part
  rw [zchk_p h1, zchk_p h2, zchk_p h3, e1, zbn0_0, zchk_p h1, zchk_p h2, zchk_p h3, e2, zbn0_0, e3, zbn0_0]
  exact lw_tlI e4 e5 e6
theorem Lc4 {B : Int} {xs : Nat → Int32} {L : Nat} {i : Int} {kf : zS → zO} {s0 : zS} (h : Iv B s0) (h1 : 0 ≤ w32 (i + 1) ∧ w32 (i + 1) < (L : Int)) : ∃ s5, fLc4 xs L i kf s0 = kf s5 ∧ Iv B s5 := by
  obtain ⟨k, s3, b, s5, e1, e2, e3, e4, e5, e6, e7⟩ := lw_evI (fun (tt : Nat) (s_2 : zS) => (if tt = 1 then (some (0, 1, s_2)) else (none) : zO)) zH_cd1 zR_cd1 rfl (op_land h (zr_x (xs (w32 (i + 1)).toNat)))
  refine ⟨s5, ?_, e7⟩
  unfold fLc4 fL_land
  rw [zchk_p h1, e1, zbn0_0, zchk_p h1, e2, zbn0_0, e3, zbn0_0]
  exact lw_tlI e4 e5 e6
theorem Lc5 {B : Int} {xs : Nat → Int32} {L : Nat} {i : Int} {kf : zS → zO} {s0 : zS} (h : Iv B s0) (h1 : 0 ≤ w32 (i + 1) ∧ w32 (i + 1) < (L : Int)) : ∃ s5, fLc5 xs L i kf s0 = kf s5 ∧ Iv B s5 := by
  obtain ⟨k, s3, b, s5, e1, e2, e3, e4, e5, e6, e7⟩ := lw_evI (fun (tt : Nat) (s_2 : zS) => (if tt = 1 then (some (0, 1, s_2)) else (if tt = 3 then (some (0, 2, s_2)) else (none)) : zO)) zH_cd13 zR_cd13 rfl (op_ship h (zr_x (xs (w32 (i + 1)).toNat)))
  refine ⟨s5, ?_, e7⟩
  unfold fLc5 fL_ship
  rw [zchk_p h1, e1, zbn0_0, zchk_p h1, e2, zbn0_0, e3, zbn0_0]
  exact lw_tlI e4 e5 e6
theorem Lc6 {B : Int} {xs : Nat → Int32} {L : Nat} {i : Int} {kf : zS → zO} {s0 : zS} (h : Iv B s0) (h1 : 0 ≤ w32 (i + 1) ∧ w32 (i + 1) < (L : Int)) (h2 : 0 ≤ w32 (i + 2) ∧ w32 (i + 2) < (L : Int)) (h3 : 0 ≤ w32 (i + 3) ∧ w32 (i + 3) < (L : Int)) (h4 : 0 ≤ w32 (i + 4) ∧ w32 (i + 4) < (L : Int)) : ∃ s5, fLc6 xs L i kf s0 = kf s5 ∧ Iv B s5 := by
  obtain ⟨k, s3, b, s5, e1, e2, e3, e4, e5, e6, e7⟩ := lw_evI (fun (tt : Nat) (s_2 : zS) => (if tt = 1 then (some (0, 1, s_2)) else (if tt = 2 then (some (0, 2, s_2)) else (if tt = 3 then (some (0, 3, s_2)) else (none))) : zO)) zH_cd123 zR_cd123 rfl (op_sell h (zr_x (xs (w32 (i + 1)).toNat)) (zr_x (xs (w32 (i + 2)).toNat)) (zr_x (xs (w32 (i + 3)).toNat)) (zr_x (xs (w32 (i + 4)).toNat)))
  refine ⟨s5, ?_, e7⟩
  unfold fLc6 fL_sell
  rw [zchk_p h1, zchk_p h2, zchk_p h3, zchk_p h4, e1, zbn0_0, zchk_p h1, zchk_p h2, zchk_p h3, zchk_p h4, e2, zbn0_0, e3, zbn0_0]
  exact lw_tlI e4 e5 e6
theorem Lc7 {B : Int} {xs : Nat → Int32} {L : Nat} {i : Int} {kf : zS → zO} {s0 : zS} (h : Iv B s0) (h1 : 0 ≤ w32 (i + 1) ∧ w32 (i + 1) < (L : Int)) (h2 : 0 ≤ w32 (i + 2) ∧ w32 (i + 2) < (L : Int)) : ∃ s5, fLc7 xs L i kf s0 = kf s5 ∧ Iv B s5 := by
  obtain ⟨k, s3, b, s5, e1, e2, e3, e4, e5, e6, e7⟩ := lw_evI (fun (tt : Nat) (s_2 : zS) => (if tt = 1 then (some (0, 1, s_2)) else (if tt = 3 then (some (0, 2, s_2)) else (none)) : zO)) zH_cd13 zR_cd13 rfl (op_fly h (zr_x (xs (w32 (i + 1)).toNat)) (zr_x (xs (w32 (i + 2)).toNat)))
  refine ⟨s5, ?_, e7⟩
  unfold fLc7 fL_fly
  rw [zchk_p h1, zchk_p h2, e1, zbn0_0, zchk_p h1, zchk_p h2, e2, zbn0_0, e3, zbn0_0]
  exact lw_tlI e4 e5 e6
theorem Lc8 {B : Int} {xs : Nat → Int32} {L : Nat} {i : Int} {kf : zS → zO} {s0 : zS} (h : Iv B s0) (h1 : 0 ≤ w32 (i + 1) ∧ w32 (i + 1) < (L : Int)) (h2 : 0 ≤ w32 (i + 2) ∧ w32 (i + 2) < (L : Int)) : ∃ s5, fLc8 xs L i kf s0 = kf s5 ∧ Iv B s5 := by
  obtain ⟨k, s3, b, s5, e1, e2, e3, e4, e5, e6, e7⟩ := lw_evI (fun (tt : Nat) (s_2 : zS) => (if tt = 1 then (some (0, 1, s_2)) else (if tt = 3 then (some (0, 2, s_2)) else (none)) : zO)) zH_cd13 zR_cd13 rfl (op_notice h (zr_x (xs (w32 (i + 1)).toNat)) (zr_x (xs (w32 (i + 2)).toNat)))
  refine ⟨s5, ?_, e7⟩
  unfold fLc8 fL_notice
  rw [zchk_p h1, zchk_p h2, e1, zbn0_0, zchk_p h1, zchk_p h2, e2, zbn0_0, e3, zbn0_0]
  exact lw_tlI e4 e5 e6
theorem Lc9 {B : Int} {xs : Nat → Int32} {L : Nat} {i : Int} {kf : zS → zO} {s0 : zS} (h : Iv B s0) (h1 : 0 ≤ w32 (i + 1) ∧ w32 (i + 1) < (L : Int)) (h2 : 0 ≤ w32 (i + 2) ∧ w32 (i + 2) < (L : Int)) (h3 : 0 ≤ w32 (i + 3) ∧ w32 (i + 3) < (L : Int)) : ∃ s5, fLc9 xs L i kf s0 = kf s5 ∧ Iv B s5 := by
  obtain ⟨k, s3, b, s5, e1, e2, e3, e4, e5, e6, e7⟩ := lw_evI (fun (tt : Nat) (s_2 : zS) => (if tt = 1 then (some (0, 1, s_2)) else (if tt = 2 then (some (0, 2, s_2)) else (if tt = 3 then (some (0, 3, s_2)) else (none))) : zO)) zH_cd123 zR_cd123 rfl (op_mortgage h (zr_x (xs (w32 (i + 1)).toNat)) (zr_x (xs (w32 (i + 2)).toNat)) (zr_x (xs (w32 (i + 3)).toNat)))
  refine ⟨s5, ?_, e7⟩
  unfold fLc9 fL_mortgage
  rw [zchk_p h1, zchk_p h2, zchk_p h3, e1, zbn0_0, zchk_p h1, zchk_p h2, zchk_p h3, e2, zbn0_0, e3, zbn0_0]
  exact lw_tlI e4 e5 e6
theorem Lc10 {B : Int} {xs : Nat → Int32} {L : Nat} {i : Int} {kf : zS → zO} {s0 : zS} (h : Iv B s0) (h1 : 0 ≤ w32 (i + 1) ∧ w32 (i + 1) < (L : Int)) (h2 : 0 ≤ w32 (i + 2) ∧ w32 (i + 2) < (L : Int)) : ∃ s5, fLc10 xs L i kf s0 = kf s5 ∧ Iv B s5 := by
  by_cases c : w32 ((xs (w32 (i + 2)).toNat).toInt) = 0
  · obtain ⟨k, s3, b, s5, e1, e2, e3, e4, e5, e7⟩ := lw_evD (fun (tt : Nat) (s_2 : zS) => (if tt = 1 then (some (0, 1, s_2)) else (if tt = 3 then (some (0, 2, s_2)) else (none)) : zO)) zH_cd13 zR_cd13 rfl (op_discharge h (v := 0) (zr_x (xs (w32 (i + 1)).toNat)) (Or.inl rfl))
    refine ⟨s5, ?_, e7⟩
    unfold fLc10 fL_discharge
    rw [zchk_p h1, zchk_p h2, if_pos c, e1, zbn0_0, zchk_p h1, zchk_p h2, if_pos c, e2, zbn0_0, e3, zbn0_0, if_pos rfl]
  · obtain ⟨k, s3, b, s5, e1, e2, e3, e4, e5, e7⟩ := lw_evD (fun (tt : Nat) (s_2 : zS) => (if tt = 1 then (some (0, 1, s_2)) else (if tt = 3 then (some (0, 2, s_2)) else (none)) : zO)) zH_cd13 zR_cd13 rfl (op_discharge h (v := 1) (zr_x (xs (w32 (i + 1)).toNat)) (Or.inr rfl))
    refine ⟨s5, ?_, e7⟩
    unfold fLc10 fL_discharge
    rw [zchk_p h1, zchk_p h2, if_neg c, e1, zbn0_0, zchk_p h1, zchk_p h2, if_neg c, e2, zbn0_0, e3, zbn0_0, if_pos rfl]
theorem Lc11 {B : Int} {xs : Nat → Int32} {L : Nat} {i : Int} {kf : zS → zO} {s0 : zS} (h : Iv B s0) (h1 : 0 ≤ w32 (i + 1) ∧ w32 (i + 1) < (L : Int)) (h2 : 0 ≤ w32 (i + 2) ∧ w32 (i + 2) < (L : Int)) (h3 : 0 ≤ w32 (i + 3) ∧ w32 (i + 3) < (L : Int)) (h4 : 0 ≤ w32 (i + 4) ∧ w32 (i + 4) < (L : Int)) : ∃ s5, fLc11 xs L i kf s0 = kf s5 ∧ Iv B s5 := by
  obtain ⟨k, s3, b, s5, e1, e2, e3, e4, e5, e6, e7⟩ := lw_evI (fun (tt : Nat) (s_2 : zS) => (if tt = 1 then (some (0, 1, s_2)) else (if tt = 2 then (some (0, 2, s_2)) else (if tt = 3 then (some (0, 3, s_2)) else (none))) : zO)) zH_cd123 zR_cd123 rfl (op_lien h (zr_x (xs (w32 (i + 1)).toNat)) (zr_x (xs (w32 (i + 2)).toNat)) (zr_x (xs (w32 (i + 3)).toNat)) (zr_x (xs (w32 (i + 4)).toNat)))
  refine ⟨s5, ?_, e7⟩
  unfold fLc11 fL_lien
  rw [zchk_p h1, zchk_p h2, zchk_p h3, zchk_p h4, e1, zbn0_0, zchk_p h1, zchk_p h2, zchk_p h3, zchk_p h4, e2, zbn0_0, e3, zbn0_0]
  exact lw_tlI e4 e5 e6
theorem Lc12 {B : Int} {xs : Nat → Int32} {L : Nat} {i : Int} {kf : zS → zO} {s0 : zS} (h : Iv B s0) (h1 : 0 ≤ w32 (i + 1) ∧ w32 (i + 1) < (L : Int)) (h2 : 0 ≤ w32 (i + 2) ∧ w32 (i + 2) < (L : Int)) (h3 : 0 ≤ w32 (i + 3) ∧ w32 (i + 3) < (L : Int)) : ∃ s5, fLc12 xs L i kf s0 = kf s5 ∧ Iv B s5 := by
  obtain ⟨k, s3, b, s5, e1, e2, e3, e4, e5, e6, e7⟩ := lw_evJ (fun (tt : Nat) (s_2 : zS) => (if tt = 1 then (some (0, 1, s_2)) else (if tt = 2 then (some (0, 2, s_2)) else (if tt = 3 then (some (0, 3, s_2)) else (none))) : zO)) zH_cd123 zR_cd123 rfl (op_court h (zr_x (xs (w32 (i + 1)).toNat)) (zr_x (xs (w32 (i + 2)).toNat)) (zr_x (xs (w32 (i + 3)).toNat)))
  refine ⟨s5, ?_, e7⟩
  unfold fLc12 fL_court
  rw [zchk_p h1, zchk_p h2, zchk_p h3, e1, zbn0_0, zchk_p h1, zchk_p h2, zchk_p h3, e2, zbn0_0, e3, zbn0_0]
  exact lw_tlJ e4 e5 e6
theorem Lc13 {B : Int} {xs : Nat → Int32} {L : Nat} {i : Int} {kf : zS → zO} {s0 : zS} (h : Iv B s0) (hB : B + 1000000 ≤ 1000000000) (h1 : 0 ≤ w32 (i + 1) ∧ w32 (i + 1) < (L : Int)) : ∃ s5, fLc13 xs L i kf s0 = kf s5 ∧ Iv (B + 1000000) s5 := by
  obtain ⟨k, s3, b, s5, e1, e2, e3, e4, e5, e6, e7⟩ := lw_evJ (fun (tt : Nat) (s_2 : zS) => (if tt = 2 then (some (0, 1, s_2)) else (none) : zO)) zH_cd2 zR_cd2 rfl (op_pass h hB (zr_x (xs (w32 (i + 1)).toNat)))
  refine ⟨s5, ?_, e7⟩
  unfold fLc13 fL_pass
  rw [zchk_p h1, e1, zbn0_0, zchk_p h1, e2, zbn0_0, e3, zbn0_0]
  exact lw_tlJ e4 e5 e6
theorem Lc14 {B : Int} {xs : Nat → Int32} {L : Nat} {i : Int} {kf : zS → zO} {s0 : zS} (h : Iv B s0) (h1 : 0 ≤ w32 (i + 1) ∧ w32 (i + 1) < (L : Int)) (h2 : 0 ≤ w32 (i + 2) ∧ w32 (i + 2) < (L : Int)) : ∃ s5, fLc14 xs L i kf s0 = kf s5 ∧ Iv B s5 := by
  obtain ⟨k, s3, b, s5, e1, e2, e3, e4, e5, e6, e7⟩ := lw_evI (fun (tt : Nat) (s_2 : zS) => (if tt = 1 then (some (0, 1, s_2)) else (none) : zO)) zH_cd1 zR_cd1 rfl (op_share h (zr_x (xs (w32 (i + 1)).toNat)) (zr_x (xs (w32 (i + 2)).toNat)))
  refine ⟨s5, ?_, e7⟩
  unfold fLc14 fL_share
  rw [zchk_p h1, zchk_p h2, e1, zbn0_0, zchk_p h1, zchk_p h2, e2, zbn0_0, e3, zbn0_0]
  exact lw_tlI e4 e5 e6
theorem Lc15 {B : Int} {xs : Nat → Int32} {L : Nat} {i : Int} {kf : zS → zO} {s0 : zS} (h : Iv B s0) (h1 : 0 ≤ w32 (i + 1) ∧ w32 (i + 1) < (L : Int)) (h2 : 0 ≤ w32 (i + 2) ∧ w32 (i + 2) < (L : Int)) : ∃ s5, fLc15 xs L i kf s0 = kf s5 ∧ Iv B s5 := by
  obtain ⟨k, s3, b, s5, e1, e2, e3, e4, e5, e6, e7⟩ := lw_evI (fun (tt : Nat) (s_2 : zS) => (if tt = 1 then (some (0, 1, s_2)) else (none) : zO)) zH_cd1 zR_cd1 rfl (op_sound h (zr_x (xs (w32 (i + 1)).toNat)) (zr_x (xs (w32 (i + 2)).toNat)))
  refine ⟨s5, ?_, e7⟩
  unfold fLc15 fL_sound
  rw [zchk_p h1, zchk_p h2, e1, zbn0_0, zchk_p h1, zchk_p h2, e2, zbn0_0, e3, zbn0_0]
  exact lw_tlI e4 e5 e6
theorem Lc16 {B : Int} {xs : Nat → Int32} {L : Nat} {i : Int} {kf : zS → zO} {s0 : zS} (h : Iv B s0) (h1 : 0 ≤ w32 (i + 1) ∧ w32 (i + 1) < (L : Int)) : ∃ s5, fLc16 xs L i kf s0 = kf s5 ∧ Iv B s5 := by
  obtain ⟨k, s3, b, s5, e1, e2, e3, e4, e5, e6, e7⟩ := lw_evI (fun (tt : Nat) (s_2 : zS) => (if tt = 1 then (some (0, 1, s_2)) else (none) : zO)) zH_cd1 zR_cd1 rfl (op_flag h (zr_x (xs (w32 (i + 1)).toNat)))
  refine ⟨s5, ?_, e7⟩
  unfold fLc16 fL_flag
  rw [zchk_p h1, e1, zbn0_0, zchk_p h1, e2, zbn0_0, e3, zbn0_0]
  exact lw_tlI e4 e5 e6
theorem Lc17 {B : Int} {xs : Nat → Int32} {L : Nat} {i : Int} {kf : zS → zO} {s0 : zS} (h : Iv B s0) (h1 : 0 ≤ w32 (i + 1) ∧ w32 (i + 1) < (L : Int)) : ∃ s5, fLc17 xs L i kf s0 = kf s5 ∧ Iv B s5 := by
  obtain ⟨k, s3, b, s5, e1, e2, e3, e4, e5, e6, e7⟩ := lw_evI (fun (tt : Nat) (s_2 : zS) => (if tt = 1 then (some (0, 1, s_2)) else (none) : zO)) zH_cd1 zR_cd1 rfl (op_rank h (zr_x (xs (w32 (i + 1)).toNat)))
  refine ⟨s5, ?_, e7⟩
  unfold fLc17 fL_rank
  rw [zchk_p h1, e1, zbn0_0, zchk_p h1, e2, zbn0_0, e3, zbn0_0]
  exact lw_tlI e4 e5 e6
theorem Lc18 {B : Int} {xs : Nat → Int32} {L : Nat} {i : Int} {kf : zS → zO} {s0 : zS} (h : Iv B s0) (h1 : 0 ≤ w32 (i + 1) ∧ w32 (i + 1) < (L : Int)) (h2 : 0 ≤ w32 (i + 2) ∧ w32 (i + 2) < (L : Int)) (h3 : 0 ≤ w32 (i + 3) ∧ w32 (i + 3) < (L : Int)) (h4 : 0 ≤ w32 (i + 4) ∧ w32 (i + 4) < (L : Int)) : ∃ s5, fLc18 xs L i kf s0 = kf s5 ∧ Iv B s5 := by
  obtain ⟨k, s3, b, s5, e1, e2, e3, e4, e5, e6, e7⟩ := lw_evI (fun (tt : Nat) (s_2 : zS) => (if tt = 1 then (some (0, 1, s_2)) else (if tt = 2 then (some (0, 2, s_2)) else (none)) : zO)) zH_cd12 zR_cd12 rfl (op_search h (t := (((zJ (((zJ (w32 ((xs (w32 (i + 2)).toNat).toInt)) <<< ((zI 32).toInt64 &&& 63)).toInt)) ||| zJ ((zJ (w32 ((xs (w32 (i + 3)).toNat).toInt)) &&& zJ 4294967295).toInt)).toInt))) (zr_x (xs (w32 (i + 1)).toNat)) (zj_x _) (zr_x (xs (w32 (i + 4)).toNat)))
  refine ⟨s5, ?_, e7⟩
  unfold fLc18 fL_search
  rw [zchk_p h1, zchk_p h2, zchk_p h3, zchk_p h4, e1, zbn0_0, zchk_p h1, zchk_p h2, zchk_p h3, zchk_p h4, e2, zbn0_0, e3, zbn0_0]
  exact lw_tlI e4 e5 e6
theorem Lc19 {B : Int} {xs : Nat → Int32} {L : Nat} {i : Int} {kf : zS → zO} {s0 : zS} (h : Iv B s0) (h1 : 0 ≤ w32 (i + 1) ∧ w32 (i + 1) < (L : Int)) : ∃ s5, fLc19 xs L i kf s0 = kf s5 ∧ Iv B s5 := by
  obtain ⟨k, s3, b, s5, e1, e2, e3, e4, e5, e6, e7⟩ := lw_evJ (fun (tt : Nat) (s_2 : zS) => (if tt = 1 then (some (0, 1, s_2)) else (none) : zO)) zH_cd1 zR_cd1 rfl (op_got h (zr_x (xs (w32 (i + 1)).toNat)))
  refine ⟨s5, ?_, e7⟩
  unfold fLc19 fL_got
  rw [zchk_p h1, e1, zbn0_0, zchk_p h1, e2, zbn0_0, e3, zbn0_0]
  exact lw_tlJ e4 e5 e6
theorem Lc20 {B : Int} {xs : Nat → Int32} {L : Nat} {i : Int} {kf : zS → zO} {s0 : zS} (h : Iv B s0) (h1 : 0 ≤ w32 (i + 1) ∧ w32 (i + 1) < (L : Int)) : ∃ s5, fLc20 xs L i kf s0 = kf s5 ∧ Iv B s5 := by
  obtain ⟨k, s3, b, s5, e1, e2, e3, e4, e5, e6, e7⟩ := lw_evI (fun (tt : Nat) (s_2 : zS) => (if tt = 1 then (some (0, 1, s_2)) else (none) : zO)) zH_cd1 zR_cd1 rfl (op_liens h (zr_x (xs (w32 (i + 1)).toNat)))
  refine ⟨s5, ?_, e7⟩
  unfold fLc20 fL_liens
  rw [zchk_p h1, e1, zbn0_0, zchk_p h1, e2, zbn0_0, e3, zbn0_0]
  exact lw_tlI e4 e5 e6
