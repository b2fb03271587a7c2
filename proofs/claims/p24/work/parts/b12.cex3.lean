/-! ===== questions ===== -/
theorem yc_land {τ : zS} {n j : Nat} (hA : IA n τ) (hj : j < n) : fX6_land (j : Int) τ = some (0, τ (10 + j) 2, τ) := by
  have gA1 := hA.1
  unfold fX6_land
  rw [np_v (zr_nat (by omega)) hA.2.1 (by omega), if_pos ⟨by omega, by omega⟩, zbnd_0, w32_nat (n := j) (by omega), zchk_p (by omega), Int.toNat_natCast]
theorem yc_got {τ : zS} {n j : Nat} (hA : IA n τ) (hj : j < n) : fX6_got (j : Int) τ = some (0, τ (10 + j) 4, τ) := by
  have gA1 := hA.1
  unfold fX6_got
  rw [np_v (zr_nat (by omega)) hA.2.1 (by omega), if_pos ⟨by omega, by omega⟩, zbnd_0, w32_nat (n := j) (by omega), zchk_p (by omega), Int.toNat_natCast]
theorem yc_share {τ : zS} {n sn i j : Nat} (hA : IA n τ) (hS : IS n sn τ) (hi : i < sn) (hj : j < n) : fX6_share (i : Int) (j : Int) τ = some (0, τ (30 + i) j, τ) := by
  have gA1 := hA.1
  have gS1 := hS.1
  unfold fX6_share
  rw [ns_v (zr_nat (by omega)) hS.2.1 (by omega), if_pos ⟨by omega, by omega⟩, zbnd_0, np_v (zr_nat (by omega)) hA.2.1 (by omega), if_pos ⟨by omega, by omega⟩, zbnd_0, w32_nat (n := i) (by omega), w32_nat (n := j) (by omega), zchk_p (by omega), zchk_p (by omega), Int.toNat_natCast, Int.toNat_natCast, show 36 + i - 6 = 30 + i by omega]
theorem yc_flag {B : Int} {τ : zS} {n sn i : Nat} (hN : IN B τ) (hS : IS n sn τ) (hi : i < sn) : fX6_flag (i : Int) τ = some (0, zfl (τ (36 + i) 4) (τ (36 + i) 3) (τ 0 8), τ) := by
  obtain ⟨b1, b2, b3, hB2⟩ := id hN
  have gS1 := hS.1
  have fg := yfg hS hN hi
  unfold fX6_flag
  rw [ns_v (zr_nat (by omega)) hS.2.1 (by omega), if_pos ⟨by omega, by omega⟩, zbnd_0, w32_nat (n := i) (by omega), zchk_p (by omega), Int.toNat_natCast, fa_v (by omega) rfl rfl ⟨fg.2.2.1, by omega⟩ ⟨by omega, by omega⟩, zbn0_0]
theorem yc_liens {B : Int} {τ : zS} {n sn pn mn i : Nat} (hN : IN B τ) (hS : IS n sn τ) (hP : IP n sn pn mn τ) (hi : i < sn) : fX6_liens (i : Int) τ = some (0, zsum (zli τ (i : Int)) pn, τ) := by
  obtain ⟨b1, b2, b3, hB2⟩ := id hN
  have gS1 := hS.1
  have gP1 := hP.1
  obtain ⟨R, g1, g2, g3⟩ := fo_v (sh := (i : Int)) hP gS1 (zr_nat (by omega))
  have b := lnC_l (sh := (i : Int)) hP gS1 ⟨b1, by omega⟩ b3 (zr_nat (by omega)) g3 zfu R g2 (by unfold zfu; omega) (Nat.le_refl _)
  rw [zli_R g2 g3] at b
  unfold fX6_liens
  rw [ns_v (zr_nat (by omega)) hS.2.1 (by omega), if_pos ⟨by omega, by omega⟩, zbnd_0, g1, zbn0_0]
  exact b
theorem yc_rank {B : Int} {τ : zS} {n sn pn mn m : Nat} (hN : IN B τ) (hS : IS n sn τ) (hP : IP n sn pn mn τ) (hm : m < mn) :
    ∃ s', fX6_rank (m : Int) τ = some (0, if zrp τ (τ (108 + m) 0) (τ 0 8) pn m = 1 then zsum (fun x => if zrp τ (τ (108 + m) 0) (τ 0 8) pn x = 1 ∧ τ 185 x < τ 185 m then 1 else 0) mn else -1, s') ∧ ∀ k, k ≠ 8 → s' k = τ k := by
  obtain ⟨b1, b2, b3, hB2⟩ := id hN
  have gS1 := hS.1
  have gP1 := hP.1
  have gP2 := hP.2.1
  have gP5 := hP.2.2.2.2.1
  obtain ⟨row, pl, r1, r2, r3, r4, r5, r6, r7, r8, r9, r10, -⟩ := yMo hP hm
  obtain ⟨a1, a2, a3, a4, -⟩ := hP.2.2.2.2.2.2.1 row r1
  obtain ⟨s', g1, g2⟩ := rk_v (T := τ 0 8) hP gS1 (by omega) ⟨by omega, by omega⟩ (m := m) hm
  rw [r5, Int.toNat_natCast, show τ 177 row = τ (108 + m) 0 by rw [r9, a4]] at g1
  refine ⟨s', ?_, g2⟩
  unfold fX6_rank
  rw [nm_v (zr_nat (by omega)) gP5 (by omega), if_pos ⟨by omega, by omega⟩, zbnd_0, g1, zbn0_0]
/-- how many mortgages stand at places below P, as of a minute -/
def yct (τ : zS) (sh T : Int) (pn P : Nat) : Int := zsum (fun p => if zsd τ sh T pn p = -1 then 0 else 1) P
theorem yc_search {B : Int} {τ : zS} {n sn pn mn i : Nat} {t r : Int} (hN : IN B τ) (hS : IS n sn τ) (hP : IP n sn pn mn τ) (hi : i < sn) (ht : 0 ≤ t ∧ t ≤ τ 0 8) (hr : 0 ≤ r ∧ r ≤ 1000) :
    ∃ v s', fX6_search (i : Int) t r τ = some (0, v, s') ∧ (∀ k, k ≠ 8 → s' k = τ k) ∧ ((v = -1 ∧ ∀ P, P < pn → ¬ (zsd τ (i : Int) t pn P ≠ -1 ∧ yct τ (i : Int) t pn P = r)) ∨ ∃ P, P < pn ∧ zsd τ (i : Int) t pn P = v ∧ v ≠ -1 ∧ yct τ (i : Int) t pn P = r) := by
  obtain ⟨b1, b2, b3, hB2⟩ := id hN
  have gS1 := hS.1
  obtain ⟨s2, g1, g2, g3⟩ := ru_v (sh := (i : Int)) (T := t) hP gS1 (by omega) (zr_nat (by omega)) ⟨by omega, by omega⟩
  obtain ⟨v, w1, w2⟩ := mk_l (s := s2) (sh := (i : Int)) (t := t) (r := r) hP ⟨by omega, by omega⟩ (by rw [g3 3 (by decide)]; exact hP.2.2.1) g2 zfu 0 (by omega) (by unfold zfu; have := hP.1; omega)
  have z0 : zsum (fun p' => if zsd τ (i : Int) t pn p' = -1 then (0 : Int) else 1) 0 = 0 := rfl
  have z1 : ((0 : Nat) : Int) = 0 := rfl
  rw [z0, z1] at w1
  refine ⟨v, s2, ?_, g3, ?_⟩
  · unfold fX6_search
    rw [ns_v (zr_nat (by omega)) hS.2.1 (by omega), if_pos ⟨by omega, by omega⟩, zbnd_0, nn_v ⟨by omega, by omega⟩, if_pos hr.1, zbnd_0, w64_id (x := t) (by omega) (by omega), w64_0, if_neg (by omega), w64_id (x := τ 0 8) (by omega) (by omega), if_pos ht.2]
    unfold fX0_mortgageOfRank
    rw [g1, zbn0_0, w1, zbn0_0]
  · rcases w2 with ⟨q1, q2⟩ | q
    · exact Or.inl ⟨q1, fun P hP => q2 P (Nat.zero_le _) hP⟩
    · exact Or.inr q
/-- questions leave what counts -/
theorem yW_8 {τ σ1 : zS} {B : Int} (h : Iv B τ) (e : ∀ k, k ≠ 8 → σ1 k = τ k) : Iv B σ1 := Iv_free (fun k m hk => by rw [e k (by unfold Rfree at hk; omega)]) h
