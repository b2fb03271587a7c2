/-! ===== the law's calls ===== -/
theorem zH_cd23 : ∀ (t : Nat) (s : zS), t ≤ 3 → cd23 t ≠ 0 → (fun (tt : Nat) (s_2 : zS) => (if tt = 2 then (some (0, 1, s_2)) else (if tt = 3 then (some (0, 2, s_2)) else (none)) : zO)) t s = some (0, cd23 t, s) := by
  intro t s h1 h2
  have h3 : t = 0 ∨ t = 1 ∨ t = 2 ∨ t = 3 := by omega
  rcases h3 with rfl | rfl | rfl | rfl
  · exact absurd rfl h2
  · exact absurd rfl h2
  · rfl
  · rfl
theorem zR_cd23 : ∀ t : Nat, 0 ≤ cd23 t ∧ cd23 t ≤ 3 := by
  intro t
  unfold cd23
  repeat (first | omega | split)
theorem zH_cd13 : ∀ (t : Nat) (s : zS), t ≤ 3 → cd13 t ≠ 0 → (fun (tt : Nat) (s_2 : zS) => (if tt = 1 then (some (0, 1, s_2)) else (if tt = 3 then (some (0, 2, s_2)) else (none)) : zO)) t s = some (0, cd13 t, s) := by
  intro t s h1 h2
  have h3 : t = 0 ∨ t = 1 ∨ t = 2 ∨ t = 3 := by omega
  rcases h3 with rfl | rfl | rfl | rfl
  · exact absurd rfl h2
  · rfl
  · exact absurd rfl h2
  · rfl
theorem zR_cd13 : ∀ t : Nat, 0 ≤ cd13 t ∧ cd13 t ≤ 3 := by
  intro t
  unfold cd13
  repeat (first | omega | split)
theorem zH_cd3 : ∀ (t : Nat) (s : zS), t ≤ 3 → cd3 t ≠ 0 → (fun (tt : Nat) (s_2 : zS) => (if tt = 3 then (some (0, 1, s_2)) else (none) : zO)) t s = some (0, cd3 t, s) := by
  intro t s h1 h2
  have h3 : t = 0 ∨ t = 1 ∨ t = 2 ∨ t = 3 := by omega
  rcases h3 with rfl | rfl | rfl | rfl
  · exact absurd rfl h2
  · exact absurd rfl h2
  · exact absurd rfl h2
  · rfl
theorem zR_cd3 : ∀ t : Nat, 0 ≤ cd3 t ∧ cd3 t ≤ 3 := by
  intro t
  unfold cd3
  repeat (first | omega | split)
theorem zH_cd123 : ∀ (t : Nat) (s : zS), t ≤ 3 → cd123 t ≠ 0 → (fun (tt : Nat) (s_2 : zS) => (if tt = 1 then (some (0, 1, s_2)) else (if tt = 2 then (some (0, 2, s_2)) else (if tt = 3 then (some (0, 3, s_2)) else (none))) : zO)) t s = some (0, cd123 t, s) := by
  intro t s h1 h2
  have h3 : t = 0 ∨ t = 1 ∨ t = 2 ∨ t = 3 := by omega
  rcases h3 with rfl | rfl | rfl | rfl
  · exact absurd rfl h2
  · rfl
  · rfl
  · rfl
theorem zR_cd123 : ∀ t : Nat, 0 ≤ cd123 t ∧ cd123 t ≤ 3 := by
  intro t
  unfold cd123
  repeat (first | omega | split)
theorem zH_cd1 : ∀ (t : Nat) (s : zS), t ≤ 3 → cd1 t ≠ 0 → (fun (tt : Nat) (s_2 : zS) => (if tt = 1 then (some (0, 1, s_2)) else (none) : zO)) t s = some (0, cd1 t, s) := by
  intro t s h1 h2
  have h3 : t = 0 ∨ t = 1 ∨ t = 2 ∨ t = 3 := by omega
  rcases h3 with rfl | rfl | rfl | rfl
  · exact absurd rfl h2
  · rfl
  · exact absurd rfl h2
  · exact absurd rfl h2
theorem zR_cd1 : ∀ t : Nat, 0 ≤ cd1 t ∧ cd1 t ≤ 3 := by
  intro t
  unfold cd1
  repeat (first | omega | split)
theorem zH_cd2 : ∀ (t : Nat) (s : zS), t ≤ 3 → cd2 t ≠ 0 → (fun (tt : Nat) (s_2 : zS) => (if tt = 2 then (some (0, 1, s_2)) else (none) : zO)) t s = some (0, cd2 t, s) := by
  intro t s h1 h2
  have h3 : t = 0 ∨ t = 1 ∨ t = 2 ∨ t = 3 := by omega
  rcases h3 with rfl | rfl | rfl | rfl
  · exact absurd rfl h2
  · exact absurd rfl h2
  · rfl
  · exact absurd rfl h2
theorem zR_cd2 : ∀ t : Nat, 0 ≤ cd2 t ∧ cd2 t ≤ 3 := by
  intro t
  unfold cd2
  repeat (first | omega | split)
theorem zH_cd12 : ∀ (t : Nat) (s : zS), t ≤ 3 → cd12 t ≠ 0 → (fun (tt : Nat) (s_2 : zS) => (if tt = 1 then (some (0, 1, s_2)) else (if tt = 2 then (some (0, 2, s_2)) else (none)) : zO)) t s = some (0, cd12 t, s) := by
  intro t s h1 h2
  have h3 : t = 0 ∨ t = 1 ∨ t = 2 ∨ t = 3 := by omega
  rcases h3 with rfl | rfl | rfl | rfl
  · exact absurd rfl h2
  · rfl
  · rfl
  · exact absurd rfl h2
theorem zR_cd12 : ∀ t : Nat, 0 ≤ cd12 t ∧ cd12 t ≤ 3 := by
  intro t
  unfold cd12
  repeat (first | omega | split)
theorem zsu_self {s : zS} {k j : Nat} : zsu s k j (s k j) = s := by
  funext k' j'
  by_cases c : k' = k ∧ j' = j
  · rw [zsu_y c, c.1, c.2]
  · rw [zsu_o c]
theorem lw_evI {B : Int} {cd : Nat → Int} {C : zO} {M : zS → zO} (H : Nat → zS → zO) (hH : ∀ (t : Nat) (s : zS), t ≤ 3 → cd t ≠ 0 → H t s = some (0, cd t, s)) (hR : ∀ t : Nat, 0 ≤ cd t ∧ cd t ≤ 3) (h0 : cd 0 = 0) (op : OpR B cd C M) :
    ∃ k s3 b s5, zbnH C (fun v_1 s_2 => zchk (0 ≤ w32 0 ∧ w32 0 < 1) (zsto s_2 9 ((w32 0).toNat) (w32 v_1) (fun s_5 => some (0, 0, s_5)))) H = some (0, k, s3) ∧ M s3 = some (0, b, s5) ∧ fX7_thrown s5 = some (0, k, s5) ∧ 0 ≤ k ∧ k ≤ 3 ∧ (k = 0 → s5 9 0 = (w32 b)) ∧ Iv B s5 := by
  obtain ⟨t, v, σ1, g1, ⟨g2, g3⟩, g4⟩ := op
  have r := hR t
  by_cases c : t = 0
  · subst c
    obtain ⟨b, σ2, m1, m2, m3, m4, m5⟩ := g4 ((w32 v))
    refine ⟨0, zsu σ1 9 0 (w32 v), b, σ2, ?_, m1, ?_, Int.le_refl _, by omega, fun _ => by rw [m4, m3 rfl], m5⟩
    · rw [g1, zbnH_0, w32_0, zchk_p (by omega), zsto_d]
      rfl
    · unfold fX7_thrown
      rw [m2, h0]
  · obtain ⟨b, σ2, m1, m2, m3, m4, m5⟩ := g4 (σ1 9 0)
    rw [zsu_self] at m1
    have q : cd t ≠ 0 := g3.resolve_left c
    refine ⟨cd t, σ1, b, σ2, ?_, m1, ?_, r.1, r.2, fun e => absurd e q, m5⟩
    · rw [g1, zbnH_t c, hH t σ1 g2 q]
    · unfold fX7_thrown
      rw [m2]
theorem lw_evJ {B : Int} {cd : Nat → Int} {C : zO} {M : zS → zO} (H : Nat → zS → zO) (hH : ∀ (t : Nat) (s : zS), t ≤ 3 → cd t ≠ 0 → H t s = some (0, cd t, s)) (hR : ∀ t : Nat, 0 ≤ cd t ∧ cd t ≤ 3) (h0 : cd 0 = 0) (op : OpR B cd C M) :
    ∃ k s3 b s5, zbnH C (fun v_1 s_2 => zchk (0 ≤ w32 0 ∧ w32 0 < 1) (zsto s_2 9 ((w32 0).toNat) v_1 (fun s_5 => some (0, 0, s_5)))) H = some (0, k, s3) ∧ M s3 = some (0, b, s5) ∧ fX7_thrown s5 = some (0, k, s5) ∧ 0 ≤ k ∧ k ≤ 3 ∧ (k = 0 → s5 9 0 = b) ∧ Iv B s5 := by
  obtain ⟨t, v, σ1, g1, ⟨g2, g3⟩, g4⟩ := op
  have r := hR t
  by_cases c : t = 0
  · subst c
    obtain ⟨b, σ2, m1, m2, m3, m4, m5⟩ := g4 (v)
    refine ⟨0, zsu σ1 9 0 v, b, σ2, ?_, m1, ?_, Int.le_refl _, by omega, fun _ => by rw [m4, m3 rfl], m5⟩
    · rw [g1, zbnH_0, w32_0, zchk_p (by omega), zsto_d]
      rfl
    · unfold fX7_thrown
      rw [m2, h0]
  · obtain ⟨b, σ2, m1, m2, m3, m4, m5⟩ := g4 (σ1 9 0)
    rw [zsu_self] at m1
    have q : cd t ≠ 0 := g3.resolve_left c
    refine ⟨cd t, σ1, b, σ2, ?_, m1, ?_, r.1, r.2, fun e => absurd e q, m5⟩
    · rw [g1, zbnH_t c, hH t σ1 g2 q]
    · unfold fX7_thrown
      rw [m2]
theorem lw_evD {B : Int} {cd : Nat → Int} {C : zO} {M : zS → zO} (H : Nat → zS → zO) (hH : ∀ (t : Nat) (s : zS), t ≤ 3 → cd t ≠ 0 → H t s = some (0, cd t, s)) (hR : ∀ t : Nat, 0 ≤ cd t ∧ cd t ≤ 3) (h0 : cd 0 = 0) (op : OpR B cd C M) :
    ∃ k s3 b s5, zbnH C (fun v_1 s_2 => some (0, 0, s_2)) H = some (0, k, s3) ∧ M s3 = some (0, b, s5) ∧ fX7_thrown s5 = some (0, k, s5) ∧ 0 ≤ k ∧ k ≤ 3 ∧ Iv B s5 := by
  obtain ⟨t, v, σ1, g1, ⟨g2, g3⟩, g4⟩ := op
  have r := hR t
  by_cases c : t = 0
  · subst c
    obtain ⟨b, σ2, m1, m2, m3, m4, m5⟩ := g4 (σ1 9 0)
    rw [zsu_self] at m1
    refine ⟨0, σ1, b, σ2, ?_, m1, ?_, Int.le_refl _, by omega, m5⟩
    · rw [g1, zbnH_0]
    · unfold fX7_thrown
      rw [m2, h0]
  · obtain ⟨b, σ2, m1, m2, m3, m4, m5⟩ := g4 (σ1 9 0)
    rw [zsu_self] at m1
    have q : cd t ≠ 0 := g3.resolve_left c
    refine ⟨cd t, σ1, b, σ2, ?_, m1, ?_, r.1, r.2, m5⟩
    · rw [g1, zbnH_t c, hH t σ1 g2 q]
    · unfold fX7_thrown
      rw [m2]
theorem lw_tlI {k b : Int} {s : zS} {kf : zS → zO} (h1 : 0 ≤ k) (h2 : k ≤ 3) (hk : k = 0 → s 9 0 = (w32 b)) : (if w32 k = w32 k then (if w32 k = 0 then (zchk (0 ≤ w32 0 ∧ w32 0 < 1) (if w64 (s 9 ((w32 0).toNat)) = w64 (w32 b) then (kf s) else (some (0, 0, s)))) else (kf s)) else (some (0, 0, s))) = kf s := by
  rw [if_pos rfl, w32_id (x := k) (by omega) (by omega)]
  by_cases c : k = 0
  · rw [if_pos c, w32_0, zchk_p (by omega)]
    have z : (0 : Int).toNat = 0 := rfl
    rw [z, hk c, if_pos rfl]
  · rw [if_neg c]
theorem lw_tlJ {k b : Int} {s : zS} {kf : zS → zO} (h1 : 0 ≤ k) (h2 : k ≤ 3) (hk : k = 0 → s 9 0 = b) : (if w32 k = w32 k then (if w32 k = 0 then (zchk (0 ≤ w32 0 ∧ w32 0 < 1) (if w64 (s 9 ((w32 0).toNat)) = w64 b then (kf s) else (some (0, 0, s)))) else (kf s)) else (some (0, 0, s))) = kf s := by
  rw [if_pos rfl, w32_id (x := k) (by omega) (by omega)]
  by_cases c : k = 0
  · rw [if_pos c, w32_0, zchk_p (by omega)]
    have z : (0 : Int).toNat = 0 := rfl
    rw [z, hk c, if_pos rfl]
  · rw [if_neg c]
theorem zr_x (x : Int32) : zr x.toInt := by
  have h1 := Int32.le_toInt x
  have h2 := Int32.toInt_lt x
  exact ⟨by omega, by omega⟩
theorem zj_x (x : Int64) : -9223372036854775808 ≤ x.toInt ∧ x.toInt ≤ 9223372036854775807 := by
  have h1 := Int64.le_toInt x
  have h2 := Int64.toInt_lt x
  exact ⟨by omega, by omega⟩
