/-- a call that is refused with nothing done -/
theorem OpR_thr {B : Int} {σ : zS} {cd : Nat → Int} {C : zO} {M : zS → zO} (t : Nat) (h : Iv B σ) (ht : t ≠ 0) (ht3 : t ≤ 3 ∧ cd t ≠ 0) (hC : C = some (t, 0, σ)) (hM : ∀ s : zS, (∀ k, k ≠ 9 → s k = σ k) → M s = some (0, 0, zsu s 168 25 (cd t))) : OpR B cd C M := by
  have hB2 : B ≤ 1000000000 := by
    obtain ⟨n, sn, tn, pn, mn, hA, hT, hN, hS, hP⟩ := id h
    exact hN.2.2.2
  exact OpR_fail (v := 0) h (Int.le_refl B) hB2 free_rf hC ht ht3 (fun s _ hs => ⟨0, zsu s 168 25 (cd t), hM s hs, zsu_at _ _ _ _, zsu_row (by decide), free_thr⟩)
theorem op_sound {B : Int} {σ : zS} (h : Iv B σ) {p q : Int} (hp : zr p) (hq : zr q) : OpR B cd1 (fX6_sound p q σ) (fX7_sound p q) := by
  obtain ⟨n, sn, tn, pn, mn, hA, hT, hN, hS, hP⟩ := id h
  obtain ⟨s1, s2, s3, s4, s5⟩ := id hS
  by_cases c1 : 0 ≤ p ∧ p < sn
  · by_cases c2 : 0 ≤ q
    · obtain ⟨-, -, -, -, -, -, -, -, -, ln, l1, l2, l3⟩ := s4 p.toNat (by omega)
      refine OpR_qry h free_rf (v := if q < ln then σ 172 (8 * p.toNat + q.toNat) else 32) ?_ rfl (fun s hs => ⟨zsu s 168 25 0, ?_, zsu_at _ _ _ _, zsu_row (by decide), free_thr⟩)
      · unfold fX6_sound
        rw [ns_v hp s2 (by omega), if_pos c1, zbnd_0, nn_v hq, if_pos c2, zbnd_0, w32_zr hp, w32_zr hq, zchk_p (by omega), l2, w32_nat (by omega)]
        by_cases c3 : q < ln
        · have a := (l3 q.toNat (by omega)).1 (by omega)
          rw [if_neg (by omega), zchk_p (by omega), show 36 + p.toNat + 6 = 42 + p.toNat by omega, a.1, zchk_p (by omega), if_pos c3]
        · rw [if_pos (by omega), if_neg c3]
      · have e2 : s 168 6 = sn := by rw [hs 168 (by decide)]; exact s3
        unfold fX7_sound
        rw [is_v hp e2 (by omega), if_pos c1, zbn0_0, w32_1, if_neg (by decide), w32_zr hq, if_neg (by omega)]
        show (if _ then _ else _) = _
        rw [w32_8]
        by_cases c4 : 8 ≤ q
        · rw [if_pos c4, if_neg (by omega)]
        · have a := l3 q.toNat (by omega)
          rw [if_neg c4, w32_id (x := 8 * p + q) (by omega) (by omega), zchk_p (by omega), zsu_row (by decide), hs 172 (by decide), show (8 * p + q).toNat = 8 * p.toNat + q.toNat by omega]
          by_cases c3 : q < ln
          · have b := a.1 (by omega)
            rw [w32_id (by omega) (by omega), if_neg (by omega), zchk_p (by omega), if_pos c3, Int.emod_eq_of_lt (by omega) (by omega)]
          · rw [a.2 (by omega), w32_0, if_pos rfl, if_neg c3]
    · refine OpR_thr 1 h (by decide) (by decide) ?_ (fun s hs => ?_)
      · unfold fX6_sound
        rw [ns_v hp s2 (by omega), if_pos c1, zbnd_0, nn_v hq, if_neg c2, zbnd_t (by decide)]
      · have e2 : s 168 6 = sn := by rw [hs 168 (by decide)]; exact s3
        unfold fX7_sound
        rw [is_v hp e2 (by omega), if_pos c1, zbn0_0, w32_1, if_neg (by decide), w32_zr hq, if_pos (by omega)]
        rfl
  · refine OpR_thr 1 h (by decide) (by decide) ?_ (fun s hs => ?_)
    · unfold fX6_sound
      rw [ns_v hp s2 (by omega), if_neg c1, zbnd_t (by decide)]
    · have e2 : s 168 6 = sn := by rw [hs 168 (by decide)]; exact s3
      unfold fX7_sound
      rw [is_v hp e2 (by omega), if_neg c1, zbn0_0, w32_0, if_pos rfl]
      rfl
theorem zsum_one {f : Nat → Int} {j : Nat} : ∀ {n : Nat}, j < n → (∀ j, j < n → 0 ≤ f j) → f j ≤ zsum f n
  | 0, h, _ => absurd h (Nat.not_lt_zero _)
  | n + 1, h, hn => by
    have h0 := zsum_nn (n := n) (fun j hj => hn j (by omega))
    have h2 := hn n (by omega)
    show f j ≤ zsum f n + f n
    by_cases hj : j = n
    · subst hj
      omega
    · have h1 := zsum_one (n := n) (j := j) (by omega) (fun j hj => hn j (by omega))
      omega
/-- M: has land l more than 32 of a ship -/
theorem cf_l9 {i n : Nat} {l : Int} {s : zS} (hi : i < 6) (hn : n ≤ 10) (hl : -1 ≤ l ∧ l ≤ 3) (hpc : s 168 3 = n) (hh : ∀ j, j < n → -1 ≤ s 188 j ∧ s 188 j ≤ 3) (hr : ∀ j, j < n → 0 ≤ s 173 (10 * i + j) ∧ s 173 (10 * i + j) ≤ 64) :
    ∀ (m k : Nat), k ≤ n → n < k + m → fX7_canFly_l9 m (i : Int) l (zsl (s 188) (fun j => s 173 (10 * i + j)) k l) (k : Int) s = some (0, if 32 < zsl (s 188) (fun j => s 173 (10 * i + j)) n l then 1 else 0, s) := by
  intro m
  induction m with
  | zero => intro k h1 h2; omega
  | succ m ih =>
    intro k h1 h2
    have rg := zsl_rg (h := s 188) (row := fun j => s 173 (10 * i + j)) (n := k) (l := l) (by omega) (fun j hj => hr j (by omega))
    unfold fX7_canFly_l9
    rw [hpc, w32_nat (n := n) (by omega), w32_nat (n := k) (by omega)]
    by_cases c : k = n
    · subst c
      rw [if_pos (Int.le_refl _), w32_id (x := zsl _ _ k l) (by omega) (by omega), w32_32]
      by_cases c2 : 32 < zsl (s 188) (fun j => s 173 (10 * i + j)) k l
      · rw [if_neg (by omega), if_pos c2]
      · rw [if_pos (by omega), if_neg c2]
    · have a := hh k (by omega)
      have b := ih (k + 1) (by omega) (by omega)
      have e : zsl (s 188) (fun j => s 173 (10 * i + j)) (k + 1) l = zsl (s 188) (fun j => s 173 (10 * i + j)) k l + (if s 188 k = l then s 173 (10 * i + k) else 0) := rfl
      rw [e] at b
      rw [if_neg (by omega), zchk_p (by omega), Int.toNat_natCast, w32_id (x := s 188 k) (by omega) (by omega), w32_id (x := l) (by omega) (by omega)]
      by_cases c2 : s 188 k = l
      · rw [if_pos c2] at b
        rw [if_pos c2, w32_id (x := 10 * (i : Int) + k) (by omega) (by omega), zchk_p (by omega), show (10 * (i : Int) + k).toNat = 10 * i + k by omega]
        exact b
      · rw [if_neg c2] at b
        rw [if_neg c2]
        exact b
theorem cf_v {i n : Nat} {l : Int} {ld : Nat → Int} {pt : Nat → Nat → Int} {s : zS} (hi : i < 6) (hn : n ≤ 10) (hl : -1 ≤ l ∧ l ≤ 3) (hpc : s 168 3 = n) (hpt : ∀ j k, j < n → k < n → 0 ≤ pt j k ∧ pt j k ≤ 64) (hld : ∀ j, j < n → -1 ≤ ld j ∧ ld j ≤ 3) (hj : ∀ j, j < n → s 170 j = ld j ∧ ∀ k, k < n → s 171 (10 * j + k) = pt j k) (hr : ∀ j, j < n → 0 ≤ s 173 (10 * i + j) ∧ s 173 (10 * i + j) ≤ 64) :
    ∃ s', fX7_canFly (i : Int) l s = some (0, if 32 < zsl (zFH ld pt n 5) (fun j => s 173 (10 * i + j)) n l then 1 else 0, s') ∧ zMr s s' := by
  obtain ⟨s', g1, g2, g3⟩ := fl_v (ld := ld) (pt := pt) hn hpt hld s hpc hj
  refine ⟨s', ?_, g3⟩
  unfold fX7_canFly
  rw [g1, zbn0_0]
  have e : zsl (s' 188) (fun j => s' 173 (10 * i + j)) n l = zsl (zFH ld pt n 5) (fun j => s 173 (10 * i + j)) n l := zsum_congr (fun j hj => by rw [g2 j hj, g3 173 (by decide) (by decide)])
  rw [← e]
  exact cf_l9 (i := i) (n := n) (l := l) (s := s') hi hn hl (by rw [g3 168 (by decide) (by decide)]; exact hpc) (fun j hj => by rw [g2 j hj]; exact zFH_rg hld 5 j hj) (fun j hj => by rw [g3 173 (by decide) (by decide)]; exact hr j hj) zfu 0 (by omega) (by unfold zfu; omega)
/-- since when the grace runs, looked at anew -/
def zgr (f g now L : Int) : Int := if f = -1 then -1 else if L = f then -1 else if g = -1 then now else g
theorem cg_v {i n : Nat} {h row : Nat → Int} {f g now : Int} {s : zS} (hi : i < 6) (hn : n ≤ 10) (hpc : s 0 5 = n) (hh : ∀ j, j < n → s (10 + j) 2 = h j ∧ -1 ≤ h j ∧ h j ≤ 3) (hr : ∀ j, j < n → s (30 + i) j = row j ∧ 0 ≤ row j ∧ row j ≤ 64) (hf : s (36 + i) 3 = f) (hf2 : -1 ≤ f ∧ f ≤ 3) (hg : s (36 + i) 4 = g) (hg2 : -1 ≤ g ∧ g ≤ 1000000000) (hw : s 0 8 = now) :
    ∃ s', fX6_checkGrace (36 + i) s = some (0, 0, s') ∧ s' (36 + i) 4 = zgr f g now (zLM h row n) ∧ ∀ k m, k ≠ 5 → ¬ (k = 36 + i ∧ m = 4) → s' k m = s k m := by
  unfold fX6_checkGrace zgr
  rw [zchk_p (za_2 hi), hf, w32_id (x := f) (by omega) (by omega), w32_m1, show 36 + i - 6 = 30 + i by omega]
  by_cases c1 : f = -1
  · rw [if_pos c1, if_pos c1]
    exact ⟨zsu s (36 + i) 4 (-1), rfl, zsu_at _ _ _ _, fun k m a b => zsu_o b⟩
  · rw [if_neg c1, if_neg c1]
    obtain ⟨s', g1, g2⟩ := lom_v (r := 30 + i) (pcn := n) (s := s) ((by decide +kernel : ∀ n, n < 6 → zkd (30 + n) = 8 ∧ zln (30 + n) = 10) i hi) (by omega) hpc hn (fun j hj => by rw [(hh j hj).1]; exact (hh j hj).2) (fun j hj => by rw [(hr j hj).1]; exact (hr j hj).2)
    rw [zLM_congr (h' := h) (row' := row) (fun j hj => (hh j hj).1) (fun j hj => (hr j hj).1)] at g1
    have rg := zLM_rg h row n
    rw [g1, zbn0_0, g2 (36 + i) (by omega), hf, hg, w32_id (x := f) (by omega) (by omega), w32_id (x := zLM h row n) (by omega) (by omega), w64_id (x := g) (by omega) (by omega), w64_m1, g2 0 (by omega), hw]
    by_cases c2 : zLM h row n = f
    · rw [if_pos c2, if_pos c2]
      exact ⟨zsu s' (36 + i) 4 (-1), rfl, zsu_at _ _ _ _, fun k m a b => by rw [zsu_o b, g2 k a]⟩
    · rw [if_neg c2, if_neg c2]
      by_cases c3 : g = -1
      · rw [if_pos c3, if_pos c3]
        exact ⟨zsu s' (36 + i) 4 now, rfl, zsu_at _ _ _ _, fun k m a b => by rw [zsu_o b, g2 k a]⟩
      · rw [if_neg c3, if_neg c3]
        exact ⟨s', rfl, by rw [g2 (36 + i) (by omega), hg], fun k m a b => by rw [g2 k a]⟩
theorem lf_v {i n : Nat} {ld : Nat → Int} {pt : Nat → Nat → Int} {row : Nat → Int} {f g now : Int} {s : zS} (hi : i < 6) (hn : n ≤ 10) (hpc : s 168 3 = n) (hpt : ∀ j k, j < n → k < n → 0 ≤ pt j k ∧ pt j k ≤ 64) (hld : ∀ j, j < n → -1 ≤ ld j ∧ ld j ≤ 3) (hj : ∀ j, j < n → s 170 j = ld j ∧ ∀ k, k < n → s 171 (10 * j + k) = pt j k) (hr : ∀ j, j < n → s 173 (10 * i + j) = row j ∧ 0 ≤ row j ∧ row j ≤ 64) (hsum : zsum row n ≤ 64) (hf : s 174 i = f) (hf2 : -1 ≤ f ∧ f ≤ 3) (hg : s 175 i = g) (hg2 : -1 ≤ g ∧ g ≤ 1000000000) (hfg : f = -1 → g = -1) (hw : s 168 0 = now) :
    ∃ s', fX7_lookAtFlag (i : Int) s = some (0, 0, s') ∧ s' 175 i = zgr f g now (zLM (zFH ld pt n 5) row n) ∧ ∀ k m, k ≠ 188 → k ≠ 189 → ¬ (k = 175 ∧ m = i) → s' k m = s k m := by
  unfold fX7_lookAtFlag zgr
  rw [w32_nat (n := i) (by omega), zchk_p (by omega), Int.toNat_natCast, hf, w32_id (x := f) (by omega) (by omega), w32_m1]
  by_cases c1 : f = -1
  · rw [if_pos c1, if_pos c1]
    exact ⟨s, rfl, by rw [hg, hfg c1], fun k m a b c => rfl⟩
  · rw [if_neg c1, if_neg c1, zchk_p (by omega)]
    obtain ⟨s', g1, g2⟩ := cf_v (i := i) (l := f) hi hn ⟨by omega, hf2.2⟩ hpc hpt hld hj (fun j hj => by rw [(hr j hj).1]; exact (hr j hj).2)
    have e : zsl (zFH ld pt n 5) (fun j => s 173 (10 * i + j)) n f = zsl (zFH ld pt n 5) row n f := zsum_congr (fun j hj => by dsimp only; rw [(hr j hj).1])
    have eiff := zLM_iff (h := zFH ld pt n 5) (row := row) (n := n) (l := f) (by omega) (fun j hj => (hr j hj).2.1) hsum
    rw [g1, zbn0_0, e, g2 175 (by decide) (by decide), g2 168 (by decide) (by decide), hw, hg, w64_id (x := g) (by omega) (by omega), w64_m1]
    by_cases c2 : zLM (zFH ld pt n 5) row n = f
    · rw [if_pos (eiff.mp c2), w32_1, if_neg (by decide), if_pos c2, zchk_p (by omega)]
      exact ⟨zsu s' 175 i (-1), rfl, zsu_at _ _ _ _, fun k m a b c => by rw [zsu_o c, g2 k a b]⟩
    · rw [if_neg (fun q => c2 (eiff.mpr q)), w32_0, if_pos rfl, if_neg c2, zchk_p (by omega)]
      by_cases c3 : g = -1
      · rw [if_pos c3, if_pos c3, zchk_p (by omega)]
        exact ⟨zsu s' 175 i now, rfl, zsu_at _ _ _ _, fun k m a b c => by rw [zsu_o c, g2 k a b]⟩
      · rw [if_neg c3, if_neg c3, zchk_p (by omega), zchk_p (by omega)]
        exact ⟨zsu s' 175 i g, rfl, zsu_at _ _ _ _, fun k m a b c => by rw [zsu_o c, g2 k a b]⟩
