/-! ===== the turns: a party, minutes ===== -/
theorem yG_letter {τ σ1 : zS} {t : Nat} {v p : Int} (h : Iv 1000000000 τ) (hp : 0 ≤ p ∧ p < 65536) (hC : fX6_letter p τ = some (t, v, σ1)) : Iv 1000000000 (zG σ1) := yG_cl (op_letter h hp) (fun hA => loX7_letter hA) hC
theorem yG_person {τ σ1 : zS} {t : Nat} {v p : Int} (h : Iv 1000000000 τ) (hp : zr p) (hC : fX6_person p τ = some (t, v, σ1)) : Iv 1000000000 (zG σ1) := yG_cl (op_person h hp) (fun hA => loX7_person hA) hC
theorem yG_company {τ σ1 : zS} {t : Nat} {v : Int} (h : Iv 1000000000 τ) (hC : fX6_company τ = some (t, v, σ1)) : Iv 1000000000 (zG σ1) := yG_cl (op_company h) (fun hA => loX7_company hA) hC
theorem yG_part {τ σ1 : zS} {t : Nat} {v a b k : Int} (h : Iv 1000000000 τ) (ha : zr a) (hb : zr b) (hk : zr k) (hC : fX6_part a b k τ = some (t, v, σ1)) : Iv 1000000000 (zG σ1) := yG_cl (op_part h ha hb hk) (fun hA => loX7_part hA) hC
theorem yG_ship {τ σ1 : zS} {t : Nat} {v p : Int} (h : Iv 1000000000 τ) (hp : zr p) (hC : fX6_ship p τ = some (t, v, σ1)) : Iv 1000000000 (zG σ1) := yG_cl (op_ship h hp) (fun hA => loX7_ship hA) hC
theorem yG_sell {τ σ1 : zS} {t : Nat} {v p a b k : Int} (h : Iv 1000000000 τ) (hp : zr p) (ha : zr a) (hb : zr b) (hk : zr k) (hC : fX6_sell p a b k τ = some (t, v, σ1)) : Iv 1000000000 (zG σ1) := yG_cl (op_sell h hp ha hb hk) (fun hA => loX7_sell hA) hC
theorem yG_fly {τ σ1 : zS} {t : Nat} {v p l : Int} (h : Iv 1000000000 τ) (hp : zr p) (hl : zr l) (hC : fX6_fly p l τ = some (t, v, σ1)) : Iv 1000000000 (zG σ1) := yG_cl (op_fly h hp hl) (fun hA => loX7_fly hA) hC
theorem yG_notice {τ σ1 : zS} {t : Nat} {v p q : Int} (h : Iv 1000000000 τ) (hp : zr p) (hq : zr q) (hC : fX6_notice p q τ = some (t, v, σ1)) : Iv 1000000000 (zG σ1) := yG_cl (op_notice h hp hq) (fun hA => loX7_notice hA) hC
theorem yG_mortgage {τ σ1 : zS} {t : Nat} {v p q u : Int} (h : Iv 1000000000 τ) (hp : zr p) (hq : zr q) (hu : zr u) (hC : fX6_mortgage p q u τ = some (t, v, σ1)) : Iv 1000000000 (zG σ1) := yG_cl (op_mortgage h hp hq hu) (fun hA => loX7_mortgage hA) hC
theorem yG_discharge {τ σ1 : zS} {t : Nat} {v p q : Int} (h : Iv 1000000000 τ) (hp : zr p) (hq : q = 0 ∨ q = 1) (hC : fX6_discharge p q τ = some (t, v, σ1)) : Iv 1000000000 (zG σ1) := yG_cl (op_discharge h hp hq) (fun hA => loX7_discharge hA) hC
theorem yG_lien {τ σ1 : zS} {t : Nat} {v p q u w : Int} (h : Iv 1000000000 τ) (hp : zr p) (hq : zr q) (hu : zr u) (hw : zr w) (hC : fX6_lien p q u w τ = some (t, v, σ1)) : Iv 1000000000 (zG σ1) := yG_cl (op_lien h hp hq hu hw) (fun hA => loX7_lien hA) hC
theorem yG_court {τ σ1 : zS} {t : Nat} {v p q u : Int} (h : Iv 1000000000 τ) (hp : zr p) (hq : zr q) (hu : zr u) (hC : fX6_court p q u τ = some (t, v, σ1)) : Iv 1000000000 (zG σ1) := yG_cl (op_court h hp hq hu) (fun hA => loX7_court hA) hC
theorem yIv_low {B B' : Int} {τ : zS} (h : Iv B τ) (h1 : τ 0 8 ≤ B') (h2 : B' ≤ 1000000000) : Iv B' τ := by
  obtain ⟨n, sn, tn, pn, mn, hA, hT, hN, hS, hP⟩ := h
  obtain ⟨a, b, c, d⟩ := hN
  exact ⟨n, sn, tn, pn, mn, hA, hT, ⟨a, by omega, c, h2⟩, hS, hP⟩
theorem yG_pass {τ σ1 : zS} {t : Nat} {v p : Int} (h : Iv 1000000000 τ) (hn : τ 0 8 ≤ 900000000) (hp : zr p) (hC : fX6_pass p τ = some (t, v, σ1)) : Iv 1000000000 (zG σ1) := yG_cl (op_pass (yIv_low h hn (by omega)) (by omega) hp) (fun hA => loX7_pass hA) hC
theorem yIvG {s : zS} (h : Iv 1000000000 (zG s)) {n sn tn pn mn : Nat} (h5 : s 0 5 = n) (h6 : s 0 6 = sn) (h7 : s 0 7 = tn) (h33 : s 3 3 = pn) (h34 : s 3 4 = mn) : IA n (zG s) ∧ IT tn (zG s) ∧ IN 1000000000 (zG s) ∧ IS n sn (zG s) ∧ IP n sn pn mn (zG s) := by
  have g0 := zG_ok s 0 (by decide)
  have g3 := zG_ok s 3 (by decide)
  exact yIv h (by rw [g0]; exact h5) (by rw [g0]; exact h6) (by rw [g0]; exact h7) (by rw [g3]; exact h33) (by rw [g3]; exact h34)
theorem yRa_6 {T sn pn mn : Nat} {now : Int} {s : zS} (hT : 6 ≤ T) (h : yR 6 sn 0 pn mn s) (e : s 0 8 = now) (h1 : 0 ≤ now) (h2 : now ≤ 200000 * ((T : Int) + 1)) : yRa (T + 1) now s :=
  ⟨6, sn, pn, mn, h, fun q => by omega, fun _ => rfl, fun q => by omega, e, h1, by omega⟩
/-- what a new party changes -/
theorem party_R {n pn mn : Nat} {c hm : Int} {s s' : zS} (h : yR n 0 0 pn mn s) (hn : n < 6) (hI : Iv 1000000000 (zG s')) (hc : c = 0 ∨ (c = 1 ∧ hm = -1)) (g1 : s' (10 + n) 1 = c) (g2 : s' (10 + n) 2 = hm) (g3 : s' 192 n = hm + 1) (g4 : s' 0 5 = (n : Int) + 1) (g5 : s' 205 0 = (n : Int) + 1)
    (e : ∀ k m, (k < 168 ∨ 192 ≤ k) → ¬ (k = 10 + n ∧ (m = 1 ∨ m = 2)) → ¬ (k = 0 ∧ m = 5) → ¬ (k = 205 ∧ m = 0) → ¬ (k = 192 ∧ m = n) → s' k m = s k m) : yR (n + 1) 0 0 pn mn s' := by
  obtain ⟨h0, h1, h2, h3, h4, h5, ⟨a1, a2, a3⟩, ⟨b1, b2, b3⟩, hN, hP⟩ := h
  refine ⟨hI, g4, by rw [e 0 6 (by omega) (by omega) (by omega) (by omega) (by omega)]; exact h2, by rw [e 0 7 (by omega) (by omega) (by omega) (by omega) (by omega)]; exact h3, by rw [e 3 3 (by omega) (by omega) (by omega) (by omega) (by omega)]; exact h4, by rw [e 3 4 (by omega) (by omega) (by omega) (by omega) (by omega)]; exact h5, ⟨by omega, g5, fun j hj => ?_⟩, ⟨b1, by rw [e 205 1 (by omega) (by omega) (by omega) (by omega) (by omega)]; exact b2, fun i hi => ?_⟩, fun i hi => absurd hi (Nat.not_lt_zero _), yP_congr (fun k m q => e k m (by unfold QP at q; omega) (by unfold QP at q; omega) (by unfold QP at q; omega) (by unfold QP at q; omega) (by unfold QP at q; omega)) hP⟩
  · obtain ⟨q1, q2, q3⟩ := a3 j hj
    refine ⟨?_, by rw [e 204 j (by omega) (by omega) (by omega) (by omega) (by omega), e (10 + j) 4 (by omega) (by omega) (by omega) (by omega) (by omega)]; exact q2, fun k hk => by rw [e 193 _ (by omega) (by omega) (by omega) (by omega) (by omega), e (20 + j) k (by omega) (by omega) (by omega) (by omega) (by omega)]; exact q3 k hk⟩
    by_cases cj : j = n
    · subst cj
      rw [g3, if_pos (by omega)]
      unfold yld
      rw [g1, g2]
      rcases hc with c0 | ⟨c0, c1⟩
      · rw [if_neg (by omega)]
      · rw [if_pos c0, c1]
    · have ey : yld s' j = yld s j := by
        unfold yld
        rw [e (10 + j) 1 (by omega) (by omega) (by omega) (by omega) (by omega), e (10 + j) 2 (by omega) (by omega) (by omega) (by omega) (by omega)]
      rw [e 192 j (by omega) (by omega) (by omega) (by omega) (by omega), q1, ey]
      by_cases d : j < n
      · rw [if_pos d, if_pos (by omega)]
      · rw [if_neg d, if_neg (by omega)]
  · obtain ⟨q1, q2, q3⟩ := b3 i hi
    refine ⟨by rw [e 195 i (by omega) (by omega) (by omega) (by omega) (by omega), q1, if_neg (by omega), if_neg (by omega)], fun q => absurd q (Nat.not_lt_zero _), fun j hj => by rw [e 194 _ (by omega) (by omega) (by omega) (by omega) (by omega), q3 j hj, if_neg (by omega), if_neg (by omega)]⟩
section TN
variable {kf : Int → Int → Int → zS → zO} {T : Nat} {now y : Int} {s : zS}
theorem t_party (hk : ∀ now s, yRa (T + 1) now s → yFin (kf now 1 ((T : Int) + 1) s)) (hT : T < 6) (hy : 0 ≤ y ∧ y ≤ 2147483647) {n pn mn : Nat} {c hm : Int} {s' : zS} (h : yR n 0 0 pn mn s) (hn : n = T) (h8 : s 0 8 = now) (hnow : 0 ≤ now ∧ now ≤ 200000 * (T : Int)) (hI : Iv 1000000000 (zG s')) (hc : c = 0 ∨ (c = 1 ∧ hm = -1)) (g1 : s' (10 + n) 1 = c) (g2 : s' (10 + n) 2 = hm) (g3 : s' 192 n = hm + 1) (g4 : s' 0 5 = (n : Int) + 1) (g5 : s' 205 0 = (n : Int) + 1)
    (e : ∀ k m, (k < 168 ∨ 192 ≤ k) → ¬ (k = 10 + n ∧ (m = 1 ∨ m = 2)) → ¬ (k = 0 ∧ m = 5) → ¬ (k = 205 ∧ m = 0) → ¬ (k = 192 ∧ m = n) → s' k m = s k m) : yFin (fL_law_j2003 kf now 1 (T : Int) y s') := by
  have hR := party_R h (by omega) hI hc g1 g2 g3 g4 g5 e
  exact j2003_v hk (by omega) hy ⟨n + 1, 0, pn, mn, hR, fun q => ⟨by omega, rfl⟩, fun q => by omega, fun _ => rfl, by rw [e 0 8 (by omega) (by omega) (by omega) (by omega) (by omega)]; exact h8, hnow.1, by omega⟩
theorem t_company (hk : ∀ now s, yRa (T + 1) now s → yFin (kf now 1 ((T : Int) + 1) s)) (hT : T < 6) (hy : 0 ≤ y ∧ y ≤ 2147483647) (h : yRa T now s) : yFin (fL_law_j299 kf now (T : Int) y s) := by
  obtain ⟨n, sn, pn, mn, hR, h1, h2, h3, h4, h5, h6⟩ := h
  obtain ⟨rfl, rfl⟩ := h1 hT
  obtain ⟨gA, gT, gN, gS, gP⟩ := yR_iv hR
  have hc := yc_company gA (by omega)
  have hI := yG_company hR.1 hc
  have a2 := hR.2.2.2.2.2.2.1.2.1
  have q := (hR.2.2.2.2.2.2.1.2.2 n hT).1
  rw [if_neg (by omega)] at q
  obtain ⟨σ1, hσ⟩ : ∃ z, z = zsu (zsu (zsu (zG s) (10 + n) 1 1) (10 + n) 2 (-1)) 0 5 ((n : Int) + 1) := ⟨_, rfl⟩
  rw [← hσ] at hc hI
  have eσ : ∀ k m, (k < 168 ∨ 192 ≤ k) → ¬ (k = 10 + n ∧ (m = 1 ∨ m = 2)) → ¬ (k = 0 ∧ m = 5) → σ1 k m = s k m := fun k m a b c => by
    rw [hσ, zsu_o (by omega), zsu_o (by omega), zsu_o (by omega), zG_ok s k a]
  have e205 : σ1 205 0 = n := by rw [eσ 205 0 (by omega) (by omega) (by omega)]; exact a2
  unfold fL_law_j299
  rw [hc, zbn0_0, yg0, yn0, e205, if_pos rfl]
  unfold fL_law_j350
  rw [yg0, yg0, yn0, zsto_d, e205]
  refine t_party hk hT hy hR rfl h4 ⟨h5, h6⟩ (yG_law hI (fun k a _ => zsu_row (by omega))) (Or.inr ⟨rfl, rfl⟩) ?_ ?_ ?_ ?_ (zsu_at _ _ _ _) (fun k m a b c d _ => by rw [zsu_o (by omega), eσ k m a b c])
  · rw [zsu_o (by omega), hσ, zsu_o (by omega), zsu_o (by omega), zsu_at]
  · rw [zsu_o (by omega), hσ, zsu_o (by omega), zsu_at]
  · rw [zsu_o (by omega), eσ 192 n (by omega) (by omega) (by omega), q]
    rfl
  · rw [zsu_o (by omega), hσ, zsu_at]
theorem t_person (hk : ∀ now s, yRa (T + 1) now s → yFin (kf now 1 ((T : Int) + 1) s)) (hT : T < 6) (hy : 0 ≤ y ∧ y ≤ 2147483647) (h : yRa T now s) {l : Int} (hl : 0 ≤ l ∧ l < 4) : yFin (fL_law_j320 kf now (T : Int) y l s) := by
  obtain ⟨n, sn, pn, mn, hR, h1, h2, h3, h4, h5, h6⟩ := h
  obtain ⟨rfl, rfl⟩ := h1 hT
  obtain ⟨gA, gT, gN, gS, gP⟩ := yR_iv hR
  have hc := yc_person gA (by omega) hl
  have hI := yG_person hR.1 ⟨by omega, by omega⟩ hc
  have a2 := hR.2.2.2.2.2.2.1.2.1
  obtain ⟨σ1, hσ⟩ : ∃ z, z = zsu (zsu (zsu (zG s) (10 + n) 1 0) (10 + n) 2 l) 0 5 ((n : Int) + 1) := ⟨_, rfl⟩
  rw [← hσ] at hc hI
  have eσ : ∀ k m, (k < 168 ∨ 192 ≤ k) → ¬ (k = 10 + n ∧ (m = 1 ∨ m = 2)) → ¬ (k = 0 ∧ m = 5) → σ1 k m = s k m := fun k m a b c => by
    rw [hσ, zsu_o (by omega), zsu_o (by omega), zsu_o (by omega), zG_ok s k a]
  have e205 : σ1 205 0 = n := by rw [eσ 205 0 (by omega) (by omega) (by omega)]; exact a2
  have e205' : zsu σ1 192 n (l + 1) 205 0 = n := by rw [zsu_o (by omega)]; exact e205
  unfold fL_law_j320
  rw [hc, zbn0_0, yg0, yn0, e205, if_pos rfl]
  unfold fL_law_j340
  rw [yg0, yn0, e205, w32_nat (n := n) (by omega), zchk_p (by omega), zsto_d, Int.toNat_natCast]
  unfold fL_law_j350
  rw [yg0, yg0, yn0, zsto_d, e205']
  refine t_party hk hT hy hR rfl h4 ⟨h5, h6⟩ (yG_law hI (fun k a _ => by rw [zsu_row (by omega), zsu_row (by omega)])) (Or.inl rfl) (hm := l) ?_ ?_ ?_ ?_ (zsu_at _ _ _ _) (fun k m a b c d f => by rw [zsu_o (by omega), zsu_o (by omega), eσ k m a b c])
  · rw [zsu_o (by omega), zsu_o (by omega), hσ, zsu_o (by omega), zsu_o (by omega), zsu_at]
  · rw [zsu_o (by omega), zsu_o (by omega), hσ, zsu_o (by omega), zsu_at]
  · rw [zsu_o (by omega), zsu_at]
  · rw [zsu_o (by omega), zsu_o (by omega), hσ, zsu_at]
/-- minutes -/
theorem t_pass (hk : ∀ now s, yRa (T + 1) now s → yFin (kf now 1 ((T : Int) + 1) s)) (hT6 : 6 ≤ T) (hT : T < 130) (hy : 0 ≤ y ∧ y ≤ 2147483647) (h : yRa T now s) {p : Int} (hp : 1 ≤ p ∧ p ≤ 200000) : yFin (fL_law_j1976 kf now (T : Int) y p s) := by
  obtain ⟨n, sn, pn, mn, hR, h1, h2, h3, h4, h5, h6⟩ := h
  obtain rfl := h2 hT6
  obtain ⟨gA, gT, gN, gS, gP⟩ := yR_iv hR
  have e08 : zG s 0 8 = now := by rw [zG_ok s 0 (by omega)]; exact h4
  have hc := yc_pass (p := p) gN (by omega)
  have hI := yG_pass hR.1 (by omega) ⟨by omega, by omega⟩ hc
  rw [e08] at hc hI
  obtain ⟨σ1, hσ⟩ : ∃ z, z = zsu (zG s) 0 8 (now + p) := ⟨_, rfl⟩
  rw [← hσ] at hc hI
  have eσ : ∀ k m, (k < 168 ∨ 192 ≤ k) → ¬ (k = 0 ∧ m = 8) → σ1 k m = s k m := fun k m a b => by
    rw [hσ, zsu_o (by omega), zG_ok s k a]
  unfold fL_law_j1976
  rw [hc, zbn0_0, w32_id (x := p) (by omega) (by omega), if_pos rfl]
  obtain ⟨g0, g1, g2, g3, g4, g5, gA, gS, gN, gP⟩ := hR
  refine j2003_v hk hT hy (yRa_6 hT6 (sn := sn) (pn := pn) (mn := mn) ⟨hI, by rw [eσ 0 5 (by omega) (by omega)]; exact g1, by rw [eσ 0 6 (by omega) (by omega)]; exact g2, by rw [eσ 0 7 (by omega) (by omega)]; exact g3, by rw [eσ 3 3 (by omega) (by omega)]; exact g4, by rw [eσ 3 4 (by omega) (by omega)]; exact g5, yA_congr (fun k m q => eσ k m (by unfold QA at q; omega) (by unfold QA at q; omega)) gA, yS_congr gA.1 (fun k m q => eσ k m (by unfold QS at q; omega) (by unfold QS at q; omega)) gS, yN_congr gS.1 (fun k m q => eσ k m (by unfold QN at q; omega) (by unfold QN at q; omega)) gN, yP_congr (fun k m q => eσ k m (by unfold QP at q; omega) (by unfold QP at q; omega)) gP⟩ (by rw [hσ, zsu_at]) (by omega) (by omega))
end TN
