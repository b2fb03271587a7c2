/-! ===== the turns: papers ===== -/
/-- a paper more, no sale by court -/
theorem yRB_app {pn mn mn' : Nat} {s s' : zS} (h : yRB mn pn s) (hpn : pn < 40) (hmn : mn ≤ pn) (hm1 : mn ≤ mn')
    (e : ∀ i, i < pn → s' 197 i = s 197 i ∧ s' 198 i = s 198 i ∧ s' 199 i = s 199 i ∧ s' 200 i = s 200 i ∧ s' 202 i = s 202 i ∧ s' 203 i = s 203 i ∧ (∀ m, m ≠ 8 → s' (48 + i) m = s (48 + i) m) ∧ (s (48 + i) 0 = 0 → s' 201 i = s' (48 + i) 8) ∧ (s (48 + i) 0 ≠ 0 → s' 201 i = s 201 i))
    (em : ∀ m, m < mn → s' (108 + m) = s (108 + m)) (hk : s' (48 + pn) 0 ≠ 5) (hnew : yP1 mn' (pn + 1) s' pn) (eo : ∀ i, pn + 1 ≤ i → i < 40 → s' 201 i = s 201 i ∧ s' 202 i = s 202 i ∧ s' 203 i = s 203 i) : yRB mn' (pn + 1) s' := by
  obtain ⟨hR1, hR2⟩ := h
  have ect : ∀ j sh, j < pn → (yCt s' j sh ↔ yCt s j sh) := fun j sh hj => by
    unfold yCt
    rw [(e j hj).2.2.2.2.2.2.1 0 (by omega), (e j hj).2.2.2.2.2.2.1 1 (by omega)]
  refine ⟨fun i hi => ?_, fun i q1 q2 => by
    obtain ⟨w1, w2, w3⟩ := eo i q1 q2
    rw [w1, w2, w3]
    exact hR2 i (by omega) q2⟩
  by_cases c : i = pn
  · rw [c]
    exact hnew
  · have hi' : i < pn := by omega
    obtain ⟨r1, r2, r3, r4, r5, r6, r7⟩ := hR1 i hi'
    obtain ⟨e197, e198, e199, e200, e202, e203, e48, z0, z1⟩ := e i hi'
    have k0 := e48 0 (by omega)
    have k1 := e48 1 (by omega)
    unfold yP1
    rw [e197, e198, e199, e200, e202, e203, k0, k1, e48 2 (by omega), e48 3 (by omega), e48 4 (by omega), e48 5 (by omega), e48 6 (by omega)]
    refine ⟨r1, fun q => ?_, fun q => ?_, fun q => ?_, r5, r6, fun q => ?_⟩
    · obtain ⟨u1, u2, u3, u4⟩ := r2 q
      exact ⟨u1, z0 q, u3, u4⟩
    · obtain ⟨m, u1, u2, u3, u4, u5, u6, u7, u8⟩ := r3 q
      exact ⟨m, by omega, u2, by rw [em m u1]; exact u3, u4, by rw [em m u1]; exact u5, by rw [em m u1, z1 (by omega)]; exact u6, u7, u8⟩
    · obtain ⟨m, row, u1, u2, u3, u4, u5, u6, u7, u8⟩ := r4 q
      exact ⟨m, row, by omega, u2, by rw [em m u1]; exact u3, u4, u5, u6, u7, fun j j1 j2 w => u8 j j1 j2 ((ect j _ (by omega)).mp w)⟩
    · have r := r7 q
      unfold yE1 at r ⊢
      rw [e200, k1]
      rcases r with ⟨a1, a2⟩ | ⟨j, a1, a2, a3, a4, a5⟩
      · refine Or.inl ⟨a1, fun j j1 j2 w => ?_⟩
        by_cases d : j = pn
        · rw [d] at w
          exact hk w.1
        · exact a2 j j1 (by omega) ((ect j _ (by omega)).mp w)
      · exact Or.inr ⟨j, a1, by omega, (ect j _ a2).mpr a3, by rw [(e j a2).2.2.2.2.2.2.1 3 (by omega)]; exact a4, fun q q1 q2 w => a5 q q1 q2 ((ect q _ (by omega)).mp w)⟩
/-- what a new paper leaves: parties, ships, sounds -/
theorem paper_R {sn pn mn pn' mn' : Nat} {s s' : zS} (h : yR 6 sn 0 pn mn s) (hI : Iv 1000000000 (zG s')) (g1 : s' 3 3 = pn') (g2 : s' 3 4 = mn') (hP : yP pn' mn' s') (e : ∀ k m, (k < 168 ∨ 192 ≤ k) → ¬ (48 ≤ k ∧ k < 168) → ¬ (k = 3 ∧ (m = 3 ∨ m = 4)) → k ≠ 8 → ¬ (197 ≤ k ∧ k < 204) → ¬ (k = 205 ∧ (m = 2 ∨ m = 3)) → s' k m = s k m) : yR 6 sn 0 pn' mn' s' := by
  obtain ⟨h0, h1, h2, h3, h4, h5, hA, hS, hN, -⟩ := h
  have e' : ∀ k m, (QA k m ∨ QS k m ∨ QN k m ∨ k = 0) → s' k m = s k m := fun k m q => by
    have w : (k < 168 ∨ 192 ≤ k) ∧ ¬ (48 ≤ k ∧ k < 168) ∧ ¬ (k = 3 ∧ (m = 3 ∨ m = 4)) ∧ k ≠ 8 ∧ ¬ (197 ≤ k ∧ k < 204) ∧ ¬ (k = 205 ∧ (m = 2 ∨ m = 3)) := by
      rcases q with q | q | q | q
      · unfold QA at q; omega
      · unfold QS at q; omega
      · unfold QN at q; omega
      · omega
    exact e k m w.1 w.2.1 w.2.2.1 w.2.2.2.1 w.2.2.2.2.1 w.2.2.2.2.2
  exact ⟨hI, by rw [e' 0 5 (Or.inr (Or.inr (Or.inr rfl)))]; exact h1, by rw [e' 0 6 (Or.inr (Or.inr (Or.inr rfl)))]; exact h2, by rw [e' 0 7 (Or.inr (Or.inr (Or.inr rfl)))]; exact h3, g1, g2, yA_congr (fun k m q => e' k m (Or.inl q)) hA, yS_congr (Nat.le_refl 6) (fun k m q => e' k m (Or.inr (Or.inl q))) hS, yN_congr hS.1 (fun k m q => e' k m (Or.inr (Or.inr (Or.inl q)))) hN, hP⟩
/-- the law's own row of a new paper -/
def yNp (s : zS) (pn : Nat) (kd am now : Int) : zS := zsu (zsu (zsu (zsu (zsu s 197 pn kd) 198 pn am) 199 pn now) 200 pn (-1)) 205 2 ((pn : Int) + 1)
theorem yNp_v {s : zS} {pn : Nat} {kd am now : Int} : yNp s pn kd am now 197 pn = kd ∧ yNp s pn kd am now 198 pn = am ∧ yNp s pn kd am now 199 pn = now ∧ yNp s pn kd am now 200 pn = -1 ∧ yNp s pn kd am now 205 2 = (pn : Int) + 1 ∧ ∀ k m, ¬ (197 ≤ k ∧ k < 201 ∧ m = pn) → ¬ (k = 205 ∧ m = 2) → yNp s pn kd am now k m = s k m := by
  unfold yNp
  refine ⟨?_, ?_, ?_, ?_, zsu_at _ _ _ _, fun k m a b => ?_⟩
  · rw [zsu_o (by omega), zsu_o (by omega), zsu_o (by omega), zsu_o (by omega), zsu_at]
  · rw [zsu_o (by omega), zsu_o (by omega), zsu_o (by omega), zsu_at]
  · rw [zsu_o (by omega), zsu_o (by omega), zsu_at]
  · rw [zsu_o (by omega), zsu_at]
  · rw [zsu_o (by omega), zsu_o (by omega), zsu_o (by omega), zsu_o (by omega), zsu_o (by omega)]
section TW
variable {kf : Int → Int → Int → zS → zO} {T : Nat} {now y : Int}
/-- into the law's arrays -/
theorem j1317_v {pn : Nat} {i a am of its kd : Int} {s : zS} (hpn : pn < 40) (h2 : s 205 2 = pn) : fL_law_j1317 kf now (T : Int) y i a (pn : Int) am of its (zsu s 197 pn kd) = (if w32 its = 0 then (zbn0 (fX6_notice i a (zG (yNp s pn kd am now))) (fun v_195 s_196 => zchk (0 ≤ w32 2 ∧ w32 2 < 4) (if w32 v_195 = w32 (s_196 205 ((w32 2).toNat)) then (fL_law_j2003 kf now 1 (T : Int) y s_196) else (fL_law_j2003 kf now 0 (T : Int) y s_196)))) else (if w32 its = w32 3 then (zbn0 (fX6_lien i a of am (zG (yNp s pn kd am now))) (fun v_190 s_191 => zchk (0 ≤ w32 2 ∧ w32 2 < 4) (if w32 v_190 = w32 (s_191 205 ((w32 2).toNat)) then (fL_law_j2003 kf now 1 (T : Int) y s_191) else (fL_law_j2003 kf now 0 (T : Int) y s_191)))) else (fL_law_l1422 kf zfu now (T : Int) y i a (pn : Int) am (pn : Int) ((pn : Int) - 1) (yNp s pn kd am now)))) := by
  unfold fL_law_j1317
  have e : zsu (zsu (zsu (zsu s 197 pn kd) 198 pn am) 199 pn now) 200 pn (-1) 205 2 = pn := by rw [zsu_o (by omega), zsu_o (by omega), zsu_o (by omega), zsu_o (by omega)]; exact h2
  rw [w32_nat (n := pn) (by omega), zchk_p (by omega), zsto_d, zchk_p (by omega), zsto_d, zchk_p (by omega), zsto_d, Int.toNat_natCast, yg2, yg2, zsto_d, yn2, e]
  rfl
theorem t_notice (hk : ∀ now s, yRa (T + 1) now s → yFin (kf now 1 ((T : Int) + 1) s)) (hT6 : 6 ≤ T) (hT : T < 130) (hy : 0 ≤ y ∧ y ≤ 2147483647) (hnow : 0 ≤ now ∧ now ≤ 200000 * (T : Int)) {sn pn mn i a : Nat} {s : zS} {am of : Int} (h : yR 6 sn 0 pn mn s) (h8 : s 0 8 = now) (hi : i < sn) (ha : a < 6) (hpn : pn < 40) : yFin (fL_law_j1282 kf now (T : Int) y (i : Int) (a : Int) (pn : Int) am of 0 s) := by
  obtain ⟨g0, g1, g2, g3, g4, g5, hA, hS, hN, hP⟩ := id h
  have hsn3 := hS.1
  obtain ⟨s1, hs1⟩ : ∃ z, z = yNp s pn (0 + 4 * (i : Int) + 16 * (a : Int) + 0) am now := ⟨_, rfl⟩
  obtain ⟨n1, n2, n3, n4, n5, n6⟩ := yNp_v (s := s) (pn := pn) (kd := 0 + 4 * (i : Int) + 16 * (a : Int) + 0) (am := am) (now := now)
  rw [← hs1] at n1 n2 n3 n4 n5 n6
  have hI1 : Iv 1000000000 (zG s1) := yG_law g0 (fun k q _ => funext fun m => n6 k m (by omega) (by omega))
  obtain ⟨vA, vT, vN, vS, vP⟩ := yIvG hI1 (n := 6) (sn := sn) (tn := 0) (pn := pn) (mn := mn) (by rw [n6 0 5 (by omega) (by omega)]; exact g1) (by rw [n6 0 6 (by omega) (by omega)]; exact g2) (by rw [n6 0 7 (by omega) (by omega)]; exact g3) (by rw [n6 3 3 (by omega) (by omega)]; exact g4) (by rw [n6 3 4 (by omega) (by omega)]; exact g5)
  obtain ⟨σ1, c1, c2, c3, c4, c5, c6, c7, c8⟩ := yc_notice vA vN vS vP hi ha (by omega)
  have hI := yG_notice hI1 ⟨by omega, by omega⟩ ⟨by omega, by omega⟩ c1
  have eσ : ∀ k m, (k < 168 ∨ 192 ≤ k) → ¬ (k = 48 + pn ∧ m < 4) → ¬ (k = 3 ∧ m = 3) → σ1 k m = s1 k m := fun k m q a b => by rw [c8 k m a b, zG_ok s1 k q]
  have e205 : σ1 205 2 = (pn : Int) + 1 := by rw [eσ 205 2 (by omega) (by omega) (by omega)]; exact n5
  have h08 : zG s1 0 8 = now := by rw [zG_ok s1 0 (by omega), n6 0 8 (by omega) (by omega)]; exact h8
  have es : ∀ k m, (k < 168 ∨ 192 ≤ k) → ¬ (k = 48 + pn ∧ m < 4) → ¬ (k = 3 ∧ m = 3) → ¬ (197 ≤ k ∧ k < 201 ∧ m = pn) → ¬ (k = 205 ∧ m = 2) → σ1 k m = s k m := fun k m q a b c d => by rw [eσ k m q a b, n6 k m c d]
  obtain ⟨p1, p2, p3, p4, p5⟩ := hP
  have hR : yR 6 sn 0 (pn + 1) mn σ1 := by
    refine paper_R h hI c7 (by rw [es 3 4 (by omega) (by omega) (by omega) (by omega) (by omega)]; exact g5) ⟨by omega, by omega, e205, by rw [es 205 3 (by omega) (by omega) (by omega) (by omega) (by omega)]; exact p4, yRB_app p5 hpn p2 (Nat.le_refl _) (fun j hj => ?_) (fun m hm => funext fun q => es _ _ (by omega) (by omega) (by omega) (by omega) (by omega)) (by omega) ?_ (fun j q1 q2 => ?_)⟩ (fun k m q a b c d f => es k m q (by omega) (by omega) (by omega) (by omega))
    · refine ⟨es _ _ (by omega) (by omega) (by omega) (by omega) (by omega), es _ _ (by omega) (by omega) (by omega) (by omega) (by omega), es _ _ (by omega) (by omega) (by omega) (by omega) (by omega), es _ _ (by omega) (by omega) (by omega) (by omega) (by omega), es _ _ (by omega) (by omega) (by omega) (by omega) (by omega), es _ _ (by omega) (by omega) (by omega) (by omega) (by omega), fun m _ => es _ _ (by omega) (by omega) (by omega) (by omega) (by omega), fun z => ?_, fun z => es _ _ (by omega) (by omega) (by omega) (by omega) (by omega)⟩
      rw [es 201 j (by omega) (by omega) (by omega) (by omega) (by omega), es (48 + j) 8 (by omega) (by omega) (by omega) (by omega) (by omega)]
      exact ((p5.1 j hj).2.1 z).2.1
    · obtain ⟨z1, z2, z3⟩ := p5.2 pn (Nat.le_refl _) hpn
      refine ⟨?_, fun _ => ⟨?_, ?_, ?_, ?_⟩, fun q => ?_, fun q => ?_, fun q => ?_, fun q => ?_, fun _ => Or.inl ⟨?_, fun j j1 j2 => by omega⟩⟩
      · rw [eσ 199 pn (by omega) (by omega) (by omega), n3, c5, h08]
      · rw [eσ 197 pn (by omega) (by omega) (by omega), n1, c3, c4]
        omega
      · rw [es 201 pn (by omega) (by omega) (by omega) (by omega) (by omega), z1, c6]
      · rw [es 202 pn (by omega) (by omega) (by omega) (by omega) (by omega), z2]
      · rw [es 203 pn (by omega) (by omega) (by omega) (by omega) (by omega), z3]
      · rw [c2] at q; omega
      · rw [c2] at q; omega
      · rw [c2] at q; omega
      · rw [c2] at q; omega
      · rw [eσ 200 pn (by omega) (by omega) (by omega), n4]
    · exact ⟨es _ _ (by omega) (by omega) (by omega) (by omega) (by omega), es _ _ (by omega) (by omega) (by omega) (by omega) (by omega), es _ _ (by omega) (by omega) (by omega) (by omega) (by omega)⟩
  unfold fL_law_j1282
  rw [w32_0, w32_3, if_neg (by decide), w32_nat (n := pn) (by omega), zchk_p (by omega), zsto_d, Int.toNat_natCast, j1317_v hpn p3, ← hs1, w32_0, if_pos rfl, c1, zbn0_0, yg2, yn2, e205, if_pos rfl]
  exact j2003_v hk hT hy (yRa_6 hT6 hR (by rw [es 0 8 (by omega) (by omega) (by omega) (by omega) (by omega)]; exact h8) hnow.1 (by omega))
theorem t_lien (hk : ∀ now s, yRa (T + 1) now s → yFin (kf now 1 ((T : Int) + 1) s)) (hT6 : 6 ≤ T) (hT : T < 130) (hy : 0 ≤ y ∧ y ≤ 2147483647) (hnow : 0 ≤ now ∧ now ≤ 200000 * (T : Int)) {sn pn mn i a : Nat} {s : zS} {am of : Int} (h : yR 6 sn 0 pn mn s) (h8 : s 0 8 = now) (hi : i < sn) (ha : a < 6) (hpn : pn < 40) (hof : 0 ≤ of ∧ of ≤ 3) (ham : 1 ≤ am ∧ am ≤ 1000000000) : yFin (fL_law_j1282 kf now (T : Int) y (i : Int) (a : Int) (pn : Int) am of 3 s) := by
  obtain ⟨g0, g1, g2, g3, g4, g5, hA, hS, hN, hP⟩ := id h
  have hsn3 := hS.1
  obtain ⟨s1, hs1⟩ : ∃ z, z = yNp s pn (3 + 4 * (i : Int) + 16 * (a : Int) + 128 * of) am now := ⟨_, rfl⟩
  obtain ⟨n1, n2, n3, n4, n5, n6⟩ := yNp_v (s := s) (pn := pn) (kd := 3 + 4 * (i : Int) + 16 * (a : Int) + 128 * of) (am := am) (now := now)
  rw [← hs1] at n1 n2 n3 n4 n5 n6
  have hI1 : Iv 1000000000 (zG s1) := yG_law g0 (fun k q _ => funext fun m => n6 k m (by omega) (by omega))
  obtain ⟨vA, vT, vN, vS, vP⟩ := yIvG hI1 (n := 6) (sn := sn) (tn := 0) (pn := pn) (mn := mn) (by rw [n6 0 5 (by omega) (by omega)]; exact g1) (by rw [n6 0 6 (by omega) (by omega)]; exact g2) (by rw [n6 0 7 (by omega) (by omega)]; exact g3) (by rw [n6 3 3 (by omega) (by omega)]; exact g4) (by rw [n6 3 4 (by omega) (by omega)]; exact g5)
  obtain ⟨σ1, c1, c2, c3, c4, c5, c6, c6b, c7, c8⟩ := yc_lien vA vN vS vP hi ha (by omega) hof ham
  have hI := yG_lien hI1 ⟨by omega, by omega⟩ ⟨by omega, by omega⟩ ⟨by omega, by omega⟩ ⟨by omega, by omega⟩ c1
  have eσ : ∀ k m, (k < 168 ∨ 192 ≤ k) → ¬ (k = 48 + pn ∧ m < 6) → ¬ (k = 3 ∧ m = 3) → σ1 k m = s1 k m := fun k m q a b => by rw [c8 k m a b, zG_ok s1 k q]
  have e205 : σ1 205 2 = (pn : Int) + 1 := by rw [eσ 205 2 (by omega) (by omega) (by omega)]; exact n5
  have h08 : zG s1 0 8 = now := by rw [zG_ok s1 0 (by omega), n6 0 8 (by omega) (by omega)]; exact h8
  have es : ∀ k m, (k < 168 ∨ 192 ≤ k) → ¬ (k = 48 + pn ∧ m < 6) → ¬ (k = 3 ∧ m = 3) → ¬ (197 ≤ k ∧ k < 201 ∧ m = pn) → ¬ (k = 205 ∧ m = 2) → σ1 k m = s k m := fun k m q a b c d => by rw [eσ k m q a b, n6 k m c d]
  obtain ⟨p1, p2, p3, p4, p5⟩ := hP
  have hR : yR 6 sn 0 (pn + 1) mn σ1 := by
    refine paper_R h hI c7 (by rw [es 3 4 (by omega) (by omega) (by omega) (by omega) (by omega)]; exact g5) ⟨by omega, by omega, e205, by rw [es 205 3 (by omega) (by omega) (by omega) (by omega) (by omega)]; exact p4, yRB_app p5 hpn p2 (Nat.le_refl _) (fun j hj => ?_) (fun m hm => funext fun q => es _ _ (by omega) (by omega) (by omega) (by omega) (by omega)) (by omega) ?_ (fun j q1 q2 => ?_)⟩ (fun k m q a b c d f => es k m q (by omega) (by omega) (by omega) (by omega))
    · refine ⟨es _ _ (by omega) (by omega) (by omega) (by omega) (by omega), es _ _ (by omega) (by omega) (by omega) (by omega) (by omega), es _ _ (by omega) (by omega) (by omega) (by omega) (by omega), es _ _ (by omega) (by omega) (by omega) (by omega) (by omega), es _ _ (by omega) (by omega) (by omega) (by omega) (by omega), es _ _ (by omega) (by omega) (by omega) (by omega) (by omega), fun m _ => es _ _ (by omega) (by omega) (by omega) (by omega) (by omega), fun z => ?_, fun z => es _ _ (by omega) (by omega) (by omega) (by omega) (by omega)⟩
      rw [es 201 j (by omega) (by omega) (by omega) (by omega) (by omega), es (48 + j) 8 (by omega) (by omega) (by omega) (by omega) (by omega)]
      exact ((p5.1 j hj).2.1 z).2.1
    · obtain ⟨z1, z2, z3⟩ := p5.2 pn (Nat.le_refl _) hpn
      refine ⟨?_, fun q => ?_, fun q => ?_, fun q => ?_, fun _ => ⟨?_, ?_, ?_, ?_⟩, fun q => ?_, fun _ => Or.inl ⟨?_, fun j j1 j2 => by omega⟩⟩
      · rw [eσ 199 pn (by omega) (by omega) (by omega), n3, c5, h08]
      · rw [c2] at q; omega
      · rw [c2] at q; omega
      · rw [c2] at q; omega
      · rw [eσ 197 pn (by omega) (by omega) (by omega), n1, c3, c4, c6b]
      · rw [eσ 198 pn (by omega) (by omega) (by omega), n2, c6]
      · rw [es 202 pn (by omega) (by omega) (by omega) (by omega) (by omega), z2]
      · rw [es 203 pn (by omega) (by omega) (by omega) (by omega) (by omega), z3]
      · rw [c2] at q; omega
      · rw [eσ 200 pn (by omega) (by omega) (by omega), n4]
    · exact ⟨es _ _ (by omega) (by omega) (by omega) (by omega) (by omega), es _ _ (by omega) (by omega) (by omega) (by omega) (by omega), es _ _ (by omega) (by omega) (by omega) (by omega) (by omega)⟩
  unfold fL_law_j1282
  rw [w32_3, if_pos rfl, w32_nat (n := pn) (by omega), zchk_p (by omega), zsto_d, Int.toNat_natCast, j1317_v hpn p3, ← hs1, w32_3, if_neg (by decide), if_pos rfl, c1, zbn0_0, yg2, yn2, e205, if_pos rfl]
  exact j2003_v hk hT hy (yRa_6 hT6 hR (by rw [es 0 8 (by omega) (by omega) (by omega) (by omega) (by omega)]; exact h8) hnow.1 (by omega))
end TW
