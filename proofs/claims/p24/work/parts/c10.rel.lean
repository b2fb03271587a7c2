/-! ===== the law's turns: what holds between them ===== -/
/-- the law's own stores leave whole's invariant -/
theorem yG_law {s s' : zS} (h : Iv 1000000000 (zG s)) (e : ∀ k, k < 168 → k ≠ 9 → s' k = s k) : Iv 1000000000 (zG s') := by
  obtain ⟨τ, hτ⟩ : ∃ τ : zS, τ = fun k => if 168 ≤ k ∧ k < 192 then zG s k else s' k := ⟨_, rfl⟩
  have e1 : ∀ k, 168 ≤ k ∧ k < 192 → τ k = zG s k := fun k hk => by rw [hτ]; exact if_pos hk
  have e2 : ∀ k, ¬ (168 ≤ k ∧ k < 192) → τ k = s' k := fun k hk => by rw [hτ]; exact if_neg hk
  refine zG_iv (τ := τ) (B := 1000000000) (fun k hk => e2 k (by omega)) (Iv_free (σ := zG s) (fun k m hk => ?_) h)
  by_cases c : 168 ≤ k ∧ k < 192
  · rw [e1 k c]
  · unfold Rfree at hk
    rw [e2 k c, e k (by omega) (by omega), zG_ok s k (by omega)]
/-- so does a call of the class -/
theorem yG_cl {B : Int} {σ1 : zS} {cd : Nat → Int} {C : zO} {M : zS → zO} {t : Nat} {v : Int} (h : OpR B cd C M) (hM : ∀ {σ s : zS}, zA σ s → zLc σ (M s)) (hC : C = some (t, v, σ1)) : Iv 1000000000 (zG σ1) := by
  obtain ⟨t', v', σ1', τ, g1, g2, g3, g4⟩ := OpR_lc h hM
  rw [hC] at g1
  have e := (Prod.mk.inj (Prod.mk.inj (Option.some.inj g1)).2).2
  rw [e]
  exact zG_iv g3 g4
theorem yG_8 {s σ1 : zS} (h : Iv 1000000000 (zG s)) (e : ∀ k, k ≠ 8 → σ1 k = zG s k) : Iv 1000000000 (zG σ1) := zG_iv (τ := σ1) (B := 1000000000) (fun _ _ => rfl) (yW_8 h e)
/-- a sound as a number -/
def yzen (f : Nat → Int) : Nat → Int
  | 0 => 0
  | k + 1 => 32 * yzen f k + (f k - 96)
def yA (n : Nat) (s : zS) : Prop := n ≤ 6 ∧ s 205 0 = n ∧ ∀ j, j < 6 → s 192 j = (if j < n then yld s j + 1 else 0) ∧ s 204 j = s (10 + j) 4 ∧ ∀ k, k < 6 → s 193 (6 * j + k) = s (20 + j) k
/-- the grace runs if and only if the ship's flag can't be flown -/
def yCo (n : Nat) (s : zS) (i : Nat) : Prop := s (36 + i) 4 = -1 ↔ s (36 + i) 3 = -1 ∨ zLM (yhm s) (s (30 + i)) n = s (36 + i) 3
def yS (n sn : Nat) (s : zS) : Prop := sn ≤ 3 ∧ s 205 1 = sn ∧ ∀ i, i < 3 → s 195 i = (if i < sn then s (36 + i) 3 + 1 else 0) ∧ (i < sn → s 196 i = s (36 + i) 4 ∧ yCo n s i) ∧ ∀ j, j < 6 → s 194 (6 * i + j) = if i < sn then s (30 + i) j else 0
def yN (sn : Nat) (s : zS) : Prop := ∀ i, i < sn → ∃ ln : Nat, ln ≤ 6 ∧ s (36 + i) 2 = ln ∧ (∀ k, k < ln → 97 ≤ s (42 + i) k ∧ s (42 + i) k ≤ 122) ∧ s 9 i = yzen (s (42 + i)) ln
def yP (pn mn : Nat) (s : zS) : Prop := pn ≤ 40 ∧ mn ≤ pn ∧ s 205 2 = pn ∧ s 205 3 = mn ∧ yRB mn pn s
/-- what the law's state and the class's hold alike -/
def yR (n sn tn pn mn : Nat) (s : zS) : Prop := Iv 1000000000 (zG s) ∧ s 0 5 = n ∧ s 0 6 = sn ∧ s 0 7 = tn ∧ s 3 3 = pn ∧ s 3 4 = mn ∧ yA n s ∧ yS n sn s ∧ yN sn s ∧ yP pn mn s
def QA (k m : Nat) : Prop := k = 192 ∨ k = 193 ∨ k = 204 ∨ (k = 205 ∧ m = 0) ∨ (10 ≤ k ∧ k < 16 ∧ (m = 1 ∨ m = 2 ∨ m = 4)) ∨ (20 ≤ k ∧ k < 26)
def QS (k m : Nat) : Prop := k = 194 ∨ k = 195 ∨ k = 196 ∨ (k = 205 ∧ m = 1) ∨ (30 ≤ k ∧ k < 33) ∨ (36 ≤ k ∧ k < 39 ∧ (m = 3 ∨ m = 4)) ∨ (10 ≤ k ∧ k < 16 ∧ m = 2)
def QN (k m : Nat) : Prop := k = 9 ∨ (36 ≤ k ∧ k < 39 ∧ m = 2) ∨ (42 ≤ k ∧ k < 45)
def QP (k m : Nat) : Prop := (197 ≤ k ∧ k < 204) ∨ (k = 205 ∧ (m = 2 ∨ m = 3)) ∨ (48 ≤ k ∧ k < 168)
theorem yA_congr {n : Nat} {s s' : zS} (h : ∀ k m, QA k m → s' k m = s k m) (hA : yA n s) : yA n s' := by
  obtain ⟨h1, h2, h3⟩ := hA
  refine ⟨h1, (h 205 0 (by unfold QA; omega)).trans h2, fun j hj => ?_⟩
  obtain ⟨q1, q2, q3⟩ := h3 j hj
  have e : yld s' j = yld s j := by
    unfold yld
    rw [h (10 + j) 1 (by unfold QA; omega), h (10 + j) 2 (by unfold QA; omega)]
  refine ⟨by rw [h 192 j (by unfold QA; omega), e]; exact q1, by rw [h 204 j (by unfold QA; omega), h (10 + j) 4 (by unfold QA; omega)]; exact q2, fun k hk => ?_⟩
  rw [h 193 _ (by unfold QA; omega), h (20 + j) k (by unfold QA; omega)]
  exact q3 k hk
theorem yCo_congr {n i : Nat} {s s' : zS} (hn : n ≤ 6) (hi : i < 3) (h : ∀ k m, QS k m → k < 168 → s' k m = s k m) (hC : yCo n s i) : yCo n s' i := by
  have e : zLM (yhm s') (s' (30 + i)) n = zLM (yhm s) (s (30 + i)) n := zLM_congr (fun j hj => h (10 + j) 2 (by unfold QS; omega) (by omega)) (fun j hj => h (30 + i) j (by unfold QS; omega) (by omega))
  unfold yCo
  rw [h (36 + i) 4 (by unfold QS; omega) (by omega), h (36 + i) 3 (by unfold QS; omega) (by omega), e]
  exact hC
theorem yS_congr {n sn : Nat} {s s' : zS} (hn : n ≤ 6) (h : ∀ k m, QS k m → s' k m = s k m) (hS : yS n sn s) : yS n sn s' := by
  obtain ⟨h1, h2, h3⟩ := hS
  refine ⟨h1, (h 205 1 (by unfold QS; omega)).trans h2, fun i hi => ?_⟩
  obtain ⟨q1, q2, q3⟩ := h3 i hi
  refine ⟨by rw [h 195 i (by unfold QS; omega), h (36 + i) 3 (by unfold QS; omega)]; exact q1, fun hs => ⟨by rw [h 196 i (by unfold QS; omega), h (36 + i) 4 (by unfold QS; omega)]; exact (q2 hs).1, yCo_congr hn hi (fun k m q _ => h k m q) (q2 hs).2⟩, fun j hj => ?_⟩
  rw [h 194 _ (by unfold QS; omega), h (30 + i) j (by unfold QS; omega)]
  exact q3 j hj
theorem yN_congr {sn : Nat} {s s' : zS} (hsn : sn ≤ 3) (h : ∀ k m, QN k m → s' k m = s k m) (hN : yN sn s) : yN sn s' := by
  intro i hi
  obtain ⟨ln, l1, l2, l3, l4⟩ := hN i hi
  have e42 : s' (42 + i) = s (42 + i) := funext fun m => h _ _ (by unfold QN; omega)
  refine ⟨ln, l1, by rw [h (36 + i) 2 (by unfold QN; omega)]; exact l2, by rw [e42]; exact l3, by rw [h 9 i (by unfold QN; omega), e42]; exact l4⟩
theorem yRB_congr {pn mn : Nat} {s s' : zS} (hpn : pn ≤ 40) (hmn : mn ≤ pn) (h : ∀ k m, QP k m → s' k m = s k m) (hR : yRB mn pn s) : yRB mn pn s' := by
  have e1 : ∀ k, 197 ≤ k → k < 204 → s' k = s k := fun k h1 h2 => funext fun m => h k m (by unfold QP; omega)
  have e48 : ∀ i, i < 40 → s' (48 + i) = s (48 + i) := fun i hi => funext fun m => h _ m (by unfold QP; omega)
  have e108 : ∀ i, i < 40 → s' (108 + i) = s (108 + i) := fun i hi => funext fun m => h _ m (by unfold QP; omega)
  have ect : ∀ j sh, j < 40 → (yCt s' j sh ↔ yCt s j sh) := fun j sh hj => by
    unfold yCt
    rw [e48 j hj]
  have e197 := e1 197 (by decide) (by decide)
  have e198 := e1 198 (by decide) (by decide)
  have e199 := e1 199 (by decide) (by decide)
  have e200 := e1 200 (by decide) (by decide)
  have e201 := e1 201 (by decide) (by decide)
  have e202 := e1 202 (by decide) (by decide)
  have e203 := e1 203 (by decide) (by decide)
  obtain ⟨hR1, hR2⟩ := hR
  refine ⟨fun i hi => ?_, fun i q1 q2 => by rw [e201, e202, e203]; exact hR2 i q1 q2⟩
  obtain ⟨r1, r2, r3, r4, r5, r6, r7⟩ := hR1 i hi
  unfold yP1
  rw [e197, e198, e199, e200, e201, e202, e203, e48 i (by omega)]
  refine ⟨r1, r2, fun q => ?_, fun q => ?_, r5, r6, fun q => ?_⟩
  · obtain ⟨m, u1, u2, u3, u4, u5, u6, u7, u8⟩ := r3 q
    exact ⟨m, u1, u2, by rw [e108 m (by omega)]; exact u3, u4, by rw [e108 m (by omega)]; exact u5, by rw [e108 m (by omega)]; exact u6, u7, u8⟩
  · obtain ⟨m, row, u1, u2, u3, u4, u5, u6, u7, u8⟩ := r4 q
    exact ⟨m, row, u1, u2, by rw [e108 m (by omega)]; exact u3, u4, u5, u6, u7, fun j j1 j2 w => u8 j j1 j2 ((ect j _ (by omega)).mp w)⟩
  · have r := r7 q
    unfold yE1 at r ⊢
    rw [e200, e48 i (by omega)]
    rcases r with ⟨a1, a2⟩ | ⟨j, a1, a2, a3, a4, a5⟩
    · exact Or.inl ⟨a1, fun j j1 j2 w => a2 j j1 j2 ((ect j _ (by omega)).mp w)⟩
    · exact Or.inr ⟨j, a1, a2, (ect j _ (by omega)).mpr a3, by rw [e48 j (by omega)]; exact a4, fun q q1 q2 w => a5 q q1 q2 ((ect q _ (by omega)).mp w)⟩
theorem yP_congr {pn mn : Nat} {s s' : zS} (h : ∀ k m, QP k m → s' k m = s k m) (hP : yP pn mn s) : yP pn mn s' := by
  obtain ⟨h1, h2, h3, h4, h5⟩ := hP
  exact ⟨h1, h2, (h 205 2 (by unfold QP; omega)).trans h3, (h 205 3 (by unfold QP; omega)).trans h4, yRB_congr h1 h2 h h5⟩
theorem yR_iv {n sn tn pn mn : Nat} {s : zS} (h : yR n sn tn pn mn s) : IA n (zG s) ∧ IT tn (zG s) ∧ IN 1000000000 (zG s) ∧ IS n sn (zG s) ∧ IP n sn pn mn (zG s) := by
  obtain ⟨h0, h1, h2, h3, h4, h5, -⟩ := h
  have g0 := zG_ok s 0 (by decide)
  have g3 := zG_ok s 3 (by decide)
  exact yIv h0 (by rw [g0]; exact h1) (by rw [g0]; exact h2) (by rw [g0]; exact h3) (by rw [g3]; exact h4) (by rw [g3]; exact h5)
theorem yR_congr {n sn tn pn mn : Nat} {s s' : zS} (h : yR n sn tn pn mn s) (hI : Iv 1000000000 (zG s')) (e1 : ∀ k, k < 168 → k ≠ 8 → s' k = s k) (e2 : ∀ k, 192 ≤ k → k < 206 → s' k = s k) : yR n sn tn pn mn s' := by
  obtain ⟨h0, h1, h2, h3, h4, h5, hA, hS, hN, hP⟩ := h
  have e0 := e1 0 (by decide) (by decide)
  have e3 := e1 3 (by decide) (by decide)
  have ee : ∀ k m, (k < 168 ∧ k ≠ 8) ∨ (192 ≤ k ∧ k < 206) → s' k m = s k m := fun k m q => by
    rcases q with q | q
    · rw [e1 k q.1 q.2]
    · rw [e2 k q.1 q.2]
  refine ⟨hI, by rw [e0]; exact h1, by rw [e0]; exact h2, by rw [e0]; exact h3, by rw [e3]; exact h4, by rw [e3]; exact h5, yA_congr (fun k m q => ee k m ?_) hA, yS_congr hA.1 (fun k m q => ee k m ?_) hS, yN_congr hS.1 (fun k m q => ee k m ?_) hN, yP_congr (fun k m q => ee k m ?_) hP⟩
  · unfold QA at q; omega
  · unfold QS at q; omega
  · unfold QN at q; omega
  · unfold QP at q; omega
/-- the papers, as the parts before want them: the class at zG s, the law at any state that has its arrays -/
theorem yR_px {n sn tn pn mn : Nat} {s s' : zS} (h : yR n sn tn pn mn s) (e : ∀ k, 192 ≤ k → k < 206 ∧ k ≠ 204 → s' k = s k) : yPx n sn pn mn (zG s) s' := by
  obtain ⟨gA, gT, gN, gS, gP⟩ := yR_iv h
  obtain ⟨h0, h1, h2, h3, h4, h5, hA, hS, hN, hP⟩ := h
  obtain ⟨b1, b2, b3, b4⟩ := gN
  have hP' := yP_congr (s' := zG s) (fun k m q => by rw [zG_ok s k (by unfold QP at q; omega)]) hP
  refine ⟨gP, hP'.2.2.2.2, hA.1, hS.1, hP.1, fun k a b => by rw [e k a b, zG_ok s k (by omega)], hP'.2.2.1, b1, by omega, b3⟩
/-- what the law's lands want -/
theorem yla {n : Nat} {s : zS} (gA : IA n (zG s)) (hA : yA n s) : (∀ j k, j < n → k < n → 0 ≤ ypt (zG s) j k ∧ ypt (zG s) j k ≤ 64) ∧ (∀ j, j < n → zsum (ypt (zG s) j) n ≤ 64) ∧ (∀ j, j < n → -1 ≤ yld (zG s) j ∧ yld (zG s) j ≤ 3) ∧ s 205 0 = n ∧ ∀ j, j < n → s 192 j = yld (zG s) j + 1 ∧ ∀ k, k < n → s 193 (6 * j + k) = ypt (zG s) j k := by
  obtain ⟨a1, a2, a3⟩ := hA
  have gA1 := gA.1
  refine ⟨fun j k hj hk => ⟨(ypt_rg gA (by omega) (by omega)).1, (ypt_rg gA (by omega) (by omega)).2.1⟩, fun j hj => ?_, fun j hj => yld_rg gA hj, a2, fun j hj => ⟨?_, fun k hk => ?_⟩⟩
  · have q := gA.2.2.2.2.2.1 j (by omega)
    rw [← zsum_congr (f := ypt (zG s) j) (fun k hk => (gA.2.2.2.2.1 j k (by omega) hk).1)] at q
    have q2 := zsum_mono (f := ypt (zG s) j) (m := n) (n := 10) gA1 (fun k hk => (ypt_rg gA (j := j) (by omega) hk).1)
    omega
  · have e : yld (zG s) j = yld s j := by
      unfold yld
      rw [zG_ok s (10 + j) (by omega)]
    rw [e, (a3 j (by omega)).1, if_pos hj]
  · rw [(a3 j (by omega)).2.2 k (by omega)]
    show _ = zG s (20 + j) k
    rw [zG_ok s (20 + j) (by omega)]
theorem yR_la {n sn tn pn mn : Nat} {s : zS} (h : yR n sn tn pn mn s) : (∀ j k, j < n → k < n → 0 ≤ ypt (zG s) j k ∧ ypt (zG s) j k ≤ 64) ∧ (∀ j, j < n → zsum (ypt (zG s) j) n ≤ 64) ∧ (∀ j, j < n → -1 ≤ yld (zG s) j ∧ yld (zG s) j ≤ 3) ∧ s 205 0 = n ∧ ∀ j, j < n → s 192 j = yld (zG s) j + 1 ∧ ∀ k, k < n → s 193 (6 * j + k) = ypt (zG s) j k := yla (yR_iv h).1 h.2.2.2.2.2.2.1
theorem yhm_G {s : zS} {j : Nat} (hj : j < 10) : yhm (zG s) j = s (10 + j) 2 := by
  show zG s (10 + j) 2 = _
  rw [zG_ok s (10 + j) (by omega)]
/-- between two turns -/
def yRa (T : Nat) (now : Int) (s : zS) : Prop := ∃ n sn pn mn : Nat, yR n sn 0 pn mn s ∧ (T < 6 → n = T ∧ sn = 0) ∧ (6 ≤ T → n = 6) ∧ (T ≤ 6 → sn = 0) ∧ s 0 8 = now ∧ 0 ≤ now ∧ now ≤ 200000 * (T : Int)
def yFin (x : zO) : Prop := ∃ se, x = some (0, 1, se)
theorem yRa_congr {T : Nat} {now : Int} {s s' : zS} (h : yRa T now s) (hI : Iv 1000000000 (zG s')) (e1 : ∀ k, k < 168 → k ≠ 8 → s' k = s k) (e2 : ∀ k, 192 ≤ k → k < 206 → s' k = s k) : yRa T now s' := by
  obtain ⟨n, sn, pn, mn, h0, h1, h2, h3, h4, h5, h6⟩ := h
  exact ⟨n, sn, pn, mn, yR_congr h0 hI e1 e2, h1, h2, h3, by rw [e1 0 (by decide) (by decide)]; exact h4, h5, h6⟩
