/-! ===== the turns: a ship ===== -/
theorem w32_9 : w32 9 = 9 := by decide +kernel
theorem w32_m13 : w64 (-13) = -13 := by decide +kernel
theorem yzen_congr {f g : Nat → Int} : ∀ {n : Nat}, (∀ k, k < n → f k = g k) → yzen f n = yzen g n
  | 0, _ => rfl
  | n + 1, h => by
    show 32 * yzen f n + (f n - 96) = 32 * yzen g n + (g n - 96)
    rw [yzen_congr (fun k hk => h k (by omega)), h n (by omega)]
theorem yzen_nn {f : Nat → Int} : ∀ {n : Nat}, (∀ k, k < n → 97 ≤ f k ∧ f k ≤ 122) → 0 ≤ yzen f n
  | 0, _ => Int.le_refl 0
  | n + 1, h => by
    have h1 := yzen_nn (f := f) (n := n) (fun k hk => h k (by omega))
    have h2 := h n (by omega)
    show 0 ≤ 32 * yzen f n + (f n - 96)
    omega
theorem yzen_ub {f : Nat → Int} {n : Nat} (hn : n ≤ 6) (h : ∀ k, k < n → 97 ≤ f k ∧ f k ≤ 122) : yzen f n ≤ 1073741823 := by
  have e0 : yzen f 0 = 0 := rfl
  have c : n = 0 ∨ n = 1 ∨ n = 2 ∨ n = 3 ∨ n = 4 ∨ n = 5 ∨ n = 6 := by omega
  have e1 : yzen f 1 = 32 * yzen f 0 + (f 0 - 96) := rfl
  have e2 : yzen f 2 = 32 * yzen f 1 + (f 1 - 96) := rfl
  have e3 : yzen f 3 = 32 * yzen f 2 + (f 2 - 96) := rfl
  have e4 : yzen f 4 = 32 * yzen f 3 + (f 3 - 96) := rfl
  have e5 : yzen f 5 = 32 * yzen f 4 + (f 4 - 96) := rfl
  have e6 : yzen f 6 = 32 * yzen f 5 + (f 5 - 96) := rfl
  have u : ∀ k, k < n → f k - 96 ≤ 26 := fun k hk => by
    have := h k hk
    omega
  rcases c with rfl | rfl | rfl | rfl | rfl | rfl | rfl
  · omega
  · have := u 0 (by omega)
    omega
  · have := u 0 (by omega)
    have := u 1 (by omega)
    omega
  · have := u 0 (by omega)
    have := u 1 (by omega)
    have := u 2 (by omega)
    omega
  · have := u 0 (by omega)
    have := u 1 (by omega)
    have := u 2 (by omega)
    have := u 3 (by omega)
    omega
  · have := u 0 (by omega)
    have := u 1 (by omega)
    have := u 2 (by omega)
    have := u 3 (by omega)
    have := u 4 (by omega)
    omega
  · have := u 0 (by omega)
    have := u 1 (by omega)
    have := u 2 (by omega)
    have := u 3 (by omega)
    have := u 4 (by omega)
    have := u 5 (by omega)
    omega
theorem yzen_inj {f g : Nat → Int} : ∀ {a b : Nat}, (∀ k, k < a → 97 ≤ f k ∧ f k ≤ 122) → (∀ k, k < b → 97 ≤ g k ∧ g k ≤ 122) → yzen f a = yzen g b → a = b ∧ ∀ k, k < a → f k = g k
  | 0, 0, _, _, _ => ⟨rfl, fun k hk => absurd hk (Nat.not_lt_zero _)⟩
  | 0, b + 1, _, hg, e => by
    have h1 := yzen_nn (f := g) (n := b) (fun k hk => hg k (by omega))
    have h2 := hg b (by omega)
    have e' : (0 : Int) = 32 * yzen g b + (g b - 96) := e
    omega
  | a + 1, 0, hf, _, e => by
    have h1 := yzen_nn (f := f) (n := a) (fun k hk => hf k (by omega))
    have h2 := hf a (by omega)
    have e' : 32 * yzen f a + (f a - 96) = (0 : Int) := e
    omega
  | a + 1, b + 1, hf, hg, e => by
    have h2 := hf a (by omega)
    have h3 := hg b (by omega)
    have e' : 32 * yzen f a + (f a - 96) = 32 * yzen g b + (g b - 96) := e
    obtain ⟨q1, q2⟩ := yzen_inj (f := f) (g := g) (a := a) (b := b) (fun k hk => hf k (by omega)) (fun k hk => hg k (by omega)) (by omega)
    subst q1
    refine ⟨rfl, fun k hk => ?_⟩
    by_cases c : k = a
    · subst c
      omega
    · exact q2 k (by omega)
theorem yzhl_c {f g : Nat → Int} : ∀ {k : Nat}, (∀ j, j < k → f j = g j) → zhl f k = zhl g k
  | 0, _ => rfl
  | k + 1, h => by
    rw [zhl_s, zhl_s, yzhl_c (f := f) (g := g) (k := k) (fun j hj => h j (by omega)), h k (by omega)]
theorem does_letter {n sn pn mn j : Nat} {p : Int} {s : zS} (h : yR n sn j pn mn s) (hj : j < 8) (hp : 97 ≤ p ∧ p ≤ 122) : ∃ σ1, fL_does 5 p 0 0 0 s = some (0, (j : Int) + 1, σ1) ∧ yR n sn (j + 1) pn mn σ1 ∧ σ1 0 8 = s 0 8 ∧ σ1 4 j = p ∧ ∀ k, k < j → σ1 4 k = s 4 k := by
  obtain ⟨gA, gT, gN, gS, gP⟩ := yR_iv h
  have hc := yc_letter gT hj hp
  have hI := yG_letter h.1 ⟨by omega, by omega⟩ hc
  obtain ⟨σ1, hσ⟩ : ∃ z, z = zsu (zsu (zG s) 4 j p) 0 7 ((j : Int) + 1) := ⟨_, rfl⟩
  rw [← hσ] at hc hI
  have eσ : ∀ k m, (k < 168 ∨ 192 ≤ k) → ¬ (k = 4 ∧ m = j) → ¬ (k = 0 ∧ m = 7) → σ1 k m = s k m := fun k m a b c => by
    rw [hσ, zsu_o (by omega), zsu_o (by omega), zG_ok s k a]
  obtain ⟨g0, g1, g2, g3, g4, g5, gA, gS, gN, gP⟩ := h
  refine ⟨σ1, ?_, ⟨hI, by rw [eσ 0 5 (by omega) (by omega) (by omega)]; exact g1, by rw [eσ 0 6 (by omega) (by omega) (by omega)]; exact g2, by rw [hσ, zsu_at]; rfl, by rw [eσ 3 3 (by omega) (by omega) (by omega)]; exact g4, by rw [eσ 3 4 (by omega) (by omega) (by omega)]; exact g5, yA_congr (fun k m q => eσ k m (by unfold QA at q; omega) (by unfold QA at q; omega) (by unfold QA at q; omega)) gA, yS_congr gA.1 (fun k m q => eσ k m (by unfold QS at q; omega) (by unfold QS at q; omega) (by unfold QS at q; omega)) gS, yN_congr gS.1 (fun k m q => eσ k m (by unfold QN at q; omega) (by unfold QN at q; omega) (by unfold QN at q; omega)) gN, yP_congr (fun k m q => eσ k m (by unfold QP at q; omega) (by unfold QP at q; omega) (by unfold QP at q; omega)) gP⟩, eσ 0 8 (by omega) (by omega) (by omega), by rw [hσ, zsu_o (by omega), zsu_at], fun k hk => eσ 4 k (by omega) (by omega) (by omega)⟩
  unfold fL_does
  rw [w32_5, if_neg (by decide), w32_1, if_neg (by decide), w32_2, if_neg (by decide), w32_3, if_neg (by decide), w32_4, if_neg (by decide), show p % 65536 = p by omega, hc, zbnH_0, w32_id (x := (j : Int) + 1) (by omega) (by omega)]
theorem does_0 {a v : Int} {t : Nat} {s σ1 : zS} (h : fX6_ship a (zG s) = some (t, v, σ1)) (ht : t = 0 ∨ t = 3) (hv : -1 ≤ v ∧ v ≤ 100) : fL_does 0 a 0 0 0 s = some (0, if t = 0 then v else -13, σ1) := by
  unfold fL_does
  rw [w32_0, if_pos rfl, h]
  rcases ht with rfl | rfl
  · rw [zbnH_0, if_pos rfl, w32_id (x := v) (by omega) (by omega)]
  · rw [zbnH_t (by decide), if_neg (by decide), if_neg (by decide), if_pos rfl, if_neg (by decide)]
section TS
variable {kf : Int → Int → Int → zS → zO} {T : Nat} {now y : Int}
/-- what a new ship changes -/
theorem ship_R {sn pn mn ln a : Nat} {snd : Int} {M : Nat → Int} {s s' : zS} {tn : Nat} (h : yR 6 sn tn pn mn s) (hsn : sn < 3) (ha : a < 6) (hI : Iv 1000000000 (zG s')) (hln : ln ≤ 6) (hM : ∀ k, k < ln → 97 ≤ M k ∧ M k ≤ 122) (hsnd : snd = yzen M ln)
    (g1 : s' 0 6 = (sn : Int) + 1) (g2 : s' 0 7 = 0) (g3 : ∀ j, j < 6 → s' (30 + sn) j = if j = a then 64 else 0) (g4 : s' (36 + sn) 3 = -1) (g5 : s' (36 + sn) 4 = -1) (g6 : s' (36 + sn) 2 = ln) (g7 : ∀ k, k < ln → s' (42 + sn) k = M k) (g8 : s' 9 sn = snd) (g9 : ∀ j, j < 6 → s' 194 (6 * sn + j) = if j = a then 64 else 0) (g10 : s' 196 sn = -1) (g11 : s' 205 1 = (sn : Int) + 1)
    (e : ∀ k m, (k < 168 ∨ 192 ≤ k) → ¬ (k = 0 ∧ (m = 6 ∨ m = 7)) → ¬ (k = 36 + sn ∧ (m = 2 ∨ m = 3 ∨ m = 4)) → k ≠ 30 + sn → k ≠ 42 + sn → ¬ (k = 9 ∧ m = sn) → ¬ (k = 194 ∧ 6 * sn ≤ m ∧ m < 6 * sn + 6) → ¬ (k = 196 ∧ m = sn) → ¬ (k = 205 ∧ m = 1) → k ≠ 4 → s' k m = s k m) : yR 6 (sn + 1) 0 pn mn s' := by
  obtain ⟨h0, h1, h2, h3, h4, h5, hA, ⟨b1, b2, b3⟩, hN, hP⟩ := h
  refine ⟨hI, by rw [e 0 5 (by omega) (by omega) (by omega) (by omega) (by omega) (by omega) (by omega) (by omega) (by omega) (by omega)]; exact h1, g1, g2, by rw [e 3 3 (by omega) (by omega) (by omega) (by omega) (by omega) (by omega) (by omega) (by omega) (by omega) (by omega)]; exact h4, by rw [e 3 4 (by omega) (by omega) (by omega) (by omega) (by omega) (by omega) (by omega) (by omega) (by omega) (by omega)]; exact h5, yA_congr (fun k m q => ?_) hA, ⟨by omega, g11, fun i hi => ?_⟩, fun i hi => ?_, yP_congr (fun k m q => ?_) hP⟩
  · unfold QA at q
    exact e k m (by omega) (by omega) (by omega) (by omega) (by omega) (by omega) (by omega) (by omega) (by omega) (by omega)
  · by_cases c : i = sn
    · subst c
      obtain ⟨q1, q2, q3⟩ := b3 i hi
      rw [if_neg (by omega)] at q1
      refine ⟨?_, fun _ => ⟨by rw [g10, g5], ?_⟩, fun j hj => by rw [g9 j hj, g3 j hj, if_pos (show i < i + 1 by omega)]⟩
      · rw [e 195 i (by omega) (by omega) (by omega) (by omega) (by omega) (by omega) (by omega) (by omega) (by omega) (by omega), q1, if_pos (by omega), g4]
        rfl
      · unfold yCo
        rw [g4, g5]
        exact ⟨fun _ => Or.inl rfl, fun _ => rfl⟩
    · obtain ⟨q1, q2, q3⟩ := b3 i hi
      have ei : ∀ k m, QS k m → k < 168 → ¬ (k = 30 + sn) → ¬ (k = 36 + sn) → s' k m = s k m := fun k m q r1 r2 r3 => by
        unfold QS at q
        exact e k m (by omega) (by omega) (by omega) (by omega) (by omega) (by omega) (by omega) (by omega) (by omega) (by omega)
      refine ⟨?_, fun hs => ⟨?_, ?_⟩, fun j hj => ?_⟩
      · rw [e 195 i (by omega) (by omega) (by omega) (by omega) (by omega) (by omega) (by omega) (by omega) (by omega) (by omega), q1]
        by_cases d : i < sn
        · rw [if_pos d, if_pos (by omega), ei (36 + i) 3 (by unfold QS; omega) (by omega) (by omega) (by omega)]
        · rw [if_neg d, if_neg (by omega)]
      · rw [e 196 i (by omega) (by omega) (by omega) (by omega) (by omega) (by omega) (by omega) (by omega) (by omega) (by omega), ei (36 + i) 4 (by unfold QS; omega) (by omega) (by omega) (by omega)]
        exact (q2 (by omega)).1
      · have co := (q2 (by omega)).2
        have el : zLM (yhm s') (s' (30 + i)) 6 = zLM (yhm s) (s (30 + i)) 6 := zLM_congr (fun j hj => ei (10 + j) 2 (by unfold QS; omega) (by omega) (by omega) (by omega)) (fun j hj => ei (30 + i) j (by unfold QS; omega) (by omega) (by omega) (by omega))
        unfold yCo at co ⊢
        rw [ei (36 + i) 4 (by unfold QS; omega) (by omega) (by omega) (by omega), ei (36 + i) 3 (by unfold QS; omega) (by omega) (by omega) (by omega), el]
        exact co
      · rw [e 194 _ (by omega) (by omega) (by omega) (by omega) (by omega) (by omega) (by omega) (by omega) (by omega) (by omega), q3 j hj]
        by_cases d : i < sn
        · rw [if_pos d, if_pos (by omega), ei (30 + i) j (by unfold QS; omega) (by omega) (by omega) (by omega)]
        · rw [if_neg d, if_neg (by omega)]
  · by_cases c : i = sn
    · subst c
      refine ⟨ln, hln, g6, fun k hk => by rw [g7 k hk]; exact hM k hk, ?_⟩
      rw [g8, hsnd]
      exact yzen_congr (fun k hk => (g7 k hk).symm)
    · obtain ⟨l, l1, l2, l3, l4⟩ := hN i (by omega)
      have e42 : s' (42 + i) = s (42 + i) := funext fun m => e _ _ (by omega) (by omega) (by omega) (by omega) (by omega) (by omega) (by omega) (by omega) (by omega) (by omega)
      refine ⟨l, l1, ?_, by rw [e42]; exact l3, ?_⟩
      · rw [e (36 + i) 2 (by omega) (by omega) (by omega) (by omega) (by omega) (by omega) (by omega) (by omega) (by omega) (by omega)]
        exact l2
      · rw [e 9 i (by omega) (by omega) (by omega) (by omega) (by omega) (by omega) (by omega) (by omega) (by omega) (by omega), e42]
        exact l4
  · unfold QP at q
    exact e k m (by omega) (by omega) (by omega) (by omega) (by omega) (by omega) (by omega) (by omega) (by omega) (by omega)
theorem t_ship (hk : ∀ now s, yRa (T + 1) now s → yFin (kf now 1 ((T : Int) + 1) s)) (hT6 : 6 ≤ T) (hT : T < 130) (hy : 0 ≤ y ∧ y ≤ 2147483647) {sn pn mn tn a : Nat} {s : zS} (h : yR 6 sn tn pn mn s) (h8 : s 0 8 = now) (hnow : 0 ≤ now ∧ now ≤ 200000 * (T : Int)) (hsn : sn < 3) (ha : a < 6) (htn : 1 ≤ tn ∧ tn ≤ 6) {snd : Int} (hsnd : snd = yzen (zhl (s 4) tn).2 (zhl (s 4) tn).1) : ∀ (f k : Nat) (th : Int), k ≤ sn → sn < k + f → (th = 1 ∧ (∃ j, j < k ∧ s 9 j = snd) ∨ th = 0 ∧ ∀ j, j < k → s 9 j ≠ snd) → yFin (fL_law_l552 kf f now 1 (T : Int) y (a : Int) snd th (k : Int) s) := by
  obtain ⟨gA, gT, gN, gS, gP⟩ := yR_iv h
  obtain ⟨g0, g1, g2, g3, g4, g5, hA, hS, hN, hP⟩ := id h
  have e4 : zG s 4 = s 4 := zG_ok s 4 (by omega)
  have rg : ∀ j, j < tn → 97 ≤ s 4 j ∧ s 4 j ≤ 122 := fun j hj => by
    have q := gT.2.2.2 j hj
    rw [e4] at q
    omega
  obtain ⟨z1, z2, z3⟩ := zhl_rg (f := s 4) (k := tn) rg
  have snb : 0 ≤ snd ∧ snd ≤ 1073741823 := by
    rw [hsnd]
    exact ⟨yzen_nn z2, yzen_ub (by omega) z2⟩
  have al : ∀ j, j < sn → (s 9 j = snd ↔ yAl (zG s) j (zhl (s 4) tn).1 (zhl (s 4) tn).2) := fun j hj => by
    obtain ⟨l, l1, l2, l3, l4⟩ := hN j hj
    have hs3 := hS.1
    unfold yAl
    rw [zG_ok s (36 + j) (by omega), zG_ok s (42 + j) (by omega), l4, hsnd, l2]
    constructor
    · intro e
      obtain ⟨q1, q2⟩ := yzen_inj l3 z2 e
      exact ⟨by omega, fun q hq => q2 q (by omega)⟩
    · rintro ⟨q1, q2⟩
      have e : l = (zhl (s 4) tn).1 := by omega
      subst e
      exact yzen_congr q2
  have nb : ∀ j, j < sn → 0 ≤ s 9 j ∧ s 9 j ≤ 1073741823 := fun j hj => by
    obtain ⟨l, l1, l2, l3, l4⟩ := hN j hj
    rw [l4]
    exact ⟨yzen_nn l3, yzen_ub l1 l3⟩
  have cs := yc_ship (B := 0) (p := a) gA gT gS ha (by omega) (by omega)
  rw [e4] at cs
  intro f
  induction f with
  | zero => intro k th q1 q2; omega
  | succ f ih =>
    intro k th q1 q2 hth
    rw [fL_law_l552, yg1, yn1, hS.2.1, w32_nat (n := sn) (by omega), w32_nat (n := k) (by omega), w32_1]
    by_cases c : k = sn
    · have c' : sn = k := c.symm
      subst c'
      rw [if_pos (Int.le_refl _), if_neg (by decide)]
      -- behind the first call nothing is typed
      have second : ∀ (k' : Nat) (th : Int) (σ1 : zS), Iv 1000000000 (zG σ1) → σ1 0 5 = (6 : Nat) → σ1 0 6 = k' → σ1 0 7 = (0 : Nat) → σ1 3 3 = pn → σ1 3 4 = mn → yFin (fL_law_j649 kf now 1 (T : Int) y (a : Int) snd th (zG σ1)) → yFin (fL_law_j625 kf now (T : Int) y (a : Int) snd th σ1) := fun k' th σ1 i0 i1 i2 i3 i4 i5 hf => by
        obtain ⟨vA, vT, vN, vS, vP⟩ := yIvG i0 i1 i2 i3 i4 i5
        have d := does_0 (yc_ship0 vA vT ha) (Or.inr rfl) ⟨by omega, by omega⟩
        rw [if_neg (by decide)] at d
        unfold fL_law_j625
        rw [d, zbn0_0, if_pos rfl]
        exact hf
      rcases hth with ⟨t1, j, t2, t3⟩ | ⟨t1, t2⟩
      · obtain ⟨σ1, s1, s2, s3⟩ := cs.1 ⟨j, t2, (al j t2).mp t3⟩
        have hI := yG_ship h.1 ⟨by omega, by omega⟩ s1
        have d := does_0 s1 (Or.inl rfl) ⟨by omega, by omega⟩
        rw [if_pos rfl] at d
        have eσ : ∀ k m, (k < 168 ∨ 192 ≤ k) → ¬ (k = 0 ∧ m = 7) → ¬ (k = 36 + sn ∧ m = 2) → k ≠ 42 + sn → σ1 k m = s k m := fun k m a b c d => by
          rw [s3 k m b c d, zG_ok s k a]
        rw [d, zbn0_0, t1, w32_1, if_neg (by decide), if_pos rfl]
        have i5 : σ1 0 5 = (6 : Nat) := by rw [eσ 0 5 (by omega) (by omega) (by omega) (by omega)]; exact g1
        have i6 : σ1 0 6 = sn := by rw [eσ 0 6 (by omega) (by omega) (by omega) (by omega)]; exact g2
        have i33 : σ1 3 3 = pn := by rw [eσ 3 3 (by omega) (by omega) (by omega) (by omega)]; exact g4
        have i34 : σ1 3 4 = mn := by rw [eσ 3 4 (by omega) (by omega) (by omega) (by omega)]; exact g5
        refine second sn 1 σ1 hI i5 i6 s2 i33 i34 ?_
        unfold fL_law_j649
        rw [w32_1, if_neg (by decide)]
        have hI2 : Iv 1000000000 (zG (zG σ1)) := yG_8 hI (fun _ _ => rfl)
        have e2 : ∀ k m, (k < 168 ∨ 192 ≤ k) → ¬ (k = 0 ∧ m = 7) → ¬ (k = 36 + sn ∧ m = 2) → k ≠ 42 + sn → zG σ1 k m = s k m := fun k m a b c d => by
          rw [zG_ok σ1 k a, eσ k m a b c d]
        have R2 : yR 6 sn 0 pn mn (zG σ1) := by
          refine ⟨hI2, by rw [e2 0 5 (by omega) (by omega) (by omega) (by omega)]; exact g1, by rw [e2 0 6 (by omega) (by omega) (by omega) (by omega)]; exact g2, by rw [zG_ok σ1 0 (by omega)]; exact s2, by rw [e2 3 3 (by omega) (by omega) (by omega) (by omega)]; exact g4, by rw [e2 3 4 (by omega) (by omega) (by omega) (by omega)]; exact g5, yA_congr (fun k m q => e2 k m (by unfold QA at q; omega) (by unfold QA at q; omega) (by unfold QA at q; omega) (by unfold QA at q; omega)) hA, yS_congr hA.1 (fun k m q => e2 k m (by unfold QS at q; omega) (by unfold QS at q; omega) (by unfold QS at q; omega) (by unfold QS at q; omega)) hS, fun i hi => ?_, yP_congr (fun k m q => e2 k m (by unfold QP at q; omega) (by unfold QP at q; omega) (by unfold QP at q; omega) (by unfold QP at q; omega)) hP⟩
          obtain ⟨l, l1, l2, l3, l4⟩ := hN i hi
          have e42 : zG σ1 (42 + i) = s (42 + i) := funext fun m => e2 _ _ (by omega) (by omega) (by omega) (by omega)
          exact ⟨l, l1, by rw [e2 (36 + i) 2 (by omega) (by omega) (by omega) (by omega)]; exact l2, by rw [e42]; exact l3, by rw [e2 9 i (by omega) (by omega) (by omega) (by omega), e42]; exact l4⟩
        exact j2003_v hk hT hy (yRa_6 hT6 R2 (by rw [e2 0 8 (by omega) (by omega) (by omega) (by omega)]; exact h8) hnow.1 (by omega))
      · obtain ⟨σ1, s1, s2, s3, s4, s5, s6, s7, s8, s9⟩ := cs.2 (fun j hj q => t2 j hj ((al j hj).mpr q))
        have hI := yG_ship h.1 ⟨by omega, by omega⟩ s1
        have d := does_0 s1 (Or.inl rfl) ⟨by omega, by omega⟩
        rw [if_pos rfl] at d
        have eσ : ∀ k m, (k < 168 ∨ 192 ≤ k) → ¬ (k = 0 ∧ (m = 6 ∨ m = 7)) → ¬ (k = 36 + sn ∧ (m = 2 ∨ m = 3 ∨ m = 4)) → k ≠ 30 + sn → k ≠ 42 + sn → σ1 k m = s k m := fun k m a b c d f => by
          rw [s9 k m b c d f, zG_ok s k a]
        have e205 : σ1 205 1 = sn := by rw [eσ 205 1 (by omega) (by omega) (by omega) (by omega) (by omega)]; exact hS.2.1
        rw [d, zbn0_0, t1, w32_0, if_pos rfl, e205, w32_nat (n := sn) (by omega), if_pos rfl]
        have i5 : σ1 0 5 = (6 : Nat) := by rw [eσ 0 5 (by omega) (by omega) (by omega) (by omega) (by omega)]; exact g1
        have i6 : σ1 0 6 = ((sn + 1 : Nat) : Int) := s3
        have i33 : σ1 3 3 = pn := by rw [eσ 3 3 (by omega) (by omega) (by omega) (by omega) (by omega)]; exact g4
        have i34 : σ1 3 4 = mn := by rw [eσ 3 4 (by omega) (by omega) (by omega) (by omega) (by omega)]; exact g5
        refine second (sn + 1) 0 σ1 hI i5 i6 s2 i33 i34 ?_
        have hI2 : Iv 1000000000 (zG (zG σ1)) := yG_8 hI (fun _ _ => rfl)
        obtain ⟨ω, hω⟩ : ∃ z, z = zG σ1 := ⟨_, rfl⟩
        have eω : ∀ k, (k < 168 ∨ 192 ≤ k) → ω k = σ1 k := fun k a => by rw [hω, zG_ok σ1 k a]
        rw [← hω] at hI2 ⊢
        have w205 : ω 205 1 = sn := by rw [eω 205 (by omega)]; exact e205
        obtain ⟨w1, hw1⟩ : ∃ z, z = zsu ω 9 sn snd := ⟨_, rfl⟩
        have w1205 : w1 205 1 = sn := by rw [hw1, zsu_o (by omega)]; exact w205
        obtain ⟨w2, hw2⟩ : ∃ z, z = zsu w1 194 (6 * sn + a) 64 := ⟨_, rfl⟩
        have w2205 : w2 205 1 = sn := by rw [hw2, zsu_o (by omega)]; exact w1205
        obtain ⟨w3, hw3⟩ : ∃ z, z = zsu w2 196 sn (-1) := ⟨_, rfl⟩
        have w3205 : w3 205 1 = sn := by rw [hw3, zsu_o (by omega)]; exact w2205
        have e6 : (6 * (sn : Int)) + (a : Int) = ((6 * sn + a : Nat) : Int) := by omega
        unfold fL_law_j649
        rw [w32_0, if_pos rfl, yg1, yn1, w205, w32_nat (n := sn) (by omega), zchk_p (by omega), zsto_d, Int.toNat_natCast, ← hw1, yg1, w1205, e6, w32_nat (n := 6 * sn + a) (by omega), zchk_p (by omega), zsto_d, Int.toNat_natCast, ← hw2, yg1, w2205, w32_nat (n := sn) (by omega), zchk_p (by omega), zsto_d, Int.toNat_natCast, ← hw3, yg1, yg1, zsto_d, w3205]
        have ef : ∀ k m, k ≠ 9 → k ≠ 194 → k ≠ 196 → k ≠ 205 → zsu w3 205 1 ((sn : Int) + 1) k m = ω k m := fun k m a b c d => by
          rw [zsu_o (by omega), hw3, zsu_o (by omega), hw2, zsu_o (by omega), hw1, zsu_o (by omega)]
        obtain ⟨q1, q2, q3⟩ := hS.2.2 sn hsn
        have R2 : yR 6 (sn + 1) 0 pn mn (zsu w3 205 1 ((sn : Int) + 1)) := by
          refine ship_R h hsn ha (yG_law hI2 (fun k a b => funext fun m => ef k m b (by omega) (by omega) (by omega))) (ln := (zhl (s 4) tn).1) (by omega) z2 hsnd ?_ ?_ (fun j hj => ?_) ?_ ?_ ?_ (fun j hj => ?_) ?_ (fun j hj => ?_) ?_ (zsu_at _ _ _ _) (fun k m a b c d f g i j l p => ?_)
          · rw [ef 0 6 (by omega) (by omega) (by omega) (by omega), eω 0 (by omega)]; exact s3
          · rw [ef 0 7 (by omega) (by omega) (by omega) (by omega), eω 0 (by omega)]; exact s2
          · rw [ef _ _ (by omega) (by omega) (by omega) (by omega), eω _ (by omega)]; exact s4 j (by omega)
          · rw [ef _ _ (by omega) (by omega) (by omega) (by omega), eω _ (by omega)]; exact s5
          · rw [ef _ _ (by omega) (by omega) (by omega) (by omega), eω _ (by omega)]; exact s6
          · rw [ef _ _ (by omega) (by omega) (by omega) (by omega), eω _ (by omega)]; exact s7
          · rw [ef _ _ (by omega) (by omega) (by omega) (by omega), eω _ (by omega)]; exact s8 j hj
          · rw [zsu_o (by omega), hw3, zsu_o (by omega), hw2, zsu_o (by omega), hw1, zsu_at]
          · rw [zsu_o (by omega), hw3, zsu_o (by omega), hw2]
            by_cases cj : j = a
            · rw [if_pos cj, cj, zsu_at]
            · rw [if_neg cj, zsu_o (by omega), hw1, zsu_o (by omega), eω _ (by omega), eσ _ _ (by omega) (by omega) (by omega) (by omega) (by omega), q3 j hj, if_neg (by omega)]
          · rw [zsu_o (by omega), hw3, zsu_at]
          · rw [zsu_o l, hw3, zsu_o j, hw2, zsu_o (by omega), hw1, zsu_o g, eω k a, eσ k m a b c d f]
        refine j2003_v hk hT hy (yRa_6 hT6 R2 ?_ hnow.1 (by omega))
        rw [ef 0 8 (by omega) (by omega) (by omega) (by omega), eω 0 (by omega), eσ 0 8 (by omega) (by omega) (by omega) (by omega) (by omega)]
        exact h8
    · have hk' : k < sn := by omega
      have x1 : (k : Int) + 1 = ((k + 1 : Nat) : Int) := rfl
      have b := nb k hk'
      rw [if_neg (by omega)]
      rcases hth with ⟨t1, j, t2, t3⟩ | ⟨t1, t2⟩
      · rw [t1, w32_1, if_neg (by decide), x1]
        exact ih (k + 1) 1 (by omega) (by omega) (Or.inl ⟨rfl, j, by omega, t3⟩)
      · rw [t1, w32_0, if_pos rfl, zchk_p (by omega), Int.toNat_natCast, w64_id (x := s 9 k) (by omega) (by omega), w64_id (x := snd) (by omega) (by omega), x1]
        by_cases d : s 9 k = snd
        · rw [if_pos d]
          exact ih (k + 1) 1 (by omega) (by omega) (Or.inl ⟨rfl, k, by omega, d⟩)
        · rw [if_neg d]
          refine ih (k + 1) 0 (by omega) (by omega) (Or.inr ⟨rfl, fun j hj => ?_⟩)
          by_cases e : j = k
          · rw [e]
            exact d
          · exact t2 j (by omega)
/-- what was heard last, as the law has it -/
def yBf (f : Nat → Int) (j : Nat) : Int := if (zhl f j).1 = 0 then 0 else (zhl f j).2 ((zhl f j).1 - 1) - 96
theorem t_type (hk : ∀ now s, yRa (T + 1) now s → yFin (kf now 1 ((T : Int) + 1) s)) (hT6 : 6 ≤ T) (hT : T < 130) (hy : 0 ≤ y ∧ y ≤ 2147483647) {sn pn mn a many : Nat} (hnow : 0 ≤ now ∧ now ≤ 200000 * (T : Int)) (hsn : sn < 3) (ha : a < 6) (hm : 1 ≤ many ∧ many ≤ 6) : ∀ (f j : Nat) (rest snd bef : Int) (s : zS), j ≤ many → many < j + f → 0 ≤ rest ∧ rest ≤ 2147483647 → yR 6 sn j pn mn s → s 0 8 = now → snd = yzen (zhl (s 4) j).2 (zhl (s 4) j).1 → bef = yBf (s 4) j → yFin (fL_law_l400 kf f now 1 (T : Int) y (a : Int) snd bef (many : Int) (j : Int) rest s) := by
  intro f
  induction f with
  | zero => intro j rest snd bef s q1 q2; omega
  | succ f ih =>
    intro j rest snd bef s q1 q2 hr h h8 hsnd hbef
    rw [fL_law_l400, w32_nat (n := many) (by omega), w32_nat (n := j) (by omega)]
    by_cases c : j = many
    · subst c
      rw [if_pos (Int.le_refl _)]
      exact t_ship hk hT6 hT hy h h8 hnow hsn ha hm hsnd zfu 0 0 (Nat.zero_le _) (by unfold zfu; omega) (Or.inr ⟨rfl, fun j hj => absurd hj (Nat.not_lt_zero _)⟩)
    · obtain ⟨gA, gT, gN, gS, gP⟩ := yR_iv h
      have e4 : zG s 4 = s 4 := zG_ok s 4 (by omega)
      have rg : ∀ q, q < j → 97 ≤ s 4 q ∧ s 4 q ≤ 122 := fun q hq => by
        have r := gT.2.2.2 q hq
        rw [e4] at r
        omega
      obtain ⟨z1, z2, z3⟩ := zhl_rg (f := s 4) (k := j) rg
      have bb : 0 ≤ bef ∧ bef ≤ 26 := by
        rw [hbef]
        unfold yBf
        split
        · omega
        · have := z2 ((zhl (s 4) j).1 - 1) (by omega)
          omega
      have x1 : (j : Int) + 1 = ((j + 1 : Nat) : Int) := rfl
      have key : ∀ p : Int, p = 97 ∨ p = 98 ∨ p = 99 ∨ p = 101 → yFin (fL_law_j449 (fun y17 y19 y20 y23 y25 y27 y29 y30 y31 y32 sx => fL_law_l400 kf f y17 y19 y20 y23 y25 y27 y29 y30 y31 y32 sx) now 1 (T : Int) y (a : Int) snd bef (many : Int) (j : Int) rest p s) := fun p hp => by
        obtain ⟨σ1, d1, d2, d3, d4, d5⟩ := does_letter (p := p) h (by omega) (by omega)
        have zc : zhl (σ1 4) j = zhl (s 4) j := yzhl_c d5
        have hr5 : 0 ≤ (w32 rest).tdiv 5 ∧ (w32 rest).tdiv 5 ≤ 2147483647 := by
          rw [w32_id (x := rest) (by omega) (by omega), ytd hr.1]
          omega
        have zs := zhl_s (σ1 4) j
        rw [zc, d4] at zs
        have d3' : σ1 0 8 = now := d3.trans h8
        unfold fL_law_j449
        rw [w32_1, if_neg (by decide), d1, zbn0_0, zchk_p (by omega), w32_id (x := (j : Int) + 1) (by omega) (by omega), if_pos rfl]
        -- the letter is not heard
        have same : ((p = 97 ∨ p = 101 ∨ p = 105 ∨ p = 111 ∨ p = 117) ∨ ((zhl (s 4) j).1 ≠ 0 ∧ (zhl (s 4) j).2 ((zhl (s 4) j).1 - 1) = p)) → yFin (fL_law_l400 kf f now 1 (T : Int) y (a : Int) snd bef (many : Int) ((j : Int) + 1) ((w32 rest).tdiv 5) σ1) := fun hd => by
          rw [if_pos hd] at zs
          rw [x1]
          exact ih (j + 1) _ snd bef σ1 (by omega) (by omega) hr5 d2 d3' (by rw [zs]; exact hsnd) (by unfold yBf; rw [zs]; exact hbef)
        unfold fL_law_j480
        have vow : (p = 97 ∨ p = 101) → yFin (fL_law_j506 (fun y17 y19 y20 y23 y25 y27 y29 y30 y31 y32 sx => fL_law_l400 kf f y17 y19 y20 y23 y25 y27 y29 y30 y31 y32 sx) now 1 (T : Int) y (a : Int) snd bef (many : Int) (j : Int) rest bef σ1) := fun hv => by
          unfold fL_law_j506 fL_law_j530
          rw [if_pos rfl]
          exact same (Or.inl (by omega))
        rw [w32_id (x := p) (by omega) (by omega), w32_97, w32_101]
        by_cases v1 : p = 97
        · rw [if_pos v1]
          exact vow (Or.inl v1)
        · by_cases v2 : p = 101
          · rw [if_neg v1, if_pos v2]
            exact vow (Or.inr v2)
          · rw [if_neg v1, if_neg v2]
            unfold fL_law_j506 fL_law_j530
            rw [w32_id (x := p - 96) (by omega) (by omega), w32_id (x := bef) (by omega) (by omega)]
            by_cases v3 : p - 96 = bef
            · rw [if_pos v3, v3]
              refine same (Or.inr ?_)
              rw [hbef] at v3
              unfold yBf at v3
              by_cases l0 : (zhl (s 4) j).1 = 0
              · rw [if_pos l0] at v3
                omega
              · rw [if_neg l0] at v3
                exact ⟨l0, by omega⟩
            · rw [if_neg v3]
              have hd : ¬ ((p = 97 ∨ p = 101 ∨ p = 105 ∨ p = 111 ∨ p = 117) ∨ ((zhl (s 4) j).1 ≠ 0 ∧ (zhl (s 4) j).2 ((zhl (s 4) j).1 - 1) = p)) := by
                rintro (q | ⟨q, r⟩)
                · omega
                · apply v3
                  rw [hbef]
                  unfold yBf
                  rw [if_neg q, r]
              rw [if_neg hd] at zs
              rw [x1]
              refine ih (j + 1) _ _ _ σ1 (by omega) (by omega) hr5 d2 d3' ?_ ?_
              · rw [zs]
                show 32 * snd + (p - 96) = 32 * yzen (fun q => if q = (zhl (s 4) j).1 then p else (zhl (s 4) j).2 q) (zhl (s 4) j).1 + ((if (zhl (s 4) j).1 = (zhl (s 4) j).1 then p else (zhl (s 4) j).2 (zhl (s 4) j).1) - 96)
                rw [if_pos rfl, hsnd, yzen_congr (f := fun q => if q = (zhl (s 4) j).1 then p else (zhl (s 4) j).2 q) (g := (zhl (s 4) j).2) (fun q hq => if_neg (by omega))]
              · unfold yBf
                rw [zs]
                show p - 96 = if (zhl (s 4) j).1 + 1 = 0 then 0 else (if (zhl (s 4) j).1 + 1 - 1 = (zhl (s 4) j).1 then p else (zhl (s 4) j).2 ((zhl (s 4) j).1 + 1 - 1)) - 96
                rw [if_neg (by omega), if_pos (by omega)]
      rw [if_neg (by omega)]
      by_cases r0 : w32 ((w32 rest).tmod 5) = 0
      · rw [if_pos r0]
        exact key 97 (by omega)
      · rw [if_neg r0]
        by_cases r3 : w32 ((w32 rest).tmod 5) = w32 3
        · rw [if_pos r3]
          exact key 101 (by omega)
        · rw [if_neg r3]
          by_cases r4 : w32 ((w32 rest).tmod 5) = w32 4
          · rw [if_pos r4]
            exact key 99 (by omega)
          · rw [if_neg r4]
            exact key 98 (by omega)
end TS
