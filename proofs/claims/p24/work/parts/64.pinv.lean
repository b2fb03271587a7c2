/-! ===== the invariant: class and reference hold the same ===== -/
def zpt (σ : zS) : Nat → Nat → Int := fun j k => σ 171 (10 * j + k)
/-- parties -/
def IA (n : Nat) (σ : zS) : Prop :=
  n ≤ 10 ∧ σ 0 5 = n ∧ σ 168 3 = n ∧ (∀ j, j < n → -1 ≤ σ 170 j ∧ σ 170 j ≤ 3 ∧ σ (10 + j) 1 = (if σ 170 j = -1 then 1 else 0) ∧ σ (10 + j) 2 = zFH (σ 170) (zpt σ) n 5 j) ∧
  (∀ j k, j < 10 → k < 10 → σ (20 + j) k = σ 171 (10 * j + k) ∧ 0 ≤ σ 171 (10 * j + k) ∧ σ 171 (10 * j + k) ≤ 64 ∧ (n ≤ j ∨ n ≤ k → σ 171 (10 * j + k) = 0)) ∧
  (∀ j, j < 10 → zsum (fun k => σ 171 (10 * j + k)) 10 ≤ 64) ∧ (∀ j, j < 10 → σ (10 + j) 4 = σ 187 j)
def RA (k m : Nat) : Prop := (k = 0 ∧ m = 5) ∨ (k = 168 ∧ m = 3) ∨ k = 170 ∨ k = 171 ∨ k = 187 ∨ (10 ≤ k ∧ k < 20 ∧ (m = 1 ∨ m = 2 ∨ m = 4)) ∨ (20 ≤ k ∧ k < 30)
theorem IA_congr {n : Nat} {σ σ' : zS} (h : ∀ k m, RA k m → σ' k m = σ k m) (hI : IA n σ) : IA n σ' := by
  have e170 : σ' 170 = σ 170 := funext fun m => h 170 m (by unfold RA; omega)
  have e171 : σ' 171 = σ 171 := funext fun m => h 171 m (by unfold RA; omega)
  have e187 : σ' 187 = σ 187 := funext fun m => h 187 m (by unfold RA; omega)
  have ep : zpt σ' = zpt σ := by unfold zpt; rw [e171]
  obtain ⟨h1, h2, h3, h4, h5, h6, h7⟩ := hI
  refine ⟨h1, (h 0 5 (by unfold RA; omega)).trans h2, (h 168 3 (by unfold RA; omega)).trans h3, fun j hj => ?_, fun j k hj hk => ?_, ?_, fun j hj => ?_⟩
  · rw [e170, ep, h (10 + j) 1 (by unfold RA; omega), h (10 + j) 2 (by unfold RA; omega)]
    exact h4 j hj
  · rw [e171, h (20 + j) k (by unfold RA; omega)]
    exact h5 j k hj hk
  · rw [e171]
    exact h6
  · rw [e187, h (10 + j) 4 (by unfold RA; omega)]
    exact h7 j hj
/-- letters typed -/
def IT (tn : Nat) (σ : zS) : Prop := tn ≤ 8 ∧ σ 0 7 = tn ∧ σ 168 1 = tn ∧ ∀ j, j < tn → σ 4 j = σ 169 j ∧ 97 ≤ σ 169 j ∧ σ 169 j ≤ 122
def RT (k m : Nat) : Prop := (k = 0 ∧ m = 7) ∨ (k = 168 ∧ m = 1) ∨ k = 4 ∨ k = 169
theorem IT_congr {tn : Nat} {σ σ' : zS} (h : ∀ k m, RT k m → σ' k m = σ k m) (hI : IT tn σ) : IT tn σ' := by
  have e4 : σ' 4 = σ 4 := funext fun m => h 4 m (by unfold RT; omega)
  have e169 : σ' 169 = σ 169 := funext fun m => h 169 m (by unfold RT; omega)
  obtain ⟨h1, h2, h3, h4⟩ := hI
  refine ⟨h1, (h 0 7 (by unfold RT; omega)).trans h2, (h 168 1 (by unfold RT; omega)).trans h3, ?_⟩
  rw [e4, e169]
  exact h4
/-- the minute -/
def IN (B : Int) (σ : zS) : Prop := 0 ≤ σ 168 0 ∧ σ 168 0 ≤ B ∧ σ 0 8 = σ 168 0 ∧ B ≤ 1000000000
def RN (k m : Nat) : Prop := (k = 0 ∧ m = 8) ∨ (k = 168 ∧ m = 0)
theorem IN_congr {B : Int} {σ σ' : zS} (h : ∀ k m, RN k m → σ' k m = σ k m) (hI : IN B σ) : IN B σ' := by
  unfold IN
  rw [h 0 8 (by unfold RN; omega), h 168 0 (by unfold RN; omega)]
  exact hI
/-- a ship: its shares, flag, grace, sound -/
def IS1 (n i : Nat) (σ : zS) : Prop :=
  (∀ j, j < 10 → σ (30 + i) j = σ 173 (10 * i + j) ∧ 0 ≤ σ 173 (10 * i + j) ∧ (n ≤ j → σ 173 (10 * i + j) = 0)) ∧ zsum (fun j => σ 173 (10 * i + j)) 10 = 64 ∧
  σ (36 + i) 3 = σ 174 i ∧ -1 ≤ σ 174 i ∧ σ 174 i ≤ 3 ∧ σ (36 + i) 4 = σ 175 i ∧ -1 ≤ σ 175 i ∧ σ 175 i ≤ σ 168 0 ∧ (σ 174 i = -1 → σ 175 i = -1) ∧
  ∃ ln : Nat, ln ≤ 8 ∧ σ (36 + i) 2 = ln ∧ ∀ k, k < 8 → (k < ln → σ (42 + i) k = σ 172 (8 * i + k) ∧ 97 ≤ σ 172 (8 * i + k) ∧ σ 172 (8 * i + k) ≤ 122) ∧ (ln ≤ k → σ 172 (8 * i + k) = 0)
def IS (n sn : Nat) (σ : zS) : Prop := sn ≤ 6 ∧ σ 0 6 = sn ∧ σ 168 6 = sn ∧ (∀ i, i < sn → IS1 n i σ) ∧ ∀ i, sn ≤ i → i < 6 → ∀ j, j < 10 → σ 173 (10 * i + j) = 0
def RS (k m : Nat) : Prop := (k = 0 ∧ m = 6) ∨ (k = 168 ∧ (m = 6 ∨ m = 0)) ∨ (172 ≤ k ∧ k ≤ 175) ∨ (30 ≤ k ∧ k < 36) ∨ (36 ≤ k ∧ k < 48)
theorem IS1_congr {n i : Nat} {σ σ' : zS} (hi : i < 6) (h : ∀ k m, RS k m → σ' k m = σ k m) (hI : IS1 n i σ) : IS1 n i σ' := by
  have e172 : σ' 172 = σ 172 := funext fun m => h 172 m (by unfold RS; omega)
  have e173 : σ' 173 = σ 173 := funext fun m => h 173 m (by unfold RS; omega)
  have e174 : σ' 174 = σ 174 := funext fun m => h 174 m (by unfold RS; omega)
  have e175 : σ' 175 = σ 175 := funext fun m => h 175 m (by unfold RS; omega)
  have e30 : σ' (30 + i) = σ (30 + i) := funext fun m => h (30 + i) m (by unfold RS; omega)
  have e36 : σ' (36 + i) = σ (36 + i) := funext fun m => h (36 + i) m (by unfold RS; omega)
  have e42 : σ' (42 + i) = σ (42 + i) := funext fun m => h (42 + i) m (by unfold RS; omega)
  have e0 : σ' 168 0 = σ 168 0 := h 168 0 (by unfold RS; omega)
  unfold IS1
  rw [e172, e173, e174, e175, e30, e36, e42, e0]
  exact hI
theorem IS_congr {n sn : Nat} {σ σ' : zS} (h : ∀ k m, RS k m → σ' k m = σ k m) (hI : IS n sn σ) : IS n sn σ' := by
  have e173 : σ' 173 = σ 173 := funext fun m => h 173 m (by unfold RS; omega)
  obtain ⟨h1, h2, h3, h4, h5⟩ := hI
  refine ⟨h1, (h 0 6 (by unfold RS; omega)).trans h2, (h 168 6 (by unfold RS; omega)).trans h3, fun i hi => IS1_congr (by omega) h (h4 i hi), ?_⟩
  rw [e173]
  exact h5
/-- what stands of the mortgages on a ship, from the first k papers, up to a minute: M's findBook -/
def zrp (σ : zS) (sh T : Int) : Nat → Nat → Int
  | 0, _ => 0
  | k + 1, m => if σ 177 k = sh ∧ σ 181 k ≤ T then (if σ 176 k = 5 then 0 else if (σ 176 k = 1 ∨ σ 176 k = 2 ∨ σ 176 k = 3) ∧ σ 180 k = m then (if σ 176 k = 2 then 0 else 1) else zrp σ sh T k m) else zrp σ sh T k m
/-- a paper -/
def IP1 (n sn mn pn i : Nat) (σ : zS) : Prop :=
  0 ≤ σ 176 i ∧ σ 176 i ≤ 5 ∧ σ (48 + i) 0 = σ 176 i ∧ σ (48 + i) 1 = σ 177 i ∧ 0 ≤ σ 177 i ∧ σ 177 i < sn ∧ σ (48 + i) 2 = σ 178 i ∧ 0 ≤ σ 178 i ∧ σ 178 i < n ∧ σ (48 + i) 3 = σ 181 i ∧ 0 ≤ σ 181 i ∧ σ 181 i ≤ σ 168 0 ∧ (∀ j, j < i → σ 181 j ≤ σ 181 i) ∧
  σ (48 + i) 8 = σ 182 i ∧ (σ 182 i = 0 ∨ σ 182 i = 1) ∧ (σ 183 i = 0 ∨ σ 183 i = 1) ∧ (σ 176 i = 4 → σ (48 + i) 4 = σ 179 i ∧ 1 ≤ σ 179 i ∧ σ 179 i ≤ 1000000000 ∧ σ (48 + i) 5 = σ 180 i ∧ 0 ≤ σ 180 i ∧ σ 180 i ≤ 3) ∧
  (σ 176 i = 1 ∨ σ 176 i = 2 ∨ σ 176 i = 3 → ∃ m : Nat, m < mn ∧ σ 180 i = m ∧ σ (48 + i) 6 = m ∧ σ (48 + i) 7 = σ 185 m ∧ σ 177 i = σ 177 (σ 184 m).toNat) ∧ (σ 176 i = 0 ∨ σ 176 i = 4 → σ (48 + i) 7 = -1) ∧
  (σ 183 i = 1 ↔ ∃ j, i < j ∧ j < pn ∧ σ 176 j = 5 ∧ σ 177 j = σ 177 i)
/-- a mortgage -/
def IM1 (mn pn m : Nat) (σ : zS) : Prop :=
  ∃ row pl : Nat, row < pn ∧ σ 184 m = row ∧ σ (108 + m) 4 = row ∧ σ 176 row = 1 ∧ σ 180 row = m ∧ σ (108 + m) 0 = σ 177 row ∧ σ (108 + m) 1 = σ 178 row ∧ σ (108 + m) 2 = σ 179 row ∧ 1 ≤ σ 179 row ∧ σ 179 row ≤ 1000000000 ∧
    σ 185 m = pl ∧ σ (108 + m) 3 = pl ∧ pl ≤ row ∧ (pl = row ∨ (pl < row ∧ σ 176 pl = 0 ∧ σ 182 pl = 1)) ∧ (σ 186 m = 0 ∨ σ 186 m = 1) ∧ (∀ m2, m2 < mn → σ 185 m2 = σ 185 m → m2 = m) ∧
    (zrp σ (σ 177 row) (σ 168 0) pn m = (if σ 183 row = 0 ∧ σ 186 m = 0 then 1 else 0))
def IP (n sn pn mn : Nat) (σ : zS) : Prop :=
  pn ≤ 60 ∧ mn ≤ pn ∧ σ 3 3 = pn ∧ σ 168 11 = pn ∧ σ 3 4 = mn ∧ σ 168 20 = mn ∧ (∀ i, i < pn → IP1 n sn mn pn i σ) ∧ (∀ i, pn ≤ i → i < 60 → σ 182 i = 0 ∧ σ 183 i = 0 ∧ σ (48 + i) 6 = -1 ∧ σ (48 + i) 7 = -1 ∧ σ (48 + i) 8 = 0) ∧
  (∀ m, m < mn → IM1 mn pn m σ) ∧ ∀ m, mn ≤ m → m < 60 → σ 186 m = 0
def RP (k m : Nat) : Prop := (k = 3 ∧ (m = 3 ∨ m = 4)) ∨ (k = 168 ∧ (m = 0 ∨ m = 11 ∨ m = 20)) ∨ (176 ≤ k ∧ k ≤ 186) ∨ (48 ≤ k ∧ k < 168)
theorem zrp_congr {σ σ' : zS} (h : ∀ k m, RP k m → σ' k m = σ k m) (sh T : Int) : ∀ k m, zrp σ' sh T k m = zrp σ sh T k m
  | 0, _ => rfl
  | k + 1, m => by
    show (if σ' 177 k = sh ∧ σ' 181 k ≤ T then (if σ' 176 k = 5 then 0 else if (σ' 176 k = 1 ∨ σ' 176 k = 2 ∨ σ' 176 k = 3) ∧ σ' 180 k = m then (if σ' 176 k = 2 then 0 else 1) else zrp σ' sh T k m) else zrp σ' sh T k m) = _
    rw [h 177 k (by unfold RP; omega), h 181 k (by unfold RP; omega), h 176 k (by unfold RP; omega), h 180 k (by unfold RP; omega), zrp_congr h sh T k m]
    rfl
theorem IP_congr {n sn pn mn : Nat} {σ σ' : zS} (h : ∀ k m, RP k m → σ' k m = σ k m) (hI : IP n sn pn mn σ) : IP n sn pn mn σ' := by
  have er : ∀ k, 176 ≤ k → k ≤ 186 → σ' k = σ k := fun k h1 h2 => funext fun m => h k m (by unfold RP; omega)
  have e48 : ∀ k, 48 ≤ k → k < 168 → σ' k = σ k := fun k h1 h2 => funext fun m => h k m (by unfold RP; omega)
  have e176 := er 176 (by decide) (by decide)
  have e177 := er 177 (by decide) (by decide)
  have e178 := er 178 (by decide) (by decide)
  have e179 := er 179 (by decide) (by decide)
  have e180 := er 180 (by decide) (by decide)
  have e181 := er 181 (by decide) (by decide)
  have e182 := er 182 (by decide) (by decide)
  have e183 := er 183 (by decide) (by decide)
  have e184 := er 184 (by decide) (by decide)
  have e185 := er 185 (by decide) (by decide)
  have e186 := er 186 (by decide) (by decide)
  have e0 : σ' 168 0 = σ 168 0 := h 168 0 (by unfold RP; omega)
  obtain ⟨h1, h2, h3, h4, h5, h6, h7, h8, h9, h10⟩ := hI
  refine ⟨h1, h2, (h 3 3 (by unfold RP; omega)).trans h3, (h 168 11 (by unfold RP; omega)).trans h4, (h 3 4 (by unfold RP; omega)).trans h5, (h 168 20 (by unfold RP; omega)).trans h6, fun i hi => ?_, fun i q1 q2 => ?_, fun m hm => ?_, ?_⟩
  · have h11 := h7 i hi
    unfold IP1 at h11 ⊢
    rw [e176, e177, e178, e179, e180, e181, e182, e183, e184, e185, e0, e48 (48 + i) (by omega) (by omega)]
    exact h11
  · rw [e182, e183, e48 (48 + i) (by omega) (by omega)]
    exact h8 i q1 q2
  · obtain ⟨row, pl, h11⟩ := h9 m hm
    refine ⟨row, pl, ?_⟩
    rw [e176, e177, e178, e179, e180, e182, e183, e184, e185, e186, e0, e48 (108 + m) (by omega) (by omega), zrp_congr h]
    exact h11
  · rw [e186]
    exact h10
/-- class and reference hold the same; B: a bound of the minute -/
def Iv (B : Int) (σ : zS) : Prop := ∃ n sn tn pn mn : Nat, IA n σ ∧ IT tn σ ∧ IN B σ ∧ IS n sn σ ∧ IP n sn pn mn σ
/-- what no part of the invariant speaks of -/
def Rfree (k m : Nat) : Prop := k = 5 ∨ k = 8 ∨ k = 9 ∨ (188 ≤ k) ∨ (k = 168 ∧ (m = 25 ∨ m = 29)) ∨ (10 ≤ k ∧ k < 20 ∧ m = 3)
theorem Iv_free {B : Int} {σ σ' : zS} (h : ∀ k m, ¬ Rfree k m → σ' k m = σ k m) (hI : Iv B σ) : Iv B σ' := by
  obtain ⟨n, sn, tn, pn, mn, h1, h2, h3, h4, h5⟩ := hI
  refine ⟨n, sn, tn, pn, mn, IA_congr (fun k m q => h k m ?_) h1, IT_congr (fun k m q => h k m ?_) h2, IN_congr (fun k m q => h k m ?_) h3, IS_congr (fun k m q => h k m ?_) h4, IP_congr (fun k m q => h k m ?_) h5⟩
  · unfold RA at q; unfold Rfree; omega
  · unfold RT at q; unfold Rfree; omega
  · unfold RN at q; unfold Rfree; omega
  · unfold RS at q; unfold Rfree; omega
  · unfold RP at q; unfold Rfree; omega
