def zA (σ s : zS) : Prop := ∀ k, ¬ (168 ≤ k ∧ k < 192) → s k = σ k
theorem zA_rf {σ : zS} : zA σ σ := fun _ _ => rfl
def zLc (σ : zS) (x : zO) : Prop := ∀ t v s', x = some (t, v, s') → zA σ s'
theorem zLc_none {σ : zS} : zLc σ none := fun _ _ _ h => by cases h
theorem zLc_some {σ s : zS} {t : Nat} {v : Int} (h : zA σ s) : zLc σ (some (t, v, s)) := fun _ _ _ e => by cases e; exact h
theorem zLc_chk {σ : zS} {c : Prop} {i : Decidable c} {x : zO} (h : zLc σ x) : zLc σ (@zchk c i x) := fun t v s' e => h t v s' (zchk_some e).2
theorem zLc_ite {σ : zS} {c : Prop} {i : Decidable c} {x y : zO} (h1 : zLc σ x) (h2 : zLc σ y) : zLc σ (@ite _ c i x y) := by
  by_cases g : c
  · rw [if_pos g]; exact h1
  · rw [if_neg g]; exact h2
theorem zLc_sto {σ s : zS} {k j : Nat} {v : Int} {f : zS → zO} (hk : 168 ≤ k ∧ k < 192) (hs : zA σ s) (h : ∀ s', zA σ s' → zLc σ (f s')) : zLc σ (zsto s k j v f) :=
  h _ (fun q hq => (zsu_row (fun e => hq (by rw [e]; exact hk))).trans (hs q hq))
theorem zLc_bn0 {σ : zS} {x : zO} {f : Int → zS → zO} (hx : zLc σ x) (h : ∀ v s', zA σ s' → zLc σ (f v s')) : zLc σ (zbn0 x f) := fun t v s' e => by
  obtain ⟨v1, s1, e1, e2⟩ := zbn0_some e
  exact h v1 s1 (hx _ _ _ e1) t v s' e2
theorem loX7_thrown {σ : zS} {s0 : zS} (h0 : zA σ s0) : zLc σ (fX7_thrown s0) := by
  unfold fX7_thrown
  exact (zLc_some h0)
theorem loX7_in {σ : zS} {p1 : Int} {p2 : Int} {p3 : Int} {s0 : zS} (h0 : zA σ s0) : zLc σ (fX7_in p1 p2 p3 s0) := by
  unfold fX7_in
  exact (zLc_ite (zLc_some h0) (zLc_ite (zLc_some h0) (zLc_some h0)))
theorem loX7_isLand {σ : zS} {p1 : Int} {s0 : zS} (h0 : zA σ s0) : zLc σ (fX7_isLand p1 s0) := by
  unfold fX7_isLand
  exact (zLc_bn0 (loX7_in h0) (fun _ _ h1 => (zLc_chk (zLc_some h1))))
theorem loX7_isParty {σ : zS} {p1 : Int} {s0 : zS} (h0 : zA σ s0) : zLc σ (fX7_isParty p1 s0) := by
  unfold fX7_isParty
  exact (zLc_bn0 (loX7_in h0) (fun _ _ h1 => (zLc_chk (zLc_some h1))))
theorem loX7_isShip {σ : zS} {p1 : Int} {s0 : zS} (h0 : zA σ s0) : zLc σ (fX7_isShip p1 s0) := by
  unfold fX7_isShip
  exact (zLc_bn0 (loX7_in h0) (fun _ _ h1 => (zLc_chk (zLc_some h1))))
theorem loX7_isMortgage {σ : zS} {p1 : Int} {s0 : zS} (h0 : zA σ s0) : zLc σ (fX7_isMortgage p1 s0) := by
  unfold fX7_isMortgage
  exact (zLc_bn0 (loX7_in h0) (fun _ _ h1 => (zLc_chk (zLc_some h1))))
theorem loX7_letter {σ : zS} {p1 : Int} {s0 : zS} (h0 : zA σ s0) : zLc σ (fX7_letter p1 s0) := by
  unfold fX7_letter
  exact (zLc_ite (zLc_sto ⟨by decide, by decide⟩ h0 (fun _ h1 => (zLc_some h1))) (zLc_ite (zLc_ite (zLc_sto ⟨by decide, by decide⟩ h0 (fun _ h2 => (zLc_some h2))) (zLc_sto ⟨by decide, by decide⟩ h0 (fun _ h3 => (zLc_chk (zLc_sto ⟨by decide, by decide⟩ h3 (fun _ h4 => (zLc_sto ⟨by decide, by decide⟩ h4 (fun _ h5 => (zLc_some h5))))))))) (zLc_sto ⟨by decide, by decide⟩ h0 (fun _ h6 => (zLc_some h6)))))
theorem loX7_person {σ : zS} {p1 : Int} {s0 : zS} (h0 : zA σ s0) : zLc σ (fX7_person p1 s0) := by
  unfold fX7_person
  exact (zLc_bn0 (loX7_isLand h0) (fun _ _ h1 => (zLc_ite (zLc_sto ⟨by decide, by decide⟩ h1 (fun _ h2 => (zLc_some h2))) (zLc_ite (zLc_sto ⟨by decide, by decide⟩ h1 (fun _ h3 => (zLc_some h3))) (zLc_sto ⟨by decide, by decide⟩ h1 (fun _ h4 => (zLc_chk (zLc_sto ⟨by decide, by decide⟩ h4 (fun _ h5 => (zLc_sto ⟨by decide, by decide⟩ h5 (fun _ h6 => (zLc_some h6))))))))))))
theorem loX7_company {σ : zS} {s0 : zS} (h0 : zA σ s0) : zLc σ (fX7_company s0) := by
  unfold fX7_company
  exact (zLc_ite (zLc_sto ⟨by decide, by decide⟩ h0 (fun _ h1 => (zLc_some h1))) (zLc_sto ⟨by decide, by decide⟩ h0 (fun _ h2 => (zLc_chk (zLc_sto ⟨by decide, by decide⟩ h2 (fun _ h3 => (zLc_sto ⟨by decide, by decide⟩ h3 (fun _ h4 => (zLc_some h4)))))))))
theorem loX7_landOf_l12 {σ : zS} {kf : Int → Int → zS → zO} (hk : ∀ (y0 : Int) (y1 : Int) (s : zS), zA σ s → zLc σ (kf y0 y1 s)) : ∀ (n : Nat) {x1 : Int} {x2 : Int} {x3 : Int} {x4 : Int} {s0 : zS}, zA σ s0 → zLc σ (fX7_landOf_l12 kf n x1 x2 x3 x4 s0) := by
  intro n
  induction n with
  | zero =>
    intro _ _ _ _ _ _
    exact zLc_none
  | succ n ih =>
    intro _ _ _ _ _ h0
    unfold fX7_landOf_l12
    exact (zLc_ite (zLc_ite (hk _ _ _ h0) (zLc_some h0)) (zLc_chk (zLc_ite (zLc_chk (ih h0)) (ih h0))))
theorem loX7_landOf_l2 {σ : zS} : ∀ (n : Nat) {x1 : Int} {x2 : Int} {s0 : zS}, zA σ s0 → zLc σ (fX7_landOf_l2 n x1 x2 s0) := by
  intro n
  induction n with
  | zero =>
    intro _ _ _ _
    exact zLc_none
  | succ n ih =>
    intro _ _ _ h0
    unfold fX7_landOf_l2
    exact (zLc_ite (zLc_some h0) (loX7_landOf_l12 (fun _ _ _ hq => (ih hq)) _ h0))
theorem loX7_landOf {σ : zS} {p1 : Int} {s0 : zS} (h0 : zA σ s0) : zLc σ (fX7_landOf p1 s0) := by
  unfold fX7_landOf
  exact (loX7_landOf_l2 _ h0)
theorem loX7_findLands_l83 {σ : zS} {kf : Int → zS → zO} (hk : ∀ (y0 : Int) (s : zS), zA σ s → zLc σ (kf y0 s)) : ∀ (n : Nat) {x1 : Int} {x2 : Int} {s0 : zS}, zA σ s0 → zLc σ (fX7_findLands_l83 kf n x1 x2 s0) := by
  intro n
  induction n with
  | zero =>
    intro _ _ _ _
    exact zLc_none
  | succ n ih =>
    intro _ _ _ h0
    unfold fX7_findLands_l83
    exact (zLc_ite (hk _ _ h0) (zLc_chk (zLc_chk (zLc_sto ⟨by decide, by decide⟩ h0 (fun _ h1 => (ih h1))))))
theorem loX7_findLands_l37 {σ : zS} {kf : Int → zS → zO} (hk : ∀ (y0 : Int) (s : zS), zA σ s → zLc σ (kf y0 s)) : ∀ (n : Nat) {x1 : Int} {x2 : Int} {s0 : zS}, zA σ s0 → zLc σ (fX7_findLands_l37 kf n x1 x2 s0) := by
  intro n
  induction n with
  | zero =>
    intro _ _ _ _
    exact zLc_none
  | succ n ih =>
    intro _ _ _ h0
    unfold fX7_findLands_l37
    exact (zLc_ite (loX7_findLands_l83 hk _ h0) (zLc_chk (zLc_ite (zLc_bn0 (loX7_landOf h0) (fun _ _ h1 => (zLc_chk (zLc_sto ⟨by decide, by decide⟩ h1 (fun _ h2 => (ih h2)))))) (zLc_chk (zLc_chk (zLc_sto ⟨by decide, by decide⟩ h0 (fun _ h3 => (ih h3))))))))
theorem loX7_findLands_l30 {σ : zS} : ∀ (n : Nat) {x1 : Int} {s0 : zS}, zA σ s0 → zLc σ (fX7_findLands_l30 n x1 s0) := by
  intro n
  induction n with
  | zero =>
    intro _ _ _
    exact zLc_none
  | succ n ih =>
    intro _ _ h0
    unfold fX7_findLands_l30
    exact (zLc_ite (zLc_some h0) (loX7_findLands_l37 (fun _ _ hq => (ih hq)) _ h0))
theorem loX7_findLands_l2 {σ : zS} : ∀ (n : Nat) {x1 : Int} {s0 : zS}, zA σ s0 → zLc σ (fX7_findLands_l2 n x1 s0) := by
  intro n
  induction n with
  | zero =>
    intro _ _ _
    exact zLc_none
  | succ n ih =>
    intro _ _ h0
    unfold fX7_findLands_l2
    exact (zLc_ite (loX7_findLands_l30 _ h0) (zLc_chk (zLc_chk (zLc_sto ⟨by decide, by decide⟩ h0 (fun _ h1 => (ih h1))))))
theorem loX7_findLands {σ : zS} {s0 : zS} (h0 : zA σ s0) : zLc σ (fX7_findLands s0) := by
  unfold fX7_findLands
  exact (loX7_findLands_l2 _ h0)
theorem loX7_canFly_l9 {σ : zS} : ∀ (n : Nat) {x1 : Int} {x2 : Int} {x3 : Int} {x4 : Int} {s0 : zS}, zA σ s0 → zLc σ (fX7_canFly_l9 n x1 x2 x3 x4 s0) := by
  intro n
  induction n with
  | zero =>
    intro _ _ _ _ _ _
    exact zLc_none
  | succ n ih =>
    intro _ _ _ _ _ h0
    unfold fX7_canFly_l9
    exact (zLc_ite (zLc_ite (zLc_some h0) (zLc_some h0)) (zLc_chk (zLc_ite (zLc_chk (ih h0)) (ih h0))))
theorem loX7_canFly {σ : zS} {p1 : Int} {p2 : Int} {s0 : zS} (h0 : zA σ s0) : zLc σ (fX7_canFly p1 p2 s0) := by
  unfold fX7_canFly
  exact (zLc_bn0 (loX7_findLands h0) (fun _ _ h1 => (loX7_canFly_l9 _ h1)))
theorem loX7_lookAtFlag {σ : zS} {p1 : Int} {s0 : zS} (h0 : zA σ s0) : zLc σ (fX7_lookAtFlag p1 s0) := by
  unfold fX7_lookAtFlag
  exact (zLc_chk (zLc_ite (zLc_some h0) (zLc_chk (zLc_bn0 (loX7_canFly h0) (fun _ _ h1 => (zLc_ite (zLc_chk (zLc_ite (zLc_chk (zLc_sto ⟨by decide, by decide⟩ h1 (fun _ h2 => (zLc_some h2)))) (zLc_chk (zLc_chk (zLc_sto ⟨by decide, by decide⟩ h1 (fun _ h3 => (zLc_some h3))))))) (zLc_chk (zLc_sto ⟨by decide, by decide⟩ h1 (fun _ h4 => (zLc_some h4))))))))))
theorem loX7_part_l159 {σ : zS} : ∀ (n : Nat) {x4 : Int} {x5 : Int} {s0 : zS}, zA σ s0 → zLc σ (fX7_part_l159 n x4 x5 s0) := by
  intro n
  induction n with
  | zero =>
    intro _ _ _ _
    exact zLc_none
  | succ n ih =>
    intro _ _ _ h0
    unfold fX7_part_l159
    exact (zLc_ite (zLc_some h0) (zLc_bn0 (loX7_lookAtFlag h0) (fun _ _ h1 => (ih h1))))
theorem loX7_part_l64 {σ : zS} : ∀ (n : Nat) {x1 : Int} {x2 : Int} {x3 : Int} {x4 : Int} {x5 : Int} {s0 : zS}, zA σ s0 → zLc σ (fX7_part_l64 n x1 x2 x3 x4 x5 s0) := by
  intro n
  induction n with
  | zero =>
    intro _ _ _ _ _ _ _
    exact zLc_none
  | succ n ih =>
    intro _ _ _ _ _ _ h0
    unfold fX7_part_l64
    exact (zLc_ite (zLc_chk (zLc_ite (zLc_ite (zLc_sto ⟨by decide, by decide⟩ h0 (fun _ h1 => (zLc_chk (zLc_chk (zLc_sto ⟨by decide, by decide⟩ h1 (fun _ h2 => (loX7_part_l159 _ h2))))))) (zLc_sto ⟨by decide, by decide⟩ h0 (fun _ h3 => (zLc_some h3)))) (zLc_sto ⟨by decide, by decide⟩ h0 (fun _ h4 => (zLc_some h4))))) (zLc_chk (ih h0)))
theorem loX7_part {σ : zS} {p1 : Int} {p2 : Int} {p3 : Int} {s0 : zS} (h0 : zA σ s0) : zLc σ (fX7_part p1 p2 p3 s0) := by
  unfold fX7_part
  exact (zLc_bn0 (loX7_isParty h0) (fun _ _ h1 => (zLc_ite (zLc_sto ⟨by decide, by decide⟩ h1 (fun _ h2 => (zLc_some h2))) (zLc_bn0 (loX7_isParty h1) (fun _ _ h3 => (zLc_ite (zLc_sto ⟨by decide, by decide⟩ h3 (fun _ h4 => (zLc_some h4))) (zLc_bn0 (loX7_in h3) (fun _ _ h5 => (zLc_ite (zLc_sto ⟨by decide, by decide⟩ h5 (fun _ h6 => (zLc_some h6))) (zLc_sto ⟨by decide, by decide⟩ h5 (fun _ h7 => (zLc_chk (loX7_part_l64 _ h7)))))))))))))
theorem loX7_land {σ : zS} {p1 : Int} {s0 : zS} (h0 : zA σ s0) : zLc σ (fX7_land p1 s0) := by
  unfold fX7_land
  exact (zLc_bn0 (loX7_isParty h0) (fun _ _ h1 => (zLc_ite (zLc_sto ⟨by decide, by decide⟩ h1 (fun _ h2 => (zLc_some h2))) (zLc_sto ⟨by decide, by decide⟩ h1 (fun _ h3 => (zLc_bn0 (loX7_findLands h3) (fun _ _ h4 => (zLc_chk (zLc_some h4)))))))))
theorem loX7_isVowel {σ : zS} {p1 : Int} {s0 : zS} (h0 : zA σ s0) : zLc σ (fX7_isVowel p1 s0) := by
  unfold fX7_isVowel
  exact (zLc_ite (zLc_some h0) (zLc_ite (zLc_some h0) (zLc_ite (zLc_some h0) (zLc_ite (zLc_some h0) (zLc_ite (zLc_some h0) (zLc_some h0))))))
theorem loX7_hear_l25 {σ : zS} : ∀ (n : Nat) {x1 : Int} {x2 : Int} {s0 : zS}, zA σ s0 → zLc σ (fX7_hear_l25 n x1 x2 s0) := by
  intro n
  induction n with
  | zero =>
    intro _ _ _ _
    exact zLc_none
  | succ n ih =>
    intro _ _ _ h0
    unfold fX7_hear_l25
    exact (zLc_ite (zLc_some h0) (zLc_chk (zLc_bn0 (loX7_isVowel h0) (fun _ _ h1 => (zLc_ite (zLc_ite (zLc_chk (zLc_chk (zLc_sto ⟨by decide, by decide⟩ h1 (fun _ h2 => (ih h2))))) (zLc_chk (zLc_chk (zLc_ite (ih h1) (zLc_chk (zLc_chk (zLc_sto ⟨by decide, by decide⟩ h1 (fun _ h3 => (ih h3))))))))) (ih h1))))))
theorem loX7_hear_l4 {σ : zS} : ∀ (n : Nat) {x1 : Int} {x2 : Int} {s0 : zS}, zA σ s0 → zLc σ (fX7_hear_l4 n x1 x2 s0) := by
  intro n
  induction n with
  | zero =>
    intro _ _ _ _
    exact zLc_none
  | succ n ih =>
    intro _ _ _ h0
    unfold fX7_hear_l4
    exact (zLc_ite (loX7_hear_l25 _ h0) (zLc_chk (zLc_sto ⟨by decide, by decide⟩ h0 (fun _ h1 => (ih h1)))))
theorem loX7_hear {σ : zS} {s0 : zS} (h0 : zA σ s0) : zLc σ (fX7_hear s0) := by
  unfold fX7_hear
  exact (loX7_hear_l4 _ h0)
theorem loX7_isHeard_l4 {σ : zS} : ∀ (n : Nat) {x1 : Int} {x2 : Int} {x3 : Int} {s0 : zS}, zA σ s0 → zLc σ (fX7_isHeard_l4 n x1 x2 x3 s0) := by
  intro n
  induction n with
  | zero =>
    intro _ _ _ _ _
    exact zLc_none
  | succ n ih =>
    intro _ _ _ _ h0
    unfold fX7_isHeard_l4
    exact (zLc_ite (zLc_chk (zLc_some h0)) (zLc_ite (ih h0) (zLc_chk (zLc_chk (zLc_ite (ih h0) (ih h0))))))
theorem loX7_isHeard {σ : zS} {p1 : Int} {s0 : zS} (h0 : zA σ s0) : zLc σ (fX7_isHeard p1 s0) := by
  unfold fX7_isHeard
  exact (loX7_isHeard_l4 _ h0)
theorem loX7_ship_l83 {σ : zS} : ∀ (n : Nat) {x1 : Int} {x2 : Int} {s0 : zS}, zA σ s0 → zLc σ (fX7_ship_l83 n x1 x2 s0) := by
  intro n
  induction n with
  | zero =>
    intro _ _ _ _
    exact zLc_none
  | succ n ih =>
    intro _ _ _ h0
    unfold fX7_ship_l83
    exact (zLc_ite (zLc_chk (zLc_sto ⟨by decide, by decide⟩ h0 (fun _ h1 => (zLc_chk (zLc_sto ⟨by decide, by decide⟩ h1 (fun _ h2 => (zLc_chk (zLc_sto ⟨by decide, by decide⟩ h2 (fun _ h3 => (zLc_sto ⟨by decide, by decide⟩ h3 (fun _ h4 => (zLc_some h4)))))))))))) (zLc_chk (zLc_chk (zLc_sto ⟨by decide, by decide⟩ h0 (fun _ h5 => (ih h5))))))
theorem loX7_ship_l57 {σ : zS} : ∀ (n : Nat) {x1 : Int} {x2 : Int} {s0 : zS}, zA σ s0 → zLc σ (fX7_ship_l57 n x1 x2 s0) := by
  intro n
  induction n with
  | zero =>
    intro _ _ _ _
    exact zLc_none
  | succ n ih =>
    intro _ _ _ h0
    unfold fX7_ship_l57
    exact (zLc_ite (loX7_ship_l83 _ h0) (zLc_bn0 (loX7_isHeard h0) (fun _ _ h1 => (zLc_ite (ih h1) (zLc_some h1)))))
theorem loX7_ship {σ : zS} {p1 : Int} {s0 : zS} (h0 : zA σ s0) : zLc σ (fX7_ship p1 s0) := by
  unfold fX7_ship
  exact (zLc_bn0 (loX7_isParty h0) (fun _ _ h1 => (zLc_ite (zLc_sto ⟨by decide, by decide⟩ h1 (fun _ h2 => (zLc_some h2))) (zLc_ite (zLc_sto ⟨by decide, by decide⟩ h1 (fun _ h3 => (zLc_some h3))) (zLc_ite (zLc_sto ⟨by decide, by decide⟩ h1 (fun _ h4 => (zLc_some h4))) (zLc_sto ⟨by decide, by decide⟩ h1 (fun _ h5 => (zLc_bn0 (loX7_hear h5) (fun _ _ h6 => (zLc_sto ⟨by decide, by decide⟩ h6 (fun _ h7 => (loX7_ship_l57 _ h7))))))))))))
theorem loX7_sell {σ : zS} {p1 : Int} {p2 : Int} {p3 : Int} {p4 : Int} {s0 : zS} (h0 : zA σ s0) : zLc σ (fX7_sell p1 p2 p3 p4 s0) := by
  unfold fX7_sell
  exact (zLc_bn0 (loX7_isShip h0) (fun _ _ h1 => (zLc_ite (zLc_sto ⟨by decide, by decide⟩ h1 (fun _ h2 => (zLc_some h2))) (zLc_bn0 (loX7_isParty h1) (fun _ _ h3 => (zLc_ite (zLc_sto ⟨by decide, by decide⟩ h3 (fun _ h4 => (zLc_some h4))) (zLc_bn0 (loX7_isParty h3) (fun _ _ h5 => (zLc_ite (zLc_sto ⟨by decide, by decide⟩ h5 (fun _ h6 => (zLc_some h6))) (zLc_ite (zLc_sto ⟨by decide, by decide⟩ h5 (fun _ h7 => (zLc_some h7))) (zLc_bn0 (loX7_in h5) (fun _ _ h8 => (zLc_ite (zLc_sto ⟨by decide, by decide⟩ h8 (fun _ h9 => (zLc_some h9))) (zLc_sto ⟨by decide, by decide⟩ h8 (fun _ h10 => (zLc_chk (zLc_ite (zLc_sto ⟨by decide, by decide⟩ h10 (fun _ h11 => (zLc_chk (zLc_chk (zLc_sto ⟨by decide, by decide⟩ h11 (fun _ h12 => (zLc_chk (zLc_chk (zLc_sto ⟨by decide, by decide⟩ h12 (fun _ h13 => (zLc_bn0 (loX7_lookAtFlag h13) (fun _ _ h14 => (zLc_chk (zLc_some h14)))))))))))))) (zLc_sto ⟨by decide, by decide⟩ h10 (fun _ h15 => (zLc_some h15))))))))))))))))))))
theorem loX7_flagNow {σ : zS} {p1 : Int} {s0 : zS} (h0 : zA σ s0) : zLc σ (fX7_flagNow p1 s0) := by
  unfold fX7_flagNow
  exact (zLc_chk (zLc_ite (zLc_chk (zLc_some h0)) (zLc_chk (zLc_ite (zLc_some h0) (zLc_chk (zLc_some h0))))))
theorem loX7_fly {σ : zS} {p1 : Int} {p2 : Int} {s0 : zS} (h0 : zA σ s0) : zLc σ (fX7_fly p1 p2 s0) := by
  unfold fX7_fly
  exact (zLc_bn0 (loX7_isShip h0) (fun _ _ h1 => (zLc_ite (zLc_sto ⟨by decide, by decide⟩ h1 (fun _ h2 => (zLc_some h2))) (zLc_bn0 (loX7_isLand h1) (fun _ _ h3 => (zLc_ite (zLc_sto ⟨by decide, by decide⟩ h3 (fun _ h4 => (zLc_some h4))) (zLc_bn0 (loX7_canFly h3) (fun _ _ h5 => (zLc_ite (zLc_sto ⟨by decide, by decide⟩ h5 (fun _ h6 => (zLc_some h6))) (zLc_sto ⟨by decide, by decide⟩ h5 (fun _ h7 => (zLc_bn0 (loX7_flagNow h7) (fun _ _ h8 => (zLc_chk (zLc_sto ⟨by decide, by decide⟩ h8 (fun _ h9 => (zLc_chk (zLc_sto ⟨by decide, by decide⟩ h9 (fun _ h10 => (zLc_some h10))))))))))))))))))))
theorem loX7_enter {σ : zS} {p1 : Int} {p2 : Int} {p3 : Int} {p4 : Int} {p5 : Int} {s0 : zS} (h0 : zA σ s0) : zLc σ (fX7_enter p1 p2 p3 p4 p5 s0) := by
  unfold fX7_enter
  exact (zLc_chk (zLc_sto ⟨by decide, by decide⟩ h0 (fun _ h1 => (zLc_chk (zLc_sto ⟨by decide, by decide⟩ h1 (fun _ h2 => (zLc_chk (zLc_sto ⟨by decide, by decide⟩ h2 (fun _ h3 => (zLc_chk (zLc_sto ⟨by decide, by decide⟩ h3 (fun _ h4 => (zLc_chk (zLc_sto ⟨by decide, by decide⟩ h4 (fun _ h5 => (zLc_chk (zLc_sto ⟨by decide, by decide⟩ h5 (fun _ h6 => (zLc_sto ⟨by decide, by decide⟩ h6 (fun _ h7 => (zLc_some h7)))))))))))))))))))))
theorem loX7_notice {σ : zS} {p1 : Int} {p2 : Int} {s0 : zS} (h0 : zA σ s0) : zLc σ (fX7_notice p1 p2 s0) := by
  unfold fX7_notice
  exact (zLc_bn0 (loX7_isShip h0) (fun _ _ h1 => (zLc_ite (zLc_sto ⟨by decide, by decide⟩ h1 (fun _ h2 => (zLc_some h2))) (zLc_bn0 (loX7_isParty h1) (fun _ _ h3 => (zLc_ite (zLc_sto ⟨by decide, by decide⟩ h3 (fun _ h4 => (zLc_some h4))) (zLc_ite (zLc_sto ⟨by decide, by decide⟩ h3 (fun _ h5 => (zLc_some h5))) (zLc_sto ⟨by decide, by decide⟩ h3 (fun _ h6 => (zLc_bn0 (loX7_enter h6) (fun _ _ h7 => (zLc_some h7))))))))))))
theorem loX7_noticeFor_l2 {σ : zS} : ∀ (n : Nat) {x1 : Int} {x2 : Int} {x3 : Int} {s0 : zS}, zA σ s0 → zLc σ (fX7_noticeFor_l2 n x1 x2 x3 s0) := by
  intro n
  induction n with
  | zero =>
    intro _ _ _ _ _
    exact zLc_none
  | succ n ih =>
    intro _ _ _ _ h0
    unfold fX7_noticeFor_l2
    exact (zLc_ite (zLc_ite (zLc_some h0) (zLc_some h0)) (zLc_chk (zLc_ite (zLc_chk (zLc_ite (zLc_chk (zLc_ite (zLc_chk (zLc_ite (zLc_chk (zLc_ite (zLc_chk (zLc_ite (zLc_ite (zLc_some h0) (zLc_some h0)) (ih h0))) (ih h0))) (ih h0))) (ih h0))) (ih h0))) (ih h0))))
theorem loX7_noticeFor {σ : zS} {p1 : Int} {p2 : Int} {s0 : zS} (h0 : zA σ s0) : zLc σ (fX7_noticeFor p1 p2 s0) := by
  unfold fX7_noticeFor
  exact (loX7_noticeFor_l2 _ h0)
theorem loX7_mortgage {σ : zS} {p1 : Int} {p2 : Int} {p3 : Int} {s0 : zS} (h0 : zA σ s0) : zLc σ (fX7_mortgage p1 p2 p3 s0) := by
  unfold fX7_mortgage
  exact (zLc_bn0 (loX7_isShip h0) (fun _ _ h1 => (zLc_ite (zLc_sto ⟨by decide, by decide⟩ h1 (fun _ h2 => (zLc_some h2))) (zLc_bn0 (loX7_isParty h1) (fun _ _ h3 => (zLc_ite (zLc_sto ⟨by decide, by decide⟩ h3 (fun _ h4 => (zLc_some h4))) (zLc_bn0 (loX7_in h3) (fun _ _ h5 => (zLc_ite (zLc_sto ⟨by decide, by decide⟩ h5 (fun _ h6 => (zLc_some h6))) (zLc_ite (zLc_sto ⟨by decide, by decide⟩ h5 (fun _ h7 => (zLc_some h7))) (zLc_sto ⟨by decide, by decide⟩ h5 (fun _ h8 => (zLc_bn0 (loX7_noticeFor h8) (fun _ _ h9 => (zLc_chk (zLc_sto ⟨by decide, by decide⟩ h9 (fun _ h10 => (zLc_ite (zLc_chk (zLc_sto ⟨by decide, by decide⟩ h10 (fun _ h11 => (zLc_ite (zLc_bn0 (loX7_enter h11) (fun _ _ h12 => (zLc_sto ⟨by decide, by decide⟩ h12 (fun _ h13 => (zLc_some h13))))) (zLc_chk (zLc_sto ⟨by decide, by decide⟩ h11 (fun _ h14 => (zLc_bn0 (loX7_enter h14) (fun _ _ h15 => (zLc_sto ⟨by decide, by decide⟩ h15 (fun _ h16 => (zLc_some h16)))))))))))) (zLc_chk (zLc_sto ⟨by decide, by decide⟩ h10 (fun _ h17 => (zLc_ite (zLc_bn0 (loX7_enter h17) (fun _ _ h18 => (zLc_sto ⟨by decide, by decide⟩ h18 (fun _ h19 => (zLc_some h19))))) (zLc_chk (zLc_sto ⟨by decide, by decide⟩ h17 (fun _ h20 => (zLc_bn0 (loX7_enter h20) (fun _ _ h21 => (zLc_sto ⟨by decide, by decide⟩ h21 (fun _ h22 => (zLc_some h22))))))))))))))))))))))))))))))
theorem loX7_discharge {σ : zS} {p1 : Int} {p2 : Int} {s0 : zS} (h0 : zA σ s0) : zLc σ (fX7_discharge p1 p2 s0) := by
  unfold fX7_discharge
  exact (zLc_bn0 (loX7_isMortgage h0) (fun _ _ h1 => (zLc_ite (zLc_sto ⟨by decide, by decide⟩ h1 (fun _ h2 => (zLc_some h2))) (zLc_sto ⟨by decide, by decide⟩ h1 (fun _ h3 => (zLc_ite (zLc_sto ⟨by decide, by decide⟩ h3 (fun _ h4 => (zLc_some h4))) (zLc_chk (zLc_chk (zLc_ite (zLc_chk (zLc_ite (zLc_sto ⟨by decide, by decide⟩ h3 (fun _ h5 => (zLc_some h5))) (zLc_sto ⟨by decide, by decide⟩ h3 (fun _ h6 => (zLc_chk (zLc_ite (zLc_chk (zLc_chk (zLc_bn0 (loX7_enter h6) (fun _ _ h7 => (zLc_chk (zLc_chk (zLc_sto ⟨by decide, by decide⟩ h7 (fun _ h8 => (zLc_some h8))))))))) (zLc_chk (zLc_chk (zLc_bn0 (loX7_enter h6) (fun _ _ h9 => (zLc_chk (zLc_chk (zLc_sto ⟨by decide, by decide⟩ h9 (fun _ h10 => (zLc_some h10))))))))))))))) (zLc_sto ⟨by decide, by decide⟩ h3 (fun _ h11 => (zLc_some h11))))))))))))
theorem loX7_lien {σ : zS} {p1 : Int} {p2 : Int} {p3 : Int} {p4 : Int} {s0 : zS} (h0 : zA σ s0) : zLc σ (fX7_lien p1 p2 p3 p4 s0) := by
  unfold fX7_lien
  exact (zLc_bn0 (loX7_isShip h0) (fun _ _ h1 => (zLc_ite (zLc_sto ⟨by decide, by decide⟩ h1 (fun _ h2 => (zLc_some h2))) (zLc_bn0 (loX7_isParty h1) (fun _ _ h3 => (zLc_ite (zLc_sto ⟨by decide, by decide⟩ h3 (fun _ h4 => (zLc_some h4))) (zLc_bn0 (loX7_in h3) (fun _ _ h5 => (zLc_ite (zLc_sto ⟨by decide, by decide⟩ h5 (fun _ h6 => (zLc_some h6))) (zLc_bn0 (loX7_in h5) (fun _ _ h7 => (zLc_ite (zLc_sto ⟨by decide, by decide⟩ h7 (fun _ h8 => (zLc_some h8))) (zLc_ite (zLc_sto ⟨by decide, by decide⟩ h7 (fun _ h9 => (zLc_some h9))) (zLc_sto ⟨by decide, by decide⟩ h7 (fun _ h10 => (zLc_bn0 (loX7_enter h10) (fun _ _ h11 => (zLc_some h11))))))))))))))))))
theorem loX7_isLien {σ : zS} {p1 : Int} {p2 : Int} {s0 : zS} (h0 : zA σ s0) : zLc σ (fX7_isLien p1 p2 s0) := by
  unfold fX7_isLien
  exact (zLc_chk (zLc_ite (zLc_chk (zLc_ite (zLc_chk (zLc_ite (zLc_chk (zLc_ite (zLc_some h0) (zLc_some h0))) (zLc_some h0))) (zLc_some h0))) (zLc_some h0)))
theorem loX7_isThere {σ : zS} {p1 : Int} {p2 : Int} {s0 : zS} (h0 : zA σ s0) : zLc σ (fX7_isThere p1 p2 s0) := by
  unfold fX7_isThere
  exact (zLc_chk (zLc_chk (zLc_ite (zLc_chk (zLc_chk (zLc_ite (zLc_chk (zLc_ite (zLc_some h0) (zLc_some h0))) (zLc_some h0)))) (zLc_some h0))))
theorem loX7_rankOf_l4 {σ : zS} : ∀ (n : Nat) {x1 : Int} {x2 : Int} {x3 : Int} {s0 : zS}, zA σ s0 → zLc σ (fX7_rankOf_l4 n x1 x2 x3 s0) := by
  intro n
  induction n with
  | zero =>
    intro _ _ _ _ _
    exact zLc_none
  | succ n ih =>
    intro _ _ _ _ h0
    unfold fX7_rankOf_l4
    exact (zLc_ite (zLc_some h0) (zLc_chk (zLc_chk (zLc_bn0 (loX7_isThere h0) (fun _ _ h1 => (zLc_ite (ih h1) (zLc_chk (zLc_chk (zLc_ite (ih h1) (ih h1))))))))))
theorem loX7_rankOf {σ : zS} {p1 : Int} {s0 : zS} (h0 : zA σ s0) : zLc σ (fX7_rankOf p1 s0) := by
  unfold fX7_rankOf
  exact (loX7_rankOf_l4 _ h0)
theorem loX7_pays {σ : zS} {p1 : Int} {s0 : zS} (h0 : zA σ s0) : zLc σ (fX7_pays p1 s0) := by
  unfold fX7_pays
  exact (zLc_chk (zLc_ite (zLc_chk (zLc_chk (zLc_chk (zLc_sto ⟨by decide, by decide⟩ h0 (fun _ h1 => (zLc_sto ⟨by decide, by decide⟩ h1 (fun _ h2 => (zLc_some h2)))))))) (zLc_chk (zLc_chk (zLc_chk (zLc_chk (zLc_sto ⟨by decide, by decide⟩ h0 (fun _ h3 => (zLc_sto ⟨by decide, by decide⟩ h3 (fun _ h4 => (zLc_some h4)))))))))))
theorem loX7_paysAll_l122 {σ : zS} : ∀ (n : Nat) {x1 : Int} {x2 : Int} {x4 : Int} {s0 : zS}, zA σ s0 → zLc σ (fX7_paysAll_l122 n x1 x2 x4 s0) := by
  intro n
  induction n with
  | zero =>
    intro _ _ _ _ _
    exact zLc_none
  | succ n ih =>
    intro _ _ _ _ h0
    unfold fX7_paysAll_l122
    exact (zLc_ite (zLc_some h0) (zLc_chk (zLc_chk (zLc_chk (zLc_sto ⟨by decide, by decide⟩ h0 (fun _ h1 => (zLc_sto ⟨by decide, by decide⟩ h1 (fun _ h2 => (ih h2)))))))))
theorem loX7_paysAll_l66 {σ : zS} {kf : Int → Int → zS → zO} (hk : ∀ (y0 : Int) (y1 : Int) (s : zS), zA σ s → zLc σ (kf y0 y1 s)) : ∀ (n : Nat) {x1 : Int} {x2 : Int} {x3 : Int} {s0 : zS}, zA σ s0 → zLc σ (fX7_paysAll_l66 kf n x1 x2 x3 s0) := by
  intro n
  induction n with
  | zero =>
    intro _ _ _ _ _
    exact zLc_none
  | succ n ih =>
    intro _ _ _ _ h0
    unfold fX7_paysAll_l66
    exact (zLc_ite (hk _ _ _ h0) (zLc_bn0 (loX7_isThere h0) (fun _ _ h1 => (zLc_ite (ih h1) (zLc_bn0 (loX7_rankOf h1) (fun _ _ h2 => (zLc_ite (zLc_chk (zLc_bn0 (loX7_pays h2) (fun _ _ h3 => (ih h3)))) (ih h2))))))))
theorem loX7_paysAll_l56 {σ : zS} : ∀ (n : Nat) {x1 : Int} {x2 : Int} {s0 : zS}, zA σ s0 → zLc σ (fX7_paysAll_l56 n x1 x2 s0) := by
  intro n
  induction n with
  | zero =>
    intro _ _ _ _
    exact zLc_none
  | succ n ih =>
    intro _ _ _ h0
    unfold fX7_paysAll_l56
    exact (zLc_ite (loX7_paysAll_l122 _ h0) (loX7_paysAll_l66 (fun _ _ _ hq => (ih hq)) _ h0))
theorem loX7_paysAll_l14 {σ : zS} {kf : Int → Int → zS → zO} (hk : ∀ (y0 : Int) (y1 : Int) (s : zS), zA σ s → zLc σ (kf y0 y1 s)) : ∀ (n : Nat) {x1 : Int} {x2 : Int} {x3 : Int} {s0 : zS}, zA σ s0 → zLc σ (fX7_paysAll_l14 kf n x1 x2 x3 s0) := by
  intro n
  induction n with
  | zero =>
    intro _ _ _ _ _
    exact zLc_none
  | succ n ih =>
    intro _ _ _ _ h0
    unfold fX7_paysAll_l14
    exact (zLc_ite (hk _ _ _ h0) (zLc_bn0 (loX7_isLien h0) (fun _ _ h1 => (zLc_ite (ih h1) (zLc_chk (zLc_ite (zLc_bn0 (loX7_pays h1) (fun _ _ h2 => (ih h2))) (ih h1)))))))
theorem loX7_paysAll_l2 {σ : zS} : ∀ (n : Nat) {x1 : Int} {x2 : Int} {s0 : zS}, zA σ s0 → zLc σ (fX7_paysAll_l2 n x1 x2 s0) := by
  intro n
  induction n with
  | zero =>
    intro _ _ _ _
    exact zLc_none
  | succ n ih =>
    intro _ _ _ h0
    unfold fX7_paysAll_l2
    exact (zLc_ite (loX7_paysAll_l56 _ h0) (loX7_paysAll_l14 (fun _ _ _ hq => (ih hq)) _ h0))
theorem loX7_paysAll {σ : zS} {p1 : Int} {s0 : zS} (h0 : zA σ s0) : zLc σ (fX7_paysAll p1 s0) := by
  unfold fX7_paysAll
  exact (loX7_paysAll_l2 _ h0)
theorem loX7_court_l126 {σ : zS} : ∀ (n : Nat) {x1 : Int} {x2 : Int} {x3 : Int} {x4 : Int} {s0 : zS}, zA σ s0 → zLc σ (fX7_court_l126 n x1 x2 x3 x4 s0) := by
  intro n
  induction n with
  | zero =>
    intro _ _ _ _ _ _
    exact zLc_none
  | succ n ih =>
    intro _ _ _ _ _ h0
    unfold fX7_court_l126
    exact (zLc_ite (zLc_chk (zLc_sto ⟨by decide, by decide⟩ h0 (fun _ h1 => (zLc_chk (zLc_sto ⟨by decide, by decide⟩ h1 (fun _ h2 => (zLc_bn0 (loX7_enter h2) (fun _ _ h3 => (zLc_some h3))))))))) (zLc_ite (zLc_chk (zLc_sto ⟨by decide, by decide⟩ h0 (fun _ h4 => (ih h4)))) (zLc_chk (zLc_sto ⟨by decide, by decide⟩ h0 (fun _ h5 => (ih h5))))))
theorem loX7_court_l75 {σ : zS} : ∀ (n : Nat) {x1 : Int} {x2 : Int} {x3 : Int} {x4 : Int} {s0 : zS}, zA σ s0 → zLc σ (fX7_court_l75 n x1 x2 x3 x4 s0) := by
  intro n
  induction n with
  | zero =>
    intro _ _ _ _ _ _
    exact zLc_none
  | succ n ih =>
    intro _ _ _ _ _ h0
    unfold fX7_court_l75
    exact (zLc_ite (loX7_court_l126 _ h0) (zLc_chk (zLc_ite (zLc_chk (zLc_ite (zLc_chk (zLc_sto ⟨by decide, by decide⟩ h0 (fun _ h1 => (ih h1)))) (zLc_chk (zLc_sto ⟨by decide, by decide⟩ h0 (fun _ h2 => (ih h2)))))) (zLc_chk (zLc_sto ⟨by decide, by decide⟩ h0 (fun _ h3 => (ih h3)))))))
theorem loX7_court {σ : zS} {p1 : Int} {p2 : Int} {p3 : Int} {s0 : zS} (h0 : zA σ s0) : zLc σ (fX7_court p1 p2 p3 s0) := by
  unfold fX7_court
  exact (zLc_bn0 (loX7_isShip h0) (fun _ _ h1 => (zLc_ite (zLc_sto ⟨by decide, by decide⟩ h1 (fun _ h2 => (zLc_some h2))) (zLc_bn0 (loX7_isParty h1) (fun _ _ h3 => (zLc_ite (zLc_sto ⟨by decide, by decide⟩ h3 (fun _ h4 => (zLc_some h4))) (zLc_bn0 (loX7_in h3) (fun _ _ h5 => (zLc_ite (zLc_sto ⟨by decide, by decide⟩ h5 (fun _ h6 => (zLc_some h6))) (zLc_ite (zLc_sto ⟨by decide, by decide⟩ h5 (fun _ h7 => (zLc_some h7))) (zLc_sto ⟨by decide, by decide⟩ h5 (fun _ h8 => (zLc_sto ⟨by decide, by decide⟩ h8 (fun _ h9 => (zLc_bn0 (loX7_paysAll h9) (fun _ _ h10 => (loX7_court_l75 _ h10)))))))))))))))))
theorem loX7_pass {σ : zS} {p1 : Int} {s0 : zS} (h0 : zA σ s0) : zLc σ (fX7_pass p1 s0) := by
  unfold fX7_pass
  exact (zLc_bn0 (loX7_in h0) (fun _ _ h1 => (zLc_ite (zLc_sto ⟨by decide, by decide⟩ h1 (fun _ h2 => (zLc_sto ⟨by decide, by decide⟩ h2 (fun _ h3 => (zLc_some h3))))) (zLc_sto ⟨by decide, by decide⟩ h1 (fun _ h4 => (zLc_sto ⟨by decide, by decide⟩ h4 (fun _ h5 => (zLc_some h5))))))))
theorem loX7_share {σ : zS} {p1 : Int} {p2 : Int} {s0 : zS} (h0 : zA σ s0) : zLc σ (fX7_share p1 p2 s0) := by
  unfold fX7_share
  exact (zLc_bn0 (loX7_isShip h0) (fun _ _ h1 => (zLc_ite (zLc_sto ⟨by decide, by decide⟩ h1 (fun _ h2 => (zLc_some h2))) (zLc_bn0 (loX7_isParty h1) (fun _ _ h3 => (zLc_ite (zLc_sto ⟨by decide, by decide⟩ h3 (fun _ h4 => (zLc_some h4))) (zLc_sto ⟨by decide, by decide⟩ h3 (fun _ h5 => (zLc_chk (zLc_some h5))))))))))
theorem loX7_sound {σ : zS} {p1 : Int} {p2 : Int} {s0 : zS} (h0 : zA σ s0) : zLc σ (fX7_sound p1 p2 s0) := by
  unfold fX7_sound
  exact (zLc_bn0 (loX7_isShip h0) (fun _ _ h1 => (zLc_ite (zLc_sto ⟨by decide, by decide⟩ h1 (fun _ h2 => (zLc_some h2))) (zLc_ite (zLc_sto ⟨by decide, by decide⟩ h1 (fun _ h3 => (zLc_some h3))) (zLc_sto ⟨by decide, by decide⟩ h1 (fun _ h4 => (zLc_ite (zLc_some h4) (zLc_chk (zLc_ite (zLc_some h4) (zLc_chk (zLc_some h4)))))))))))
theorem loX7_flag {σ : zS} {p1 : Int} {s0 : zS} (h0 : zA σ s0) : zLc σ (fX7_flag p1 s0) := by
  unfold fX7_flag
  exact (zLc_bn0 (loX7_isShip h0) (fun _ _ h1 => (zLc_ite (zLc_sto ⟨by decide, by decide⟩ h1 (fun _ h2 => (zLc_some h2))) (zLc_sto ⟨by decide, by decide⟩ h1 (fun _ h3 => (zLc_bn0 (loX7_flagNow h3) (fun _ _ h4 => (zLc_some h4))))))))
theorem loX7_rank {σ : zS} {p1 : Int} {s0 : zS} (h0 : zA σ s0) : zLc σ (fX7_rank p1 s0) := by
  unfold fX7_rank
  exact (zLc_bn0 (loX7_isMortgage h0) (fun _ _ h1 => (zLc_ite (zLc_sto ⟨by decide, by decide⟩ h1 (fun _ h2 => (zLc_some h2))) (zLc_sto ⟨by decide, by decide⟩ h1 (fun _ h3 => (zLc_chk (zLc_chk (zLc_bn0 (loX7_isThere h3) (fun _ _ h4 => (zLc_ite (zLc_some h4) (zLc_bn0 (loX7_rankOf h4) (fun _ _ h5 => (zLc_some h5)))))))))))))
theorem loX7_findBook_l64 {σ : zS} {kf : Int → Int → Int → zS → zO} (hk : ∀ (y0 : Int) (y1 : Int) (y2 : Int) (s : zS), zA σ s → zLc σ (kf y0 y1 y2 s)) : ∀ (n : Nat) {x1 : Int} {x2 : Int} {x4 : Int} {x5 : Int} {s0 : zS}, zA σ s0 → zLc σ (fX7_findBook_l64 kf n x1 x2 x4 x5 s0) := by
  intro n
  induction n with
  | zero =>
    intro _ _ _ _ _ _
    exact zLc_none
  | succ n ih =>
    intro _ _ _ _ _ h0
    unfold fX7_findBook_l64
    exact (zLc_ite (zLc_chk (zLc_ite (zLc_chk (zLc_chk (zLc_ite (zLc_chk (zLc_sto ⟨by decide, by decide⟩ h0 (fun _ h1 => (hk _ _ _ _ h1)))) (zLc_chk (zLc_sto ⟨by decide, by decide⟩ h0 (fun _ h2 => (hk _ _ _ _ h2))))))) (zLc_chk (zLc_ite (zLc_chk (zLc_chk (zLc_ite (zLc_chk (zLc_sto ⟨by decide, by decide⟩ h0 (fun _ h3 => (hk _ _ _ _ h3)))) (zLc_chk (zLc_sto ⟨by decide, by decide⟩ h0 (fun _ h4 => (hk _ _ _ _ h4))))))) (zLc_chk (zLc_ite (zLc_chk (zLc_chk (zLc_ite (zLc_chk (zLc_sto ⟨by decide, by decide⟩ h0 (fun _ h5 => (hk _ _ _ _ h5)))) (zLc_chk (zLc_sto ⟨by decide, by decide⟩ h0 (fun _ h6 => (hk _ _ _ _ h6))))))) (hk _ _ _ _ h0))))))) (zLc_chk (zLc_ite (zLc_chk (zLc_sto ⟨by decide, by decide⟩ h0 (fun _ h7 => (ih h7)))) (zLc_chk (zLc_ite (zLc_chk (zLc_chk (zLc_ite (zLc_chk (zLc_sto ⟨by decide, by decide⟩ h0 (fun _ h8 => (hk _ _ _ _ h8)))) (zLc_chk (zLc_sto ⟨by decide, by decide⟩ h0 (fun _ h9 => (hk _ _ _ _ h9))))))) (zLc_chk (zLc_ite (zLc_chk (zLc_chk (zLc_ite (zLc_chk (zLc_sto ⟨by decide, by decide⟩ h0 (fun _ h10 => (hk _ _ _ _ h10)))) (zLc_chk (zLc_sto ⟨by decide, by decide⟩ h0 (fun _ h11 => (hk _ _ _ _ h11))))))) (zLc_chk (zLc_ite (zLc_chk (zLc_chk (zLc_ite (zLc_chk (zLc_sto ⟨by decide, by decide⟩ h0 (fun _ h12 => (hk _ _ _ _ h12)))) (zLc_chk (zLc_sto ⟨by decide, by decide⟩ h0 (fun _ h13 => (hk _ _ _ _ h13))))))) (hk _ _ _ _ h0))))))))))
theorem loX7_findBook_l29 {σ : zS} : ∀ (n : Nat) {x1 : Int} {x2 : Int} {x4 : Int} {s0 : zS}, zA σ s0 → zLc σ (fX7_findBook_l29 n x1 x2 x4 s0) := by
  intro n
  induction n with
  | zero =>
    intro _ _ _ _ _
    exact zLc_none
  | succ n ih =>
    intro _ _ _ _ h0
    unfold fX7_findBook_l29
    exact (zLc_ite (zLc_some h0) (zLc_chk (zLc_ite (zLc_chk (zLc_ite (ih h0) (loX7_findBook_l64 (fun _ _ _ _ hq => (ih hq)) _ h0))) (ih h0))))
theorem loX7_findBook_l3 {σ : zS} : ∀ (n : Nat) {x1 : Int} {x2 : Int} {x4 : Int} {s0 : zS}, zA σ s0 → zLc σ (fX7_findBook_l3 n x1 x2 x4 s0) := by
  intro n
  induction n with
  | zero =>
    intro _ _ _ _ _
    exact zLc_none
  | succ n ih =>
    intro _ _ _ _ h0
    unfold fX7_findBook_l3
    exact (zLc_ite (loX7_findBook_l29 _ h0) (zLc_chk (zLc_sto ⟨by decide, by decide⟩ h0 (fun _ h1 => (ih h1)))))
theorem loX7_findBook {σ : zS} {p1 : Int} {p2 : Int} {s0 : zS} (h0 : zA σ s0) : zLc σ (fX7_findBook p1 p2 s0) := by
  unfold fX7_findBook
  exact (loX7_findBook_l3 _ h0)
theorem loX7_search_l77 {σ : zS} {kf : Int → Int → Int → zS → zO} (hk : ∀ (y0 : Int) (y1 : Int) (y2 : Int) (s : zS), zA σ s → zLc σ (kf y0 y1 y2 s)) : ∀ (n : Nat) {x4 : Int} {x5 : Int} {x6 : Int} {x7 : Int} {x8 : Int} {s0 : zS}, zA σ s0 → zLc σ (fX7_search_l77 kf n x4 x5 x6 x7 x8 s0) := by
  intro n
  induction n with
  | zero =>
    intro _ _ _ _ _ _ _
    exact zLc_none
  | succ n ih =>
    intro _ _ _ _ _ _ h0
    unfold fX7_search_l77
    exact (zLc_ite (zLc_chk (zLc_ite (hk _ _ _ _ h0) (zLc_ite (hk _ _ _ _ h0) (hk _ _ _ _ h0)))) (zLc_chk (zLc_ite (ih h0) (zLc_chk (zLc_chk (zLc_ite (ih h0) (ih h0)))))))
theorem loX7_search_l62 {σ : zS} : ∀ (n : Nat) {x4 : Int} {x5 : Int} {x6 : Int} {s0 : zS}, zA σ s0 → zLc σ (fX7_search_l62 n x4 x5 x6 s0) := by
  intro n
  induction n with
  | zero =>
    intro _ _ _ _ _
    exact zLc_none
  | succ n ih =>
    intro _ _ _ _ h0
    unfold fX7_search_l62
    exact (zLc_ite (zLc_some h0) (loX7_search_l77 (fun _ _ _ _ hq => (ih hq)) _ h0))
theorem loX7_search {σ : zS} {p1 : Int} {p2 : Int} {p3 : Int} {s0 : zS} (h0 : zA σ s0) : zLc σ (fX7_search p1 p2 p3 s0) := by
  unfold fX7_search
  exact (zLc_bn0 (loX7_isShip h0) (fun _ _ h1 => (zLc_ite (zLc_sto ⟨by decide, by decide⟩ h1 (fun _ h2 => (zLc_some h2))) (zLc_ite (zLc_ite (zLc_sto ⟨by decide, by decide⟩ h1 (fun _ h3 => (zLc_some h3))) (zLc_ite (zLc_sto ⟨by decide, by decide⟩ h1 (fun _ h4 => (zLc_bn0 (loX7_findBook h4) (fun _ _ h5 => (loX7_search_l62 _ h5))))) (zLc_sto ⟨by decide, by decide⟩ h1 (fun _ h6 => (zLc_some h6))))) (zLc_sto ⟨by decide, by decide⟩ h1 (fun _ h7 => (zLc_some h7)))))))
theorem loX7_got {σ : zS} {p1 : Int} {s0 : zS} (h0 : zA σ s0) : zLc σ (fX7_got p1 s0) := by
  unfold fX7_got
  exact (zLc_bn0 (loX7_isParty h0) (fun _ _ h1 => (zLc_ite (zLc_sto ⟨by decide, by decide⟩ h1 (fun _ h2 => (zLc_some h2))) (zLc_sto ⟨by decide, by decide⟩ h1 (fun _ h3 => (zLc_chk (zLc_some h3)))))))
theorem loX7_liens_l21 {σ : zS} : ∀ (n : Nat) {x1 : Int} {x2 : Int} {x3 : Int} {s0 : zS}, zA σ s0 → zLc σ (fX7_liens_l21 n x1 x2 x3 s0) := by
  intro n
  induction n with
  | zero =>
    intro _ _ _ _ _
    exact zLc_none
  | succ n ih =>
    intro _ _ _ _ h0
    unfold fX7_liens_l21
    exact (zLc_ite (zLc_some h0) (zLc_ite (zLc_bn0 (loX7_isLien h0) (fun _ _ h1 => (zLc_ite (ih h1) (ih h1)))) (zLc_some h0)))
theorem loX7_liens {σ : zS} {p1 : Int} {s0 : zS} (h0 : zA σ s0) : zLc σ (fX7_liens p1 s0) := by
  unfold fX7_liens
  exact (zLc_bn0 (loX7_isShip h0) (fun _ _ h1 => (zLc_ite (zLc_sto ⟨by decide, by decide⟩ h1 (fun _ h2 => (loX7_liens_l21 _ h2))) (zLc_sto ⟨by decide, by decide⟩ h1 (fun _ h3 => (loX7_liens_l21 _ h3))))))
theorem OpR_lc {B : Int} {cd : Nat → Int} {C : zO} {M : zS → zO} (h : OpR B cd C M) (hM : ∀ {σ s : zS}, zA σ s → zLc σ (M s)) : ∃ (t : Nat) (v : Int) (σ1 τ : zS), C = some (t, v, σ1) ∧ t ≤ 3 ∧ zAg σ1 τ ∧ Iv B τ := by
  obtain ⟨t, v, σ1, h1, h2, h3⟩ := h
  obtain ⟨b, σ2, g1, g2, g3, g4, g5⟩ := h3 (σ1 9 0)
  have e : zsu σ1 9 0 (σ1 9 0) = σ1 := by
    funext k j
    by_cases c : k = 9 ∧ j = 0
    · rw [zsu_y c, c.1, c.2]
    · rw [zsu_o c]
  rw [e] at g1
  exact ⟨t, v, σ1, σ2, h1, h2.1, fun k hk => hM zA_rf _ _ _ g1 k (by omega), g5⟩
