def zA (σ s : zS) : Prop := ∀ k, ¬ (168 ≤ k ∧ k < 192) → s k = σ k
theorem zA_rf {σ : zS} : zA σ σ := fun _ _ => rfl
def zLc (σ : zS) (x : zO) : Prop := ∀ t v s', x = some (t, v, s') → zA σ s'
theorem zLc_none {σ : zS} : zLc σ none := fun _ _ _ h => by cases h
theorem zLc_some {σ s : zS} {t : Nat} {v : Int} (h : zA σ s) : zLc σ (some (t, v, s)) := fun _ _ _ e => by cases e; exact h
theorem zLc_chk {σ : zS} {c : Prop} {i : Decidable c} {x : zO} (h : zLc σ x) : zLc σ (@zchk c i x) := fun t v s' e => h t v s' (zchk_some e).2
theorem zLc_ite {σ : zS} {c : Prop} {i : Decidable c} {x y : zO} (h1 : zLc σ x) (h2 : zLc σ y) : zLc σ (@ite _ c i x y) := by
  by_cases g : c
  · rw [if_pos g]; exact h1
  · rw [if_neg g]; exact h2
theorem zLc_sto {σ s : zS} {k j : Nat} {v : Int} {f : zS → zO} (hk : 168 ≤ k ∧ k < 192) (hs : zA σ s) (h : ∀ s', zA σ s' → zLc σ (f s')) : zLc σ (zsto s k j v f) :=
  h _ (fun q hq => (zsu_row (fun e => hq (by rw [e]; exact hk))).trans (hs q hq))
theorem zLc_bn0 {σ : zS} {x : zO} {f : Int → zS → zO} (hx : zLc σ x) (h : ∀ v s', zA σ s' → zLc σ (f v s')) : zLc σ (zbn0 x f) := fun t v s' e => by
  obtain ⟨v1, s1, e1, e2⟩ := zbn0_some e
  exact h v1 s1 (hx _ _ _ e1) t v s' e2
theorem loX7_thrown {σ : zS} {s0 : zS} (_ : zA σ s0) : zLc σ (fX7_thrown s0) := by
  unfold fX7_thrown
  repeat' first
    | with_reducible exact zLc_none
    | with_reducible exact zLc_some (by assumption)
    | with_reducible refine zLc_chk ?_
    | with_reducible refine zLc_ite ?_ ?_
    | with_reducible refine zLc_sto (by omega) (by assumption) (fun _ _ => ?_)
theorem loX7_in {σ : zS} {p1 : Int} {p2 : Int} {p3 : Int} {s0 : zS} (_ : zA σ s0) : zLc σ (fX7_in p1 p2 p3 s0) := by
  unfold fX7_in
  repeat' first
    | with_reducible exact zLc_none
    | with_reducible exact zLc_some (by assumption)
    | with_reducible refine zLc_chk ?_
    | with_reducible refine zLc_ite ?_ ?_
    | with_reducible refine zLc_sto (by omega) (by assumption) (fun _ _ => ?_)
theorem loX7_isLand {σ : zS} {p1 : Int} {s0 : zS} (_ : zA σ s0) : zLc σ (fX7_isLand p1 s0) := by
  unfold fX7_isLand
  repeat' first
    | with_reducible exact zLc_none
    | with_reducible exact zLc_some (by assumption)
    | with_reducible refine zLc_chk ?_
    | with_reducible refine zLc_ite ?_ ?_
    | with_reducible refine zLc_sto (by omega) (by assumption) (fun _ _ => ?_)
    | with_reducible exact loX7_in (by assumption)
    | with_reducible refine zLc_bn0 (loX7_in (by assumption)) (fun _ _ _ => ?_)
theorem loX7_isParty {σ : zS} {p1 : Int} {s0 : zS} (_ : zA σ s0) : zLc σ (fX7_isParty p1 s0) := by
  unfold fX7_isParty
  repeat' first
    | with_reducible exact zLc_none
    | with_reducible exact zLc_some (by assumption)
    | with_reducible refine zLc_chk ?_
    | with_reducible refine zLc_ite ?_ ?_
    | with_reducible refine zLc_sto (by omega) (by assumption) (fun _ _ => ?_)
    | with_reducible exact loX7_in (by assumption)
    | with_reducible refine zLc_bn0 (loX7_in (by assumption)) (fun _ _ _ => ?_)
theorem loX7_isShip {σ : zS} {p1 : Int} {s0 : zS} (_ : zA σ s0) : zLc σ (fX7_isShip p1 s0) := by
  unfold fX7_isShip
  repeat' first
    | with_reducible exact zLc_none
    | with_reducible exact zLc_some (by assumption)
    | with_reducible refine zLc_chk ?_
    | with_reducible refine zLc_ite ?_ ?_
    | with_reducible refine zLc_sto (by omega) (by assumption) (fun _ _ => ?_)
    | with_reducible exact loX7_in (by assumption)
    | with_reducible refine zLc_bn0 (loX7_in (by assumption)) (fun _ _ _ => ?_)
theorem loX7_isMortgage {σ : zS} {p1 : Int} {s0 : zS} (_ : zA σ s0) : zLc σ (fX7_isMortgage p1 s0) := by
  unfold fX7_isMortgage
  repeat' first
    | with_reducible exact zLc_none
    | with_reducible exact zLc_some (by assumption)
    | with_reducible refine zLc_chk ?_
    | with_reducible refine zLc_ite ?_ ?_
    | with_reducible refine zLc_sto (by omega) (by assumption) (fun _ _ => ?_)
    | with_reducible exact loX7_in (by assumption)
    | with_reducible refine zLc_bn0 (loX7_in (by assumption)) (fun _ _ _ => ?_)
theorem loX7_letter {σ : zS} {p1 : Int} {s0 : zS} (_ : zA σ s0) : zLc σ (fX7_letter p1 s0) := by
  unfold fX7_letter
  repeat' first
    | with_reducible exact zLc_none
    | with_reducible exact zLc_some (by assumption)
    | with_reducible refine zLc_chk ?_
    | with_reducible refine zLc_ite ?_ ?_
    | with_reducible refine zLc_sto (by omega) (by assumption) (fun _ _ => ?_)
theorem loX7_person {σ : zS} {p1 : Int} {s0 : zS} (_ : zA σ s0) : zLc σ (fX7_person p1 s0) := by
  unfold fX7_person
  repeat' first
    | with_reducible exact zLc_none
    | with_reducible exact zLc_some (by assumption)
    | with_reducible refine zLc_chk ?_
    | with_reducible refine zLc_ite ?_ ?_
    | with_reducible refine zLc_sto (by omega) (by assumption) (fun _ _ => ?_)
    | with_reducible exact loX7_isLand (by assumption)
    | with_reducible refine zLc_bn0 (loX7_isLand (by assumption)) (fun _ _ _ => ?_)
theorem loX7_company {σ : zS} {s0 : zS} (_ : zA σ s0) : zLc σ (fX7_company s0) := by
  unfold fX7_company
  repeat' first
    | with_reducible exact zLc_none
    | with_reducible exact zLc_some (by assumption)
    | with_reducible refine zLc_chk ?_
    | with_reducible refine zLc_ite ?_ ?_
    | with_reducible refine zLc_sto (by omega) (by assumption) (fun _ _ => ?_)
theorem loX7_landOf_l12 {σ : zS} {kf : Int → Int → zS → zO} (hk : ∀ (y0 : Int) (y1 : Int) (s : zS), zA σ s → zLc σ (kf y0 y1 s)) : ∀ (n : Nat) {x1 : Int} {x2 : Int} {x3 : Int} {x4 : Int} {s0 : zS}, zA σ s0 → zLc σ (fX7_landOf_l12 kf n x1 x2 x3 x4 s0) := by
  intro n
  induction n with
  | zero =>
    intro _ _ _ _ _ _
    exact zLc_none
  | succ n ih =>
    intro _ _ _ _ _ _
    unfold fX7_landOf_l12
    repeat' first
      | with_reducible exact zLc_none
      | with_reducible exact zLc_some (by assumption)
      | with_reducible exact hk _ _ _ (by assumption)
      | with_reducible exact ih (by assumption)
      | with_reducible refine zLc_chk ?_
      | with_reducible refine zLc_ite ?_ ?_
      | with_reducible refine zLc_sto (by omega) (by assumption) (fun _ _ => ?_)
theorem loX7_landOf_l2 {σ : zS} : ∀ (n : Nat) {x1 : Int} {x2 : Int} {s0 : zS}, zA σ s0 → zLc σ (fX7_landOf_l2 n x1 x2 s0) := by
  intro n
  induction n with
  | zero =>
    intro _ _ _ _
    exact zLc_none
  | succ n ih =>
    intro _ _ _ _
    unfold fX7_landOf_l2
    repeat' first
      | with_reducible exact zLc_none
      | with_reducible exact zLc_some (by assumption)
      | with_reducible exact ih (by assumption)
      | with_reducible refine zLc_chk ?_
      | with_reducible refine zLc_ite ?_ ?_
      | with_reducible refine zLc_sto (by omega) (by assumption) (fun _ _ => ?_)
      | with_reducible exact loX7_landOf_l12 (fun _ _ _ h => by first | with_reducible exact ih h) _ (by assumption)
theorem loX7_landOf {σ : zS} {p1 : Int} {s0 : zS} (_ : zA σ s0) : zLc σ (fX7_landOf p1 s0) := by
  unfold fX7_landOf
  repeat' first
    | with_reducible exact zLc_none
    | with_reducible exact zLc_some (by assumption)
    | with_reducible refine zLc_chk ?_
    | with_reducible refine zLc_ite ?_ ?_
    | with_reducible refine zLc_sto (by omega) (by assumption) (fun _ _ => ?_)
    | with_reducible exact loX7_landOf_l2 _ (by assumption)
    | with_reducible refine zLc_bn0 (loX7_landOf_l2 _ (by assumption)) (fun _ _ _ => ?_)
theorem loX7_findLands_l83 {σ : zS} {kf : Int → zS → zO} (hk : ∀ (y0 : Int) (s : zS), zA σ s → zLc σ (kf y0 s)) : ∀ (n : Nat) {x1 : Int} {x2 : Int} {s0 : zS}, zA σ s0 → zLc σ (fX7_findLands_l83 kf n x1 x2 s0) := by
  intro n
  induction n with
  | zero =>
    intro _ _ _ _
    exact zLc_none
  | succ n ih =>
    intro _ _ _ _
    unfold fX7_findLands_l83
    repeat' first
      | with_reducible exact zLc_none
      | with_reducible exact zLc_some (by assumption)
      | with_reducible exact hk _ _ (by assumption)
      | with_reducible exact ih (by assumption)
      | with_reducible refine zLc_chk ?_
      | with_reducible refine zLc_ite ?_ ?_
      | with_reducible refine zLc_sto (by omega) (by assumption) (fun _ _ => ?_)
theorem loX7_findLands_l37 {σ : zS} {kf : Int → zS → zO} (hk : ∀ (y0 : Int) (s : zS), zA σ s → zLc σ (kf y0 s)) : ∀ (n : Nat) {x1 : Int} {x2 : Int} {s0 : zS}, zA σ s0 → zLc σ (fX7_findLands_l37 kf n x1 x2 s0) := by
  intro n
  induction n with
  | zero =>
    intro _ _ _ _
    exact zLc_none
  | succ n ih =>
    intro _ _ _ _
    unfold fX7_findLands_l37
    repeat' first
      | with_reducible exact zLc_none
      | with_reducible exact zLc_some (by assumption)
      | with_reducible exact hk _ _ (by assumption)
      | with_reducible exact ih (by assumption)
      | with_reducible refine zLc_chk ?_
      | with_reducible refine zLc_ite ?_ ?_
      | with_reducible refine zLc_sto (by omega) (by assumption) (fun _ _ => ?_)
      | with_reducible exact loX7_landOf (by assumption)
      | with_reducible refine zLc_bn0 (loX7_landOf (by assumption)) (fun _ _ _ => ?_)
      | with_reducible exact loX7_findLands_l83 (fun _ _ h => by first | with_reducible exact ih h | with_reducible exact hk _ _ h) _ (by assumption)
theorem loX7_findLands_l30 {σ : zS} : ∀ (n : Nat) {x1 : Int} {s0 : zS}, zA σ s0 → zLc σ (fX7_findLands_l30 n x1 s0) := by
  intro n
  induction n with
  | zero =>
    intro _ _ _
    exact zLc_none
  | succ n ih =>
    intro _ _ _
    unfold fX7_findLands_l30
    repeat' first
      | with_reducible exact zLc_none
      | with_reducible exact zLc_some (by assumption)
      | with_reducible exact ih (by assumption)
      | with_reducible refine zLc_chk ?_
      | with_reducible refine zLc_ite ?_ ?_
      | with_reducible refine zLc_sto (by omega) (by assumption) (fun _ _ => ?_)
      | with_reducible exact loX7_findLands_l37 (fun _ _ h => by first | with_reducible exact ih h) _ (by assumption)
theorem loX7_findLands_l2 {σ : zS} : ∀ (n : Nat) {x1 : Int} {s0 : zS}, zA σ s0 → zLc σ (fX7_findLands_l2 n x1 s0) := by
  intro n
  induction n with
  | zero =>
    intro _ _ _
    exact zLc_none
  | succ n ih =>
    intro _ _ _
    unfold fX7_findLands_l2
    repeat' first
      | with_reducible exact zLc_none
      | with_reducible exact zLc_some (by assumption)
      | with_reducible exact ih (by assumption)
      | with_reducible refine zLc_chk ?_
      | with_reducible refine zLc_ite ?_ ?_
      | with_reducible refine zLc_sto (by omega) (by assumption) (fun _ _ => ?_)
      | with_reducible exact loX7_findLands_l30 _ (by assumption)
      | with_reducible refine zLc_bn0 (loX7_findLands_l30 _ (by assumption)) (fun _ _ _ => ?_)
theorem loX7_findLands {σ : zS} {s0 : zS} (_ : zA σ s0) : zLc σ (fX7_findLands s0) := by
  unfold fX7_findLands
  repeat' first
    | with_reducible exact zLc_none
    | with_reducible exact zLc_some (by assumption)
    | with_reducible refine zLc_chk ?_
    | with_reducible refine zLc_ite ?_ ?_
    | with_reducible refine zLc_sto (by omega) (by assumption) (fun _ _ => ?_)
    | with_reducible exact loX7_findLands_l2 _ (by assumption)
    | with_reducible refine zLc_bn0 (loX7_findLands_l2 _ (by assumption)) (fun _ _ _ => ?_)
theorem loX7_canFly_l9 {σ : zS} : ∀ (n : Nat) {x1 : Int} {x2 : Int} {x3 : Int} {x4 : Int} {s0 : zS}, zA σ s0 → zLc σ (fX7_canFly_l9 n x1 x2 x3 x4 s0) := by
  intro n
  induction n with
  | zero =>
    intro _ _ _ _ _ _
    exact zLc_none
  | succ n ih =>
    intro _ _ _ _ _ _
    unfold fX7_canFly_l9
    repeat' first
      | with_reducible exact zLc_none
      | with_reducible exact zLc_some (by assumption)
      | with_reducible exact ih (by assumption)
      | with_reducible refine zLc_chk ?_
      | with_reducible refine zLc_ite ?_ ?_
      | with_reducible refine zLc_sto (by omega) (by assumption) (fun _ _ => ?_)
theorem loX7_canFly {σ : zS} {p1 : Int} {p2 : Int} {s0 : zS} (_ : zA σ s0) : zLc σ (fX7_canFly p1 p2 s0) := by
  unfold fX7_canFly
  repeat' first
    | with_reducible exact zLc_none
    | with_reducible exact zLc_some (by assumption)
    | with_reducible refine zLc_chk ?_
    | with_reducible refine zLc_ite ?_ ?_
    | with_reducible refine zLc_sto (by omega) (by assumption) (fun _ _ => ?_)
    | with_reducible exact loX7_findLands (by assumption)
    | with_reducible refine zLc_bn0 (loX7_findLands (by assumption)) (fun _ _ _ => ?_)
    | with_reducible exact loX7_canFly_l9 _ (by assumption)
    | with_reducible refine zLc_bn0 (loX7_canFly_l9 _ (by assumption)) (fun _ _ _ => ?_)
theorem loX7_lookAtFlag {σ : zS} {p1 : Int} {s0 : zS} (_ : zA σ s0) : zLc σ (fX7_lookAtFlag p1 s0) := by
  unfold fX7_lookAtFlag
  repeat' first
    | with_reducible exact zLc_none
    | with_reducible exact zLc_some (by assumption)
    | with_reducible refine zLc_chk ?_
    | with_reducible refine zLc_ite ?_ ?_
    | with_reducible refine zLc_sto (by omega) (by assumption) (fun _ _ => ?_)
    | with_reducible exact loX7_canFly (by assumption)
    | with_reducible refine zLc_bn0 (loX7_canFly (by assumption)) (fun _ _ _ => ?_)
theorem loX7_part_l159 {σ : zS} : ∀ (n : Nat) {x4 : Int} {x5 : Int} {s0 : zS}, zA σ s0 → zLc σ (fX7_part_l159 n x4 x5 s0) := by
  intro n
  induction n with
  | zero =>
    intro _ _ _ _
    exact zLc_none
  | succ n ih =>
    intro _ _ _ _
    unfold fX7_part_l159
    repeat' first
      | with_reducible exact zLc_none
      | with_reducible exact zLc_some (by assumption)
      | with_reducible exact ih (by assumption)
      | with_reducible refine zLc_chk ?_
      | with_reducible refine zLc_ite ?_ ?_
      | with_reducible refine zLc_sto (by omega) (by assumption) (fun _ _ => ?_)
      | with_reducible exact loX7_lookAtFlag (by assumption)
      | with_reducible refine zLc_bn0 (loX7_lookAtFlag (by assumption)) (fun _ _ _ => ?_)
theorem loX7_part_l64 {σ : zS} : ∀ (n : Nat) {x1 : Int} {x2 : Int} {x3 : Int} {x4 : Int} {x5 : Int} {s0 : zS}, zA σ s0 → zLc σ (fX7_part_l64 n x1 x2 x3 x4 x5 s0) := by
  intro n
  induction n with
  | zero =>
    intro _ _ _ _ _ _ _
    exact zLc_none
  | succ n ih =>
    intro _ _ _ _ _ _ _
    unfold fX7_part_l64
    repeat' first
      | with_reducible exact zLc_none
      | with_reducible exact zLc_some (by assumption)
      | with_reducible exact ih (by assumption)
      | with_reducible refine zLc_chk ?_
      | with_reducible refine zLc_ite ?_ ?_
      | with_reducible refine zLc_sto (by omega) (by assumption) (fun _ _ => ?_)
      | with_reducible exact loX7_part_l159 _ (by assumption)
      | with_reducible refine zLc_bn0 (loX7_part_l159 _ (by assumption)) (fun _ _ _ => ?_)
theorem loX7_part {σ : zS} {p1 : Int} {p2 : Int} {p3 : Int} {s0 : zS} (_ : zA σ s0) : zLc σ (fX7_part p1 p2 p3 s0) := by
  unfold fX7_part
  repeat' first
    | with_reducible exact zLc_none
    | with_reducible exact zLc_some (by assumption)
    | with_reducible refine zLc_chk ?_
    | with_reducible refine zLc_ite ?_ ?_
    | with_reducible refine zLc_sto (by omega) (by assumption) (fun _ _ => ?_)
    | with_reducible exact loX7_in (by assumption)
    | with_reducible refine zLc_bn0 (loX7_in (by assumption)) (fun _ _ _ => ?_)
    | with_reducible exact loX7_isParty (by assumption)
    | with_reducible refine zLc_bn0 (loX7_isParty (by assumption)) (fun _ _ _ => ?_)
    | with_reducible exact loX7_part_l64 _ (by assumption)
    | with_reducible refine zLc_bn0 (loX7_part_l64 _ (by assumption)) (fun _ _ _ => ?_)
theorem loX7_land {σ : zS} {p1 : Int} {s0 : zS} (_ : zA σ s0) : zLc σ (fX7_land p1 s0) := by
  unfold fX7_land
  repeat' first
    | with_reducible exact zLc_none
    | with_reducible exact zLc_some (by assumption)
    | with_reducible refine zLc_chk ?_
    | with_reducible refine zLc_ite ?_ ?_
    | with_reducible refine zLc_sto (by omega) (by assumption) (fun _ _ => ?_)
    | with_reducible exact loX7_isParty (by assumption)
    | with_reducible refine zLc_bn0 (loX7_isParty (by assumption)) (fun _ _ _ => ?_)
    | with_reducible exact loX7_findLands (by assumption)
    | with_reducible refine zLc_bn0 (loX7_findLands (by assumption)) (fun _ _ _ => ?_)
theorem loX7_isVowel {σ : zS} {p1 : Int} {s0 : zS} (_ : zA σ s0) : zLc σ (fX7_isVowel p1 s0) := by
  unfold fX7_isVowel
  repeat' first
    | with_reducible exact zLc_none
    | with_reducible exact zLc_some (by assumption)
    | with_reducible refine zLc_chk ?_
    | with_reducible refine zLc_ite ?_ ?_
    | with_reducible refine zLc_sto (by omega) (by assumption) (fun _ _ => ?_)
theorem loX7_hear_l25 {σ : zS} : ∀ (n : Nat) {x1 : Int} {x2 : Int} {s0 : zS}, zA σ s0 → zLc σ (fX7_hear_l25 n x1 x2 s0) := by
  intro n
  induction n with
  | zero =>
    intro _ _ _ _
    exact zLc_none
  | succ n ih =>
    intro _ _ _ _
    unfold fX7_hear_l25
    repeat' first
      | with_reducible exact zLc_none
      | with_reducible exact zLc_some (by assumption)
      | with_reducible exact ih (by assumption)
      | with_reducible refine zLc_chk ?_
      | with_reducible refine zLc_ite ?_ ?_
      | with_reducible refine zLc_sto (by omega) (by assumption) (fun _ _ => ?_)
      | with_reducible exact loX7_isVowel (by assumption)
      | with_reducible refine zLc_bn0 (loX7_isVowel (by assumption)) (fun _ _ _ => ?_)
theorem loX7_hear_l4 {σ : zS} : ∀ (n : Nat) {x1 : Int} {x2 : Int} {s0 : zS}, zA σ s0 → zLc σ (fX7_hear_l4 n x1 x2 s0) := by
  intro n
  induction n with
  | zero =>
    intro _ _ _ _
    exact zLc_none
  | succ n ih =>
    intro _ _ _ _
    unfold fX7_hear_l4
    repeat' first
      | with_reducible exact zLc_none
      | with_reducible exact zLc_some (by assumption)
      | with_reducible exact ih (by assumption)
      | with_reducible refine zLc_chk ?_
      | with_reducible refine zLc_ite ?_ ?_
      | with_reducible refine zLc_sto (by omega) (by assumption) (fun _ _ => ?_)
      | with_reducible exact loX7_hear_l25 _ (by assumption)
      | with_reducible refine zLc_bn0 (loX7_hear_l25 _ (by assumption)) (fun _ _ _ => ?_)
theorem loX7_hear {σ : zS} {s0 : zS} (_ : zA σ s0) : zLc σ (fX7_hear s0) := by
  unfold fX7_hear
  repeat' first
    | with_reducible exact zLc_none
    | with_reducible exact zLc_some (by assumption)
    | with_reducible refine zLc_chk ?_
    | with_reducible refine zLc_ite ?_ ?_
    | with_reducible refine zLc_sto (by omega) (by assumption) (fun _ _ => ?_)
    | with_reducible exact loX7_hear_l4 _ (by assumption)
    | with_reducible refine zLc_bn0 (loX7_hear_l4 _ (by assumption)) (fun _ _ _ => ?_)
theorem loX7_isHeard_l4 {σ : zS} : ∀ (n : Nat) {x1 : Int} {x2 : Int} {x3 : Int} {s0 : zS}, zA σ s0 → zLc σ (fX7_isHeard_l4 n x1 x2 x3 s0) := by
  intro n
  induction n with
  | zero =>
    intro _ _ _ _ _
    exact zLc_none
  | succ n ih =>
    intro _ _ _ _ _
    unfold fX7_isHeard_l4
    repeat' first
      | with_reducible exact zLc_none
      | with_reducible exact zLc_some (by assumption)
      | with_reducible exact ih (by assumption)
      | with_reducible refine zLc_chk ?_
      | with_reducible refine zLc_ite ?_ ?_
      | with_reducible refine zLc_sto (by omega) (by assumption) (fun _ _ => ?_)
theorem loX7_isHeard {σ : zS} {p1 : Int} {s0 : zS} (_ : zA σ s0) : zLc σ (fX7_isHeard p1 s0) := by
  unfold fX7_isHeard
  repeat' first
    | with_reducible exact zLc_none
    | with_reducible exact zLc_some (by assumption)
    | with_reducible refine zLc_chk ?_
    | with_reducible refine zLc_ite ?_ ?_
    | with_reducible refine zLc_sto (by omega) (by assumption) (fun _ _ => ?_)
    | with_reducible exact loX7_isHeard_l4 _ (by assumption)
    | with_reducible refine zLc_bn0 (loX7_isHeard_l4 _ (by assumption)) (fun _ _ _ => ?_)
theorem loX7_ship_l83 {σ : zS} : ∀ (n : Nat) {x1 : Int} {x2 : Int} {s0 : zS}, zA σ s0 → zLc σ (fX7_ship_l83 n x1 x2 s0) := by
  intro n
  induction n with
  | zero =>
    intro _ _ _ _
    exact zLc_none
  | succ n ih =>
    intro _ _ _ _
    unfold fX7_ship_l83
    repeat' first
      | with_reducible exact zLc_none
      | with_reducible exact zLc_some (by assumption)
      | with_reducible exact ih (by assumption)
      | with_reducible refine zLc_chk ?_
      | with_reducible refine zLc_ite ?_ ?_
      | with_reducible refine zLc_sto (by omega) (by assumption) (fun _ _ => ?_)
theorem loX7_ship_l57 {σ : zS} : ∀ (n : Nat) {x1 : Int} {x2 : Int} {s0 : zS}, zA σ s0 → zLc σ (fX7_ship_l57 n x1 x2 s0) := by
  intro n
  induction n with
  | zero =>
    intro _ _ _ _
    exact zLc_none
  | succ n ih =>
    intro _ _ _ _
    unfold fX7_ship_l57
    repeat' first
      | with_reducible exact zLc_none
      | with_reducible exact zLc_some (by assumption)
      | with_reducible exact ih (by assumption)
      | with_reducible refine zLc_chk ?_
      | with_reducible refine zLc_ite ?_ ?_
      | with_reducible refine zLc_sto (by omega) (by assumption) (fun _ _ => ?_)
      | with_reducible exact loX7_isHeard (by assumption)
      | with_reducible refine zLc_bn0 (loX7_isHeard (by assumption)) (fun _ _ _ => ?_)
      | with_reducible exact loX7_ship_l83 _ (by assumption)
      | with_reducible refine zLc_bn0 (loX7_ship_l83 _ (by assumption)) (fun _ _ _ => ?_)
theorem loX7_ship {σ : zS} {p1 : Int} {s0 : zS} (_ : zA σ s0) : zLc σ (fX7_ship p1 s0) := by
  unfold fX7_ship
  repeat' first
    | with_reducible exact zLc_none
    | with_reducible exact zLc_some (by assumption)
    | with_reducible refine zLc_chk ?_
    | with_reducible refine zLc_ite ?_ ?_
    | with_reducible refine zLc_sto (by omega) (by assumption) (fun _ _ => ?_)
    | with_reducible exact loX7_isParty (by assumption)
    | with_reducible refine zLc_bn0 (loX7_isParty (by assumption)) (fun _ _ _ => ?_)
    | with_reducible exact loX7_hear (by assumption)
    | with_reducible refine zLc_bn0 (loX7_hear (by assumption)) (fun _ _ _ => ?_)
    | with_reducible exact loX7_ship_l57 _ (by assumption)
    | with_reducible refine zLc_bn0 (loX7_ship_l57 _ (by assumption)) (fun _ _ _ => ?_)
theorem loX7_sell {σ : zS} {p1 : Int} {p2 : Int} {p3 : Int} {p4 : Int} {s0 : zS} (_ : zA σ s0) : zLc σ (fX7_sell p1 p2 p3 p4 s0) := by
  unfold fX7_sell
  repeat' first
    | with_reducible exact zLc_none
    | with_reducible exact zLc_some (by assumption)
    | with_reducible refine zLc_chk ?_
    | with_reducible refine zLc_ite ?_ ?_
    | with_reducible refine zLc_sto (by omega) (by assumption) (fun _ _ => ?_)
    | with_reducible exact loX7_in (by assumption)
    | with_reducible refine zLc_bn0 (loX7_in (by assumption)) (fun _ _ _ => ?_)
    | with_reducible exact loX7_isParty (by assumption)
    | with_reducible refine zLc_bn0 (loX7_isParty (by assumption)) (fun _ _ _ => ?_)
    | with_reducible exact loX7_isShip (by assumption)
    | with_reducible refine zLc_bn0 (loX7_isShip (by assumption)) (fun _ _ _ => ?_)
    | with_reducible exact loX7_lookAtFlag (by assumption)
    | with_reducible refine zLc_bn0 (loX7_lookAtFlag (by assumption)) (fun _ _ _ => ?_)
theorem loX7_flagNow {σ : zS} {p1 : Int} {s0 : zS} (_ : zA σ s0) : zLc σ (fX7_flagNow p1 s0) := by
  unfold fX7_flagNow
  repeat' first
    | with_reducible exact zLc_none
    | with_reducible exact zLc_some (by assumption)
    | with_reducible refine zLc_chk ?_
    | with_reducible refine zLc_ite ?_ ?_
    | with_reducible refine zLc_sto (by omega) (by assumption) (fun _ _ => ?_)
theorem loX7_fly {σ : zS} {p1 : Int} {p2 : Int} {s0 : zS} (_ : zA σ s0) : zLc σ (fX7_fly p1 p2 s0) := by
  unfold fX7_fly
  repeat' first
    | with_reducible exact zLc_none
    | with_reducible exact zLc_some (by assumption)
    | with_reducible refine zLc_chk ?_
    | with_reducible refine zLc_ite ?_ ?_
    | with_reducible refine zLc_sto (by omega) (by assumption) (fun _ _ => ?_)
    | with_reducible exact loX7_isLand (by assumption)
    | with_reducible refine zLc_bn0 (loX7_isLand (by assumption)) (fun _ _ _ => ?_)
    | with_reducible exact loX7_isShip (by assumption)
    | with_reducible refine zLc_bn0 (loX7_isShip (by assumption)) (fun _ _ _ => ?_)
    | with_reducible exact loX7_canFly (by assumption)
    | with_reducible refine zLc_bn0 (loX7_canFly (by assumption)) (fun _ _ _ => ?_)
    | with_reducible exact loX7_flagNow (by assumption)
    | with_reducible refine zLc_bn0 (loX7_flagNow (by assumption)) (fun _ _ _ => ?_)
theorem loX7_enter {σ : zS} {p1 : Int} {p2 : Int} {p3 : Int} {p4 : Int} {p5 : Int} {s0 : zS} (_ : zA σ s0) : zLc σ (fX7_enter p1 p2 p3 p4 p5 s0) := by
  unfold fX7_enter
  repeat' first
    | with_reducible exact zLc_none
    | with_reducible exact zLc_some (by assumption)
    | with_reducible refine zLc_chk ?_
    | with_reducible refine zLc_ite ?_ ?_
    | with_reducible refine zLc_sto (by omega) (by assumption) (fun _ _ => ?_)
theorem loX7_notice {σ : zS} {p1 : Int} {p2 : Int} {s0 : zS} (_ : zA σ s0) : zLc σ (fX7_notice p1 p2 s0) := by
  unfold fX7_notice
  repeat' first
    | with_reducible exact zLc_none
    | with_reducible exact zLc_some (by assumption)
    | with_reducible refine zLc_chk ?_
    | with_reducible refine zLc_ite ?_ ?_
    | with_reducible refine zLc_sto (by omega) (by assumption) (fun _ _ => ?_)
    | with_reducible exact loX7_isParty (by assumption)
    | with_reducible refine zLc_bn0 (loX7_isParty (by assumption)) (fun _ _ _ => ?_)
    | with_reducible exact loX7_isShip (by assumption)
    | with_reducible refine zLc_bn0 (loX7_isShip (by assumption)) (fun _ _ _ => ?_)
    | with_reducible exact loX7_enter (by assumption)
    | with_reducible refine zLc_bn0 (loX7_enter (by assumption)) (fun _ _ _ => ?_)
theorem loX7_noticeFor_l2 {σ : zS} : ∀ (n : Nat) {x1 : Int} {x2 : Int} {x3 : Int} {s0 : zS}, zA σ s0 → zLc σ (fX7_noticeFor_l2 n x1 x2 x3 s0) := by
  intro n
  induction n with
  | zero =>
    intro _ _ _ _ _
    exact zLc_none
  | succ n ih =>
    intro _ _ _ _ _
    unfold fX7_noticeFor_l2
    repeat' first
      | with_reducible exact zLc_none
      | with_reducible exact zLc_some (by assumption)
      | with_reducible exact ih (by assumption)
      | with_reducible refine zLc_chk ?_
      | with_reducible refine zLc_ite ?_ ?_
      | with_reducible refine zLc_sto (by omega) (by assumption) (fun _ _ => ?_)
theorem loX7_noticeFor {σ : zS} {p1 : Int} {p2 : Int} {s0 : zS} (_ : zA σ s0) : zLc σ (fX7_noticeFor p1 p2 s0) := by
  unfold fX7_noticeFor
  repeat' first
    | with_reducible exact zLc_none
    | with_reducible exact zLc_some (by assumption)
    | with_reducible refine zLc_chk ?_
    | with_reducible refine zLc_ite ?_ ?_
    | with_reducible refine zLc_sto (by omega) (by assumption) (fun _ _ => ?_)
    | with_reducible exact loX7_noticeFor_l2 _ (by assumption)
    | with_reducible refine zLc_bn0 (loX7_noticeFor_l2 _ (by assumption)) (fun _ _ _ => ?_)
theorem loX7_mortgage {σ : zS} {p1 : Int} {p2 : Int} {p3 : Int} {s0 : zS} (_ : zA σ s0) : zLc σ (fX7_mortgage p1 p2 p3 s0) := by
  unfold fX7_mortgage
  repeat' first
    | with_reducible exact zLc_none
    | with_reducible exact zLc_some (by assumption)
    | with_reducible refine zLc_chk ?_
    | with_reducible refine zLc_ite ?_ ?_
    | with_reducible refine zLc_sto (by omega) (by assumption) (fun _ _ => ?_)
    | with_reducible exact loX7_in (by assumption)
    | with_reducible refine zLc_bn0 (loX7_in (by assumption)) (fun _ _ _ => ?_)
    | with_reducible exact loX7_isParty (by assumption)
    | with_reducible refine zLc_bn0 (loX7_isParty (by assumption)) (fun _ _ _ => ?_)
    | with_reducible exact loX7_isShip (by assumption)
    | with_reducible refine zLc_bn0 (loX7_isShip (by assumption)) (fun _ _ _ => ?_)
    | with_reducible exact loX7_enter (by assumption)
    | with_reducible refine zLc_bn0 (loX7_enter (by assumption)) (fun _ _ _ => ?_)
    | with_reducible exact loX7_noticeFor (by assumption)
    | with_reducible refine zLc_bn0 (loX7_noticeFor (by assumption)) (fun _ _ _ => ?_)
theorem loX7_discharge {σ : zS} {p1 : Int} {p2 : Int} {s0 : zS} (_ : zA σ s0) : zLc σ (fX7_discharge p1 p2 s0) := by
  unfold fX7_discharge
  repeat' first
    | with_reducible exact zLc_none
    | with_reducible exact zLc_some (by assumption)
    | with_reducible refine zLc_chk ?_
    | with_reducible refine zLc_ite ?_ ?_
    | with_reducible refine zLc_sto (by omega) (by assumption) (fun _ _ => ?_)
    | with_reducible exact loX7_isMortgage (by assumption)
    | with_reducible refine zLc_bn0 (loX7_isMortgage (by assumption)) (fun _ _ _ => ?_)
    | with_reducible exact loX7_enter (by assumption)
    | with_reducible refine zLc_bn0 (loX7_enter (by assumption)) (fun _ _ _ => ?_)
theorem loX7_lien {σ : zS} {p1 : Int} {p2 : Int} {p3 : Int} {p4 : Int} {s0 : zS} (_ : zA σ s0) : zLc σ (fX7_lien p1 p2 p3 p4 s0) := by
  unfold fX7_lien
  repeat' first
    | with_reducible exact zLc_none
    | with_reducible exact zLc_some (by assumption)
    | with_reducible refine zLc_chk ?_
    | with_reducible refine zLc_ite ?_ ?_
    | with_reducible refine zLc_sto (by omega) (by assumption) (fun _ _ => ?_)
    | with_reducible exact loX7_in (by assumption)
    | with_reducible refine zLc_bn0 (loX7_in (by assumption)) (fun _ _ _ => ?_)
    | with_reducible exact loX7_isParty (by assumption)
    | with_reducible refine zLc_bn0 (loX7_isParty (by assumption)) (fun _ _ _ => ?_)
    | with_reducible exact loX7_isShip (by assumption)
    | with_reducible refine zLc_bn0 (loX7_isShip (by assumption)) (fun _ _ _ => ?_)
    | with_reducible exact loX7_enter (by assumption)
    | with_reducible refine zLc_bn0 (loX7_enter (by assumption)) (fun _ _ _ => ?_)
theorem loX7_isLien {σ : zS} {p1 : Int} {p2 : Int} {s0 : zS} (_ : zA σ s0) : zLc σ (fX7_isLien p1 p2 s0) := by
  unfold fX7_isLien
  repeat' first
    | with_reducible exact zLc_none
    | with_reducible exact zLc_some (by assumption)
    | with_reducible refine zLc_chk ?_
    | with_reducible refine zLc_ite ?_ ?_
    | with_reducible refine zLc_sto (by omega) (by assumption) (fun _ _ => ?_)
theorem loX7_isThere {σ : zS} {p1 : Int} {p2 : Int} {s0 : zS} (_ : zA σ s0) : zLc σ (fX7_isThere p1 p2 s0) := by
  unfold fX7_isThere
  repeat' first
    | with_reducible exact zLc_none
    | with_reducible exact zLc_some (by assumption)
    | with_reducible refine zLc_chk ?_
    | with_reducible refine zLc_ite ?_ ?_
    | with_reducible refine zLc_sto (by omega) (by assumption) (fun _ _ => ?_)
theorem loX7_rankOf_l4 {σ : zS} : ∀ (n : Nat) {x1 : Int} {x2 : Int} {x3 : Int} {s0 : zS}, zA σ s0 → zLc σ (fX7_rankOf_l4 n x1 x2 x3 s0) := by
  intro n
  induction n with
  | zero =>
    intro _ _ _ _ _
    exact zLc_none
  | succ n ih =>
    intro _ _ _ _ _
    unfold fX7_rankOf_l4
    repeat' first
      | with_reducible exact zLc_none
      | with_reducible exact zLc_some (by assumption)
      | with_reducible exact ih (by assumption)
      | with_reducible refine zLc_chk ?_
      | with_reducible refine zLc_ite ?_ ?_
      | with_reducible refine zLc_sto (by omega) (by assumption) (fun _ _ => ?_)
      | with_reducible exact loX7_isThere (by assumption)
      | with_reducible refine zLc_bn0 (loX7_isThere (by assumption)) (fun _ _ _ => ?_)
theorem loX7_rankOf {σ : zS} {p1 : Int} {s0 : zS} (_ : zA σ s0) : zLc σ (fX7_rankOf p1 s0) := by
  unfold fX7_rankOf
  repeat' first
    | with_reducible exact zLc_none
    | with_reducible exact zLc_some (by assumption)
    | with_reducible refine zLc_chk ?_
    | with_reducible refine zLc_ite ?_ ?_
    | with_reducible refine zLc_sto (by omega) (by assumption) (fun _ _ => ?_)
    | with_reducible exact loX7_rankOf_l4 _ (by assumption)
    | with_reducible refine zLc_bn0 (loX7_rankOf_l4 _ (by assumption)) (fun _ _ _ => ?_)
theorem loX7_pays {σ : zS} {p1 : Int} {s0 : zS} (_ : zA σ s0) : zLc σ (fX7_pays p1 s0) := by
  unfold fX7_pays
  repeat' first
    | with_reducible exact zLc_none
    | with_reducible exact zLc_some (by assumption)
    | with_reducible refine zLc_chk ?_
    | with_reducible refine zLc_ite ?_ ?_
    | with_reducible refine zLc_sto (by omega) (by assumption) (fun _ _ => ?_)
theorem loX7_paysAll_l122 {σ : zS} : ∀ (n : Nat) {x1 : Int} {x2 : Int} {x4 : Int} {s0 : zS}, zA σ s0 → zLc σ (fX7_paysAll_l122 n x1 x2 x4 s0) := by
  intro n
  induction n with
  | zero =>
    intro _ _ _ _ _
    exact zLc_none
  | succ n ih =>
    intro _ _ _ _ _
    unfold fX7_paysAll_l122
    repeat' first
      | with_reducible exact zLc_none
      | with_reducible exact zLc_some (by assumption)
      | with_reducible exact ih (by assumption)
      | with_reducible refine zLc_chk ?_
      | with_reducible refine zLc_ite ?_ ?_
      | with_reducible refine zLc_sto (by omega) (by assumption) (fun _ _ => ?_)
theorem loX7_paysAll_l66 {σ : zS} {kf : Int → Int → zS → zO} (hk : ∀ (y0 : Int) (y1 : Int) (s : zS), zA σ s → zLc σ (kf y0 y1 s)) : ∀ (n : Nat) {x1 : Int} {x2 : Int} {x3 : Int} {s0 : zS}, zA σ s0 → zLc σ (fX7_paysAll_l66 kf n x1 x2 x3 s0) := by
  intro n
  induction n with
  | zero =>
    intro _ _ _ _ _
    exact zLc_none
  | succ n ih =>
    intro _ _ _ _ _
    unfold fX7_paysAll_l66
    repeat' first
      | with_reducible exact zLc_none
      | with_reducible exact zLc_some (by assumption)
      | with_reducible exact hk _ _ _ (by assumption)
      | with_reducible exact ih (by assumption)
      | with_reducible refine zLc_chk ?_
      | with_reducible refine zLc_ite ?_ ?_
      | with_reducible refine zLc_sto (by omega) (by assumption) (fun _ _ => ?_)
      | with_reducible exact loX7_isThere (by assumption)
      | with_reducible refine zLc_bn0 (loX7_isThere (by assumption)) (fun _ _ _ => ?_)
      | with_reducible exact loX7_rankOf (by assumption)
      | with_reducible refine zLc_bn0 (loX7_rankOf (by assumption)) (fun _ _ _ => ?_)
      | with_reducible exact loX7_pays (by assumption)
      | with_reducible refine zLc_bn0 (loX7_pays (by assumption)) (fun _ _ _ => ?_)
theorem loX7_paysAll_l56 {σ : zS} : ∀ (n : Nat) {x1 : Int} {x2 : Int} {s0 : zS}, zA σ s0 → zLc σ (fX7_paysAll_l56 n x1 x2 s0) := by
  intro n
  induction n with
  | zero =>
    intro _ _ _ _
    exact zLc_none
  | succ n ih =>
    intro _ _ _ _
    unfold fX7_paysAll_l56
    repeat' first
      | with_reducible exact zLc_none
      | with_reducible exact zLc_some (by assumption)
      | with_reducible exact ih (by assumption)
      | with_reducible refine zLc_chk ?_
      | with_reducible refine zLc_ite ?_ ?_
      | with_reducible refine zLc_sto (by omega) (by assumption) (fun _ _ => ?_)
      | with_reducible exact loX7_paysAll_l122 _ (by assumption)
      | with_reducible refine zLc_bn0 (loX7_paysAll_l122 _ (by assumption)) (fun _ _ _ => ?_)
      | with_reducible exact loX7_paysAll_l66 (fun _ _ _ h => by first | with_reducible exact ih h) _ (by assumption)
theorem loX7_paysAll_l14 {σ : zS} {kf : Int → Int → zS → zO} (hk : ∀ (y0 : Int) (y1 : Int) (s : zS), zA σ s → zLc σ (kf y0 y1 s)) : ∀ (n : Nat) {x1 : Int} {x2 : Int} {x3 : Int} {s0 : zS}, zA σ s0 → zLc σ (fX7_paysAll_l14 kf n x1 x2 x3 s0) := by
  intro n
  induction n with
  | zero =>
    intro _ _ _ _ _
    exact zLc_none
  | succ n ih =>
    intro _ _ _ _ _
    unfold fX7_paysAll_l14
    repeat' first
      | with_reducible exact zLc_none
      | with_reducible exact zLc_some (by assumption)
      | with_reducible exact hk _ _ _ (by assumption)
      | with_reducible exact ih (by assumption)
      | with_reducible refine zLc_chk ?_
      | with_reducible refine zLc_ite ?_ ?_
      | with_reducible refine zLc_sto (by omega) (by assumption) (fun _ _ => ?_)
      | with_reducible exact loX7_isLien (by assumption)
      | with_reducible refine zLc_bn0 (loX7_isLien (by assumption)) (fun _ _ _ => ?_)
      | with_reducible exact loX7_pays (by assumption)
      | with_reducible refine zLc_bn0 (loX7_pays (by assumption)) (fun _ _ _ => ?_)
theorem loX7_paysAll_l2 {σ : zS} : ∀ (n : Nat) {x1 : Int} {x2 : Int} {s0 : zS}, zA σ s0 → zLc σ (fX7_paysAll_l2 n x1 x2 s0) := by
  intro n
  induction n with
  | zero =>
    intro _ _ _ _
    exact zLc_none
  | succ n ih =>
    intro _ _ _ _
    unfold fX7_paysAll_l2
    repeat' first
      | with_reducible exact zLc_none
      | with_reducible exact zLc_some (by assumption)
      | with_reducible exact ih (by assumption)
      | with_reducible refine zLc_chk ?_
      | with_reducible refine zLc_ite ?_ ?_
      | with_reducible refine zLc_sto (by omega) (by assumption) (fun _ _ => ?_)
      | with_reducible exact loX7_paysAll_l56 _ (by assumption)
      | with_reducible refine zLc_bn0 (loX7_paysAll_l56 _ (by assumption)) (fun _ _ _ => ?_)
      | with_reducible exact loX7_paysAll_l14 (fun _ _ _ h => by first | with_reducible exact ih h) _ (by assumption)
theorem loX7_paysAll {σ : zS} {p1 : Int} {s0 : zS} (_ : zA σ s0) : zLc σ (fX7_paysAll p1 s0) := by
  unfold fX7_paysAll
  repeat' first
    | with_reducible exact zLc_none
    | with_reducible exact zLc_some (by assumption)
    | with_reducible refine zLc_chk ?_
    | with_reducible refine zLc_ite ?_ ?_
    | with_reducible refine zLc_sto (by omega) (by assumption) (fun _ _ => ?_)
    | with_reducible exact loX7_paysAll_l2 _ (by assumption)
    | with_reducible refine zLc_bn0 (loX7_paysAll_l2 _ (by assumption)) (fun _ _ _ => ?_)
theorem loX7_court_l126 {σ : zS} : ∀ (n : Nat) {x1 : Int} {x2 : Int} {x3 : Int} {x4 : Int} {s0 : zS}, zA σ s0 → zLc σ (fX7_court_l126 n x1 x2 x3 x4 s0) := by
  intro n
  induction n with
  | zero =>
    intro _ _ _ _ _ _
    exact zLc_none
  | succ n ih =>
    intro _ _ _ _ _ _
    unfold fX7_court_l126
    repeat' first
      | with_reducible exact zLc_none
      | with_reducible exact zLc_some (by assumption)
      | with_reducible exact ih (by assumption)
      | with_reducible refine zLc_chk ?_
      | with_reducible refine zLc_ite ?_ ?_
      | with_reducible refine zLc_sto (by omega) (by assumption) (fun _ _ => ?_)
      | with_reducible exact loX7_enter (by assumption)
      | with_reducible refine zLc_bn0 (loX7_enter (by assumption)) (fun _ _ _ => ?_)
theorem loX7_court_l75 {σ : zS} : ∀ (n : Nat) {x1 : Int} {x2 : Int} {x3 : Int} {x4 : Int} {s0 : zS}, zA σ s0 → zLc σ (fX7_court_l75 n x1 x2 x3 x4 s0) := by
  intro n
  induction n with
  | zero =>
    intro _ _ _ _ _ _
    exact zLc_none
  | succ n ih =>
    intro _ _ _ _ _ _
    unfold fX7_court_l75
    repeat' first
      | with_reducible exact zLc_none
      | with_reducible exact zLc_some (by assumption)
      | with_reducible exact ih (by assumption)
      | with_reducible refine zLc_chk ?_
      | with_reducible refine zLc_ite ?_ ?_
      | with_reducible refine zLc_sto (by omega) (by assumption) (fun _ _ => ?_)
      | with_reducible exact loX7_court_l126 _ (by assumption)
      | with_reducible refine zLc_bn0 (loX7_court_l126 _ (by assumption)) (fun _ _ _ => ?_)
theorem loX7_court {σ : zS} {p1 : Int} {p2 : Int} {p3 : Int} {s0 : zS} (_ : zA σ s0) : zLc σ (fX7_court p1 p2 p3 s0) := by
  unfold fX7_court
  repeat' first
    | with_reducible exact zLc_none
    | with_reducible exact zLc_some (by assumption)
    | with_reducible refine zLc_chk ?_
    | with_reducible refine zLc_ite ?_ ?_
    | with_reducible refine zLc_sto (by omega) (by assumption) (fun _ _ => ?_)
    | with_reducible exact loX7_in (by assumption)
    | with_reducible refine zLc_bn0 (loX7_in (by assumption)) (fun _ _ _ => ?_)
    | with_reducible exact loX7_isParty (by assumption)
    | with_reducible refine zLc_bn0 (loX7_isParty (by assumption)) (fun _ _ _ => ?_)
    | with_reducible exact loX7_isShip (by assumption)
    | with_reducible refine zLc_bn0 (loX7_isShip (by assumption)) (fun _ _ _ => ?_)
    | with_reducible exact loX7_paysAll (by assumption)
    | with_reducible refine zLc_bn0 (loX7_paysAll (by assumption)) (fun _ _ _ => ?_)
    | with_reducible exact loX7_court_l75 _ (by assumption)
    | with_reducible refine zLc_bn0 (loX7_court_l75 _ (by assumption)) (fun _ _ _ => ?_)
theorem loX7_pass {σ : zS} {p1 : Int} {s0 : zS} (_ : zA σ s0) : zLc σ (fX7_pass p1 s0) := by
  unfold fX7_pass
  repeat' first
    | with_reducible exact zLc_none
    | with_reducible exact zLc_some (by assumption)
    | with_reducible refine zLc_chk ?_
    | with_reducible refine zLc_ite ?_ ?_
    | with_reducible refine zLc_sto (by omega) (by assumption) (fun _ _ => ?_)
    | with_reducible exact loX7_in (by assumption)
    | with_reducible refine zLc_bn0 (loX7_in (by assumption)) (fun _ _ _ => ?_)
theorem loX7_share {σ : zS} {p1 : Int} {p2 : Int} {s0 : zS} (_ : zA σ s0) : zLc σ (fX7_share p1 p2 s0) := by
  unfold fX7_share
  repeat' first
    | with_reducible exact zLc_none
    | with_reducible exact zLc_some (by assumption)
    | with_reducible refine zLc_chk ?_
    | with_reducible refine zLc_ite ?_ ?_
    | with_reducible refine zLc_sto (by omega) (by assumption) (fun _ _ => ?_)
    | with_reducible exact loX7_isParty (by assumption)
    | with_reducible refine zLc_bn0 (loX7_isParty (by assumption)) (fun _ _ _ => ?_)
    | with_reducible exact loX7_isShip (by assumption)
    | with_reducible refine zLc_bn0 (loX7_isShip (by assumption)) (fun _ _ _ => ?_)
theorem loX7_sound {σ : zS} {p1 : Int} {p2 : Int} {s0 : zS} (_ : zA σ s0) : zLc σ (fX7_sound p1 p2 s0) := by
  unfold fX7_sound
  repeat' first
    | with_reducible exact zLc_none
    | with_reducible exact zLc_some (by assumption)
    | with_reducible refine zLc_chk ?_
    | with_reducible refine zLc_ite ?_ ?_
    | with_reducible refine zLc_sto (by omega) (by assumption) (fun _ _ => ?_)
    | with_reducible exact loX7_isShip (by assumption)
    | with_reducible refine zLc_bn0 (loX7_isShip (by assumption)) (fun _ _ _ => ?_)
theorem loX7_flag {σ : zS} {p1 : Int} {s0 : zS} (_ : zA σ s0) : zLc σ (fX7_flag p1 s0) := by
  unfold fX7_flag
  repeat' first
    | with_reducible exact zLc_none
    | with_reducible exact zLc_some (by assumption)
    | with_reducible refine zLc_chk ?_
    | with_reducible refine zLc_ite ?_ ?_
    | with_reducible refine zLc_sto (by omega) (by assumption) (fun _ _ => ?_)
    | with_reducible exact loX7_isShip (by assumption)
    | with_reducible refine zLc_bn0 (loX7_isShip (by assumption)) (fun _ _ _ => ?_)
    | with_reducible exact loX7_flagNow (by assumption)
    | with_reducible refine zLc_bn0 (loX7_flagNow (by assumption)) (fun _ _ _ => ?_)
theorem loX7_rank {σ : zS} {p1 : Int} {s0 : zS} (_ : zA σ s0) : zLc σ (fX7_rank p1 s0) := by
  unfold fX7_rank
  repeat' first
    | with_reducible exact zLc_none
    | with_reducible exact zLc_some (by assumption)
    | with_reducible refine zLc_chk ?_
    | with_reducible refine zLc_ite ?_ ?_
    | with_reducible refine zLc_sto (by omega) (by assumption) (fun _ _ => ?_)
    | with_reducible exact loX7_isMortgage (by assumption)
    | with_reducible refine zLc_bn0 (loX7_isMortgage (by assumption)) (fun _ _ _ => ?_)
    | with_reducible exact loX7_isThere (by assumption)
    | with_reducible refine zLc_bn0 (loX7_isThere (by assumption)) (fun _ _ _ => ?_)
    | with_reducible exact loX7_rankOf (by assumption)
    | with_reducible refine zLc_bn0 (loX7_rankOf (by assumption)) (fun _ _ _ => ?_)
theorem loX7_findBook_l64 {σ : zS} {kf : Int → Int → Int → zS → zO} (hk : ∀ (y0 : Int) (y1 : Int) (y2 : Int) (s : zS), zA σ s → zLc σ (kf y0 y1 y2 s)) : ∀ (n : Nat) {x1 : Int} {x2 : Int} {x4 : Int} {x5 : Int} {s0 : zS}, zA σ s0 → zLc σ (fX7_findBook_l64 kf n x1 x2 x4 x5 s0) := by
  intro n
  induction n with
  | zero =>
    intro _ _ _ _ _ _
    exact zLc_none
  | succ n ih =>
    intro _ _ _ _ _ _
    unfold fX7_findBook_l64
    repeat' first
      | with_reducible exact zLc_none
      | with_reducible exact zLc_some (by assumption)
      | with_reducible exact hk _ _ _ _ (by assumption)
      | with_reducible exact ih (by assumption)
      | with_reducible refine zLc_chk ?_
      | with_reducible refine zLc_ite ?_ ?_
      | with_reducible refine zLc_sto (by omega) (by assumption) (fun _ _ => ?_)
theorem loX7_findBook_l29 {σ : zS} : ∀ (n : Nat) {x1 : Int} {x2 : Int} {x4 : Int} {s0 : zS}, zA σ s0 → zLc σ (fX7_findBook_l29 n x1 x2 x4 s0) := by
  intro n
  induction n with
  | zero =>
    intro _ _ _ _ _
    exact zLc_none
  | succ n ih =>
    intro _ _ _ _ _
    unfold fX7_findBook_l29
    repeat' first
      | with_reducible exact zLc_none
      | with_reducible exact zLc_some (by assumption)
      | with_reducible exact ih (by assumption)
      | with_reducible refine zLc_chk ?_
      | with_reducible refine zLc_ite ?_ ?_
      | with_reducible refine zLc_sto (by omega) (by assumption) (fun _ _ => ?_)
      | with_reducible exact loX7_findBook_l64 (fun _ _ _ _ h => by first | with_reducible exact ih h) _ (by assumption)
theorem loX7_findBook_l3 {σ : zS} : ∀ (n : Nat) {x1 : Int} {x2 : Int} {x4 : Int} {s0 : zS}, zA σ s0 → zLc σ (fX7_findBook_l3 n x1 x2 x4 s0) := by
  intro n
  induction n with
  | zero =>
    intro _ _ _ _ _
    exact zLc_none
  | succ n ih =>
    intro _ _ _ _ _
    unfold fX7_findBook_l3
    repeat' first
      | with_reducible exact zLc_none
      | with_reducible exact zLc_some (by assumption)
      | with_reducible exact ih (by assumption)
      | with_reducible refine zLc_chk ?_
      | with_reducible refine zLc_ite ?_ ?_
      | with_reducible refine zLc_sto (by omega) (by assumption) (fun _ _ => ?_)
      | with_reducible exact loX7_findBook_l29 _ (by assumption)
      | with_reducible refine zLc_bn0 (loX7_findBook_l29 _ (by assumption)) (fun _ _ _ => ?_)
theorem loX7_findBook {σ : zS} {p1 : Int} {p2 : Int} {s0 : zS} (_ : zA σ s0) : zLc σ (fX7_findBook p1 p2 s0) := by
  unfold fX7_findBook
  repeat' first
    | with_reducible exact zLc_none
    | with_reducible exact zLc_some (by assumption)
    | with_reducible refine zLc_chk ?_
    | with_reducible refine zLc_ite ?_ ?_
    | with_reducible refine zLc_sto (by omega) (by assumption) (fun _ _ => ?_)
    | with_reducible exact loX7_findBook_l3 _ (by assumption)
    | with_reducible refine zLc_bn0 (loX7_findBook_l3 _ (by assumption)) (fun _ _ _ => ?_)
theorem loX7_search_l77 {σ : zS} {kf : Int → Int → Int → zS → zO} (hk : ∀ (y0 : Int) (y1 : Int) (y2 : Int) (s : zS), zA σ s → zLc σ (kf y0 y1 y2 s)) : ∀ (n : Nat) {x4 : Int} {x5 : Int} {x6 : Int} {x7 : Int} {x8 : Int} {s0 : zS}, zA σ s0 → zLc σ (fX7_search_l77 kf n x4 x5 x6 x7 x8 s0) := by
  intro n
  induction n with
  | zero =>
    intro _ _ _ _ _ _ _
    exact zLc_none
  | succ n ih =>
    intro _ _ _ _ _ _ _
    unfold fX7_search_l77
    repeat' first
      | with_reducible exact zLc_none
      | with_reducible exact zLc_some (by assumption)
      | with_reducible exact hk _ _ _ _ (by assumption)
      | with_reducible exact ih (by assumption)
      | with_reducible refine zLc_chk ?_
      | with_reducible refine zLc_ite ?_ ?_
      | with_reducible refine zLc_sto (by omega) (by assumption) (fun _ _ => ?_)
theorem loX7_search_l62 {σ : zS} : ∀ (n : Nat) {x4 : Int} {x5 : Int} {x6 : Int} {s0 : zS}, zA σ s0 → zLc σ (fX7_search_l62 n x4 x5 x6 s0) := by
  intro n
  induction n with
  | zero =>
    intro _ _ _ _ _
    exact zLc_none
  | succ n ih =>
    intro _ _ _ _ _
    unfold fX7_search_l62
    repeat' first
      | with_reducible exact zLc_none
      | with_reducible exact zLc_some (by assumption)
      | with_reducible exact ih (by assumption)
      | with_reducible refine zLc_chk ?_
      | with_reducible refine zLc_ite ?_ ?_
      | with_reducible refine zLc_sto (by omega) (by assumption) (fun _ _ => ?_)
      | with_reducible exact loX7_search_l77 (fun _ _ _ _ h => by first | with_reducible exact ih h) _ (by assumption)
theorem loX7_search {σ : zS} {p1 : Int} {p2 : Int} {p3 : Int} {s0 : zS} (_ : zA σ s0) : zLc σ (fX7_search p1 p2 p3 s0) := by
  unfold fX7_search
  repeat' first
    | with_reducible exact zLc_none
    | with_reducible exact zLc_some (by assumption)
    | with_reducible refine zLc_chk ?_
    | with_reducible refine zLc_ite ?_ ?_
    | with_reducible refine zLc_sto (by omega) (by assumption) (fun _ _ => ?_)
    | with_reducible exact loX7_isShip (by assumption)
    | with_reducible refine zLc_bn0 (loX7_isShip (by assumption)) (fun _ _ _ => ?_)
    | with_reducible exact loX7_findBook (by assumption)
    | with_reducible refine zLc_bn0 (loX7_findBook (by assumption)) (fun _ _ _ => ?_)
    | with_reducible exact loX7_search_l62 _ (by assumption)
    | with_reducible refine zLc_bn0 (loX7_search_l62 _ (by assumption)) (fun _ _ _ => ?_)
theorem loX7_got {σ : zS} {p1 : Int} {s0 : zS} (_ : zA σ s0) : zLc σ (fX7_got p1 s0) := by
  unfold fX7_got
  repeat' first
    | with_reducible exact zLc_none
    | with_reducible exact zLc_some (by assumption)
    | with_reducible refine zLc_chk ?_
    | with_reducible refine zLc_ite ?_ ?_
    | with_reducible refine zLc_sto (by omega) (by assumption) (fun _ _ => ?_)
    | with_reducible exact loX7_isParty (by assumption)
    | with_reducible refine zLc_bn0 (loX7_isParty (by assumption)) (fun _ _ _ => ?_)
theorem loX7_liens_l21 {σ : zS} : ∀ (n : Nat) {x1 : Int} {x2 : Int} {x3 : Int} {s0 : zS}, zA σ s0 → zLc σ (fX7_liens_l21 n x1 x2 x3 s0) := by
  intro n
  induction n with
  | zero =>
    intro _ _ _ _ _
    exact zLc_none
  | succ n ih =>
    intro _ _ _ _ _
    unfold fX7_liens_l21
    repeat' first
      | with_reducible exact zLc_none
      | with_reducible exact zLc_some (by assumption)
      | with_reducible exact ih (by assumption)
      | with_reducible refine zLc_chk ?_
      | with_reducible refine zLc_ite ?_ ?_
      | with_reducible refine zLc_sto (by omega) (by assumption) (fun _ _ => ?_)
      | with_reducible exact loX7_isLien (by assumption)
      | with_reducible refine zLc_bn0 (loX7_isLien (by assumption)) (fun _ _ _ => ?_)
theorem loX7_liens {σ : zS} {p1 : Int} {s0 : zS} (_ : zA σ s0) : zLc σ (fX7_liens p1 s0) := by
  unfold fX7_liens
  repeat' first
    | with_reducible exact zLc_none
    | with_reducible exact zLc_some (by assumption)
    | with_reducible refine zLc_chk ?_
    | with_reducible refine zLc_ite ?_ ?_
    | with_reducible refine zLc_sto (by omega) (by assumption) (fun _ _ => ?_)
    | with_reducible exact loX7_isShip (by assumption)
    | with_reducible refine zLc_bn0 (loX7_isShip (by assumption)) (fun _ _ _ => ?_)
    | with_reducible exact loX7_liens_l21 _ (by assumption)
    | with_reducible refine zLc_bn0 (loX7_liens_l21 _ (by assumption)) (fun _ _ _ => ?_)
theorem OpR_lc {B : Int} {cd : Nat → Int} {C : zO} {M : zS → zO} (h : OpR B cd C M) (hM : ∀ {σ s : zS}, zA σ s → zLc σ (M s)) : ∃ (t : Nat) (v : Int) (σ1 τ : zS), C = some (t, v, σ1) ∧ t ≤ 3 ∧ zAg σ1 τ ∧ Iv B τ := by
  obtain ⟨t, v, σ1, h1, h2, h3⟩ := h
  obtain ⟨b, σ2, g1, g2, g3, g4, g5⟩ := h3 (σ1 9 0)
  have e : zsu σ1 9 0 (σ1 9 0) = σ1 := by
    funext k j
    by_cases c : k = 9 ∧ j = 0
    · rw [zsu_y c, c.1, c.2]
    · rw [zsu_o c]
  rw [e] at g1
  exact ⟨t, v, σ1, σ2, h1, h2.1, fun k hk => hM zA_rf _ _ _ g1 k (by omega), g5⟩
