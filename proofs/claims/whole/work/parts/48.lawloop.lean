def fLaw (xs : Nat → Int32) (L : Nat) : Nat → Int → zS → zO
  | 0, _, _ => none
  | n + 1, i, s0 => if w32 ((L : Int) - 5) < w32 i then some (0, 1, s0) else zchk (0 ≤ w32 i ∧ w32 i < (L : Int)) (if w32 (((xs (w32 i).toNat).toInt) % 32) = 0 then fLc0 xs L i (fun s1 => fLaw xs L n (i + 5) s1) s0 else if w32 (((xs (w32 i).toNat).toInt) % 32) = 1 then fLc1 xs L i (fun s1 => fLaw xs L n (i + 5) s1) s0 else if w32 (((xs (w32 i).toNat).toInt) % 32) = 2 then fLc2 xs L i (fun s1 => fLaw xs L n (i + 5) s1) s0 else if w32 (((xs (w32 i).toNat).toInt) % 32) = 3 then fLc3 xs L i (fun s1 => fLaw xs L n (i + 5) s1) s0 else if w32 (((xs (w32 i).toNat).toInt) % 32) = 4 then fLc4 xs L i (fun s1 => fLaw xs L n (i + 5) s1) s0 else if w32 (((xs (w32 i).toNat).toInt) % 32) = 5 then fLc5 xs L i (fun s1 => fLaw xs L n (i + 5) s1) s0 else if w32 (((xs (w32 i).toNat).toInt) % 32) = 6 then fLc6 xs L i (fun s1 => fLaw xs L n (i + 5) s1) s0 else if w32 (((xs (w32 i).toNat).toInt) % 32) = 7 then fLc7 xs L i (fun s1 => fLaw xs L n (i + 5) s1) s0 else if w32 (((xs (w32 i).toNat).toInt) % 32) = 8 then fLc8 xs L i (fun s1 => fLaw xs L n (i + 5) s1) s0 else if w32 (((xs (w32 i).toNat).toInt) % 32) = 9 then fLc9 xs L i (fun s1 => fLaw xs L n (i + 5) s1) s0 else if w32 (((xs (w32 i).toNat).toInt) % 32) = 10 then fLc10 xs L i (fun s1 => fLaw xs L n (i + 5) s1) s0 else if w32 (((xs (w32 i).toNat).toInt) % 32) = 11 then fLc11 xs L i (fun s1 => fLaw xs L n (i + 5) s1) s0 else if w32 (((xs (w32 i).toNat).toInt) % 32) = 12 then fLc12 xs L i (fun s1 => fLaw xs L n (i + 5) s1) s0 else if w32 (((xs (w32 i).toNat).toInt) % 32) = 13 then fLc13 xs L i (fun s1 => fLaw xs L n (i + 5) s1) s0 else if w32 (((xs (w32 i).toNat).toInt) % 32) = 14 then fLc14 xs L i (fun s1 => fLaw xs L n (i + 5) s1) s0 else if w32 (((xs (w32 i).toNat).toInt) % 32) = 15 then fLc15 xs L i (fun s1 => fLaw xs L n (i + 5) s1) s0 else if w32 (((xs (w32 i).toNat).toInt) % 32) = 16 then fLc16 xs L i (fun s1 => fLaw xs L n (i + 5) s1) s0 else if w32 (((xs (w32 i).toNat).toInt) % 32) = 17 then fLc17 xs L i (fun s1 => fLaw xs L n (i + 5) s1) s0 else if w32 (((xs (w32 i).toNat).toInt) % 32) = 18 then fLc18 xs L i (fun s1 => fLaw xs L n (i + 5) s1) s0 else if w32 (((xs (w32 i).toNat).toInt) % 32) = 19 then fLc19 xs L i (fun s1 => fLaw xs L n (i + 5) s1) s0 else if w32 (((xs (w32 i).toNat).toInt) % 32) = 20 then fLc20 xs L i (fun s1 => fLaw xs L n (i + 5) s1) s0 else fLaw xs L n (i + 5) s0)
set_option maxHeartbeats 4000000 in
set_option maxRecDepth 100000 in
theorem wLaw {K : zK} {tb : List (Nat × Nat × Nat × Nat)} {b L : Nat} {xs : Nat → Int32} {se : zS} (hKn : K.2.2.2.2.2.2.2.2.2.2.2.2.2 = 8) (X : CX K cL_law RL zlwr room_1 tb) (Sx : SX K b L xs) : ∀ (n : Nat) (i : Int) (s0 : zS) (c0 d0 : Nat), c0 + 8 * n ≤ 601970 → d0 + 48 * n ≤ 7290195 → fLaw xs L n i s0 = some (0, (1 : Int), se) → WG K c0 d0 s0 23 (lw_lv b i) [] := by
  intro n
  induction n with
  | zero =>
    intro i s0 c0 d0 hc hd hs
    exact absurd (show (none : zO) = some (0, (1 : Int), se) from hs) (fun h => by cases h)
  | succ n ih =>
    intro i s0 c0 d0 hc hd hs
    unfold fLaw at hs
    have hend : ∀ (c1 d1 : Nat) (s1 : zS), c1 ≤ c0 + 8 → d1 ≤ d0 + 48 → fLaw xs L n (i + 5) s1 = some (0, (1 : Int), se) → WG K c1 d1 s1 1555 (lw_lv b i) [] := by
      intro c1 d1 s1 h1 h2 h3
      show WG K c1 d1 s1 1555 [(0, vA b), (1, vR 0), (2, vR 168), (3, vR 9), (4, vI i)] []
      refine r_iinc (j := 4) (lv' := [(4, vI (i + 5)), (0, vA b), (1, vR 0), (2, vR 168), (3, vR 9)]) X dL_law_1555 rfl (zlt hKn (by decide)) rfl ?_
      refine r_goto (tgt := 23) X dL_law_1558 (by decide) ?_
      refine r_sub (lv' := lw_lv b (i + 5)) X [1, 2, 3, 4, 0] rfl ?_
      exact ih (i + 5) s1 c1 d1 (by omega) (by omega) h3
    show WG K c0 d0 s0 23 [(0, vA b), (1, vR 0), (2, vR 168), (3, vR 9), (4, vI i)] []
    refine r_iload (j := 4) X dL_law_23 rfl ?_
    refine r_aload_nA (i := 0) (j := 0) X dL_law_25 rfl rfl ?_
    refine r_slen X Sx dL_law_26 ?_
    refine r_iconst X dL_law_27 ?_
    refine r_isub X dL_law_28 ?_
    refine r_icmp_gt (tgt := 1561) X dL_law_29 (by decide) (fun c => ?_) (fun c => ?_)
    · replace hs := zif_t c hs
      refine r_iconst X dL_law_1561 ?_
      exact r_lwret X Sx hs (by omega) (by omega) dL_law_1562
    · replace hs := zif_f c hs
      refine r_aload_nA (i := 0) (j := 0) X dL_law_32 rfl rfl ?_
      refine r_iload (j := 4) X dL_law_33 rfl ?_
      obtain ⟨hi, hs⟩ := zchk_some hs
      refine r_sld X Sx hi dL_law_35 ?_
      refine r_bipush X dL_law_36 (by decide +kernel) ?_
      refine r_iand X (zI_and31 _) dL_law_38 ?_
      by_cases ck0 : w32 (((xs (w32 i).toNat).toInt) % 32) = 0
      · replace hs := zif_t ck0 hs
        refine r_tsIn (tgt := 136) X dL_law_39 ck0 (by decide) (by decide) rfl (by decide) ?_
        exact wLc0 hKn X Sx i _ c0 d0 (by omega) (by omega) hend s0 hs
      replace hs := zif_f ck0 hs
      by_cases ck1 : w32 (((xs (w32 i).toNat).toInt) % 32) = 1
      · replace hs := zif_t ck1 hs
        refine r_tsIn (tgt := 194) X dL_law_39 ck1 (by decide) (by decide) rfl (by decide) ?_
        exact wLc1 hKn X Sx i _ c0 d0 (by omega) (by omega) hend s0 hs
      replace hs := zif_f ck1 hs
      by_cases ck2 : w32 (((xs (w32 i).toNat).toInt) % 32) = 2
      · replace hs := zif_t ck2 hs
        refine r_tsIn (tgt := 250) X dL_law_39 ck2 (by decide) (by decide) rfl (by decide) ?_
        exact wLc2 hKn X Sx i _ c0 d0 (by omega) (by omega) hend s0 hs
      replace hs := zif_f ck2 hs
      by_cases ck3 : w32 (((xs (w32 i).toNat).toInt) % 32) = 3
      · replace hs := zif_t ck3 hs
        refine r_tsIn (tgt := 294) X dL_law_39 ck3 (by decide) (by decide) rfl (by decide) ?_
        exact wLc3 hKn X Sx i _ c0 d0 (by omega) (by omega) hend s0 hs
      replace hs := zif_f ck3 hs
      by_cases ck4 : w32 (((xs (w32 i).toNat).toInt) % 32) = 4
      · replace hs := zif_t ck4 hs
        refine r_tsIn (tgt := 374) X dL_law_39 ck4 (by decide) (by decide) rfl (by decide) ?_
        exact wLc4 hKn X Sx i _ c0 d0 (by omega) (by omega) hend s0 hs
      replace hs := zif_f ck4 hs
      by_cases ck5 : w32 (((xs (w32 i).toNat).toInt) % 32) = 5
      · replace hs := zif_t ck5 hs
        refine r_tsIn (tgt := 430) X dL_law_39 ck5 (by decide) (by decide) rfl (by decide) ?_
        exact wLc5 hKn X Sx i _ c0 d0 (by omega) (by omega) hend s0 hs
      replace hs := zif_f ck5 hs
      by_cases ck6 : w32 (((xs (w32 i).toNat).toInt) % 32) = 6
      · replace hs := zif_t ck6 hs
        refine r_tsIn (tgt := 486) X dL_law_39 ck6 (by decide) (by decide) rfl (by decide) ?_
        exact wLc6 hKn X Sx i _ c0 d0 (by omega) (by omega) hend s0 hs
      replace hs := zif_f ck6 hs
      by_cases ck7 : w32 (((xs (w32 i).toNat).toInt) % 32) = 7
      · replace hs := zif_t ck7 hs
        refine r_tsIn (tgt := 578) X dL_law_39 ck7 (by decide) (by decide) rfl (by decide) ?_
        exact wLc7 hKn X Sx i _ c0 d0 (by omega) (by omega) hend s0 hs
      replace hs := zif_f ck7 hs
      by_cases ck8 : w32 (((xs (w32 i).toNat).toInt) % 32) = 8
      · replace hs := zif_t ck8 hs
        refine r_tsIn (tgt := 646) X dL_law_39 ck8 (by decide) (by decide) rfl (by decide) ?_
        exact wLc8 hKn X Sx i _ c0 d0 (by omega) (by omega) hend s0 hs
      replace hs := zif_f ck8 hs
      by_cases ck9 : w32 (((xs (w32 i).toNat).toInt) % 32) = 9
      · replace hs := zif_t ck9 hs
        refine r_tsIn (tgt := 714) X dL_law_39 ck9 (by decide) (by decide) rfl (by decide) ?_
        exact wLc9 hKn X Sx i _ c0 d0 (by omega) (by omega) hend s0 hs
      replace hs := zif_f ck9 hs
      by_cases ck10 : w32 (((xs (w32 i).toNat).toInt) % 32) = 10
      · replace hs := zif_t ck10 hs
        refine r_tsIn (tgt := 794) X dL_law_39 ck10 (by decide) (by decide) rfl (by decide) ?_
        exact wLc10 hKn X Sx i _ c0 d0 (by omega) (by omega) hend s0 hs
      replace hs := zif_f ck10 hs
      by_cases ck11 : w32 (((xs (w32 i).toNat).toInt) % 32) = 11
      · replace hs := zif_t ck11 hs
        refine r_tsIn (tgt := 858) X dL_law_39 ck11 (by decide) (by decide) rfl (by decide) ?_
        exact wLc11 hKn X Sx i _ c0 d0 (by omega) (by omega) hend s0 hs
      replace hs := zif_f ck11 hs
      by_cases ck12 : w32 (((xs (w32 i).toNat).toInt) % 32) = 12
      · replace hs := zif_t ck12 hs
        refine r_tsIn (tgt := 950) X dL_law_39 ck12 (by decide) (by decide) rfl (by decide) ?_
        exact wLc12 hKn X Sx i _ c0 d0 (by omega) (by omega) hend s0 hs
      replace hs := zif_f ck12 hs
      by_cases ck13 : w32 (((xs (w32 i).toNat).toInt) % 32) = 13
      · replace hs := zif_t ck13 hs
        refine r_tsIn (tgt := 1029) X dL_law_39 ck13 (by decide) (by decide) rfl (by decide) ?_
        exact wLc13 hKn X Sx i _ c0 d0 (by omega) (by omega) hend s0 hs
      replace hs := zif_f ck13 hs
      by_cases ck14 : w32 (((xs (w32 i).toNat).toInt) % 32) = 14
      · replace hs := zif_t ck14 hs
        refine r_tsIn (tgt := 1084) X dL_law_39 ck14 (by decide) (by decide) rfl (by decide) ?_
        exact wLc14 hKn X Sx i _ c0 d0 (by omega) (by omega) hend s0 hs
      replace hs := zif_f ck14 hs
      by_cases ck15 : w32 (((xs (w32 i).toNat).toInt) % 32) = 15
      · replace hs := zif_t ck15 hs
        refine r_tsIn (tgt := 1152) X dL_law_39 ck15 (by decide) (by decide) rfl (by decide) ?_
        exact wLc15 hKn X Sx i _ c0 d0 (by omega) (by omega) hend s0 hs
      replace hs := zif_f ck15 hs
      by_cases ck16 : w32 (((xs (w32 i).toNat).toInt) % 32) = 16
      · replace hs := zif_t ck16 hs
        refine r_tsIn (tgt := 1220) X dL_law_39 ck16 (by decide) (by decide) rfl (by decide) ?_
        exact wLc16 hKn X Sx i _ c0 d0 (by omega) (by omega) hend s0 hs
      replace hs := zif_f ck16 hs
      by_cases ck17 : w32 (((xs (w32 i).toNat).toInt) % 32) = 17
      · replace hs := zif_t ck17 hs
        refine r_tsIn (tgt := 1276) X dL_law_39 ck17 (by decide) (by decide) rfl (by decide) ?_
        exact wLc17 hKn X Sx i _ c0 d0 (by omega) (by omega) hend s0 hs
      replace hs := zif_f ck17 hs
      by_cases ck18 : w32 (((xs (w32 i).toNat).toInt) % 32) = 18
      · replace hs := zif_t ck18 hs
        refine r_tsIn (tgt := 1332) X dL_law_39 ck18 (by decide) (by decide) rfl (by decide) ?_
        exact wLc18 hKn X Sx i _ c0 d0 (by omega) (by omega) hend s0 hs
      replace hs := zif_f ck18 hs
      by_cases ck19 : w32 (((xs (w32 i).toNat).toInt) % 32) = 19
      · replace hs := zif_t ck19 hs
        refine r_tsIn (tgt := 1444) X dL_law_39 ck19 (by decide) (by decide) rfl (by decide) ?_
        exact wLc19 hKn X Sx i _ c0 d0 (by omega) (by omega) hend s0 hs
      replace hs := zif_f ck19 hs
      by_cases ck20 : w32 (((xs (w32 i).toNat).toInt) % 32) = 20
      · replace hs := zif_t ck20 hs
        refine r_tsIn (tgt := 1499) X dL_law_39 ck20 (by decide) (by decide) rfl (by decide) ?_
        exact wLc20 hKn X Sx i _ c0 d0 (by omega) (by omega) hend s0 hs
      replace hs := zif_f ck20 hs
      refine r_tsOut (tgt := 1555) X dL_law_39 ?_ (by decide) (hend c0 d0 s0 (by omega) (by omega) hs)
      have hw : 0 ≤ w32 (((xs (w32 i).toNat).toInt) % 32) ∧ w32 (((xs (w32 i).toNat).toInt) % 32) < 32 := by
        have e : w32 (((xs (w32 i).toNat).toInt) % 32) = ((xs (w32 i).toNat).toInt) % 32 := Int32.toInt_ofInt_of_le (by omega) (by omega)
        rw [e]
        omega
      omega
