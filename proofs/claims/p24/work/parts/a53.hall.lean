def zcA : List Value → va_E := fun f => .inr (3, f)
def zpa (q : Nat) : va_E := .inr (3, [.ref q, .int (zI 0), .int (zI (-1)), .int (zI (-1)), .long (zJ 0)])
def zsh (q r : Nat) : va_E := .inr (4, [.ref q, .ref r, .int (zI 0), .int (zI (-1)), .long (-1)])
def zgP (E : zE) (a b : Nat → Nat) (j : Nat) : va_W := [(a j, zpa (b j)), (b j, zai E 8 10)]
def zgS (E : zE) (a b c : Nat → Nat) (j : Nat) : va_W := [(a j, zsh (b j) (c j)), (b j, zai E 7 8), (c j, zai E 8 10)]
def zF0 (p1 p2 h3 p4 p5 : Nat) : va_E := .inr (5, [.ref p1, .ref p2, .ref h3, .ref p4, .ref p5, .int (zI 0), .int (zI 0), .int (zI 0), .long (zJ 0)])
/-- the hall's cells: x the rest that the book and the two arrays are -/
def zh1 (E : zE) (h0 p1 p2 h3 p4 p5 : Nat) (x : va_W) (a b : Nat → Nat) (i : Nat) : va_W := (((h0, zF0 p1 p2 h3 p4 p5) :: (p1, zar E 13 10 (zfs a i)) :: (p2, zar E 14 6 (fun _ => none)) :: x) ++ zfam (zgP E a b) i)
def zh2 (E : zE) (h0 p1 p2 h3 p4 p5 : Nat) (x : va_W) (a b : Nat → Nat) (a2 b2 c2 : Nat → Nat) (i : Nat) : va_W := ((((h0, zF0 p1 p2 h3 p4 p5) :: (p1, zar E 13 10 (zfs a 10)) :: (p2, zar E 14 6 (zfs a2 i)) :: x) ++ zfam (zgP E a b) 10) ++ zfam (zgS E a2 b2 c2) i)
def zhx (E : zE) (h3 qp qm qs : Nat) (ab bb : Nat → Nat) (p4 p5 : Nat) : va_W := zbk E h3 qp qm qs ab bb 60 ++ [(p4, zai E 7 8), (p5, zai E 8 4)]
abbrev rmX6_init : Room := { frames := 3, cells := 166, slots := 1341, locals := 70 }
set_option maxHeartbeats 4000000 in
set_option maxRecDepth 100000 in
theorem wHall2 {K : zK} {h0 p1 p2 h3 p4 p5 qp qm qs : Nat} {ab bb : Nat → Nat} {wr ws0 : va_W} (hKn : K.2.2.2.2.2.2.2.2.2.2.2.2.2 = 2) (X : CY K cX6_init RX6 rmX6_init) (I0 : CI K) (F : FC K ws0 (fun ws' => ∃ p1 p2 h3 p4 p5 qp qm qs ab bb a b a2 b2 c2, ws' = wr ++ zh2 (zKE K) h0 p1 p2 h3 p4 p5 (zhx (zKE K) h3 qp qm qs ab bb p4 p5) a b a2 b2 c2 6) rmX6_init.cells rmX6_init.slots) (a b : Nat → Nat) : ∀ (n i : Nat) (a2 b2 c2 : Nat → Nat), i + n = 6 → WC K (148 + 3 * i) (1203 + 23 * i) (wr ++ zh2 (zKE K) h0 p1 p2 h3 p4 p5 (zhx (zKE K) h3 qp qm qs ab bb p4 p5) a b a2 b2 c2 i) 77 [(0, .ref h0), (1, .int (zI (i : Int)))] [] := by
  intro n
  induction n with
  | zero =>
    intro i a2 b2 c2 h
    obtain rfl : i = 6 := by omega
    refine c_iload (i := 1) (j := 1) X dX6_init_77 rfl rfl ?_
    refine c_bipush X dX6_init_78 (by decide +kernel) ?_
    refine c_icmp_ge (tgt := 102) X dX6_init_80 (by decide) (fun _ => ?_) (fun c => absurd ((zcmp (k := 6) (by decide) (by decide)).mpr (Nat.le_refl _)) c)
    exact c_vret X I0 F ⟨p1, p2, h3, p4, p5, qp, qm, qs, ab, bb, a, b, a2, b2, c2, rfl⟩ (by decide) (by decide) dX6_init_102
  | succ n ih =>
    intro i a2 b2 c2 h
    have hi : i < 6 := by omega
    refine c_iload (i := 1) (j := 1) X dX6_init_77 rfl rfl ?_
    refine c_bipush X dX6_init_78 (by decide +kernel) ?_
    refine c_icmp_ge (tgt := 102) X dX6_init_80 (by decide) (fun c => absurd ((zcmp (k := 6) (by omega) (by decide)).mp c) (by omega)) (fun _ => ?_)
    refine c_aload (i := 0) (j := 0) X dX6_init_83 rfl rfl ?_
    refine c_get (ci := 5) (C := RX6) (T := TX6) (N := 9) (j := 1) (v := .ref p2) X rfl zu_6 (zwr_get (k := 0) rfl) (by decide) zt_1_183 rfl dX6_init_84 ?_
    refine c_iload (i := 1) (j := 1) X dX6_init_87 rfl rfl ?_
    refine c_new (ci := 4) (C := RX5) (T := TX5) (N := 5) (fs := [.null, .null, .int (zI 0), .int (zI 0), .long (zJ 0)]) X rfl zu_5 tyX5 tyX5_ok zt_1_27 zt_1_157 zt_1_8 (fun j hj => by rcases (show j = 0 ∨ j = 1 ∨ j = 2 ∨ j = 3 ∨ j = 4 by omega) with rfl | rfl | rfl | rfl | rfl <;> rfl) ⟨by show _ ≤ 166; omega, by show _ ≤ 1341; omega⟩ dX6_init_88 (fun p => ?_)
    refine c_dup X rfl dX6_init_91 ?_
    refine c_callN X (kX5_init _ _ p (wr ++ zh2 (zKE K) h0 p1 p2 h3 p4 p5 (zhx (zKE K) h3 qp qm qs ab bb p4 p5) a b a2 b2 c2 i)) zt_1_160 zt_1_8 zt_1_159 rfl zn_45 qX5_init ⟨by decide, by decide⟩ ⟨by show 148 + 3 * i + 1 + 2 ≤ 166; omega, by show 1203 + 23 * i + 5 + 18 ≤ 1341; omega⟩ (Nat.le_of_ble_eq_true rfl) dX6_init_92 (fun ws2 hw2 => ?_)
    obtain ⟨q, r, rfl⟩ := hw2
    refine c_ws (ws2 := wr ++ (zh2 (zKE K) h0 p1 p2 h3 p4 p5 (zhx (zKE K) h3 qp qm qs ab bb p4 p5) a b a2 b2 c2 i ++ [(p, zsh q r), (q, zai (zKE K) 7 8), (r, zai (zKE K) 8 10)])) (List.append_assoc _ _ _) ?_
    refine c_astq (k := wr.length + 2) (kv := (wr ++ zh2 (zKE K) h0 p1 p2 h3 p4 p5 (zhx (zKE K) h3 qp qm qs ab bb p4 p5) a b a2 b2 c2 i).length) (ci := 14) (cv := 4) (r := (RX5, TX5, 5)) X (zwr_get (k := 2) rfl) (fun _ => rfl) (by rw [← List.append_assoc]; exact (zwr_get (wr := wr ++ zh2 (zKE K) h0 p1 p2 h3 p4 p5 (zhx (zKE K) h3 qp qm qs ab bb p4 p5) a b a2 b2 c2 i) (k := 0) rfl)) rfl (zvp hi (by decide)) dX6_init_95 ?_
    rw [zI_nat_idx (by omega), zfs_up, zwr_set]
    refine c_ws (ws2 := wr ++ zh2 (zKE K) h0 p1 p2 h3 p4 p5 (zhx (zKE K) h3 qp qm qs ab bb p4 p5) a b (va_up a2 i p) (va_up b2 i q) (va_up c2 i r) (i + 1)) ?_ ?_
    · congr 1
      unfold zh2
      rw [zfam_s (zgS (zKE K) a2 b2 c2) (zgS (zKE K) (va_up a2 i p) (va_up b2 i q) (va_up c2 i r)) i (fun j hj => by simp only [zgS, zup_ne hj])]
      simp only [zgS, zup_at]
      simp
      rfl
    refine c_iinc (j := 1) (lv' := [(1, .int (zI ((i + 1 : Nat) : Int))), (0, .ref h0)]) X dX6_init_96 rfl (zinc i) (zlt hKn (by decide)) rfl ?_
    refine c_goto (tgt := 77) X dX6_init_99 (by decide) ?_
    refine c_sub (lv' := [(0, .ref h0), (1, .int (zI ((i + 1 : Nat) : Int)))]) X [1, 0] rfl ?_
    refine c_widen (cl2 := 148 + 3 * (i + 1)) (sl2 := 1203 + 23 * (i + 1)) X (by show 148 + 3 * i + 1 + 2 ≤ _; omega) (by show 1203 + 23 * i + 5 + 18 ≤ _; omega) ?_
    exact ih (i + 1) _ _ _ (by omega)
set_option maxHeartbeats 4000000 in
set_option maxRecDepth 100000 in
theorem wHall1 {K : zK} {h0 p1 p2 h3 p4 p5 qp qm qs : Nat} {ab bb : Nat → Nat} {wr ws0 : va_W} (hKn : K.2.2.2.2.2.2.2.2.2.2.2.2.2 = 2) (X : CY K cX6_init RX6 rmX6_init) (I0 : CI K) (F : FC K ws0 (fun ws' => ∃ p1 p2 h3 p4 p5 qp qm qs ab bb a b a2 b2 c2, ws' = wr ++ zh2 (zKE K) h0 p1 p2 h3 p4 p5 (zhx (zKE K) h3 qp qm qs ab bb p4 p5) a b a2 b2 c2 6) rmX6_init.cells rmX6_init.slots) : ∀ (n i : Nat) (a b : Nat → Nat), i + n = 10 → WC K (128 + 2 * i) (1053 + 15 * i) (wr ++ zh1 (zKE K) h0 p1 p2 h3 p4 p5 (zhx (zKE K) h3 qp qm qs ab bb p4 p5) a b i) 50 [(0, .ref h0), (1, .int (zI (i : Int)))] [] := by
  intro n
  induction n with
  | zero =>
    intro i a b h
    obtain rfl : i = 10 := by omega
    refine c_iload (i := 1) (j := 1) X dX6_init_50 rfl rfl ?_
    refine c_bipush X dX6_init_51 (by decide +kernel) ?_
    refine c_icmp_ge (tgt := 75) X dX6_init_53 (by decide) (fun _ => ?_) (fun c => absurd ((zcmp (k := 10) (by decide) (by decide)).mpr (Nat.le_refl _)) c)
    refine c_iconst X dX6_init_75 ?_
    refine c_istore (i := 1) (lv' := [(1, .int (zI 0)), (0, .ref h0)]) X dX6_init_76 rfl (zlt hKn (by decide)) rfl ?_
    refine c_sub (lv' := [(0, .ref h0), (1, .int (zI ((0 : Nat) : Int)))]) X [1, 0] rfl ?_
    refine c_ws (ws2 := wr ++ zh2 (zKE K) h0 p1 p2 h3 p4 p5 (zhx (zKE K) h3 qp qm qs ab bb p4 p5) a b (fun _ => 0) (fun _ => 0) (fun _ => 0) 0) ?_ ?_
    · unfold zh2 zh1
      rw [zfam_0, List.append_nil, ← zfs_0]
    exact wHall2 hKn X I0 F a b 6 0 _ _ _ rfl
  | succ n ih =>
    intro i a b h
    have hi : i < 10 := by omega
    refine c_iload (i := 1) (j := 1) X dX6_init_50 rfl rfl ?_
    refine c_bipush X dX6_init_51 (by decide +kernel) ?_
    refine c_icmp_ge (tgt := 75) X dX6_init_53 (by decide) (fun c => absurd ((zcmp (k := 10) (by omega) (by decide)).mp c) (by omega)) (fun _ => ?_)
    refine c_aload (i := 0) (j := 0) X dX6_init_56 rfl rfl ?_
    refine c_get (ci := 5) (C := RX6) (T := TX6) (N := 9) (j := 0) (v := .ref p1) X rfl zu_6 (zwr_get (k := 0) rfl) (by decide) zt_1_182 rfl dX6_init_57 ?_
    refine c_iload (i := 1) (j := 1) X dX6_init_60 rfl rfl ?_
    refine c_new (ci := 3) (C := RX4) (T := TX4) (N := 5) (fs := [.null, .int (zI 0), .int (zI 0), .int (zI 0), .long (zJ 0)]) X rfl zu_4 tyX4 tyX4_ok zt_1_25 zt_1_132 zt_1_7 (fun j hj => by rcases (show j = 0 ∨ j = 1 ∨ j = 2 ∨ j = 3 ∨ j = 4 by omega) with rfl | rfl | rfl | rfl | rfl <;> rfl) ⟨by show _ ≤ 166; omega, by show _ ≤ 1341; omega⟩ dX6_init_61 (fun p => ?_)
    refine c_dup X rfl dX6_init_64 ?_
    refine c_callN X (kX4_init _ _ p (wr ++ zh1 (zKE K) h0 p1 p2 h3 p4 p5 (zhx (zKE K) h3 qp qm qs ab bb p4 p5) a b i)) zt_1_135 zt_1_7 zt_1_134 rfl zn_44 qX4_init ⟨by decide, by decide⟩ ⟨by show 128 + 2 * i + 1 + 1 ≤ 166; omega, by show 1053 + 15 * i + 5 + 10 ≤ 1341; omega⟩ (Nat.le_of_ble_eq_true rfl) dX6_init_65 (fun ws2 hw2 => ?_)
    obtain ⟨q, rfl⟩ := hw2
    refine c_ws (ws2 := wr ++ (zh1 (zKE K) h0 p1 p2 h3 p4 p5 (zhx (zKE K) h3 qp qm qs ab bb p4 p5) a b i ++ [(p, zpa q), (q, zai (zKE K) 8 10)])) (List.append_assoc _ _ _) ?_
    refine c_astq (k := wr.length + 1) (kv := (wr ++ zh1 (zKE K) h0 p1 p2 h3 p4 p5 (zhx (zKE K) h3 qp qm qs ab bb p4 p5) a b i).length) (ci := 13) (cv := 3) (r := (RX4, TX4, 5)) X (zwr_get (k := 1) rfl) (fun _ => rfl) (by rw [← List.append_assoc]; exact (zwr_get (wr := wr ++ zh1 (zKE K) h0 p1 p2 h3 p4 p5 (zhx (zKE K) h3 qp qm qs ab bb p4 p5) a b i) (k := 0) rfl)) rfl (zvp hi (by decide)) dX6_init_68 ?_
    rw [zI_nat_idx (by omega), zfs_up, zwr_set]
    refine c_ws (ws2 := wr ++ zh1 (zKE K) h0 p1 p2 h3 p4 p5 (zhx (zKE K) h3 qp qm qs ab bb p4 p5) (va_up a i p) (va_up b i q) (i + 1)) ?_ ?_
    · congr 1
      unfold zh1
      rw [zfam_s (zgP (zKE K) a b) (zgP (zKE K) (va_up a i p) (va_up b i q)) i (fun j hj => by simp only [zgP, zup_ne hj])]
      simp only [zgP, zup_at]
      simp
      rfl
    refine c_iinc (j := 1) (lv' := [(1, .int (zI ((i + 1 : Nat) : Int))), (0, .ref h0)]) X dX6_init_69 rfl (zinc i) (zlt hKn (by decide)) rfl ?_
    refine c_goto (tgt := 50) X dX6_init_72 (by decide) ?_
    refine c_sub (lv' := [(0, .ref h0), (1, .int (zI ((i + 1 : Nat) : Int)))]) X [1, 0] rfl ?_
    refine c_widen (cl2 := 128 + 2 * (i + 1)) (sl2 := 1053 + 15 * (i + 1)) X (by show 128 + 2 * i + 1 + 1 ≤ _; omega) (by show 1053 + 15 * i + 5 + 10 ≤ _; omega) ?_
    exact ih (i + 1) _ _ (by omega)
theorem qX6_init : yX6_init.cls ≠ "java/lang/invoke/MethodHandle" ∧ yX6_init.cls ≠ "java/lang/invoke/VarHandle" ∧ (parseMethodDescriptor yX6_init.desc).map (fun d => d.parameters.length) = some 0 := ⟨by decide +kernel, by decide +kernel, by decide +kernel⟩
set_option maxHeartbeats 4000000 in
set_option maxRecDepth 100000 in
theorem kX6_init (l : Launch) (E : zE) (h0 : Nat) (wr : va_W) : zCon l yX6_init (.code yX6_init cX6_init 2 none) rmX6_init E h0 (wr ++ [(h0, .inr (5, [.null, .null, .null, .null, .null, .int (zI 0), .int (zI 0), .int (zI 0), .long (zJ 0)]))]) (fun ws' => ∃ p1 p2 h3 p4 p5 qp qm qs ab bb a b a2 b2 c2, ws' = wr ++ zh2 E h0 p1 p2 h3 p4 p5 (zhx E h3 qp qm qs ab bb p4 p5) a b a2 b2 c2 6) := by
  refine zCon_in RX6 (by decide +kernel) rfl rfl (by decide) (fun K hKn hKE X I0 F => ?_) l
  subst hKE
  refine c_aload (i := 0) (j := 0) X dX6_init_0 rfl rfl ?_
  refine c_objInit X zt_1_22 zt_1_23 zt_1_24 dX6_init_1 (by decide) (by decide) ?_
  refine c_aload (i := 0) (j := 0) X dX6_init_4 rfl rfl ?_
  refine c_bipush X dX6_init_5 (by decide +kernel) ?_
  refine c_newq (N := 10) (ci := 13) (C := RX4) (nm := "[LFlaghall$Party;") X zt_1_25 (by decide) (by decide +kernel) (by decide +kernel) (by decide) ⟨(by decide), (by decide)⟩ (fun _ => rfl) (by decide +kernel) dX6_init_7 (fun q1 => ?_)
  refine c_ws (ws2 := wr ++ [(h0, .inr (5, [.null, .null, .null, .null, .null, .int (zI 0), .int (zI 0), .int (zI 0), .long (zJ 0)])), (q1, .inl ((zKE K).2.2.1 13, 10, .inr (.inr (.inr (.inr (fun _ => none))))))]) (List.append_assoc _ _ _) ?_
  refine c_putF (ci := 5) (C := RX6) (T := TX6) (N := 9) (j := 0) (ty := .array (.object "Flaghall$Party")) (v := .ref q1) X rfl zu_6 (zwr_get (k := 0) rfl) (by decide) zt_1_182 tyX6 tyX6_ok nmX6 I0 rfl rfl (by decide +kernel) rfl rfl (Nat.le_of_ble_eq_true rfl) dX6_init_10 ?_
  refine c_ws (ws2 := wr ++ [(h0, .inr (5, [.ref q1, .null, .null, .null, .null, .int (zI 0), .int (zI 0), .int (zI 0), .long (zJ 0)])), (q1, .inl ((zKE K).2.2.1 13, 10, .inr (.inr (.inr (.inr (fun _ => none))))))]) zwr_set ?_
  refine c_aload (i := 0) (j := 0) X dX6_init_13 rfl rfl ?_
  refine c_bipush X dX6_init_14 (by decide +kernel) ?_
  refine c_newq (N := 6) (ci := 14) (C := RX5) (nm := "[LFlaghall$Ship;") X zt_1_27 (by decide) (by decide +kernel) (by decide +kernel) (by decide) ⟨(by decide), (by decide)⟩ (fun _ => rfl) (by decide +kernel) dX6_init_16 (fun q2 => ?_)
  refine c_ws (ws2 := wr ++ [(h0, .inr (5, [.ref q1, .null, .null, .null, .null, .int (zI 0), .int (zI 0), .int (zI 0), .long (zJ 0)])), (q1, .inl ((zKE K).2.2.1 13, 10, .inr (.inr (.inr (.inr (fun _ => none)))))), (q2, .inl ((zKE K).2.2.1 14, 6, .inr (.inr (.inr (.inr (fun _ => none))))))]) (List.append_assoc _ _ _) ?_
  refine c_putF (ci := 5) (C := RX6) (T := TX6) (N := 9) (j := 1) (ty := .array (.object "Flaghall$Ship")) (v := .ref q2) X rfl zu_6 (zwr_get (k := 0) rfl) (by decide) zt_1_183 tyX6 tyX6_ok nmX6 I0 rfl rfl (by decide +kernel) rfl rfl (Nat.le_of_ble_eq_true rfl) dX6_init_19 ?_
  refine c_ws (ws2 := wr ++ [(h0, .inr (5, [.ref q1, .ref q2, .null, .null, .null, .int (zI 0), .int (zI 0), .int (zI 0), .long (zJ 0)])), (q1, .inl ((zKE K).2.2.1 13, 10, .inr (.inr (.inr (.inr (fun _ => none)))))), (q2, .inl ((zKE K).2.2.1 14, 6, .inr (.inr (.inr (.inr (fun _ => none))))))]) zwr_set ?_
  refine c_aload (i := 0) (j := 0) X dX6_init_22 rfl rfl ?_
  refine c_new (ci := 0) (C := RX0) (T := TX0) (N := 5) (fs := [.null, .null, .null, .int (zI 0), .int (zI 0)]) X rfl zu_0 tyX0 tyX0_ok zt_1_29 zt_1_30 zt_1_2 (fun j hj => by rcases (show j = 0 ∨ j = 1 ∨ j = 2 ∨ j = 3 ∨ j = 4 by omega) with rfl | rfl | rfl | rfl | rfl <;> rfl) ⟨by decide, by decide⟩ dX6_init_23 (fun h3 => ?_)
  refine c_dup X rfl dX6_init_26 ?_
  refine c_callN X (kX0_init _ _ h3 (wr ++ [(h0, .inr (5, [.ref q1, .ref q2, .null, .null, .null, .int (zI 0), .int (zI 0), .int (zI 0), .long (zJ 0)])), (q1, .inl ((zKE K).2.2.1 13, 10, .inr (.inr (.inr (.inr (fun _ => none)))))), (q2, .inl ((zKE K).2.2.1 14, 6, .inr (.inr (.inr (.inr (fun _ => none))))))])) zt_1_33 zt_1_2 zt_1_32 rfl zn_40 qX0_init ⟨by decide, by decide⟩ ⟨by decide, by decide⟩ (Nat.le_of_ble_eq_true rfl) dX6_init_27 (fun ws2 hw2 => ?_)
  obtain ⟨qp, qm, qs, ab, bb, rfl⟩ := hw2
  refine c_ws (ws2 := wr ++ ([(h0, .inr (5, [.ref q1, .ref q2, .null, .null, .null, .int (zI 0), .int (zI 0), .int (zI 0), .long (zJ 0)])), (q1, .inl ((zKE K).2.2.1 13, 10, .inr (.inr (.inr (.inr (fun _ => none)))))), (q2, .inl ((zKE K).2.2.1 14, 6, .inr (.inr (.inr (.inr (fun _ => none))))))] ++ zbk (zKE K) h3 qp qm qs ab bb 60)) (List.append_assoc _ _ _) ?_
  refine c_putF (ci := 5) (C := RX6) (T := TX6) (N := 9) (j := 2) (ty := .object "Flaghall$Book") (v := .ref h3) X rfl zu_6 (zwr_get (k := 0) rfl) (by decide) zt_1_184 tyX6 tyX6_ok nmX6 I0 rfl rfl (by decide +kernel) rfl rfl (Nat.le_of_ble_eq_true rfl) dX6_init_30 ?_
  refine c_ws (ws2 := wr ++ ([(h0, .inr (5, [.ref q1, .ref q2, .ref h3, .null, .null, .int (zI 0), .int (zI 0), .int (zI 0), .long (zJ 0)])), (q1, .inl ((zKE K).2.2.1 13, 10, .inr (.inr (.inr (.inr (fun _ => none)))))), (q2, .inl ((zKE K).2.2.1 14, 6, .inr (.inr (.inr (.inr (fun _ => none))))))] ++ zbk (zKE K) h3 qp qm qs ab bb 60)) zwr_set ?_
  refine c_aload (i := 0) (j := 0) X dX6_init_33 rfl rfl ?_
  refine c_bipush X dX6_init_34 (by decide +kernel) ?_
  refine c_newa_char (N := 8) X zt_1_156 (by decide +kernel) (by decide +kernel) (by decide) ⟨by decide, by decide⟩ dX6_init_36 (fun q3 => ?_)
  refine c_ws (ws2 := wr ++ ([(h0, .inr (5, [.ref q1, .ref q2, .ref h3, .null, .null, .int (zI 0), .int (zI 0), .int (zI 0), .long (zJ 0)])), (q1, .inl ((zKE K).2.2.1 13, 10, .inr (.inr (.inr (.inr (fun _ => none)))))), (q2, .inl ((zKE K).2.2.1 14, 6, .inr (.inr (.inr (.inr (fun _ => none))))))] ++ zbk (zKE K) h3 qp qm qs ab bb 60 ++ [(q3, .inl ((zKE K).2.2.1 7, 8, .inl (fun _ => 0)))])) (by simp) ?_
  refine c_putF (ci := 5) (C := RX6) (T := TX6) (N := 9) (j := 3) (ty := .array .char) (v := .ref q3) X rfl zu_6 (zwr_get (k := 0) rfl) (by decide) zt_1_185 tyX6 tyX6_ok nmX6 I0 rfl rfl (by decide +kernel) rfl rfl (Nat.le_of_ble_eq_true rfl) dX6_init_38 ?_
  refine c_ws (ws2 := wr ++ ([(h0, .inr (5, [.ref q1, .ref q2, .ref h3, .ref q3, .null, .int (zI 0), .int (zI 0), .int (zI 0), .long (zJ 0)])), (q1, .inl ((zKE K).2.2.1 13, 10, .inr (.inr (.inr (.inr (fun _ => none)))))), (q2, .inl ((zKE K).2.2.1 14, 6, .inr (.inr (.inr (.inr (fun _ => none))))))] ++ zbk (zKE K) h3 qp qm qs ab bb 60 ++ [(q3, .inl ((zKE K).2.2.1 7, 8, .inl (fun _ => 0)))])) zwr_set ?_
  refine c_aload (i := 0) (j := 0) X dX6_init_41 rfl rfl ?_
  refine c_iconst X dX6_init_42 ?_
  refine c_newa_int (N := 4) X zt_1_83 (by decide +kernel) (by decide +kernel) (by decide) ⟨by decide, by decide⟩ dX6_init_43 (fun q4 => ?_)
  refine c_ws (ws2 := wr ++ ([(h0, .inr (5, [.ref q1, .ref q2, .ref h3, .ref q3, .null, .int (zI 0), .int (zI 0), .int (zI 0), .long (zJ 0)])), (q1, .inl ((zKE K).2.2.1 13, 10, .inr (.inr (.inr (.inr (fun _ => none)))))), (q2, .inl ((zKE K).2.2.1 14, 6, .inr (.inr (.inr (.inr (fun _ => none))))))] ++ zbk (zKE K) h3 qp qm qs ab bb 60 ++ [(q3, .inl ((zKE K).2.2.1 7, 8, .inl (fun _ => 0))), (q4, .inl ((zKE K).2.2.1 8, 4, .inl (fun _ => 0)))])) (by simp) ?_
  refine c_putF (ci := 5) (C := RX6) (T := TX6) (N := 9) (j := 4) (ty := .array .int) (v := .ref q4) X rfl zu_6 (zwr_get (k := 0) rfl) (by decide) zt_1_186 tyX6 tyX6_ok nmX6 I0 rfl rfl (by decide +kernel) rfl rfl (Nat.le_of_ble_eq_true rfl) dX6_init_45 ?_
  refine c_ws (ws2 := wr ++ ([(h0, .inr (5, [.ref q1, .ref q2, .ref h3, .ref q3, .ref q4, .int (zI 0), .int (zI 0), .int (zI 0), .long (zJ 0)])), (q1, .inl ((zKE K).2.2.1 13, 10, .inr (.inr (.inr (.inr (fun _ => none)))))), (q2, .inl ((zKE K).2.2.1 14, 6, .inr (.inr (.inr (.inr (fun _ => none))))))] ++ zbk (zKE K) h3 qp qm qs ab bb 60 ++ [(q3, .inl ((zKE K).2.2.1 7, 8, .inl (fun _ => 0))), (q4, .inl ((zKE K).2.2.1 8, 4, .inl (fun _ => 0)))])) zwr_set ?_
  refine c_iconst X dX6_init_48 ?_
  refine c_istore (i := 1) (lv' := [(1, .int (zI 0)), (0, .ref h0)]) X dX6_init_49 rfl (zlt hKn (by decide)) rfl ?_
  refine c_sub (lv' := [(0, .ref h0), (1, .int (zI ((0 : Nat) : Int)))]) X [1, 0] rfl ?_
  refine c_ws (ws2 := wr ++ zh1 (zKE K) h0 q1 q2 h3 q3 q4 (zhx (zKE K) h3 qp qm qs ab bb q3 q4) (fun _ => 0) (fun _ => 0) 0) ?_ ?_
  · unfold zh1 zhx
    rw [zfam_0, List.append_nil, ← zfs_0]
    simp
    exact ⟨rfl, rfl, rfl, rfl, rfl⟩
  refine c_rm (cl2 := 128) (sl2 := 1053) rfl rfl ?_
  exact wHall1 hKn X I0 F 10 0 _ _ rfl
