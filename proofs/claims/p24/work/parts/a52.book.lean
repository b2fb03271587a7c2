def zcP (E : zE) : va_E := .inr (2, [.ref (E.2.1 0), .int (zI (-1)), .int (zI (-1)), .long (zJ 0), .int (zI 0), .int (zI (-1)), .int (zI (-1)), .int (zI (-1)), .int (zI 0)])
def zcM : va_E := .inr (1, [.int (zI (-1)), .int (zI (-1)), .int (zI 0), .int (zI (-1)), .int (zI (-1))])
def zgB (E : zE) (a b : Nat → Nat) (j : Nat) : va_W := [(a j, zcP E), (b j, zcM)]
def zar (E : zE) (k n : Nat) (f : Nat → Option Nat) : va_E := .inl (E.2.2.1 k, n, .inr (.inr (.inr (.inr f))))
def zai (E : zE) (k n : Nat) : va_E := .inl (E.2.2.1 k, n, .inl (fun _ => 0))
def zbk (E : zE) (h0 qp qm qs : Nat) (a b : Nat → Nat) (i : Nat) : va_W := [(h0, .inr (0, [.ref qp, .ref qm, .ref qs, .int (zI 0), .int (zI 0)])), (qp, zar E 12 60 (zfs a i)), (qm, zar E 11 60 (zfs b i)), (qs, zai E 8 60)] ++ zfam (zgB E a b) i
theorem zcmp {i k : Nat} (hi : i < 1000) (hk : k < 1000) : zI (k : Int) ≤ zI (i : Int) ↔ k ≤ i := by
  rw [zI_le, w32_id (by omega) (by omega), w32_id (by omega) (by omega)]
  omega
theorem zvp {i n : Nat} (h : i < n) (hn : n < 1000) : vp_in (zI (i : Int)) n := vp_in_z ⟨by rw [w32_id (by omega) (by omega)]; omega, by rw [w32_id (by omega) (by omega)]; omega⟩
theorem zlast {ws : va_W} {x : Nat × va_E} : (ws ++ [x])[ws.length]? = some x := by simp
theorem zinc (i : Nat) : zI (i : Int) + Int32.ofInt 1 = zI ((i + 1 : Nat) : Int) := zI_add (i : Int) 1
theorem zup_ne {a : Nat → Nat} {i j q : Nat} (h : j < i) : va_up a i q j = a j := by
  unfold va_up
  rw [if_neg (by omega)]
theorem zup_at {a : Nat → Nat} {i q : Nat} : va_up a i q i = q := by
  unfold va_up
  rw [if_pos rfl]
abbrev rmX0_init : Room := { frames := 2, cells := 123, slots := 1020, locals := 40 }
set_option maxHeartbeats 4000000 in
set_option maxRecDepth 100000 in
theorem wBook {K : zK} {h0 qp qm qs : Nat} {wr ws0 : va_W} (hKn : K.2.2.2.2.2.2.2.2.2.2.2.2.2 = 2) (X : CY K cX0_init RX0 rmX0_init) (I0 : CI K) (F : FC K ws0 (fun ws' => ∃ qp qm qs a b, ws' = wr ++ zbk (zKE K) h0 qp qm qs a b 60) rmX0_init.cells rmX0_init.slots) : ∀ (n i : Nat) (a b : Nat → Nat), i + n = 60 → WC K (3 + 2 * i) (180 + 14 * i) (wr ++ zbk (zKE K) h0 qp qm qs a b i) 32 [(0, .ref h0), (1, .int (zI (i : Int)))] [] := by
  intro n
  induction n with
  | zero =>
    intro i a b h
    obtain rfl : i = 60 := by omega
    refine c_iload (i := 1) (j := 1) X dX0_init_32 rfl rfl ?_
    refine c_bipush X dX0_init_33 (by decide +kernel) ?_
    refine c_icmp_ge (tgt := 70) X dX0_init_35 (by decide) (fun _ => ?_) (fun c => absurd ((zcmp (k := 60) (by decide) (by decide)).mpr (Nat.le_refl _)) c)
    exact c_vret X I0 F ⟨qp, qm, qs, a, b, rfl⟩ (by decide) (by decide) dX0_init_70
  | succ n ih =>
    intro i a b h
    have hi : i < 60 := by omega
    refine c_iload (i := 1) (j := 1) X dX0_init_32 rfl rfl ?_
    refine c_bipush X dX0_init_33 (by decide +kernel) ?_
    refine c_icmp_ge (tgt := 70) X dX0_init_35 (by decide) (fun c => absurd ((zcmp (k := 60) (by omega) (by decide)).mp c) (by omega)) (fun _ => ?_)
    refine c_aload (i := 0) (j := 0) X dX0_init_38 rfl rfl ?_
    refine c_get (ci := 0) (C := RX0) (T := TX0) (N := 5) (j := 0) (v := .ref qp) X rfl zu_0 (zwr_get (k := 0) rfl) (by decide) zt_1_111 rfl dX0_init_39 ?_
    refine c_iload (i := 1) (j := 1) X dX0_init_42 rfl rfl ?_
    refine c_new (ci := 2) (C := RX3) (T := TX3) (N := 9) (fs := [.null, .int (zI 0), .int (zI 0), .long (zJ 0), .int (zI 0), .int (zI 0), .int (zI 0), .int (zI 0), .int (zI 0)]) X rfl zu_3 tyX3 tyX3_ok zt_1_35 zt_1_39 zt_1_3 (fun j hj => by rcases (show j = 0 ∨ j = 1 ∨ j = 2 ∨ j = 3 ∨ j = 4 ∨ j = 5 ∨ j = 6 ∨ j = 7 ∨ j = 8 by omega) with rfl | rfl | rfl | rfl | rfl | rfl | rfl | rfl | rfl <;> rfl) ⟨by show _ ≤ 123; omega, by show _ ≤ 1020; omega⟩ dX0_init_43 (fun p => ?_)
    refine c_dup X rfl dX0_init_46 ?_
    refine c_callN X (kX3_init _ _ p (wr ++ zbk (zKE K) h0 qp qm qs a b i)) zt_1_42 zt_1_3 zt_1_41 rfl zn_48 qX3_init ⟨by decide, by decide⟩ ⟨by show 3 + 2 * i + 1 + 0 ≤ 123; omega, by show 180 + 14 * i + 9 + 0 ≤ 1020; omega⟩ (Nat.le_of_ble_eq_true rfl) dX0_init_47 (fun ws2 hw2 => ?_)
    subst hw2
    refine c_ws (ws2 := wr ++ (zbk (zKE K) h0 qp qm qs a b i ++ [(p, zcP (zKE K))])) (List.append_assoc _ _ _) ?_
    refine c_astq (k := wr.length + 1) (kv := (wr ++ zbk (zKE K) h0 qp qm qs a b i).length) (ci := 12) (cv := 2) (r := (RX3, TX3, 9)) X (zwr_get (k := 1) rfl) (fun _ => rfl) (by rw [← List.append_assoc]; exact zlast) rfl (zvp hi (by decide)) dX0_init_50 ?_
    rw [zI_nat_idx (by omega), zfs_up, zwr_set]
    refine c_ws (ws2 := wr ++ (([(h0, .inr (0, [.ref qp, .ref qm, .ref qs, .int (zI 0), .int (zI 0)])), (qp, zar (zKE K) 12 60 (zfs (va_up a i p) (i + 1))), (qm, zar (zKE K) 11 60 (zfs b i)), (qs, zai (zKE K) 8 60)] ++ zfam (zgB (zKE K) a b) i) ++ [(p, zcP (zKE K))])) rfl ?_
    refine c_aload (i := 0) (j := 0) X dX0_init_51 rfl rfl ?_
    refine c_get (ci := 0) (C := RX0) (T := TX0) (N := 5) (j := 1) (v := .ref qm) X rfl zu_0 (zwr_get (k := 0) rfl) (by decide) zt_1_113 rfl dX0_init_52 ?_
    refine c_iload (i := 1) (j := 1) X dX0_init_55 rfl rfl ?_
    refine c_new (ci := 1) (C := RX2) (T := TX2) (N := 5) (fs := [.int (zI 0), .int (zI 0), .int (zI 0), .int (zI 0), .int (zI 0)]) X rfl zu_2 tyX2 tyX2_ok zt_1_37 zt_1_84 zt_1_6 (fun j hj => by rcases (show j = 0 ∨ j = 1 ∨ j = 2 ∨ j = 3 ∨ j = 4 by omega) with rfl | rfl | rfl | rfl | rfl <;> rfl) ⟨by show 3 + 2 * i + 1 + 0 + 1 ≤ 123; omega, by show 180 + 14 * i + 9 + 0 + 5 ≤ 1020; omega⟩ dX0_init_56 (fun q => ?_)
    refine c_dup X rfl dX0_init_59 ?_
    refine c_callN X (kX2_init _ _ q _) zt_1_87 zt_1_6 zt_1_86 rfl zn_49 qX2_init ⟨by decide, by decide⟩ ⟨by show 3 + 2 * i + 1 + 0 + 1 + 0 ≤ 123; omega, by show 180 + 14 * i + 9 + 0 + 5 + 0 ≤ 1020; omega⟩ (Nat.le_of_ble_eq_true rfl) dX0_init_60 (fun ws2 hw2 => ?_)
    subst hw2
    refine c_ws (ws2 := wr ++ ((([(h0, .inr (0, [.ref qp, .ref qm, .ref qs, .int (zI 0), .int (zI 0)])), (qp, zar (zKE K) 12 60 (zfs (va_up a i p) (i + 1))), (qm, zar (zKE K) 11 60 (zfs b i)), (qs, zai (zKE K) 8 60)] ++ zfam (zgB (zKE K) a b) i) ++ [(p, zcP (zKE K))]) ++ [(q, zcM)])) (List.append_assoc _ _ _) ?_
    refine c_astq (k := wr.length + 2) (kv := (wr ++ (([(h0, .inr (0, [.ref qp, .ref qm, .ref qs, .int (zI 0), .int (zI 0)])), (qp, zar (zKE K) 12 60 (zfs (va_up a i p) (i + 1))), (qm, zar (zKE K) 11 60 (zfs b i)), (qs, zai (zKE K) 8 60)] ++ zfam (zgB (zKE K) a b) i) ++ [(p, zcP (zKE K))])).length) (ci := 11) (cv := 1) (r := (RX2, TX2, 5)) X (zwr_get (k := 2) rfl) (fun _ => rfl) (by rw [← List.append_assoc]; exact zlast) rfl (zvp hi (by decide)) dX0_init_63 ?_
    rw [zI_nat_idx (by omega), zfs_up, zwr_set]
    refine c_ws (ws2 := wr ++ zbk (zKE K) h0 qp qm qs (va_up a i p) (va_up b i q) (i + 1)) ?_ ?_
    · congr 1
      unfold zbk
      rw [zfam_s (zgB (zKE K) a b) (zgB (zKE K) (va_up a i p) (va_up b i q)) i (fun j hj => by simp only [zgB, zup_ne hj])]
      simp only [zgB, zup_at]
      simp
      rfl
    refine c_iinc (j := 1) (lv' := [(1, .int (zI ((i + 1 : Nat) : Int))), (0, .ref h0)]) X dX0_init_64 rfl (zinc i) (zlt hKn (by decide)) rfl ?_
    refine c_goto (tgt := 32) X dX0_init_67 (by decide) ?_
    refine c_sub (lv' := [(0, .ref h0), (1, .int (zI ((i + 1 : Nat) : Int)))]) X [1, 0] rfl ?_
    refine c_widen (cl2 := 3 + 2 * (i + 1)) (sl2 := 180 + 14 * (i + 1)) X (by show 3 + 2 * i + 1 + 0 + 1 + 0 ≤ _; omega) (by show 180 + 14 * i + 9 + 0 + 5 + 0 ≤ _; omega) ?_
    exact ih (i + 1) _ _ (by omega)
theorem qX0_init : yX0_init.cls ≠ "java/lang/invoke/MethodHandle" ∧ yX0_init.cls ≠ "java/lang/invoke/VarHandle" ∧ (parseMethodDescriptor yX0_init.desc).map (fun d => d.parameters.length) = some 0 := ⟨by decide +kernel, by decide +kernel, by decide +kernel⟩
set_option maxHeartbeats 4000000 in
set_option maxRecDepth 100000 in
theorem kX0_init (l : Launch) (E : zE) (h0 : Nat) (wr : va_W) : zCon l yX0_init (.code yX0_init cX0_init 2 none) rmX0_init E h0 (wr ++ [(h0, .inr (0, [.null, .null, .null, .int (zI 0), .int (zI 0)]))]) (fun ws' => ∃ qp qm qs a b, ws' = wr ++ zbk E h0 qp qm qs a b 60) := by
  refine zCon_in RX0 (by decide +kernel) rfl rfl (by decide) (fun K hKn hKE X I0 F => ?_) l
  subst hKE
  refine c_aload (i := 0) (j := 0) X dX0_init_0 rfl rfl ?_
  refine c_objInit X zt_1_34 zt_1_23 zt_1_24 dX0_init_1 (by decide) (by decide) ?_
  refine c_aload (i := 0) (j := 0) X dX0_init_4 rfl rfl ?_
  refine c_bipush X dX0_init_5 (by decide +kernel) ?_
  refine c_newq (N := 60) (ci := 12) (C := RX3) (nm := "[LFlaghall$Paper;") X zt_1_35 (by decide) (by decide +kernel) (by decide +kernel) (by decide) ⟨(by decide), (by decide)⟩ (fun _ => rfl) (by decide +kernel) dX0_init_7 (fun q1 => ?_)
  refine c_ws (ws2 := wr ++ [(h0, .inr (0, [.null, .null, .null, .int (zI 0), .int (zI 0)])), (q1, .inl ((zKE K).2.2.1 12, 60, .inr (.inr (.inr (.inr (fun _ => none))))))]) (List.append_assoc _ _ _) ?_
  refine c_putF (ci := 0) (C := RX0) (T := TX0) (N := 5) (j := 0) (ty := .array (.object "Flaghall$Paper")) (v := .ref q1) X rfl zu_0 (zwr_get (k := 0) rfl) (by decide) zt_1_111 tyX0 tyX0_ok nmX0 I0 rfl rfl (by decide +kernel) rfl rfl (Nat.le_of_ble_eq_true rfl) dX0_init_10 ?_
  refine c_ws (ws2 := wr ++ [(h0, .inr (0, [.ref q1, .null, .null, .int (zI 0), .int (zI 0)])), (q1, .inl ((zKE K).2.2.1 12, 60, .inr (.inr (.inr (.inr (fun _ => none))))))]) zwr_set ?_
  refine c_aload (i := 0) (j := 0) X dX0_init_13 rfl rfl ?_
  refine c_bipush X dX0_init_14 (by decide +kernel) ?_
  refine c_newq (N := 60) (ci := 11) (C := RX2) (nm := "[LFlaghall$Mortgage;") X zt_1_37 (by decide) (by decide +kernel) (by decide +kernel) (by decide) ⟨(by decide), (by decide)⟩ (fun _ => rfl) (by decide +kernel) dX0_init_16 (fun q2 => ?_)
  refine c_ws (ws2 := wr ++ [(h0, .inr (0, [.ref q1, .null, .null, .int (zI 0), .int (zI 0)])), (q1, .inl ((zKE K).2.2.1 12, 60, .inr (.inr (.inr (.inr (fun _ => none)))))), (q2, .inl ((zKE K).2.2.1 11, 60, .inr (.inr (.inr (.inr (fun _ => none))))))]) (List.append_assoc _ _ _) ?_
  refine c_putF (ci := 0) (C := RX0) (T := TX0) (N := 5) (j := 1) (ty := .array (.object "Flaghall$Mortgage")) (v := .ref q2) X rfl zu_0 (zwr_get (k := 0) rfl) (by decide) zt_1_113 tyX0 tyX0_ok nmX0 I0 rfl rfl (by decide +kernel) rfl rfl (Nat.le_of_ble_eq_true rfl) dX0_init_19 ?_
  refine c_ws (ws2 := wr ++ [(h0, .inr (0, [.ref q1, .ref q2, .null, .int (zI 0), .int (zI 0)])), (q1, .inl ((zKE K).2.2.1 12, 60, .inr (.inr (.inr (.inr (fun _ => none)))))), (q2, .inl ((zKE K).2.2.1 11, 60, .inr (.inr (.inr (.inr (fun _ => none))))))]) zwr_set ?_
  refine c_aload (i := 0) (j := 0) X dX0_init_22 rfl rfl ?_
  refine c_bipush X dX0_init_23 (by decide +kernel) ?_
  refine c_newa_int (N := 60) X zt_1_83 (by decide +kernel) (by decide +kernel) (by decide) ⟨(by decide), (by decide)⟩ dX0_init_25 (fun q3 => ?_)
  refine c_ws (ws2 := wr ++ [(h0, .inr (0, [.ref q1, .ref q2, .null, .int (zI 0), .int (zI 0)])), (q1, .inl ((zKE K).2.2.1 12, 60, .inr (.inr (.inr (.inr (fun _ => none)))))), (q2, .inl ((zKE K).2.2.1 11, 60, .inr (.inr (.inr (.inr (fun _ => none)))))), (q3, .inl ((zKE K).2.2.1 8, 60, .inl (fun _ => 0)))]) (List.append_assoc _ _ _) ?_
  refine c_putF (ci := 0) (C := RX0) (T := TX0) (N := 5) (j := 2) (ty := .array .int) (v := .ref q3) X rfl zu_0 (zwr_get (k := 0) rfl) (by decide) zt_1_115 tyX0 tyX0_ok nmX0 I0 rfl rfl (by decide +kernel) rfl rfl (Nat.le_of_ble_eq_true rfl) dX0_init_27 ?_
  refine c_ws (ws2 := wr ++ [(h0, .inr (0, [.ref q1, .ref q2, .ref q3, .int (zI 0), .int (zI 0)])), (q1, .inl ((zKE K).2.2.1 12, 60, .inr (.inr (.inr (.inr (fun _ => none)))))), (q2, .inl ((zKE K).2.2.1 11, 60, .inr (.inr (.inr (.inr (fun _ => none)))))), (q3, .inl ((zKE K).2.2.1 8, 60, .inl (fun _ => 0)))]) zwr_set ?_
  refine c_iconst X dX0_init_30 ?_
  refine c_istore (i := 1) (lv' := [(1, .int (zI 0)), (0, .ref h0)]) X dX0_init_31 rfl (zlt hKn (by decide)) rfl ?_
  refine c_sub (lv' := [(0, .ref h0), (1, .int (zI ((0 : Nat) : Int)))]) X [1, 0] rfl ?_
  refine c_ws (ws2 := wr ++ zbk (zKE K) h0 q1 q2 q3 (fun _ => 0) (fun _ => 0) 0) ?_ ?_
  · unfold zbk
    rw [zfam_0, List.append_nil, ← zfs_0]
    rfl
  exact wBook hKn X I0 F 60 0 _ _ rfl
