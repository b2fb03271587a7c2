section RK2
variable {K : zK} {cc : ByteArray} {own : String} {rm : Room} {cl sl : Nat} {ws wr l l2 : va_W} {pc : Nat} {lv lv' : List (Nat × Value)} {st : List Value}
theorem c_ws {ws2 : va_W} (h : ws = ws2) (k : WC K cl sl ws2 pc lv st) : WC K cl sl ws pc lv st := h ▸ k
theorem c_rm {cl2 sl2 : Nat} (h1 : cl = cl2) (h2 : sl = sl2) (k : WC K cl2 sl2 ws pc lv st) : WC K cl sl ws pc lv st := by
  subst h1
  subst h2
  exact k
end RK2
theorem zI_nat_idx {i : Nat} (h : i < 1000) : (zI (i : Int)).toNatClampNeg = i := by
  rw [zI_idx, w32_id (by omega) (by omega)]
  omega
def zfs (a : Nat → Nat) (i : Nat) : Nat → Option Nat := fun j => if j < i then some (a j) else none
theorem zfs_0 (a : Nat → Nat) : (fun _ => none) = zfs a 0 := by
  funext j
  simp [zfs]
theorem zfs_up (a : Nat → Nat) (i q : Nat) : va_up (zfs a i) i (some q) = zfs (va_up a i q) (i + 1) := by
  funext j
  show (if j = i then some q else if j < i then some (a j) else none) = if j < i + 1 then some (if j = i then q else a j) else none
  by_cases h : j = i
  · subst h
    simp
  · by_cases h2 : j < i
    · rw [if_neg h, if_pos h2, if_pos (by omega), if_neg h]
    · rw [if_neg h, if_neg h2, if_neg (by omega)]
/-- a family of cells: those of each index below i -/
def zfam (g : Nat → va_W) (i : Nat) : va_W := (List.range i).flatMap g
theorem zfam_0 (g : Nat → va_W) : zfam g 0 = [] := rfl
theorem zfam_s (g g2 : Nat → va_W) (i : Nat) (h : ∀ j, j < i → g2 j = g j) : zfam g2 (i + 1) = zfam g i ++ g2 i := by
  unfold zfam
  rw [List.range_succ, List.flatMap_append]
  congr 1
  · rw [List.flatMap_def, List.flatMap_def]
    congr 1
    apply List.map_congr_left
    intro j hj
    exact h j (List.mem_range.mp hj)
  · simp
abbrev rmX2_init : Room := { frames := 1, cells := 0, slots := 0, locals := 12 }
theorem qX2_init : yX2_init.cls ≠ "java/lang/invoke/MethodHandle" ∧ yX2_init.cls ≠ "java/lang/invoke/VarHandle" ∧ (parseMethodDescriptor yX2_init.desc).map (fun d => d.parameters.length) = some 0 := ⟨by decide +kernel, by decide +kernel, by decide +kernel⟩
set_option maxHeartbeats 4000000 in
set_option maxRecDepth 100000 in
theorem kX2_init (l : Launch) (E : zE) (h0 : Nat) (wr : va_W) : zCon l yX2_init (.code yX2_init cX2_init 1 none) rmX2_init E h0 (wr ++ [(h0, .inr (1, [.int (zI 0), .int (zI 0), .int (zI 0), .int (zI 0), .int (zI 0)]))]) (fun ws' => ws' = wr ++ [(h0, .inr (1, [.int (zI (-1)), .int (zI (-1)), .int (zI 0), .int (zI (-1)), .int (zI (-1))]))]) := by
  refine zCon_in RX2 (by decide +kernel) rfl rfl (by decide) (fun K hKn hKE X I0 F => ?_) l
  subst hKE
  refine c_aload (i := 0) (j := 0) X dX2_init_0 rfl rfl ?_
  refine c_objInit X zt_1_88 zt_1_23 zt_1_24 dX2_init_1 (by decide) (by decide) ?_
  refine c_aload (i := 0) (j := 0) X dX2_init_4 rfl rfl ?_
  refine c_iconst X dX2_init_5 ?_
  refine c_put (ci := 1) (C := RX2) (T := TX2) (N := 5) (j := 0) (ty := .int) (v := .int (zI (-1))) X rfl zu_2 (zwr_get (k := 0) rfl) (by decide) zt_1_89 tyX2 tyX2_ok nmX2 rfl (by decide +kernel) rfl rfl (Nat.le_of_ble_eq_true rfl) dX2_init_6 ?_
  refine c_ws (ws2 := wr ++ [(h0, .inr (1, [.int (zI (-1)), .int (zI 0), .int (zI 0), .int (zI 0), .int (zI 0)]))]) zwr_set ?_
  refine c_aload (i := 0) (j := 0) X dX2_init_9 rfl rfl ?_
  refine c_iconst X dX2_init_10 ?_
  refine c_put (ci := 1) (C := RX2) (T := TX2) (N := 5) (j := 1) (ty := .int) (v := .int (zI (-1))) X rfl zu_2 (zwr_get (k := 0) rfl) (by decide) zt_1_91 tyX2 tyX2_ok nmX2 rfl (by decide +kernel) rfl rfl (Nat.le_of_ble_eq_true rfl) dX2_init_11 ?_
  refine c_ws (ws2 := wr ++ [(h0, .inr (1, [.int (zI (-1)), .int (zI (-1)), .int (zI 0), .int (zI 0), .int (zI 0)]))]) zwr_set ?_
  refine c_aload (i := 0) (j := 0) X dX2_init_14 rfl rfl ?_
  refine c_iconst X dX2_init_15 ?_
  refine c_put (ci := 1) (C := RX2) (T := TX2) (N := 5) (j := 3) (ty := .int) (v := .int (zI (-1))) X rfl zu_2 (zwr_get (k := 0) rfl) (by decide) zt_1_96 tyX2 tyX2_ok nmX2 rfl (by decide +kernel) rfl rfl (Nat.le_of_ble_eq_true rfl) dX2_init_16 ?_
  refine c_ws (ws2 := wr ++ [(h0, .inr (1, [.int (zI (-1)), .int (zI (-1)), .int (zI 0), .int (zI (-1)), .int (zI 0)]))]) zwr_set ?_
  refine c_aload (i := 0) (j := 0) X dX2_init_19 rfl rfl ?_
  refine c_iconst X dX2_init_20 ?_
  refine c_put (ci := 1) (C := RX2) (T := TX2) (N := 5) (j := 4) (ty := .int) (v := .int (zI (-1))) X rfl zu_2 (zwr_get (k := 0) rfl) (by decide) zt_1_98 tyX2 tyX2_ok nmX2 rfl (by decide +kernel) rfl rfl (Nat.le_of_ble_eq_true rfl) dX2_init_21 ?_
  refine c_ws (ws2 := wr ++ [(h0, .inr (1, [.int (zI (-1)), .int (zI (-1)), .int (zI 0), .int (zI (-1)), .int (zI (-1))]))]) zwr_set ?_
  exact c_vret X I0 F rfl (by decide) (by decide) dX2_init_24
abbrev rmX3_init : Room := { frames := 1, cells := 0, slots := 0, locals := 12 }
theorem qX3_init : yX3_init.cls ≠ "java/lang/invoke/MethodHandle" ∧ yX3_init.cls ≠ "java/lang/invoke/VarHandle" ∧ (parseMethodDescriptor yX3_init.desc).map (fun d => d.parameters.length) = some 0 := ⟨by decide +kernel, by decide +kernel, by decide +kernel⟩
set_option maxHeartbeats 4000000 in
set_option maxRecDepth 100000 in
theorem kX3_init (l : Launch) (E : zE) (h0 : Nat) (wr : va_W) : zCon l yX3_init (.code yX3_init cX3_init 1 none) rmX3_init E h0 (wr ++ [(h0, .inr (2, [.null, .int (zI 0), .int (zI 0), .long (zJ 0), .int (zI 0), .int (zI 0), .int (zI 0), .int (zI 0), .int (zI 0)]))]) (fun ws' => ws' = wr ++ [(h0, .inr (2, [.ref (E.2.1 0), .int (zI (-1)), .int (zI (-1)), .long (zJ 0), .int (zI 0), .int (zI (-1)), .int (zI (-1)), .int (zI (-1)), .int (zI 0)]))]) := by
  refine zCon_in RX3 (by decide +kernel) rfl rfl (by decide) (fun K hKn hKE X I0 F => ?_) l
  subst hKE
  refine c_aload (i := 0) (j := 0) X dX3_init_0 rfl rfl ?_
  refine c_objInit X zt_1_43 zt_1_23 zt_1_24 dX3_init_1 (by decide) (by decide) ?_
  refine c_aload (i := 0) (j := 0) X dX3_init_4 rfl rfl ?_
  refine c_gets (i := 0) (nm := "NOTICE") X (zen_in (i := 0) rfl) zt_1_44 dX3_init_5 ?_
  refine c_put (ci := 2) (C := RX3) (T := TX3) (N := 9) (j := 0) (ty := .object "Flaghall$Kind") (v := .ref ((zKE K).2.1 0)) X rfl zu_3 (zwr_get (k := 0) rfl) (by decide) zt_1_46 tyX3 tyX3_ok nmX3 rfl (by decide +kernel) rfl rfl (Nat.le_of_ble_eq_true rfl) dX3_init_8 ?_
  refine c_ws (ws2 := wr ++ [(h0, .inr (2, [.ref ((zKE K).2.1 0), .int (zI 0), .int (zI 0), .long (zJ 0), .int (zI 0), .int (zI 0), .int (zI 0), .int (zI 0), .int (zI 0)]))]) zwr_set ?_
  refine c_aload (i := 0) (j := 0) X dX3_init_11 rfl rfl ?_
  refine c_iconst X dX3_init_12 ?_
  refine c_put (ci := 2) (C := RX3) (T := TX3) (N := 9) (j := 1) (ty := .int) (v := .int (zI (-1))) X rfl zu_3 (zwr_get (k := 0) rfl) (by decide) zt_1_48 tyX3 tyX3_ok nmX3 rfl (by decide +kernel) rfl rfl (Nat.le_of_ble_eq_true rfl) dX3_init_13 ?_
  refine c_ws (ws2 := wr ++ [(h0, .inr (2, [.ref ((zKE K).2.1 0), .int (zI (-1)), .int (zI 0), .long (zJ 0), .int (zI 0), .int (zI 0), .int (zI 0), .int (zI 0), .int (zI 0)]))]) zwr_set ?_
  refine c_aload (i := 0) (j := 0) X dX3_init_16 rfl rfl ?_
  refine c_iconst X dX3_init_17 ?_
  refine c_put (ci := 2) (C := RX3) (T := TX3) (N := 9) (j := 2) (ty := .int) (v := .int (zI (-1))) X rfl zu_3 (zwr_get (k := 0) rfl) (by decide) zt_1_50 tyX3 tyX3_ok nmX3 rfl (by decide +kernel) rfl rfl (Nat.le_of_ble_eq_true rfl) dX3_init_18 ?_
  refine c_ws (ws2 := wr ++ [(h0, .inr (2, [.ref ((zKE K).2.1 0), .int (zI (-1)), .int (zI (-1)), .long (zJ 0), .int (zI 0), .int (zI 0), .int (zI 0), .int (zI 0), .int (zI 0)]))]) zwr_set ?_
  refine c_aload (i := 0) (j := 0) X dX3_init_21 rfl rfl ?_
  refine c_iconst X dX3_init_22 ?_
  refine c_put (ci := 2) (C := RX3) (T := TX3) (N := 9) (j := 5) (ty := .int) (v := .int (zI (-1))) X rfl zu_3 (zwr_get (k := 0) rfl) (by decide) zt_1_56 tyX3 tyX3_ok nmX3 rfl (by decide +kernel) rfl rfl (Nat.le_of_ble_eq_true rfl) dX3_init_23 ?_
  refine c_ws (ws2 := wr ++ [(h0, .inr (2, [.ref ((zKE K).2.1 0), .int (zI (-1)), .int (zI (-1)), .long (zJ 0), .int (zI 0), .int (zI (-1)), .int (zI 0), .int (zI 0), .int (zI 0)]))]) zwr_set ?_
  refine c_aload (i := 0) (j := 0) X dX3_init_26 rfl rfl ?_
  refine c_iconst X dX3_init_27 ?_
  refine c_put (ci := 2) (C := RX3) (T := TX3) (N := 9) (j := 6) (ty := .int) (v := .int (zI (-1))) X rfl zu_3 (zwr_get (k := 0) rfl) (by decide) zt_1_58 tyX3 tyX3_ok nmX3 rfl (by decide +kernel) rfl rfl (Nat.le_of_ble_eq_true rfl) dX3_init_28 ?_
  refine c_ws (ws2 := wr ++ [(h0, .inr (2, [.ref ((zKE K).2.1 0), .int (zI (-1)), .int (zI (-1)), .long (zJ 0), .int (zI 0), .int (zI (-1)), .int (zI (-1)), .int (zI 0), .int (zI 0)]))]) zwr_set ?_
  refine c_aload (i := 0) (j := 0) X dX3_init_31 rfl rfl ?_
  refine c_iconst X dX3_init_32 ?_
  refine c_put (ci := 2) (C := RX3) (T := TX3) (N := 9) (j := 7) (ty := .int) (v := .int (zI (-1))) X rfl zu_3 (zwr_get (k := 0) rfl) (by decide) zt_1_60 tyX3 tyX3_ok nmX3 rfl (by decide +kernel) rfl rfl (Nat.le_of_ble_eq_true rfl) dX3_init_33 ?_
  refine c_ws (ws2 := wr ++ [(h0, .inr (2, [.ref ((zKE K).2.1 0), .int (zI (-1)), .int (zI (-1)), .long (zJ 0), .int (zI 0), .int (zI (-1)), .int (zI (-1)), .int (zI (-1)), .int (zI 0)]))]) zwr_set ?_
  exact c_vret X I0 F rfl (by decide) (by decide) dX3_init_36
abbrev rmX4_init : Room := { frames := 1, cells := 1, slots := 10, locals := 12 }
theorem qX4_init : yX4_init.cls ≠ "java/lang/invoke/MethodHandle" ∧ yX4_init.cls ≠ "java/lang/invoke/VarHandle" ∧ (parseMethodDescriptor yX4_init.desc).map (fun d => d.parameters.length) = some 0 := ⟨by decide +kernel, by decide +kernel, by decide +kernel⟩
set_option maxHeartbeats 4000000 in
set_option maxRecDepth 100000 in
theorem kX4_init (l : Launch) (E : zE) (h0 : Nat) (wr : va_W) : zCon l yX4_init (.code yX4_init cX4_init 1 none) rmX4_init E h0 (wr ++ [(h0, .inr (3, [.null, .int (zI 0), .int (zI 0), .int (zI 0), .long (zJ 0)]))]) (fun ws' => ∃ q1, ws' = wr ++ [(h0, .inr (3, [.ref q1, .int (zI 0), .int (zI (-1)), .int (zI (-1)), .long (zJ 0)])), (q1, .inl (E.2.2.1 8, 10, .inl (fun _ => 0)))]) := by
  refine zCon_in RX4 (by decide +kernel) rfl rfl (by decide) (fun K hKn hKE X I0 F => ?_) l
  subst hKE
  refine c_aload (i := 0) (j := 0) X dX4_init_0 rfl rfl ?_
  refine c_objInit X zt_1_136 zt_1_23 zt_1_24 dX4_init_1 (by decide) (by decide) ?_
  refine c_aload (i := 0) (j := 0) X dX4_init_4 rfl rfl ?_
  refine c_bipush X dX4_init_5 (by decide +kernel) ?_
  refine c_newa_int (N := 10) X zt_1_83 (by decide +kernel) (by decide +kernel) (by decide) ⟨(by decide), (by decide)⟩ dX4_init_7 (fun q1 => ?_)
  refine c_ws (ws2 := wr ++ [(h0, .inr (3, [.null, .int (zI 0), .int (zI 0), .int (zI 0), .long (zJ 0)])), (q1, .inl ((zKE K).2.2.1 8, 10, .inl (fun _ => 0)))]) (List.append_assoc _ _ _) ?_
  refine c_putF (ci := 3) (C := RX4) (T := TX4) (N := 5) (j := 0) (ty := .array .int) (v := .ref q1) X rfl zu_4 (zwr_get (k := 0) rfl) (by decide) zt_1_137 tyX4 tyX4_ok nmX4 I0 rfl rfl (by decide +kernel) rfl rfl (Nat.le_of_ble_eq_true rfl) dX4_init_9 ?_
  refine c_ws (ws2 := wr ++ [(h0, .inr (3, [.ref q1, .int (zI 0), .int (zI 0), .int (zI 0), .long (zJ 0)])), (q1, .inl ((zKE K).2.2.1 8, 10, .inl (fun _ => 0)))]) zwr_set ?_
  refine c_aload (i := 0) (j := 0) X dX4_init_12 rfl rfl ?_
  refine c_iconst X dX4_init_13 ?_
  refine c_put (ci := 3) (C := RX4) (T := TX4) (N := 5) (j := 2) (ty := .int) (v := .int (zI (-1))) X rfl zu_4 (zwr_get (k := 0) rfl) (by decide) zt_1_140 tyX4 tyX4_ok nmX4 rfl (by decide +kernel) rfl rfl (Nat.le_of_ble_eq_true rfl) dX4_init_14 ?_
  refine c_ws (ws2 := wr ++ [(h0, .inr (3, [.ref q1, .int (zI 0), .int (zI (-1)), .int (zI 0), .long (zJ 0)])), (q1, .inl ((zKE K).2.2.1 8, 10, .inl (fun _ => 0)))]) zwr_set ?_
  refine c_aload (i := 0) (j := 0) X dX4_init_17 rfl rfl ?_
  refine c_iconst X dX4_init_18 ?_
  refine c_put (ci := 3) (C := RX4) (T := TX4) (N := 5) (j := 3) (ty := .int) (v := .int (zI (-1))) X rfl zu_4 (zwr_get (k := 0) rfl) (by decide) zt_1_142 tyX4 tyX4_ok nmX4 rfl (by decide +kernel) rfl rfl (Nat.le_of_ble_eq_true rfl) dX4_init_19 ?_
  refine c_ws (ws2 := wr ++ [(h0, .inr (3, [.ref q1, .int (zI 0), .int (zI (-1)), .int (zI (-1)), .long (zJ 0)])), (q1, .inl ((zKE K).2.2.1 8, 10, .inl (fun _ => 0)))]) zwr_set ?_
  exact c_vret X I0 F ⟨q1, rfl⟩ (by decide) (by decide) dX4_init_22
abbrev rmX5_init : Room := { frames := 1, cells := 2, slots := 18, locals := 12 }
theorem qX5_init : yX5_init.cls ≠ "java/lang/invoke/MethodHandle" ∧ yX5_init.cls ≠ "java/lang/invoke/VarHandle" ∧ (parseMethodDescriptor yX5_init.desc).map (fun d => d.parameters.length) = some 0 := ⟨by decide +kernel, by decide +kernel, by decide +kernel⟩
set_option maxHeartbeats 4000000 in
set_option maxRecDepth 100000 in
theorem kX5_init (l : Launch) (E : zE) (h0 : Nat) (wr : va_W) : zCon l yX5_init (.code yX5_init cX5_init 1 none) rmX5_init E h0 (wr ++ [(h0, .inr (4, [.null, .null, .int (zI 0), .int (zI 0), .long (zJ 0)]))]) (fun ws' => ∃ q1 q2, ws' = wr ++ [(h0, .inr (4, [.ref q1, .ref q2, .int (zI 0), .int (zI (-1)), .long (-1)])), (q1, .inl (E.2.2.1 7, 8, .inl (fun _ => 0))), (q2, .inl (E.2.2.1 8, 10, .inl (fun _ => 0)))]) := by
  refine zCon_in RX5 (by decide +kernel) rfl rfl (by decide) (fun K hKn hKE X I0 F => ?_) l
  subst hKE
  refine c_aload (i := 0) (j := 0) X dX5_init_0 rfl rfl ?_
  refine c_objInit X zt_1_161 zt_1_23 zt_1_24 dX5_init_1 (by decide) (by decide) ?_
  refine c_aload (i := 0) (j := 0) X dX5_init_4 rfl rfl ?_
  refine c_bipush X dX5_init_5 (by decide +kernel) ?_
  refine c_newa_char (N := 8) X zt_1_156 (by decide +kernel) (by decide +kernel) (by decide) ⟨(by decide), (by decide)⟩ dX5_init_7 (fun q1 => ?_)
  refine c_ws (ws2 := wr ++ [(h0, .inr (4, [.null, .null, .int (zI 0), .int (zI 0), .long (zJ 0)])), (q1, .inl ((zKE K).2.2.1 7, 8, .inl (fun _ => 0)))]) (List.append_assoc _ _ _) ?_
  refine c_putF (ci := 4) (C := RX5) (T := TX5) (N := 5) (j := 0) (ty := .array .char) (v := .ref q1) X rfl zu_5 (zwr_get (k := 0) rfl) (by decide) zt_1_163 tyX5 tyX5_ok nmX5 I0 rfl rfl (by decide +kernel) rfl rfl (Nat.le_of_ble_eq_true rfl) dX5_init_9 ?_
  refine c_ws (ws2 := wr ++ [(h0, .inr (4, [.ref q1, .null, .int (zI 0), .int (zI 0), .long (zJ 0)])), (q1, .inl ((zKE K).2.2.1 7, 8, .inl (fun _ => 0)))]) zwr_set ?_
  refine c_aload (i := 0) (j := 0) X dX5_init_12 rfl rfl ?_
  refine c_bipush X dX5_init_13 (by decide +kernel) ?_
  refine c_newa_int (N := 10) X zt_1_83 (by decide +kernel) (by decide +kernel) (by decide) ⟨(by decide), (by decide)⟩ dX5_init_15 (fun q2 => ?_)
  refine c_ws (ws2 := wr ++ [(h0, .inr (4, [.ref q1, .null, .int (zI 0), .int (zI 0), .long (zJ 0)])), (q1, .inl ((zKE K).2.2.1 7, 8, .inl (fun _ => 0))), (q2, .inl ((zKE K).2.2.1 8, 10, .inl (fun _ => 0)))]) (List.append_assoc _ _ _) ?_
  refine c_putF (ci := 4) (C := RX5) (T := TX5) (N := 5) (j := 1) (ty := .array .int) (v := .ref q2) X rfl zu_5 (zwr_get (k := 0) rfl) (by decide) zt_1_164 tyX5 tyX5_ok nmX5 I0 rfl rfl (by decide +kernel) rfl rfl (Nat.le_of_ble_eq_true rfl) dX5_init_17 ?_
  refine c_ws (ws2 := wr ++ [(h0, .inr (4, [.ref q1, .ref q2, .int (zI 0), .int (zI 0), .long (zJ 0)])), (q1, .inl ((zKE K).2.2.1 7, 8, .inl (fun _ => 0))), (q2, .inl ((zKE K).2.2.1 8, 10, .inl (fun _ => 0)))]) zwr_set ?_
  refine c_aload (i := 0) (j := 0) X dX5_init_20 rfl rfl ?_
  refine c_iconst X dX5_init_21 ?_
  refine c_put (ci := 4) (C := RX5) (T := TX5) (N := 5) (j := 3) (ty := .int) (v := .int (zI (-1))) X rfl zu_5 (zwr_get (k := 0) rfl) (by decide) zt_1_167 tyX5 tyX5_ok nmX5 rfl (by decide +kernel) rfl rfl (Nat.le_of_ble_eq_true rfl) dX5_init_22 ?_
  refine c_ws (ws2 := wr ++ [(h0, .inr (4, [.ref q1, .ref q2, .int (zI 0), .int (zI (-1)), .long (zJ 0)])), (q1, .inl ((zKE K).2.2.1 7, 8, .inl (fun _ => 0))), (q2, .inl ((zKE K).2.2.1 8, 10, .inl (fun _ => 0)))]) zwr_set ?_
  refine c_aload (i := 0) (j := 0) X dX5_init_25 rfl rfl ?_
  refine c_ldc2 X zt_1_162 dX5_init_26 ?_
  refine c_put (ci := 4) (C := RX5) (T := TX5) (N := 5) (j := 4) (ty := .long) (v := .long (-1)) X rfl zu_5 (zwr_get (k := 0) rfl) (by decide) zt_1_169 tyX5 tyX5_ok nmX5 rfl (by decide +kernel) rfl rfl (Nat.le_of_ble_eq_true rfl) dX5_init_29 ?_
  refine c_ws (ws2 := wr ++ [(h0, .inr (4, [.ref q1, .ref q2, .int (zI 0), .int (zI (-1)), .long (-1)])), (q1, .inl ((zKE K).2.2.1 7, 8, .inl (fun _ => 0))), (q2, .inl ((zKE K).2.2.1 8, 10, .inl (fun _ => 0)))]) zwr_set ?_
  exact c_vret X I0 F ⟨q1, q2, rfl⟩ (by decide) (by decide) dX5_init_32
