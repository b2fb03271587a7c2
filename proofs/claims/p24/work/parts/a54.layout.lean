def zs0 (k j : Nat) : Int :=
  if k < 10 then 0 else if k < 20 then (if j = 2 then -1 else if j = 3 then -1 else 0) else if k < 36 then 0 else if k < 42 then (if j = 3 then -1 else if j = 4 then -1 else 0) else if k < 48 then 0 else if k < 108 then (if j = 1 then -1 else if j = 2 then -1 else if j = 5 then -1 else if j = 6 then -1 else if j = 7 then -1 else 0) else if k < 168 then (if j = 0 then -1 else if j = 1 then -1 else if j = 3 then -1 else if j = 4 then -1 else 0) else if k = 168 then 0 else 0
theorem zar_congr {E : zE} {k n : Nat} {f g : Nat → Option Nat} {D : va_G} {cl : List vw_C} {q : Nat} {H : Heap} (h : ∀ j, j < n → f j = g j) (hv : va_at D cl (q, zar E k n f) H) : va_at D cl (q, zar E k n g) H := by
  have e : vp_cell (E.2.2.1 k) (n, .inr (.inr (.inr (.inr f)))) = vp_cell (E.2.2.1 k) (n, .inr (.inr (.inr (.inr g)))) := by
    have e1 : (fun j : Fin n => va_rf (f j.val)) = (fun j : Fin n => va_rf (g j.val)) := funext fun j => by rw [h j.1 j.2]
    rw [vp_cell_q, vp_cell_q]
    unfold arrV
    rw [e1]
  show H[q]? = some (vp_cell (E.2.2.1 k) (n, .inr (.inr (.inr (.inr g)))))
  rw [← e]
  exact hv
def zWx (E : zE) (h0 p1 p2 h3 p4 p5 qp qm qs l1 l2 l3 l4 l5 l6 l7 l8 l9 l10 l11 l12 l13 l14 l15 : Nat) (ab bb a b a2 b2 c2 : Nat → Nat) : va_W := [(h0, zF0 p1 p2 h3 p4 p5), (p1, zar E 13 10 (zfs a 10)), (p2, zar E 14 6 (zfs a2 6)), (h3, .inr (0, [.ref qp, .ref qm, .ref qs, .int (zI 0), .int (zI 0)])), (qp, zar E 12 60 (zfs ab 60)), (qm, zar E 11 60 (zfs bb 60)), (qs, zai E 8 60), (ab 0, zcP E), (bb 0, zcM), (ab 1, zcP E), (bb 1, zcM), (ab 2, zcP E), (bb 2, zcM), (ab 3, zcP E), (bb 3, zcM), (ab 4, zcP E), (bb 4, zcM), (ab 5, zcP E), (bb 5, zcM), (ab 6, zcP E), (bb 6, zcM), (ab 7, zcP E), (bb 7, zcM), (ab 8, zcP E), (bb 8, zcM), (ab 9, zcP E), (bb 9, zcM), (ab 10, zcP E), (bb 10, zcM), (ab 11, zcP E), (bb 11, zcM), (ab 12, zcP E), (bb 12, zcM), (ab 13, zcP E), (bb 13, zcM), (ab 14, zcP E), (bb 14, zcM), (ab 15, zcP E), (bb 15, zcM), (ab 16, zcP E), (bb 16, zcM), (ab 17, zcP E), (bb 17, zcM), (ab 18, zcP E), (bb 18, zcM), (ab 19, zcP E), (bb 19, zcM), (ab 20, zcP E), (bb 20, zcM), (ab 21, zcP E), (bb 21, zcM), (ab 22, zcP E), (bb 22, zcM), (ab 23, zcP E), (bb 23, zcM), (ab 24, zcP E), (bb 24, zcM), (ab 25, zcP E), (bb 25, zcM), (ab 26, zcP E), (bb 26, zcM), (ab 27, zcP E), (bb 27, zcM), (ab 28, zcP E), (bb 28, zcM), (ab 29, zcP E), (bb 29, zcM), (ab 30, zcP E), (bb 30, zcM), (ab 31, zcP E), (bb 31, zcM), (ab 32, zcP E), (bb 32, zcM), (ab 33, zcP E), (bb 33, zcM), (ab 34, zcP E), (bb 34, zcM), (ab 35, zcP E), (bb 35, zcM), (ab 36, zcP E), (bb 36, zcM), (ab 37, zcP E), (bb 37, zcM), (ab 38, zcP E), (bb 38, zcM), (ab 39, zcP E), (bb 39, zcM), (ab 40, zcP E), (bb 40, zcM), (ab 41, zcP E), (bb 41, zcM), (ab 42, zcP E), (bb 42, zcM), (ab 43, zcP E), (bb 43, zcM), (ab 44, zcP E), (bb 44, zcM), (ab 45, zcP E), (bb 45, zcM), (ab 46, zcP E), (bb 46, zcM), (ab 47, zcP E), (bb 47, zcM), (ab 48, zcP E), (bb 48, zcM), (ab 49, zcP E), (bb 49, zcM), (ab 50, zcP E), (bb 50, zcM), (ab 51, zcP E), (bb 51, zcM), (ab 52, zcP E), (bb 52, zcM), (ab 53, zcP E), (bb 53, zcM), (ab 54, zcP E), (bb 54, zcM), (ab 55, zcP E), (bb 55, zcM), (ab 56, zcP E), (bb 56, zcM), (ab 57, zcP E), (bb 57, zcM), (ab 58, zcP E), (bb 58, zcM), (ab 59, zcP E), (bb 59, zcM), (p4, zai E 7 8), (p5, zai E 8 4), (a 0, zpa (b 0)), (b 0, zai E 8 10), (a 1, zpa (b 1)), (b 1, zai E 8 10), (a 2, zpa (b 2)), (b 2, zai E 8 10), (a 3, zpa (b 3)), (b 3, zai E 8 10), (a 4, zpa (b 4)), (b 4, zai E 8 10), (a 5, zpa (b 5)), (b 5, zai E 8 10), (a 6, zpa (b 6)), (b 6, zai E 8 10), (a 7, zpa (b 7)), (b 7, zai E 8 10), (a 8, zpa (b 8)), (b 8, zai E 8 10), (a 9, zpa (b 9)), (b 9, zai E 8 10), (a2 0, zsh (b2 0) (c2 0)), (b2 0, zai E 7 8), (c2 0, zai E 8 10), (a2 1, zsh (b2 1) (c2 1)), (b2 1, zai E 7 8), (c2 1, zai E 8 10), (a2 2, zsh (b2 2) (c2 2)), (b2 2, zai E 7 8), (c2 2, zai E 8 10), (a2 3, zsh (b2 3) (c2 3)), (b2 3, zai E 7 8), (c2 3, zai E 8 10), (a2 4, zsh (b2 4) (c2 4)), (b2 4, zai E 7 8), (c2 4, zai E 8 10), (a2 5, zsh (b2 5) (c2 5)), (b2 5, zai E 7 8), (c2 5, zai E 8 10), (l1, zai E 8 6), (l2, zai E 8 36), (l3, zai E 8 18), (l4, .inl (E.2.2.1 9, 3, .inr (.inl (fun _ => 0)))), (l5, zai E 8 3), (l6, .inl (E.2.2.1 9, 3, .inr (.inl (fun _ => 0)))), (l7, zai E 8 40), (l8, zai E 8 40), (l9, .inl (E.2.2.1 9, 40, .inr (.inl (fun _ => 0)))), (l10, .inl (E.2.2.1 9, 40, .inr (.inl (fun _ => 0)))), (l11, zai E 8 40), (l12, zai E 8 40), (l13, zai E 8 40), (l14, .inl (E.2.2.1 9, 6, .inr (.inl (fun _ => 0)))), (l15, zai E 8 4)]
def zal (h0 p1 p2 h3 p4 p5 qp qm qs l1 l2 l3 l4 l5 l6 l7 l8 l9 l10 l11 l12 l13 l14 l15 : Nat) (ab bb a b a2 b2 c2 : Nat → Nat) : List Nat := [h0, p1, p2, h3, p4, p5, qp, qm, qs, l4, a 0, a 1, a 2, a 3, a 4, a 5, a 6, a 7, a 8, a 9, b 0, b 1, b 2, b 3, b 4, b 5, b 6, b 7, b 8, b 9, c2 0, c2 1, c2 2, c2 3, c2 4, c2 5, a2 0, a2 1, a2 2, a2 3, a2 4, a2 5, b2 0, b2 1, b2 2, b2 3, b2 4, b2 5, ab 0, ab 1, ab 2, ab 3, ab 4, ab 5, ab 6, ab 7, ab 8, ab 9, ab 10, ab 11, ab 12, ab 13, ab 14, ab 15, ab 16, ab 17, ab 18, ab 19, ab 20, ab 21, ab 22, ab 23, ab 24, ab 25, ab 26, ab 27, ab 28, ab 29, ab 30, ab 31, ab 32, ab 33, ab 34, ab 35, ab 36, ab 37, ab 38, ab 39, ab 40, ab 41, ab 42, ab 43, ab 44, ab 45, ab 46, ab 47, ab 48, ab 49, ab 50, ab 51, ab 52, ab 53, ab 54, ab 55, ab 56, ab 57, ab 58, ab 59, bb 0, bb 1, bb 2, bb 3, bb 4, bb 5, bb 6, bb 7, bb 8, bb 9, bb 10, bb 11, bb 12, bb 13, bb 14, bb 15, bb 16, bb 17, bb 18, bb 19, bb 20, bb 21, bb 22, bb 23, bb 24, bb 25, bb 26, bb 27, bb 28, bb 29, bb 30, bb 31, bb 32, bb 33, bb 34, bb 35, bb 36, bb 37, bb 38, bb 39, bb 40, bb 41, bb 42, bb 43, bb 44, bb 45, bb 46, bb 47, bb 48, bb 49, bb 50, bb 51, bb 52, bb 53, bb 54, bb 55, bb 56, bb 57, bb 58, bb 59, l1, l2, l3, l5, l6, l7, l8, l9, l10, l11, l12, l13, l14, l15]
def zgl : List Nat := [0, 1, 2, 3, 127, 128, 4, 5, 6, 170, 129, 131, 133, 135, 137, 139, 141, 143, 145, 147, 130, 132, 134, 136, 138, 140, 142, 144, 146, 148, 151, 154, 157, 160, 163, 166, 149, 152, 155, 158, 161, 164, 150, 153, 156, 159, 162, 165, 7, 9, 11, 13, 15, 17, 19, 21, 23, 25, 27, 29, 31, 33, 35, 37, 39, 41, 43, 45, 47, 49, 51, 53, 55, 57, 59, 61, 63, 65, 67, 69, 71, 73, 75, 77, 79, 81, 83, 85, 87, 89, 91, 93, 95, 97, 99, 101, 103, 105, 107, 109, 111, 113, 115, 117, 119, 121, 123, 125, 8, 10, 12, 14, 16, 18, 20, 22, 24, 26, 28, 30, 32, 34, 36, 38, 40, 42, 44, 46, 48, 50, 52, 54, 56, 58, 60, 62, 64, 66, 68, 70, 72, 74, 76, 78, 80, 82, 84, 86, 88, 90, 92, 94, 96, 98, 100, 102, 104, 106, 108, 110, 112, 114, 116, 118, 120, 122, 124, 126, 167, 168, 169, 171, 172, 173, 174, 175, 176, 177, 178, 179, 180, 181]
def zgi : List Nat := [0, 1, 2, 3, 6, 7, 8, 48, 108, 49, 109, 50, 110, 51, 111, 52, 112, 53, 113, 54, 114, 55, 115, 56, 116, 57, 117, 58, 118, 59, 119, 60, 120, 61, 121, 62, 122, 63, 123, 64, 124, 65, 125, 66, 126, 67, 127, 68, 128, 69, 129, 70, 130, 71, 131, 72, 132, 73, 133, 74, 134, 75, 135, 76, 136, 77, 137, 78, 138, 79, 139, 80, 140, 81, 141, 82, 142, 83, 143, 84, 144, 85, 145, 86, 146, 87, 147, 88, 148, 89, 149, 90, 150, 91, 151, 92, 152, 93, 153, 94, 154, 95, 155, 96, 156, 97, 157, 98, 158, 99, 159, 100, 160, 101, 161, 102, 162, 103, 163, 104, 164, 105, 165, 106, 166, 107, 167, 4, 5, 10, 20, 11, 21, 12, 22, 13, 23, 14, 24, 15, 25, 16, 26, 17, 27, 18, 28, 19, 29, 36, 42, 30, 37, 43, 31, 38, 44, 32, 39, 45, 33, 40, 46, 34, 41, 47, 35, 168, 169, 170, 9, 171, 172, 173, 174, 175, 176, 177, 178, 179, 180, 181]
theorem zg_inv : ∀ k, k < 182 → zgi.getD (zgl.getD k 0) 999 = k := by decide +kernel
abbrev zEx (E : zE) (h0 p1 p2 h3 p4 p5 qp qm qs l1 l2 l3 l4 l5 l6 l7 l8 l9 l10 l11 l12 l13 l14 l15 : Nat) (ab bb a b a2 b2 c2 : Nat → Nat) : zE := (fun k => (zal h0 p1 p2 h3 p4 p5 qp qm qs l1 l2 l3 l4 l5 l6 l7 l8 l9 l10 l11 l12 l13 l14 l15 ab bb a b a2 b2 c2).getD (zpi k) 0, E.2)
def z9P (E : zE) (h0 p1 p2 h3 p4 p5 qp qm qs l1 l2 l3 l4 l5 l6 l7 l8 l9 l10 l11 l12 l13 l14 l15 : Nat) (ab bb a b a2 b2 c2 : Nat → Nat) (k : Nat) : Prop := ∃ e, (zWx E h0 p1 p2 h3 p4 p5 qp qm qs l1 l2 l3 l4 l5 l6 l7 l8 l9 l10 l11 l12 l13 l14 l15 ab bb a b a2 b2 c2)[zgl.getD k 0]? = some ((zEx E h0 p1 p2 h3 p4 p5 qp qm qs l1 l2 l3 l4 l5 l6 l7 l8 l9 l10 l11 l12 l13 l14 l15 ab bb a b a2 b2 c2).1 (zpo k), e) ∧ ∀ (D : va_G) (cl : List vw_C) (H : Heap), va_at D cl ((zEx E h0 p1 p2 h3 p4 p5 qp qm qs l1 l2 l3 l4 l5 l6 l7 l8 l9 l10 l11 l12 l13 l14 l15 ab bb a b a2 b2 c2).1 (zpo k), e) H → va_at D cl ((zEx E h0 p1 p2 h3 p4 p5 qp qm qs l1 l2 l3 l4 l5 l6 l7 l8 l9 l10 l11 l12 l13 l14 l15 ab bb a b a2 b2 c2).1 (zpo k), zce (zEx E h0 p1 p2 h3 p4 p5 qp qm qs l1 l2 l3 l4 l5 l6 l7 l8 l9 l10 l11 l12 l13 l14 l15 ab bb a b a2 b2 c2) zs0 (zpo k)) H
set_option maxRecDepth 100000 in
set_option maxHeartbeats 4000000 in
theorem z9_0 (E : zE) (h0 p1 p2 h3 p4 p5 qp qm qs l1 l2 l3 l4 l5 l6 l7 l8 l9 l10 l11 l12 l13 l14 l15 : Nat) (ab bb a b a2 b2 c2 : Nat → Nat) : z9P E h0 p1 p2 h3 p4 p5 qp qm qs l1 l2 l3 l4 l5 l6 l7 l8 l9 l10 l11 l12 l13 l14 l15 ab bb a b a2 b2 c2 0 := ⟨_, rfl, fun _ _ _ h => h⟩
set_option maxRecDepth 100000 in
set_option maxHeartbeats 4000000 in
theorem z9_3 (E : zE) (h0 p1 p2 h3 p4 p5 qp qm qs l1 l2 l3 l4 l5 l6 l7 l8 l9 l10 l11 l12 l13 l14 l15 : Nat) (ab bb a b a2 b2 c2 : Nat → Nat) : z9P E h0 p1 p2 h3 p4 p5 qp qm qs l1 l2 l3 l4 l5 l6 l7 l8 l9 l10 l11 l12 l13 l14 l15 ab bb a b a2 b2 c2 3 := ⟨_, rfl, fun _ _ _ h => h⟩
set_option maxRecDepth 100000 in
set_option maxHeartbeats 4000000 in
theorem z9_4 (E : zE) (h0 p1 p2 h3 p4 p5 qp qm qs l1 l2 l3 l4 l5 l6 l7 l8 l9 l10 l11 l12 l13 l14 l15 : Nat) (ab bb a b a2 b2 c2 : Nat → Nat) : z9P E h0 p1 p2 h3 p4 p5 qp qm qs l1 l2 l3 l4 l5 l6 l7 l8 l9 l10 l11 l12 l13 l14 l15 ab bb a b a2 b2 c2 4 := ⟨_, rfl, fun _ _ _ h => h⟩
set_option maxRecDepth 100000 in
set_option maxHeartbeats 4000000 in
theorem z9_5 (E : zE) (h0 p1 p2 h3 p4 p5 qp qm qs l1 l2 l3 l4 l5 l6 l7 l8 l9 l10 l11 l12 l13 l14 l15 : Nat) (ab bb a b a2 b2 c2 : Nat → Nat) : z9P E h0 p1 p2 h3 p4 p5 qp qm qs l1 l2 l3 l4 l5 l6 l7 l8 l9 l10 l11 l12 l13 l14 l15 ab bb a b a2 b2 c2 5 := ⟨_, rfl, fun _ _ _ h => h⟩
set_option maxRecDepth 100000 in
set_option maxHeartbeats 4000000 in
theorem z9_8 (E : zE) (h0 p1 p2 h3 p4 p5 qp qm qs l1 l2 l3 l4 l5 l6 l7 l8 l9 l10 l11 l12 l13 l14 l15 : Nat) (ab bb a b a2 b2 c2 : Nat → Nat) : z9P E h0 p1 p2 h3 p4 p5 qp qm qs l1 l2 l3 l4 l5 l6 l7 l8 l9 l10 l11 l12 l13 l14 l15 ab bb a b a2 b2 c2 8 := ⟨_, rfl, fun _ _ _ h => h⟩
set_option maxRecDepth 100000 in
set_option maxHeartbeats 4000000 in
theorem z9_9 (E : zE) (h0 p1 p2 h3 p4 p5 qp qm qs l1 l2 l3 l4 l5 l6 l7 l8 l9 l10 l11 l12 l13 l14 l15 : Nat) (ab bb a b a2 b2 c2 : Nat → Nat) : z9P E h0 p1 p2 h3 p4 p5 qp qm qs l1 l2 l3 l4 l5 l6 l7 l8 l9 l10 l11 l12 l13 l14 l15 ab bb a b a2 b2 c2 9 := ⟨_, rfl, fun _ _ _ h => h⟩
set_option maxRecDepth 100000 in
set_option maxHeartbeats 4000000 in
theorem z9_10 (E : zE) (h0 p1 p2 h3 p4 p5 qp qm qs l1 l2 l3 l4 l5 l6 l7 l8 l9 l10 l11 l12 l13 l14 l15 : Nat) (ab bb a b a2 b2 c2 : Nat → Nat) : z9P E h0 p1 p2 h3 p4 p5 qp qm qs l1 l2 l3 l4 l5 l6 l7 l8 l9 l10 l11 l12 l13 l14 l15 ab bb a b a2 b2 c2 10 := ⟨_, rfl, fun _ _ _ h => h⟩
set_option maxRecDepth 100000 in
set_option maxHeartbeats 4000000 in
theorem z9_11 (E : zE) (h0 p1 p2 h3 p4 p5 qp qm qs l1 l2 l3 l4 l5 l6 l7 l8 l9 l10 l11 l12 l13 l14 l15 : Nat) (ab bb a b a2 b2 c2 : Nat → Nat) : z9P E h0 p1 p2 h3 p4 p5 qp qm qs l1 l2 l3 l4 l5 l6 l7 l8 l9 l10 l11 l12 l13 l14 l15 ab bb a b a2 b2 c2 11 := ⟨_, rfl, fun _ _ _ h => h⟩
set_option maxRecDepth 100000 in
set_option maxHeartbeats 4000000 in
theorem z9_12 (E : zE) (h0 p1 p2 h3 p4 p5 qp qm qs l1 l2 l3 l4 l5 l6 l7 l8 l9 l10 l11 l12 l13 l14 l15 : Nat) (ab bb a b a2 b2 c2 : Nat → Nat) : z9P E h0 p1 p2 h3 p4 p5 qp qm qs l1 l2 l3 l4 l5 l6 l7 l8 l9 l10 l11 l12 l13 l14 l15 ab bb a b a2 b2 c2 12 := ⟨_, rfl, fun _ _ _ h => h⟩
set_option maxRecDepth 100000 in
set_option maxHeartbeats 4000000 in
theorem z9_13 (E : zE) (h0 p1 p2 h3 p4 p5 qp qm qs l1 l2 l3 l4 l5 l6 l7 l8 l9 l10 l11 l12 l13 l14 l15 : Nat) (ab bb a b a2 b2 c2 : Nat → Nat) : z9P E h0 p1 p2 h3 p4 p5 qp qm qs l1 l2 l3 l4 l5 l6 l7 l8 l9 l10 l11 l12 l13 l14 l15 ab bb a b a2 b2 c2 13 := ⟨_, rfl, fun _ _ _ h => h⟩
set_option maxRecDepth 100000 in
set_option maxHeartbeats 4000000 in
theorem z9_14 (E : zE) (h0 p1 p2 h3 p4 p5 qp qm qs l1 l2 l3 l4 l5 l6 l7 l8 l9 l10 l11 l12 l13 l14 l15 : Nat) (ab bb a b a2 b2 c2 : Nat → Nat) : z9P E h0 p1 p2 h3 p4 p5 qp qm qs l1 l2 l3 l4 l5 l6 l7 l8 l9 l10 l11 l12 l13 l14 l15 ab bb a b a2 b2 c2 14 := ⟨_, rfl, fun _ _ _ h => h⟩
set_option maxRecDepth 100000 in
set_option maxHeartbeats 4000000 in
theorem z9_15 (E : zE) (h0 p1 p2 h3 p4 p5 qp qm qs l1 l2 l3 l4 l5 l6 l7 l8 l9 l10 l11 l12 l13 l14 l15 : Nat) (ab bb a b a2 b2 c2 : Nat → Nat) : z9P E h0 p1 p2 h3 p4 p5 qp qm qs l1 l2 l3 l4 l5 l6 l7 l8 l9 l10 l11 l12 l13 l14 l15 ab bb a b a2 b2 c2 15 := ⟨_, rfl, fun _ _ _ h => h⟩
set_option maxRecDepth 100000 in
set_option maxHeartbeats 4000000 in
theorem z9_16 (E : zE) (h0 p1 p2 h3 p4 p5 qp qm qs l1 l2 l3 l4 l5 l6 l7 l8 l9 l10 l11 l12 l13 l14 l15 : Nat) (ab bb a b a2 b2 c2 : Nat → Nat) : z9P E h0 p1 p2 h3 p4 p5 qp qm qs l1 l2 l3 l4 l5 l6 l7 l8 l9 l10 l11 l12 l13 l14 l15 ab bb a b a2 b2 c2 16 := ⟨_, rfl, fun _ _ _ h => h⟩
set_option maxRecDepth 100000 in
set_option maxHeartbeats 4000000 in
theorem z9_17 (E : zE) (h0 p1 p2 h3 p4 p5 qp qm qs l1 l2 l3 l4 l5 l6 l7 l8 l9 l10 l11 l12 l13 l14 l15 : Nat) (ab bb a b a2 b2 c2 : Nat → Nat) : z9P E h0 p1 p2 h3 p4 p5 qp qm qs l1 l2 l3 l4 l5 l6 l7 l8 l9 l10 l11 l12 l13 l14 l15 ab bb a b a2 b2 c2 17 := ⟨_, rfl, fun _ _ _ h => h⟩
set_option maxRecDepth 100000 in
set_option maxHeartbeats 4000000 in
theorem z9_18 (E : zE) (h0 p1 p2 h3 p4 p5 qp qm qs l1 l2 l3 l4 l5 l6 l7 l8 l9 l10 l11 l12 l13 l14 l15 : Nat) (ab bb a b a2 b2 c2 : Nat → Nat) : z9P E h0 p1 p2 h3 p4 p5 qp qm qs l1 l2 l3 l4 l5 l6 l7 l8 l9 l10 l11 l12 l13 l14 l15 ab bb a b a2 b2 c2 18 := ⟨_, rfl, fun _ _ _ h => h⟩
set_option maxRecDepth 100000 in
set_option maxHeartbeats 4000000 in
theorem z9_19 (E : zE) (h0 p1 p2 h3 p4 p5 qp qm qs l1 l2 l3 l4 l5 l6 l7 l8 l9 l10 l11 l12 l13 l14 l15 : Nat) (ab bb a b a2 b2 c2 : Nat → Nat) : z9P E h0 p1 p2 h3 p4 p5 qp qm qs l1 l2 l3 l4 l5 l6 l7 l8 l9 l10 l11 l12 l13 l14 l15 ab bb a b a2 b2 c2 19 := ⟨_, rfl, fun _ _ _ h => h⟩
set_option maxRecDepth 100000 in
set_option maxHeartbeats 4000000 in
theorem z9_20 (E : zE) (h0 p1 p2 h3 p4 p5 qp qm qs l1 l2 l3 l4 l5 l6 l7 l8 l9 l10 l11 l12 l13 l14 l15 : Nat) (ab bb a b a2 b2 c2 : Nat → Nat) : z9P E h0 p1 p2 h3 p4 p5 qp qm qs l1 l2 l3 l4 l5 l6 l7 l8 l9 l10 l11 l12 l13 l14 l15 ab bb a b a2 b2 c2 20 := ⟨_, rfl, fun _ _ _ h => h⟩
set_option maxRecDepth 100000 in
set_option maxHeartbeats 4000000 in
theorem z9_21 (E : zE) (h0 p1 p2 h3 p4 p5 qp qm qs l1 l2 l3 l4 l5 l6 l7 l8 l9 l10 l11 l12 l13 l14 l15 : Nat) (ab bb a b a2 b2 c2 : Nat → Nat) : z9P E h0 p1 p2 h3 p4 p5 qp qm qs l1 l2 l3 l4 l5 l6 l7 l8 l9 l10 l11 l12 l13 l14 l15 ab bb a b a2 b2 c2 21 := ⟨_, rfl, fun _ _ _ h => h⟩
set_option maxRecDepth 100000 in
set_option maxHeartbeats 4000000 in
theorem z9_22 (E : zE) (h0 p1 p2 h3 p4 p5 qp qm qs l1 l2 l3 l4 l5 l6 l7 l8 l9 l10 l11 l12 l13 l14 l15 : Nat) (ab bb a b a2 b2 c2 : Nat → Nat) : z9P E h0 p1 p2 h3 p4 p5 qp qm qs l1 l2 l3 l4 l5 l6 l7 l8 l9 l10 l11 l12 l13 l14 l15 ab bb a b a2 b2 c2 22 := ⟨_, rfl, fun _ _ _ h => h⟩
set_option maxRecDepth 100000 in
set_option maxHeartbeats 4000000 in
theorem z9_23 (E : zE) (h0 p1 p2 h3 p4 p5 qp qm qs l1 l2 l3 l4 l5 l6 l7 l8 l9 l10 l11 l12 l13 l14 l15 : Nat) (ab bb a b a2 b2 c2 : Nat → Nat) : z9P E h0 p1 p2 h3 p4 p5 qp qm qs l1 l2 l3 l4 l5 l6 l7 l8 l9 l10 l11 l12 l13 l14 l15 ab bb a b a2 b2 c2 23 := ⟨_, rfl, fun _ _ _ h => h⟩
set_option maxRecDepth 100000 in
set_option maxHeartbeats 4000000 in
theorem z9_24 (E : zE) (h0 p1 p2 h3 p4 p5 qp qm qs l1 l2 l3 l4 l5 l6 l7 l8 l9 l10 l11 l12 l13 l14 l15 : Nat) (ab bb a b a2 b2 c2 : Nat → Nat) : z9P E h0 p1 p2 h3 p4 p5 qp qm qs l1 l2 l3 l4 l5 l6 l7 l8 l9 l10 l11 l12 l13 l14 l15 ab bb a b a2 b2 c2 24 := ⟨_, rfl, fun _ _ _ h => h⟩
set_option maxRecDepth 100000 in
set_option maxHeartbeats 4000000 in
theorem z9_25 (E : zE) (h0 p1 p2 h3 p4 p5 qp qm qs l1 l2 l3 l4 l5 l6 l7 l8 l9 l10 l11 l12 l13 l14 l15 : Nat) (ab bb a b a2 b2 c2 : Nat → Nat) : z9P E h0 p1 p2 h3 p4 p5 qp qm qs l1 l2 l3 l4 l5 l6 l7 l8 l9 l10 l11 l12 l13 l14 l15 ab bb a b a2 b2 c2 25 := ⟨_, rfl, fun _ _ _ h => h⟩
set_option maxRecDepth 100000 in
set_option maxHeartbeats 4000000 in
theorem z9_26 (E : zE) (h0 p1 p2 h3 p4 p5 qp qm qs l1 l2 l3 l4 l5 l6 l7 l8 l9 l10 l11 l12 l13 l14 l15 : Nat) (ab bb a b a2 b2 c2 : Nat → Nat) : z9P E h0 p1 p2 h3 p4 p5 qp qm qs l1 l2 l3 l4 l5 l6 l7 l8 l9 l10 l11 l12 l13 l14 l15 ab bb a b a2 b2 c2 26 := ⟨_, rfl, fun _ _ _ h => h⟩
set_option maxRecDepth 100000 in
set_option maxHeartbeats 4000000 in
theorem z9_27 (E : zE) (h0 p1 p2 h3 p4 p5 qp qm qs l1 l2 l3 l4 l5 l6 l7 l8 l9 l10 l11 l12 l13 l14 l15 : Nat) (ab bb a b a2 b2 c2 : Nat → Nat) : z9P E h0 p1 p2 h3 p4 p5 qp qm qs l1 l2 l3 l4 l5 l6 l7 l8 l9 l10 l11 l12 l13 l14 l15 ab bb a b a2 b2 c2 27 := ⟨_, rfl, fun _ _ _ h => h⟩
set_option maxRecDepth 100000 in
set_option maxHeartbeats 4000000 in
theorem z9_28 (E : zE) (h0 p1 p2 h3 p4 p5 qp qm qs l1 l2 l3 l4 l5 l6 l7 l8 l9 l10 l11 l12 l13 l14 l15 : Nat) (ab bb a b a2 b2 c2 : Nat → Nat) : z9P E h0 p1 p2 h3 p4 p5 qp qm qs l1 l2 l3 l4 l5 l6 l7 l8 l9 l10 l11 l12 l13 l14 l15 ab bb a b a2 b2 c2 28 := ⟨_, rfl, fun _ _ _ h => h⟩
set_option maxRecDepth 100000 in
set_option maxHeartbeats 4000000 in
theorem z9_29 (E : zE) (h0 p1 p2 h3 p4 p5 qp qm qs l1 l2 l3 l4 l5 l6 l7 l8 l9 l10 l11 l12 l13 l14 l15 : Nat) (ab bb a b a2 b2 c2 : Nat → Nat) : z9P E h0 p1 p2 h3 p4 p5 qp qm qs l1 l2 l3 l4 l5 l6 l7 l8 l9 l10 l11 l12 l13 l14 l15 ab bb a b a2 b2 c2 29 := ⟨_, rfl, fun _ _ _ h => h⟩
set_option maxRecDepth 100000 in
set_option maxHeartbeats 4000000 in
theorem z9_30 (E : zE) (h0 p1 p2 h3 p4 p5 qp qm qs l1 l2 l3 l4 l5 l6 l7 l8 l9 l10 l11 l12 l13 l14 l15 : Nat) (ab bb a b a2 b2 c2 : Nat → Nat) : z9P E h0 p1 p2 h3 p4 p5 qp qm qs l1 l2 l3 l4 l5 l6 l7 l8 l9 l10 l11 l12 l13 l14 l15 ab bb a b a2 b2 c2 30 := ⟨_, rfl, fun _ _ _ h => h⟩
set_option maxRecDepth 100000 in
set_option maxHeartbeats 4000000 in
theorem z9_31 (E : zE) (h0 p1 p2 h3 p4 p5 qp qm qs l1 l2 l3 l4 l5 l6 l7 l8 l9 l10 l11 l12 l13 l14 l15 : Nat) (ab bb a b a2 b2 c2 : Nat → Nat) : z9P E h0 p1 p2 h3 p4 p5 qp qm qs l1 l2 l3 l4 l5 l6 l7 l8 l9 l10 l11 l12 l13 l14 l15 ab bb a b a2 b2 c2 31 := ⟨_, rfl, fun _ _ _ h => h⟩
set_option maxRecDepth 100000 in
set_option maxHeartbeats 4000000 in
theorem z9_32 (E : zE) (h0 p1 p2 h3 p4 p5 qp qm qs l1 l2 l3 l4 l5 l6 l7 l8 l9 l10 l11 l12 l13 l14 l15 : Nat) (ab bb a b a2 b2 c2 : Nat → Nat) : z9P E h0 p1 p2 h3 p4 p5 qp qm qs l1 l2 l3 l4 l5 l6 l7 l8 l9 l10 l11 l12 l13 l14 l15 ab bb a b a2 b2 c2 32 := ⟨_, rfl, fun _ _ _ h => h⟩
set_option maxRecDepth 100000 in
set_option maxHeartbeats 4000000 in
theorem z9_33 (E : zE) (h0 p1 p2 h3 p4 p5 qp qm qs l1 l2 l3 l4 l5 l6 l7 l8 l9 l10 l11 l12 l13 l14 l15 : Nat) (ab bb a b a2 b2 c2 : Nat → Nat) : z9P E h0 p1 p2 h3 p4 p5 qp qm qs l1 l2 l3 l4 l5 l6 l7 l8 l9 l10 l11 l12 l13 l14 l15 ab bb a b a2 b2 c2 33 := ⟨_, rfl, fun _ _ _ h => h⟩
set_option maxRecDepth 100000 in
set_option maxHeartbeats 4000000 in
theorem z9_34 (E : zE) (h0 p1 p2 h3 p4 p5 qp qm qs l1 l2 l3 l4 l5 l6 l7 l8 l9 l10 l11 l12 l13 l14 l15 : Nat) (ab bb a b a2 b2 c2 : Nat → Nat) : z9P E h0 p1 p2 h3 p4 p5 qp qm qs l1 l2 l3 l4 l5 l6 l7 l8 l9 l10 l11 l12 l13 l14 l15 ab bb a b a2 b2 c2 34 := ⟨_, rfl, fun _ _ _ h => h⟩
set_option maxRecDepth 100000 in
set_option maxHeartbeats 4000000 in
theorem z9_35 (E : zE) (h0 p1 p2 h3 p4 p5 qp qm qs l1 l2 l3 l4 l5 l6 l7 l8 l9 l10 l11 l12 l13 l14 l15 : Nat) (ab bb a b a2 b2 c2 : Nat → Nat) : z9P E h0 p1 p2 h3 p4 p5 qp qm qs l1 l2 l3 l4 l5 l6 l7 l8 l9 l10 l11 l12 l13 l14 l15 ab bb a b a2 b2 c2 35 := ⟨_, rfl, fun _ _ _ h => h⟩
set_option maxRecDepth 100000 in
set_option maxHeartbeats 4000000 in
theorem z9_36 (E : zE) (h0 p1 p2 h3 p4 p5 qp qm qs l1 l2 l3 l4 l5 l6 l7 l8 l9 l10 l11 l12 l13 l14 l15 : Nat) (ab bb a b a2 b2 c2 : Nat → Nat) : z9P E h0 p1 p2 h3 p4 p5 qp qm qs l1 l2 l3 l4 l5 l6 l7 l8 l9 l10 l11 l12 l13 l14 l15 ab bb a b a2 b2 c2 36 := ⟨_, rfl, fun _ _ _ h => h⟩
set_option maxRecDepth 100000 in
set_option maxHeartbeats 4000000 in
theorem z9_37 (E : zE) (h0 p1 p2 h3 p4 p5 qp qm qs l1 l2 l3 l4 l5 l6 l7 l8 l9 l10 l11 l12 l13 l14 l15 : Nat) (ab bb a b a2 b2 c2 : Nat → Nat) : z9P E h0 p1 p2 h3 p4 p5 qp qm qs l1 l2 l3 l4 l5 l6 l7 l8 l9 l10 l11 l12 l13 l14 l15 ab bb a b a2 b2 c2 37 := ⟨_, rfl, fun _ _ _ h => h⟩
set_option maxRecDepth 100000 in
set_option maxHeartbeats 4000000 in
theorem z9_38 (E : zE) (h0 p1 p2 h3 p4 p5 qp qm qs l1 l2 l3 l4 l5 l6 l7 l8 l9 l10 l11 l12 l13 l14 l15 : Nat) (ab bb a b a2 b2 c2 : Nat → Nat) : z9P E h0 p1 p2 h3 p4 p5 qp qm qs l1 l2 l3 l4 l5 l6 l7 l8 l9 l10 l11 l12 l13 l14 l15 ab bb a b a2 b2 c2 38 := ⟨_, rfl, fun _ _ _ h => h⟩
set_option maxRecDepth 100000 in
set_option maxHeartbeats 4000000 in
theorem z9_39 (E : zE) (h0 p1 p2 h3 p4 p5 qp qm qs l1 l2 l3 l4 l5 l6 l7 l8 l9 l10 l11 l12 l13 l14 l15 : Nat) (ab bb a b a2 b2 c2 : Nat → Nat) : z9P E h0 p1 p2 h3 p4 p5 qp qm qs l1 l2 l3 l4 l5 l6 l7 l8 l9 l10 l11 l12 l13 l14 l15 ab bb a b a2 b2 c2 39 := ⟨_, rfl, fun _ _ _ h => h⟩
set_option maxRecDepth 100000 in
set_option maxHeartbeats 4000000 in
theorem z9_40 (E : zE) (h0 p1 p2 h3 p4 p5 qp qm qs l1 l2 l3 l4 l5 l6 l7 l8 l9 l10 l11 l12 l13 l14 l15 : Nat) (ab bb a b a2 b2 c2 : Nat → Nat) : z9P E h0 p1 p2 h3 p4 p5 qp qm qs l1 l2 l3 l4 l5 l6 l7 l8 l9 l10 l11 l12 l13 l14 l15 ab bb a b a2 b2 c2 40 := ⟨_, rfl, fun _ _ _ h => h⟩
set_option maxRecDepth 100000 in
set_option maxHeartbeats 4000000 in
theorem z9_41 (E : zE) (h0 p1 p2 h3 p4 p5 qp qm qs l1 l2 l3 l4 l5 l6 l7 l8 l9 l10 l11 l12 l13 l14 l15 : Nat) (ab bb a b a2 b2 c2 : Nat → Nat) : z9P E h0 p1 p2 h3 p4 p5 qp qm qs l1 l2 l3 l4 l5 l6 l7 l8 l9 l10 l11 l12 l13 l14 l15 ab bb a b a2 b2 c2 41 := ⟨_, rfl, fun _ _ _ h => h⟩
set_option maxRecDepth 100000 in
set_option maxHeartbeats 4000000 in
theorem z9_42 (E : zE) (h0 p1 p2 h3 p4 p5 qp qm qs l1 l2 l3 l4 l5 l6 l7 l8 l9 l10 l11 l12 l13 l14 l15 : Nat) (ab bb a b a2 b2 c2 : Nat → Nat) : z9P E h0 p1 p2 h3 p4 p5 qp qm qs l1 l2 l3 l4 l5 l6 l7 l8 l9 l10 l11 l12 l13 l14 l15 ab bb a b a2 b2 c2 42 := ⟨_, rfl, fun _ _ _ h => h⟩
set_option maxRecDepth 100000 in
set_option maxHeartbeats 4000000 in
theorem z9_43 (E : zE) (h0 p1 p2 h3 p4 p5 qp qm qs l1 l2 l3 l4 l5 l6 l7 l8 l9 l10 l11 l12 l13 l14 l15 : Nat) (ab bb a b a2 b2 c2 : Nat → Nat) : z9P E h0 p1 p2 h3 p4 p5 qp qm qs l1 l2 l3 l4 l5 l6 l7 l8 l9 l10 l11 l12 l13 l14 l15 ab bb a b a2 b2 c2 43 := ⟨_, rfl, fun _ _ _ h => h⟩
set_option maxRecDepth 100000 in
set_option maxHeartbeats 4000000 in
theorem z9_44 (E : zE) (h0 p1 p2 h3 p4 p5 qp qm qs l1 l2 l3 l4 l5 l6 l7 l8 l9 l10 l11 l12 l13 l14 l15 : Nat) (ab bb a b a2 b2 c2 : Nat → Nat) : z9P E h0 p1 p2 h3 p4 p5 qp qm qs l1 l2 l3 l4 l5 l6 l7 l8 l9 l10 l11 l12 l13 l14 l15 ab bb a b a2 b2 c2 44 := ⟨_, rfl, fun _ _ _ h => h⟩
set_option maxRecDepth 100000 in
set_option maxHeartbeats 4000000 in
theorem z9_45 (E : zE) (h0 p1 p2 h3 p4 p5 qp qm qs l1 l2 l3 l4 l5 l6 l7 l8 l9 l10 l11 l12 l13 l14 l15 : Nat) (ab bb a b a2 b2 c2 : Nat → Nat) : z9P E h0 p1 p2 h3 p4 p5 qp qm qs l1 l2 l3 l4 l5 l6 l7 l8 l9 l10 l11 l12 l13 l14 l15 ab bb a b a2 b2 c2 45 := ⟨_, rfl, fun _ _ _ h => h⟩
set_option maxRecDepth 100000 in
set_option maxHeartbeats 4000000 in
theorem z9_46 (E : zE) (h0 p1 p2 h3 p4 p5 qp qm qs l1 l2 l3 l4 l5 l6 l7 l8 l9 l10 l11 l12 l13 l14 l15 : Nat) (ab bb a b a2 b2 c2 : Nat → Nat) : z9P E h0 p1 p2 h3 p4 p5 qp qm qs l1 l2 l3 l4 l5 l6 l7 l8 l9 l10 l11 l12 l13 l14 l15 ab bb a b a2 b2 c2 46 := ⟨_, rfl, fun _ _ _ h => h⟩
set_option maxRecDepth 100000 in
set_option maxHeartbeats 4000000 in
theorem z9_47 (E : zE) (h0 p1 p2 h3 p4 p5 qp qm qs l1 l2 l3 l4 l5 l6 l7 l8 l9 l10 l11 l12 l13 l14 l15 : Nat) (ab bb a b a2 b2 c2 : Nat → Nat) : z9P E h0 p1 p2 h3 p4 p5 qp qm qs l1 l2 l3 l4 l5 l6 l7 l8 l9 l10 l11 l12 l13 l14 l15 ab bb a b a2 b2 c2 47 := ⟨_, rfl, fun _ _ _ h => h⟩
set_option maxRecDepth 100000 in
set_option maxHeartbeats 4000000 in
theorem z9_48 (E : zE) (h0 p1 p2 h3 p4 p5 qp qm qs l1 l2 l3 l4 l5 l6 l7 l8 l9 l10 l11 l12 l13 l14 l15 : Nat) (ab bb a b a2 b2 c2 : Nat → Nat) : z9P E h0 p1 p2 h3 p4 p5 qp qm qs l1 l2 l3 l4 l5 l6 l7 l8 l9 l10 l11 l12 l13 l14 l15 ab bb a b a2 b2 c2 48 := ⟨_, rfl, fun _ _ _ h => h⟩
set_option maxRecDepth 100000 in
set_option maxHeartbeats 4000000 in
theorem z9_49 (E : zE) (h0 p1 p2 h3 p4 p5 qp qm qs l1 l2 l3 l4 l5 l6 l7 l8 l9 l10 l11 l12 l13 l14 l15 : Nat) (ab bb a b a2 b2 c2 : Nat → Nat) : z9P E h0 p1 p2 h3 p4 p5 qp qm qs l1 l2 l3 l4 l5 l6 l7 l8 l9 l10 l11 l12 l13 l14 l15 ab bb a b a2 b2 c2 49 := ⟨_, rfl, fun _ _ _ h => h⟩
set_option maxRecDepth 100000 in
set_option maxHeartbeats 4000000 in
theorem z9_50 (E : zE) (h0 p1 p2 h3 p4 p5 qp qm qs l1 l2 l3 l4 l5 l6 l7 l8 l9 l10 l11 l12 l13 l14 l15 : Nat) (ab bb a b a2 b2 c2 : Nat → Nat) : z9P E h0 p1 p2 h3 p4 p5 qp qm qs l1 l2 l3 l4 l5 l6 l7 l8 l9 l10 l11 l12 l13 l14 l15 ab bb a b a2 b2 c2 50 := ⟨_, rfl, fun _ _ _ h => h⟩
set_option maxRecDepth 100000 in
set_option maxHeartbeats 4000000 in
theorem z9_51 (E : zE) (h0 p1 p2 h3 p4 p5 qp qm qs l1 l2 l3 l4 l5 l6 l7 l8 l9 l10 l11 l12 l13 l14 l15 : Nat) (ab bb a b a2 b2 c2 : Nat → Nat) : z9P E h0 p1 p2 h3 p4 p5 qp qm qs l1 l2 l3 l4 l5 l6 l7 l8 l9 l10 l11 l12 l13 l14 l15 ab bb a b a2 b2 c2 51 := ⟨_, rfl, fun _ _ _ h => h⟩
set_option maxRecDepth 100000 in
set_option maxHeartbeats 4000000 in
theorem z9_52 (E : zE) (h0 p1 p2 h3 p4 p5 qp qm qs l1 l2 l3 l4 l5 l6 l7 l8 l9 l10 l11 l12 l13 l14 l15 : Nat) (ab bb a b a2 b2 c2 : Nat → Nat) : z9P E h0 p1 p2 h3 p4 p5 qp qm qs l1 l2 l3 l4 l5 l6 l7 l8 l9 l10 l11 l12 l13 l14 l15 ab bb a b a2 b2 c2 52 := ⟨_, rfl, fun _ _ _ h => h⟩
set_option maxRecDepth 100000 in
set_option maxHeartbeats 4000000 in
theorem z9_53 (E : zE) (h0 p1 p2 h3 p4 p5 qp qm qs l1 l2 l3 l4 l5 l6 l7 l8 l9 l10 l11 l12 l13 l14 l15 : Nat) (ab bb a b a2 b2 c2 : Nat → Nat) : z9P E h0 p1 p2 h3 p4 p5 qp qm qs l1 l2 l3 l4 l5 l6 l7 l8 l9 l10 l11 l12 l13 l14 l15 ab bb a b a2 b2 c2 53 := ⟨_, rfl, fun _ _ _ h => h⟩
set_option maxRecDepth 100000 in
set_option maxHeartbeats 4000000 in
theorem z9_54 (E : zE) (h0 p1 p2 h3 p4 p5 qp qm qs l1 l2 l3 l4 l5 l6 l7 l8 l9 l10 l11 l12 l13 l14 l15 : Nat) (ab bb a b a2 b2 c2 : Nat → Nat) : z9P E h0 p1 p2 h3 p4 p5 qp qm qs l1 l2 l3 l4 l5 l6 l7 l8 l9 l10 l11 l12 l13 l14 l15 ab bb a b a2 b2 c2 54 := ⟨_, rfl, fun _ _ _ h => h⟩
set_option maxRecDepth 100000 in
set_option maxHeartbeats 4000000 in
theorem z9_55 (E : zE) (h0 p1 p2 h3 p4 p5 qp qm qs l1 l2 l3 l4 l5 l6 l7 l8 l9 l10 l11 l12 l13 l14 l15 : Nat) (ab bb a b a2 b2 c2 : Nat → Nat) : z9P E h0 p1 p2 h3 p4 p5 qp qm qs l1 l2 l3 l4 l5 l6 l7 l8 l9 l10 l11 l12 l13 l14 l15 ab bb a b a2 b2 c2 55 := ⟨_, rfl, fun _ _ _ h => h⟩
set_option maxRecDepth 100000 in
set_option maxHeartbeats 4000000 in
theorem z9_56 (E : zE) (h0 p1 p2 h3 p4 p5 qp qm qs l1 l2 l3 l4 l5 l6 l7 l8 l9 l10 l11 l12 l13 l14 l15 : Nat) (ab bb a b a2 b2 c2 : Nat → Nat) : z9P E h0 p1 p2 h3 p4 p5 qp qm qs l1 l2 l3 l4 l5 l6 l7 l8 l9 l10 l11 l12 l13 l14 l15 ab bb a b a2 b2 c2 56 := ⟨_, rfl, fun _ _ _ h => h⟩
set_option maxRecDepth 100000 in
set_option maxHeartbeats 4000000 in
theorem z9_57 (E : zE) (h0 p1 p2 h3 p4 p5 qp qm qs l1 l2 l3 l4 l5 l6 l7 l8 l9 l10 l11 l12 l13 l14 l15 : Nat) (ab bb a b a2 b2 c2 : Nat → Nat) : z9P E h0 p1 p2 h3 p4 p5 qp qm qs l1 l2 l3 l4 l5 l6 l7 l8 l9 l10 l11 l12 l13 l14 l15 ab bb a b a2 b2 c2 57 := ⟨_, rfl, fun _ _ _ h => h⟩
set_option maxRecDepth 100000 in
set_option maxHeartbeats 4000000 in
theorem z9_58 (E : zE) (h0 p1 p2 h3 p4 p5 qp qm qs l1 l2 l3 l4 l5 l6 l7 l8 l9 l10 l11 l12 l13 l14 l15 : Nat) (ab bb a b a2 b2 c2 : Nat → Nat) : z9P E h0 p1 p2 h3 p4 p5 qp qm qs l1 l2 l3 l4 l5 l6 l7 l8 l9 l10 l11 l12 l13 l14 l15 ab bb a b a2 b2 c2 58 := ⟨_, rfl, fun _ _ _ h => h⟩
set_option maxRecDepth 100000 in
set_option maxHeartbeats 4000000 in
theorem z9_59 (E : zE) (h0 p1 p2 h3 p4 p5 qp qm qs l1 l2 l3 l4 l5 l6 l7 l8 l9 l10 l11 l12 l13 l14 l15 : Nat) (ab bb a b a2 b2 c2 : Nat → Nat) : z9P E h0 p1 p2 h3 p4 p5 qp qm qs l1 l2 l3 l4 l5 l6 l7 l8 l9 l10 l11 l12 l13 l14 l15 ab bb a b a2 b2 c2 59 := ⟨_, rfl, fun _ _ _ h => h⟩
set_option maxRecDepth 100000 in
set_option maxHeartbeats 4000000 in
theorem z9_60 (E : zE) (h0 p1 p2 h3 p4 p5 qp qm qs l1 l2 l3 l4 l5 l6 l7 l8 l9 l10 l11 l12 l13 l14 l15 : Nat) (ab bb a b a2 b2 c2 : Nat → Nat) : z9P E h0 p1 p2 h3 p4 p5 qp qm qs l1 l2 l3 l4 l5 l6 l7 l8 l9 l10 l11 l12 l13 l14 l15 ab bb a b a2 b2 c2 60 := ⟨_, rfl, fun _ _ _ h => h⟩
set_option maxRecDepth 100000 in
set_option maxHeartbeats 4000000 in
theorem z9_61 (E : zE) (h0 p1 p2 h3 p4 p5 qp qm qs l1 l2 l3 l4 l5 l6 l7 l8 l9 l10 l11 l12 l13 l14 l15 : Nat) (ab bb a b a2 b2 c2 : Nat → Nat) : z9P E h0 p1 p2 h3 p4 p5 qp qm qs l1 l2 l3 l4 l5 l6 l7 l8 l9 l10 l11 l12 l13 l14 l15 ab bb a b a2 b2 c2 61 := ⟨_, rfl, fun _ _ _ h => h⟩
set_option maxRecDepth 100000 in
set_option maxHeartbeats 4000000 in
theorem z9_62 (E : zE) (h0 p1 p2 h3 p4 p5 qp qm qs l1 l2 l3 l4 l5 l6 l7 l8 l9 l10 l11 l12 l13 l14 l15 : Nat) (ab bb a b a2 b2 c2 : Nat → Nat) : z9P E h0 p1 p2 h3 p4 p5 qp qm qs l1 l2 l3 l4 l5 l6 l7 l8 l9 l10 l11 l12 l13 l14 l15 ab bb a b a2 b2 c2 62 := ⟨_, rfl, fun _ _ _ h => h⟩
set_option maxRecDepth 100000 in
set_option maxHeartbeats 4000000 in
theorem z9_63 (E : zE) (h0 p1 p2 h3 p4 p5 qp qm qs l1 l2 l3 l4 l5 l6 l7 l8 l9 l10 l11 l12 l13 l14 l15 : Nat) (ab bb a b a2 b2 c2 : Nat → Nat) : z9P E h0 p1 p2 h3 p4 p5 qp qm qs l1 l2 l3 l4 l5 l6 l7 l8 l9 l10 l11 l12 l13 l14 l15 ab bb a b a2 b2 c2 63 := ⟨_, rfl, fun _ _ _ h => h⟩
set_option maxRecDepth 100000 in
set_option maxHeartbeats 4000000 in
theorem z9_64 (E : zE) (h0 p1 p2 h3 p4 p5 qp qm qs l1 l2 l3 l4 l5 l6 l7 l8 l9 l10 l11 l12 l13 l14 l15 : Nat) (ab bb a b a2 b2 c2 : Nat → Nat) : z9P E h0 p1 p2 h3 p4 p5 qp qm qs l1 l2 l3 l4 l5 l6 l7 l8 l9 l10 l11 l12 l13 l14 l15 ab bb a b a2 b2 c2 64 := ⟨_, rfl, fun _ _ _ h => h⟩
set_option maxRecDepth 100000 in
set_option maxHeartbeats 4000000 in
theorem z9_65 (E : zE) (h0 p1 p2 h3 p4 p5 qp qm qs l1 l2 l3 l4 l5 l6 l7 l8 l9 l10 l11 l12 l13 l14 l15 : Nat) (ab bb a b a2 b2 c2 : Nat → Nat) : z9P E h0 p1 p2 h3 p4 p5 qp qm qs l1 l2 l3 l4 l5 l6 l7 l8 l9 l10 l11 l12 l13 l14 l15 ab bb a b a2 b2 c2 65 := ⟨_, rfl, fun _ _ _ h => h⟩
set_option maxRecDepth 100000 in
set_option maxHeartbeats 4000000 in
theorem z9_66 (E : zE) (h0 p1 p2 h3 p4 p5 qp qm qs l1 l2 l3 l4 l5 l6 l7 l8 l9 l10 l11 l12 l13 l14 l15 : Nat) (ab bb a b a2 b2 c2 : Nat → Nat) : z9P E h0 p1 p2 h3 p4 p5 qp qm qs l1 l2 l3 l4 l5 l6 l7 l8 l9 l10 l11 l12 l13 l14 l15 ab bb a b a2 b2 c2 66 := ⟨_, rfl, fun _ _ _ h => h⟩
set_option maxRecDepth 100000 in
set_option maxHeartbeats 4000000 in
theorem z9_67 (E : zE) (h0 p1 p2 h3 p4 p5 qp qm qs l1 l2 l3 l4 l5 l6 l7 l8 l9 l10 l11 l12 l13 l14 l15 : Nat) (ab bb a b a2 b2 c2 : Nat → Nat) : z9P E h0 p1 p2 h3 p4 p5 qp qm qs l1 l2 l3 l4 l5 l6 l7 l8 l9 l10 l11 l12 l13 l14 l15 ab bb a b a2 b2 c2 67 := ⟨_, rfl, fun _ _ _ h => h⟩
set_option maxRecDepth 100000 in
set_option maxHeartbeats 4000000 in
theorem z9_68 (E : zE) (h0 p1 p2 h3 p4 p5 qp qm qs l1 l2 l3 l4 l5 l6 l7 l8 l9 l10 l11 l12 l13 l14 l15 : Nat) (ab bb a b a2 b2 c2 : Nat → Nat) : z9P E h0 p1 p2 h3 p4 p5 qp qm qs l1 l2 l3 l4 l5 l6 l7 l8 l9 l10 l11 l12 l13 l14 l15 ab bb a b a2 b2 c2 68 := ⟨_, rfl, fun _ _ _ h => h⟩
set_option maxRecDepth 100000 in
set_option maxHeartbeats 4000000 in
theorem z9_69 (E : zE) (h0 p1 p2 h3 p4 p5 qp qm qs l1 l2 l3 l4 l5 l6 l7 l8 l9 l10 l11 l12 l13 l14 l15 : Nat) (ab bb a b a2 b2 c2 : Nat → Nat) : z9P E h0 p1 p2 h3 p4 p5 qp qm qs l1 l2 l3 l4 l5 l6 l7 l8 l9 l10 l11 l12 l13 l14 l15 ab bb a b a2 b2 c2 69 := ⟨_, rfl, fun _ _ _ h => h⟩
set_option maxRecDepth 100000 in
set_option maxHeartbeats 4000000 in
theorem z9_70 (E : zE) (h0 p1 p2 h3 p4 p5 qp qm qs l1 l2 l3 l4 l5 l6 l7 l8 l9 l10 l11 l12 l13 l14 l15 : Nat) (ab bb a b a2 b2 c2 : Nat → Nat) : z9P E h0 p1 p2 h3 p4 p5 qp qm qs l1 l2 l3 l4 l5 l6 l7 l8 l9 l10 l11 l12 l13 l14 l15 ab bb a b a2 b2 c2 70 := ⟨_, rfl, fun _ _ _ h => h⟩
set_option maxRecDepth 100000 in
set_option maxHeartbeats 4000000 in
theorem z9_71 (E : zE) (h0 p1 p2 h3 p4 p5 qp qm qs l1 l2 l3 l4 l5 l6 l7 l8 l9 l10 l11 l12 l13 l14 l15 : Nat) (ab bb a b a2 b2 c2 : Nat → Nat) : z9P E h0 p1 p2 h3 p4 p5 qp qm qs l1 l2 l3 l4 l5 l6 l7 l8 l9 l10 l11 l12 l13 l14 l15 ab bb a b a2 b2 c2 71 := ⟨_, rfl, fun _ _ _ h => h⟩
set_option maxRecDepth 100000 in
set_option maxHeartbeats 4000000 in
theorem z9_72 (E : zE) (h0 p1 p2 h3 p4 p5 qp qm qs l1 l2 l3 l4 l5 l6 l7 l8 l9 l10 l11 l12 l13 l14 l15 : Nat) (ab bb a b a2 b2 c2 : Nat → Nat) : z9P E h0 p1 p2 h3 p4 p5 qp qm qs l1 l2 l3 l4 l5 l6 l7 l8 l9 l10 l11 l12 l13 l14 l15 ab bb a b a2 b2 c2 72 := ⟨_, rfl, fun _ _ _ h => h⟩
set_option maxRecDepth 100000 in
set_option maxHeartbeats 4000000 in
theorem z9_73 (E : zE) (h0 p1 p2 h3 p4 p5 qp qm qs l1 l2 l3 l4 l5 l6 l7 l8 l9 l10 l11 l12 l13 l14 l15 : Nat) (ab bb a b a2 b2 c2 : Nat → Nat) : z9P E h0 p1 p2 h3 p4 p5 qp qm qs l1 l2 l3 l4 l5 l6 l7 l8 l9 l10 l11 l12 l13 l14 l15 ab bb a b a2 b2 c2 73 := ⟨_, rfl, fun _ _ _ h => h⟩
set_option maxRecDepth 100000 in
set_option maxHeartbeats 4000000 in
theorem z9_74 (E : zE) (h0 p1 p2 h3 p4 p5 qp qm qs l1 l2 l3 l4 l5 l6 l7 l8 l9 l10 l11 l12 l13 l14 l15 : Nat) (ab bb a b a2 b2 c2 : Nat → Nat) : z9P E h0 p1 p2 h3 p4 p5 qp qm qs l1 l2 l3 l4 l5 l6 l7 l8 l9 l10 l11 l12 l13 l14 l15 ab bb a b a2 b2 c2 74 := ⟨_, rfl, fun _ _ _ h => h⟩
set_option maxRecDepth 100000 in
set_option maxHeartbeats 4000000 in
theorem z9_75 (E : zE) (h0 p1 p2 h3 p4 p5 qp qm qs l1 l2 l3 l4 l5 l6 l7 l8 l9 l10 l11 l12 l13 l14 l15 : Nat) (ab bb a b a2 b2 c2 : Nat → Nat) : z9P E h0 p1 p2 h3 p4 p5 qp qm qs l1 l2 l3 l4 l5 l6 l7 l8 l9 l10 l11 l12 l13 l14 l15 ab bb a b a2 b2 c2 75 := ⟨_, rfl, fun _ _ _ h => h⟩
set_option maxRecDepth 100000 in
set_option maxHeartbeats 4000000 in
theorem z9_76 (E : zE) (h0 p1 p2 h3 p4 p5 qp qm qs l1 l2 l3 l4 l5 l6 l7 l8 l9 l10 l11 l12 l13 l14 l15 : Nat) (ab bb a b a2 b2 c2 : Nat → Nat) : z9P E h0 p1 p2 h3 p4 p5 qp qm qs l1 l2 l3 l4 l5 l6 l7 l8 l9 l10 l11 l12 l13 l14 l15 ab bb a b a2 b2 c2 76 := ⟨_, rfl, fun _ _ _ h => h⟩
set_option maxRecDepth 100000 in
set_option maxHeartbeats 4000000 in
theorem z9_77 (E : zE) (h0 p1 p2 h3 p4 p5 qp qm qs l1 l2 l3 l4 l5 l6 l7 l8 l9 l10 l11 l12 l13 l14 l15 : Nat) (ab bb a b a2 b2 c2 : Nat → Nat) : z9P E h0 p1 p2 h3 p4 p5 qp qm qs l1 l2 l3 l4 l5 l6 l7 l8 l9 l10 l11 l12 l13 l14 l15 ab bb a b a2 b2 c2 77 := ⟨_, rfl, fun _ _ _ h => h⟩
set_option maxRecDepth 100000 in
set_option maxHeartbeats 4000000 in
theorem z9_78 (E : zE) (h0 p1 p2 h3 p4 p5 qp qm qs l1 l2 l3 l4 l5 l6 l7 l8 l9 l10 l11 l12 l13 l14 l15 : Nat) (ab bb a b a2 b2 c2 : Nat → Nat) : z9P E h0 p1 p2 h3 p4 p5 qp qm qs l1 l2 l3 l4 l5 l6 l7 l8 l9 l10 l11 l12 l13 l14 l15 ab bb a b a2 b2 c2 78 := ⟨_, rfl, fun _ _ _ h => h⟩
set_option maxRecDepth 100000 in
set_option maxHeartbeats 4000000 in
theorem z9_79 (E : zE) (h0 p1 p2 h3 p4 p5 qp qm qs l1 l2 l3 l4 l5 l6 l7 l8 l9 l10 l11 l12 l13 l14 l15 : Nat) (ab bb a b a2 b2 c2 : Nat → Nat) : z9P E h0 p1 p2 h3 p4 p5 qp qm qs l1 l2 l3 l4 l5 l6 l7 l8 l9 l10 l11 l12 l13 l14 l15 ab bb a b a2 b2 c2 79 := ⟨_, rfl, fun _ _ _ h => h⟩
set_option maxRecDepth 100000 in
set_option maxHeartbeats 4000000 in
theorem z9_80 (E : zE) (h0 p1 p2 h3 p4 p5 qp qm qs l1 l2 l3 l4 l5 l6 l7 l8 l9 l10 l11 l12 l13 l14 l15 : Nat) (ab bb a b a2 b2 c2 : Nat → Nat) : z9P E h0 p1 p2 h3 p4 p5 qp qm qs l1 l2 l3 l4 l5 l6 l7 l8 l9 l10 l11 l12 l13 l14 l15 ab bb a b a2 b2 c2 80 := ⟨_, rfl, fun _ _ _ h => h⟩
set_option maxRecDepth 100000 in
set_option maxHeartbeats 4000000 in
theorem z9_81 (E : zE) (h0 p1 p2 h3 p4 p5 qp qm qs l1 l2 l3 l4 l5 l6 l7 l8 l9 l10 l11 l12 l13 l14 l15 : Nat) (ab bb a b a2 b2 c2 : Nat → Nat) : z9P E h0 p1 p2 h3 p4 p5 qp qm qs l1 l2 l3 l4 l5 l6 l7 l8 l9 l10 l11 l12 l13 l14 l15 ab bb a b a2 b2 c2 81 := ⟨_, rfl, fun _ _ _ h => h⟩
set_option maxRecDepth 100000 in
set_option maxHeartbeats 4000000 in
theorem z9_82 (E : zE) (h0 p1 p2 h3 p4 p5 qp qm qs l1 l2 l3 l4 l5 l6 l7 l8 l9 l10 l11 l12 l13 l14 l15 : Nat) (ab bb a b a2 b2 c2 : Nat → Nat) : z9P E h0 p1 p2 h3 p4 p5 qp qm qs l1 l2 l3 l4 l5 l6 l7 l8 l9 l10 l11 l12 l13 l14 l15 ab bb a b a2 b2 c2 82 := ⟨_, rfl, fun _ _ _ h => h⟩
set_option maxRecDepth 100000 in
set_option maxHeartbeats 4000000 in
theorem z9_83 (E : zE) (h0 p1 p2 h3 p4 p5 qp qm qs l1 l2 l3 l4 l5 l6 l7 l8 l9 l10 l11 l12 l13 l14 l15 : Nat) (ab bb a b a2 b2 c2 : Nat → Nat) : z9P E h0 p1 p2 h3 p4 p5 qp qm qs l1 l2 l3 l4 l5 l6 l7 l8 l9 l10 l11 l12 l13 l14 l15 ab bb a b a2 b2 c2 83 := ⟨_, rfl, fun _ _ _ h => h⟩
set_option maxRecDepth 100000 in
set_option maxHeartbeats 4000000 in
theorem z9_84 (E : zE) (h0 p1 p2 h3 p4 p5 qp qm qs l1 l2 l3 l4 l5 l6 l7 l8 l9 l10 l11 l12 l13 l14 l15 : Nat) (ab bb a b a2 b2 c2 : Nat → Nat) : z9P E h0 p1 p2 h3 p4 p5 qp qm qs l1 l2 l3 l4 l5 l6 l7 l8 l9 l10 l11 l12 l13 l14 l15 ab bb a b a2 b2 c2 84 := ⟨_, rfl, fun _ _ _ h => h⟩
set_option maxRecDepth 100000 in
set_option maxHeartbeats 4000000 in
theorem z9_85 (E : zE) (h0 p1 p2 h3 p4 p5 qp qm qs l1 l2 l3 l4 l5 l6 l7 l8 l9 l10 l11 l12 l13 l14 l15 : Nat) (ab bb a b a2 b2 c2 : Nat → Nat) : z9P E h0 p1 p2 h3 p4 p5 qp qm qs l1 l2 l3 l4 l5 l6 l7 l8 l9 l10 l11 l12 l13 l14 l15 ab bb a b a2 b2 c2 85 := ⟨_, rfl, fun _ _ _ h => h⟩
set_option maxRecDepth 100000 in
set_option maxHeartbeats 4000000 in
theorem z9_86 (E : zE) (h0 p1 p2 h3 p4 p5 qp qm qs l1 l2 l3 l4 l5 l6 l7 l8 l9 l10 l11 l12 l13 l14 l15 : Nat) (ab bb a b a2 b2 c2 : Nat → Nat) : z9P E h0 p1 p2 h3 p4 p5 qp qm qs l1 l2 l3 l4 l5 l6 l7 l8 l9 l10 l11 l12 l13 l14 l15 ab bb a b a2 b2 c2 86 := ⟨_, rfl, fun _ _ _ h => h⟩
set_option maxRecDepth 100000 in
set_option maxHeartbeats 4000000 in
theorem z9_87 (E : zE) (h0 p1 p2 h3 p4 p5 qp qm qs l1 l2 l3 l4 l5 l6 l7 l8 l9 l10 l11 l12 l13 l14 l15 : Nat) (ab bb a b a2 b2 c2 : Nat → Nat) : z9P E h0 p1 p2 h3 p4 p5 qp qm qs l1 l2 l3 l4 l5 l6 l7 l8 l9 l10 l11 l12 l13 l14 l15 ab bb a b a2 b2 c2 87 := ⟨_, rfl, fun _ _ _ h => h⟩
set_option maxRecDepth 100000 in
set_option maxHeartbeats 4000000 in
theorem z9_88 (E : zE) (h0 p1 p2 h3 p4 p5 qp qm qs l1 l2 l3 l4 l5 l6 l7 l8 l9 l10 l11 l12 l13 l14 l15 : Nat) (ab bb a b a2 b2 c2 : Nat → Nat) : z9P E h0 p1 p2 h3 p4 p5 qp qm qs l1 l2 l3 l4 l5 l6 l7 l8 l9 l10 l11 l12 l13 l14 l15 ab bb a b a2 b2 c2 88 := ⟨_, rfl, fun _ _ _ h => h⟩
set_option maxRecDepth 100000 in
set_option maxHeartbeats 4000000 in
theorem z9_89 (E : zE) (h0 p1 p2 h3 p4 p5 qp qm qs l1 l2 l3 l4 l5 l6 l7 l8 l9 l10 l11 l12 l13 l14 l15 : Nat) (ab bb a b a2 b2 c2 : Nat → Nat) : z9P E h0 p1 p2 h3 p4 p5 qp qm qs l1 l2 l3 l4 l5 l6 l7 l8 l9 l10 l11 l12 l13 l14 l15 ab bb a b a2 b2 c2 89 := ⟨_, rfl, fun _ _ _ h => h⟩
set_option maxRecDepth 100000 in
set_option maxHeartbeats 4000000 in
theorem z9_90 (E : zE) (h0 p1 p2 h3 p4 p5 qp qm qs l1 l2 l3 l4 l5 l6 l7 l8 l9 l10 l11 l12 l13 l14 l15 : Nat) (ab bb a b a2 b2 c2 : Nat → Nat) : z9P E h0 p1 p2 h3 p4 p5 qp qm qs l1 l2 l3 l4 l5 l6 l7 l8 l9 l10 l11 l12 l13 l14 l15 ab bb a b a2 b2 c2 90 := ⟨_, rfl, fun _ _ _ h => h⟩
set_option maxRecDepth 100000 in
set_option maxHeartbeats 4000000 in
theorem z9_91 (E : zE) (h0 p1 p2 h3 p4 p5 qp qm qs l1 l2 l3 l4 l5 l6 l7 l8 l9 l10 l11 l12 l13 l14 l15 : Nat) (ab bb a b a2 b2 c2 : Nat → Nat) : z9P E h0 p1 p2 h3 p4 p5 qp qm qs l1 l2 l3 l4 l5 l6 l7 l8 l9 l10 l11 l12 l13 l14 l15 ab bb a b a2 b2 c2 91 := ⟨_, rfl, fun _ _ _ h => h⟩
set_option maxRecDepth 100000 in
set_option maxHeartbeats 4000000 in
theorem z9_92 (E : zE) (h0 p1 p2 h3 p4 p5 qp qm qs l1 l2 l3 l4 l5 l6 l7 l8 l9 l10 l11 l12 l13 l14 l15 : Nat) (ab bb a b a2 b2 c2 : Nat → Nat) : z9P E h0 p1 p2 h3 p4 p5 qp qm qs l1 l2 l3 l4 l5 l6 l7 l8 l9 l10 l11 l12 l13 l14 l15 ab bb a b a2 b2 c2 92 := ⟨_, rfl, fun _ _ _ h => h⟩
set_option maxRecDepth 100000 in
set_option maxHeartbeats 4000000 in
theorem z9_93 (E : zE) (h0 p1 p2 h3 p4 p5 qp qm qs l1 l2 l3 l4 l5 l6 l7 l8 l9 l10 l11 l12 l13 l14 l15 : Nat) (ab bb a b a2 b2 c2 : Nat → Nat) : z9P E h0 p1 p2 h3 p4 p5 qp qm qs l1 l2 l3 l4 l5 l6 l7 l8 l9 l10 l11 l12 l13 l14 l15 ab bb a b a2 b2 c2 93 := ⟨_, rfl, fun _ _ _ h => h⟩
set_option maxRecDepth 100000 in
set_option maxHeartbeats 4000000 in
theorem z9_94 (E : zE) (h0 p1 p2 h3 p4 p5 qp qm qs l1 l2 l3 l4 l5 l6 l7 l8 l9 l10 l11 l12 l13 l14 l15 : Nat) (ab bb a b a2 b2 c2 : Nat → Nat) : z9P E h0 p1 p2 h3 p4 p5 qp qm qs l1 l2 l3 l4 l5 l6 l7 l8 l9 l10 l11 l12 l13 l14 l15 ab bb a b a2 b2 c2 94 := ⟨_, rfl, fun _ _ _ h => h⟩
set_option maxRecDepth 100000 in
set_option maxHeartbeats 4000000 in
theorem z9_95 (E : zE) (h0 p1 p2 h3 p4 p5 qp qm qs l1 l2 l3 l4 l5 l6 l7 l8 l9 l10 l11 l12 l13 l14 l15 : Nat) (ab bb a b a2 b2 c2 : Nat → Nat) : z9P E h0 p1 p2 h3 p4 p5 qp qm qs l1 l2 l3 l4 l5 l6 l7 l8 l9 l10 l11 l12 l13 l14 l15 ab bb a b a2 b2 c2 95 := ⟨_, rfl, fun _ _ _ h => h⟩
set_option maxRecDepth 100000 in
set_option maxHeartbeats 4000000 in
theorem z9_96 (E : zE) (h0 p1 p2 h3 p4 p5 qp qm qs l1 l2 l3 l4 l5 l6 l7 l8 l9 l10 l11 l12 l13 l14 l15 : Nat) (ab bb a b a2 b2 c2 : Nat → Nat) : z9P E h0 p1 p2 h3 p4 p5 qp qm qs l1 l2 l3 l4 l5 l6 l7 l8 l9 l10 l11 l12 l13 l14 l15 ab bb a b a2 b2 c2 96 := ⟨_, rfl, fun _ _ _ h => h⟩
set_option maxRecDepth 100000 in
set_option maxHeartbeats 4000000 in
theorem z9_97 (E : zE) (h0 p1 p2 h3 p4 p5 qp qm qs l1 l2 l3 l4 l5 l6 l7 l8 l9 l10 l11 l12 l13 l14 l15 : Nat) (ab bb a b a2 b2 c2 : Nat → Nat) : z9P E h0 p1 p2 h3 p4 p5 qp qm qs l1 l2 l3 l4 l5 l6 l7 l8 l9 l10 l11 l12 l13 l14 l15 ab bb a b a2 b2 c2 97 := ⟨_, rfl, fun _ _ _ h => h⟩
set_option maxRecDepth 100000 in
set_option maxHeartbeats 4000000 in
theorem z9_98 (E : zE) (h0 p1 p2 h3 p4 p5 qp qm qs l1 l2 l3 l4 l5 l6 l7 l8 l9 l10 l11 l12 l13 l14 l15 : Nat) (ab bb a b a2 b2 c2 : Nat → Nat) : z9P E h0 p1 p2 h3 p4 p5 qp qm qs l1 l2 l3 l4 l5 l6 l7 l8 l9 l10 l11 l12 l13 l14 l15 ab bb a b a2 b2 c2 98 := ⟨_, rfl, fun _ _ _ h => h⟩
set_option maxRecDepth 100000 in
set_option maxHeartbeats 4000000 in
theorem z9_99 (E : zE) (h0 p1 p2 h3 p4 p5 qp qm qs l1 l2 l3 l4 l5 l6 l7 l8 l9 l10 l11 l12 l13 l14 l15 : Nat) (ab bb a b a2 b2 c2 : Nat → Nat) : z9P E h0 p1 p2 h3 p4 p5 qp qm qs l1 l2 l3 l4 l5 l6 l7 l8 l9 l10 l11 l12 l13 l14 l15 ab bb a b a2 b2 c2 99 := ⟨_, rfl, fun _ _ _ h => h⟩
set_option maxRecDepth 100000 in
set_option maxHeartbeats 4000000 in
theorem z9_100 (E : zE) (h0 p1 p2 h3 p4 p5 qp qm qs l1 l2 l3 l4 l5 l6 l7 l8 l9 l10 l11 l12 l13 l14 l15 : Nat) (ab bb a b a2 b2 c2 : Nat → Nat) : z9P E h0 p1 p2 h3 p4 p5 qp qm qs l1 l2 l3 l4 l5 l6 l7 l8 l9 l10 l11 l12 l13 l14 l15 ab bb a b a2 b2 c2 100 := ⟨_, rfl, fun _ _ _ h => h⟩
set_option maxRecDepth 100000 in
set_option maxHeartbeats 4000000 in
theorem z9_101 (E : zE) (h0 p1 p2 h3 p4 p5 qp qm qs l1 l2 l3 l4 l5 l6 l7 l8 l9 l10 l11 l12 l13 l14 l15 : Nat) (ab bb a b a2 b2 c2 : Nat → Nat) : z9P E h0 p1 p2 h3 p4 p5 qp qm qs l1 l2 l3 l4 l5 l6 l7 l8 l9 l10 l11 l12 l13 l14 l15 ab bb a b a2 b2 c2 101 := ⟨_, rfl, fun _ _ _ h => h⟩
set_option maxRecDepth 100000 in
set_option maxHeartbeats 4000000 in
theorem z9_102 (E : zE) (h0 p1 p2 h3 p4 p5 qp qm qs l1 l2 l3 l4 l5 l6 l7 l8 l9 l10 l11 l12 l13 l14 l15 : Nat) (ab bb a b a2 b2 c2 : Nat → Nat) : z9P E h0 p1 p2 h3 p4 p5 qp qm qs l1 l2 l3 l4 l5 l6 l7 l8 l9 l10 l11 l12 l13 l14 l15 ab bb a b a2 b2 c2 102 := ⟨_, rfl, fun _ _ _ h => h⟩
set_option maxRecDepth 100000 in
set_option maxHeartbeats 4000000 in
theorem z9_103 (E : zE) (h0 p1 p2 h3 p4 p5 qp qm qs l1 l2 l3 l4 l5 l6 l7 l8 l9 l10 l11 l12 l13 l14 l15 : Nat) (ab bb a b a2 b2 c2 : Nat → Nat) : z9P E h0 p1 p2 h3 p4 p5 qp qm qs l1 l2 l3 l4 l5 l6 l7 l8 l9 l10 l11 l12 l13 l14 l15 ab bb a b a2 b2 c2 103 := ⟨_, rfl, fun _ _ _ h => h⟩
set_option maxRecDepth 100000 in
set_option maxHeartbeats 4000000 in
theorem z9_104 (E : zE) (h0 p1 p2 h3 p4 p5 qp qm qs l1 l2 l3 l4 l5 l6 l7 l8 l9 l10 l11 l12 l13 l14 l15 : Nat) (ab bb a b a2 b2 c2 : Nat → Nat) : z9P E h0 p1 p2 h3 p4 p5 qp qm qs l1 l2 l3 l4 l5 l6 l7 l8 l9 l10 l11 l12 l13 l14 l15 ab bb a b a2 b2 c2 104 := ⟨_, rfl, fun _ _ _ h => h⟩
set_option maxRecDepth 100000 in
set_option maxHeartbeats 4000000 in
theorem z9_105 (E : zE) (h0 p1 p2 h3 p4 p5 qp qm qs l1 l2 l3 l4 l5 l6 l7 l8 l9 l10 l11 l12 l13 l14 l15 : Nat) (ab bb a b a2 b2 c2 : Nat → Nat) : z9P E h0 p1 p2 h3 p4 p5 qp qm qs l1 l2 l3 l4 l5 l6 l7 l8 l9 l10 l11 l12 l13 l14 l15 ab bb a b a2 b2 c2 105 := ⟨_, rfl, fun _ _ _ h => h⟩
set_option maxRecDepth 100000 in
set_option maxHeartbeats 4000000 in
theorem z9_106 (E : zE) (h0 p1 p2 h3 p4 p5 qp qm qs l1 l2 l3 l4 l5 l6 l7 l8 l9 l10 l11 l12 l13 l14 l15 : Nat) (ab bb a b a2 b2 c2 : Nat → Nat) : z9P E h0 p1 p2 h3 p4 p5 qp qm qs l1 l2 l3 l4 l5 l6 l7 l8 l9 l10 l11 l12 l13 l14 l15 ab bb a b a2 b2 c2 106 := ⟨_, rfl, fun _ _ _ h => h⟩
set_option maxRecDepth 100000 in
set_option maxHeartbeats 4000000 in
theorem z9_107 (E : zE) (h0 p1 p2 h3 p4 p5 qp qm qs l1 l2 l3 l4 l5 l6 l7 l8 l9 l10 l11 l12 l13 l14 l15 : Nat) (ab bb a b a2 b2 c2 : Nat → Nat) : z9P E h0 p1 p2 h3 p4 p5 qp qm qs l1 l2 l3 l4 l5 l6 l7 l8 l9 l10 l11 l12 l13 l14 l15 ab bb a b a2 b2 c2 107 := ⟨_, rfl, fun _ _ _ h => h⟩
set_option maxRecDepth 100000 in
set_option maxHeartbeats 4000000 in
theorem z9_108 (E : zE) (h0 p1 p2 h3 p4 p5 qp qm qs l1 l2 l3 l4 l5 l6 l7 l8 l9 l10 l11 l12 l13 l14 l15 : Nat) (ab bb a b a2 b2 c2 : Nat → Nat) : z9P E h0 p1 p2 h3 p4 p5 qp qm qs l1 l2 l3 l4 l5 l6 l7 l8 l9 l10 l11 l12 l13 l14 l15 ab bb a b a2 b2 c2 108 := ⟨_, rfl, fun _ _ _ h => h⟩
set_option maxRecDepth 100000 in
set_option maxHeartbeats 4000000 in
theorem z9_109 (E : zE) (h0 p1 p2 h3 p4 p5 qp qm qs l1 l2 l3 l4 l5 l6 l7 l8 l9 l10 l11 l12 l13 l14 l15 : Nat) (ab bb a b a2 b2 c2 : Nat → Nat) : z9P E h0 p1 p2 h3 p4 p5 qp qm qs l1 l2 l3 l4 l5 l6 l7 l8 l9 l10 l11 l12 l13 l14 l15 ab bb a b a2 b2 c2 109 := ⟨_, rfl, fun _ _ _ h => h⟩
set_option maxRecDepth 100000 in
set_option maxHeartbeats 4000000 in
theorem z9_110 (E : zE) (h0 p1 p2 h3 p4 p5 qp qm qs l1 l2 l3 l4 l5 l6 l7 l8 l9 l10 l11 l12 l13 l14 l15 : Nat) (ab bb a b a2 b2 c2 : Nat → Nat) : z9P E h0 p1 p2 h3 p4 p5 qp qm qs l1 l2 l3 l4 l5 l6 l7 l8 l9 l10 l11 l12 l13 l14 l15 ab bb a b a2 b2 c2 110 := ⟨_, rfl, fun _ _ _ h => h⟩
set_option maxRecDepth 100000 in
set_option maxHeartbeats 4000000 in
theorem z9_111 (E : zE) (h0 p1 p2 h3 p4 p5 qp qm qs l1 l2 l3 l4 l5 l6 l7 l8 l9 l10 l11 l12 l13 l14 l15 : Nat) (ab bb a b a2 b2 c2 : Nat → Nat) : z9P E h0 p1 p2 h3 p4 p5 qp qm qs l1 l2 l3 l4 l5 l6 l7 l8 l9 l10 l11 l12 l13 l14 l15 ab bb a b a2 b2 c2 111 := ⟨_, rfl, fun _ _ _ h => h⟩
set_option maxRecDepth 100000 in
set_option maxHeartbeats 4000000 in
theorem z9_112 (E : zE) (h0 p1 p2 h3 p4 p5 qp qm qs l1 l2 l3 l4 l5 l6 l7 l8 l9 l10 l11 l12 l13 l14 l15 : Nat) (ab bb a b a2 b2 c2 : Nat → Nat) : z9P E h0 p1 p2 h3 p4 p5 qp qm qs l1 l2 l3 l4 l5 l6 l7 l8 l9 l10 l11 l12 l13 l14 l15 ab bb a b a2 b2 c2 112 := ⟨_, rfl, fun _ _ _ h => h⟩
set_option maxRecDepth 100000 in
set_option maxHeartbeats 4000000 in
theorem z9_113 (E : zE) (h0 p1 p2 h3 p4 p5 qp qm qs l1 l2 l3 l4 l5 l6 l7 l8 l9 l10 l11 l12 l13 l14 l15 : Nat) (ab bb a b a2 b2 c2 : Nat → Nat) : z9P E h0 p1 p2 h3 p4 p5 qp qm qs l1 l2 l3 l4 l5 l6 l7 l8 l9 l10 l11 l12 l13 l14 l15 ab bb a b a2 b2 c2 113 := ⟨_, rfl, fun _ _ _ h => h⟩
set_option maxRecDepth 100000 in
set_option maxHeartbeats 4000000 in
theorem z9_114 (E : zE) (h0 p1 p2 h3 p4 p5 qp qm qs l1 l2 l3 l4 l5 l6 l7 l8 l9 l10 l11 l12 l13 l14 l15 : Nat) (ab bb a b a2 b2 c2 : Nat → Nat) : z9P E h0 p1 p2 h3 p4 p5 qp qm qs l1 l2 l3 l4 l5 l6 l7 l8 l9 l10 l11 l12 l13 l14 l15 ab bb a b a2 b2 c2 114 := ⟨_, rfl, fun _ _ _ h => h⟩
set_option maxRecDepth 100000 in
set_option maxHeartbeats 4000000 in
theorem z9_115 (E : zE) (h0 p1 p2 h3 p4 p5 qp qm qs l1 l2 l3 l4 l5 l6 l7 l8 l9 l10 l11 l12 l13 l14 l15 : Nat) (ab bb a b a2 b2 c2 : Nat → Nat) : z9P E h0 p1 p2 h3 p4 p5 qp qm qs l1 l2 l3 l4 l5 l6 l7 l8 l9 l10 l11 l12 l13 l14 l15 ab bb a b a2 b2 c2 115 := ⟨_, rfl, fun _ _ _ h => h⟩
set_option maxRecDepth 100000 in
set_option maxHeartbeats 4000000 in
theorem z9_116 (E : zE) (h0 p1 p2 h3 p4 p5 qp qm qs l1 l2 l3 l4 l5 l6 l7 l8 l9 l10 l11 l12 l13 l14 l15 : Nat) (ab bb a b a2 b2 c2 : Nat → Nat) : z9P E h0 p1 p2 h3 p4 p5 qp qm qs l1 l2 l3 l4 l5 l6 l7 l8 l9 l10 l11 l12 l13 l14 l15 ab bb a b a2 b2 c2 116 := ⟨_, rfl, fun _ _ _ h => h⟩
set_option maxRecDepth 100000 in
set_option maxHeartbeats 4000000 in
theorem z9_117 (E : zE) (h0 p1 p2 h3 p4 p5 qp qm qs l1 l2 l3 l4 l5 l6 l7 l8 l9 l10 l11 l12 l13 l14 l15 : Nat) (ab bb a b a2 b2 c2 : Nat → Nat) : z9P E h0 p1 p2 h3 p4 p5 qp qm qs l1 l2 l3 l4 l5 l6 l7 l8 l9 l10 l11 l12 l13 l14 l15 ab bb a b a2 b2 c2 117 := ⟨_, rfl, fun _ _ _ h => h⟩
set_option maxRecDepth 100000 in
set_option maxHeartbeats 4000000 in
theorem z9_118 (E : zE) (h0 p1 p2 h3 p4 p5 qp qm qs l1 l2 l3 l4 l5 l6 l7 l8 l9 l10 l11 l12 l13 l14 l15 : Nat) (ab bb a b a2 b2 c2 : Nat → Nat) : z9P E h0 p1 p2 h3 p4 p5 qp qm qs l1 l2 l3 l4 l5 l6 l7 l8 l9 l10 l11 l12 l13 l14 l15 ab bb a b a2 b2 c2 118 := ⟨_, rfl, fun _ _ _ h => h⟩
set_option maxRecDepth 100000 in
set_option maxHeartbeats 4000000 in
theorem z9_119 (E : zE) (h0 p1 p2 h3 p4 p5 qp qm qs l1 l2 l3 l4 l5 l6 l7 l8 l9 l10 l11 l12 l13 l14 l15 : Nat) (ab bb a b a2 b2 c2 : Nat → Nat) : z9P E h0 p1 p2 h3 p4 p5 qp qm qs l1 l2 l3 l4 l5 l6 l7 l8 l9 l10 l11 l12 l13 l14 l15 ab bb a b a2 b2 c2 119 := ⟨_, rfl, fun _ _ _ h => h⟩
set_option maxRecDepth 100000 in
set_option maxHeartbeats 4000000 in
theorem z9_120 (E : zE) (h0 p1 p2 h3 p4 p5 qp qm qs l1 l2 l3 l4 l5 l6 l7 l8 l9 l10 l11 l12 l13 l14 l15 : Nat) (ab bb a b a2 b2 c2 : Nat → Nat) : z9P E h0 p1 p2 h3 p4 p5 qp qm qs l1 l2 l3 l4 l5 l6 l7 l8 l9 l10 l11 l12 l13 l14 l15 ab bb a b a2 b2 c2 120 := ⟨_, rfl, fun _ _ _ h => h⟩
set_option maxRecDepth 100000 in
set_option maxHeartbeats 4000000 in
theorem z9_121 (E : zE) (h0 p1 p2 h3 p4 p5 qp qm qs l1 l2 l3 l4 l5 l6 l7 l8 l9 l10 l11 l12 l13 l14 l15 : Nat) (ab bb a b a2 b2 c2 : Nat → Nat) : z9P E h0 p1 p2 h3 p4 p5 qp qm qs l1 l2 l3 l4 l5 l6 l7 l8 l9 l10 l11 l12 l13 l14 l15 ab bb a b a2 b2 c2 121 := ⟨_, rfl, fun _ _ _ h => h⟩
set_option maxRecDepth 100000 in
set_option maxHeartbeats 4000000 in
theorem z9_122 (E : zE) (h0 p1 p2 h3 p4 p5 qp qm qs l1 l2 l3 l4 l5 l6 l7 l8 l9 l10 l11 l12 l13 l14 l15 : Nat) (ab bb a b a2 b2 c2 : Nat → Nat) : z9P E h0 p1 p2 h3 p4 p5 qp qm qs l1 l2 l3 l4 l5 l6 l7 l8 l9 l10 l11 l12 l13 l14 l15 ab bb a b a2 b2 c2 122 := ⟨_, rfl, fun _ _ _ h => h⟩
set_option maxRecDepth 100000 in
set_option maxHeartbeats 4000000 in
theorem z9_123 (E : zE) (h0 p1 p2 h3 p4 p5 qp qm qs l1 l2 l3 l4 l5 l6 l7 l8 l9 l10 l11 l12 l13 l14 l15 : Nat) (ab bb a b a2 b2 c2 : Nat → Nat) : z9P E h0 p1 p2 h3 p4 p5 qp qm qs l1 l2 l3 l4 l5 l6 l7 l8 l9 l10 l11 l12 l13 l14 l15 ab bb a b a2 b2 c2 123 := ⟨_, rfl, fun _ _ _ h => h⟩
set_option maxRecDepth 100000 in
set_option maxHeartbeats 4000000 in
theorem z9_124 (E : zE) (h0 p1 p2 h3 p4 p5 qp qm qs l1 l2 l3 l4 l5 l6 l7 l8 l9 l10 l11 l12 l13 l14 l15 : Nat) (ab bb a b a2 b2 c2 : Nat → Nat) : z9P E h0 p1 p2 h3 p4 p5 qp qm qs l1 l2 l3 l4 l5 l6 l7 l8 l9 l10 l11 l12 l13 l14 l15 ab bb a b a2 b2 c2 124 := ⟨_, rfl, fun _ _ _ h => h⟩
set_option maxRecDepth 100000 in
set_option maxHeartbeats 4000000 in
theorem z9_125 (E : zE) (h0 p1 p2 h3 p4 p5 qp qm qs l1 l2 l3 l4 l5 l6 l7 l8 l9 l10 l11 l12 l13 l14 l15 : Nat) (ab bb a b a2 b2 c2 : Nat → Nat) : z9P E h0 p1 p2 h3 p4 p5 qp qm qs l1 l2 l3 l4 l5 l6 l7 l8 l9 l10 l11 l12 l13 l14 l15 ab bb a b a2 b2 c2 125 := ⟨_, rfl, fun _ _ _ h => h⟩
set_option maxRecDepth 100000 in
set_option maxHeartbeats 4000000 in
theorem z9_126 (E : zE) (h0 p1 p2 h3 p4 p5 qp qm qs l1 l2 l3 l4 l5 l6 l7 l8 l9 l10 l11 l12 l13 l14 l15 : Nat) (ab bb a b a2 b2 c2 : Nat → Nat) : z9P E h0 p1 p2 h3 p4 p5 qp qm qs l1 l2 l3 l4 l5 l6 l7 l8 l9 l10 l11 l12 l13 l14 l15 ab bb a b a2 b2 c2 126 := ⟨_, rfl, fun _ _ _ h => h⟩
set_option maxRecDepth 100000 in
set_option maxHeartbeats 4000000 in
theorem z9_127 (E : zE) (h0 p1 p2 h3 p4 p5 qp qm qs l1 l2 l3 l4 l5 l6 l7 l8 l9 l10 l11 l12 l13 l14 l15 : Nat) (ab bb a b a2 b2 c2 : Nat → Nat) : z9P E h0 p1 p2 h3 p4 p5 qp qm qs l1 l2 l3 l4 l5 l6 l7 l8 l9 l10 l11 l12 l13 l14 l15 ab bb a b a2 b2 c2 127 := ⟨_, rfl, fun _ _ _ h => h⟩
set_option maxRecDepth 100000 in
set_option maxHeartbeats 4000000 in
theorem z9_128 (E : zE) (h0 p1 p2 h3 p4 p5 qp qm qs l1 l2 l3 l4 l5 l6 l7 l8 l9 l10 l11 l12 l13 l14 l15 : Nat) (ab bb a b a2 b2 c2 : Nat → Nat) : z9P E h0 p1 p2 h3 p4 p5 qp qm qs l1 l2 l3 l4 l5 l6 l7 l8 l9 l10 l11 l12 l13 l14 l15 ab bb a b a2 b2 c2 128 := ⟨_, rfl, fun _ _ _ h => h⟩
set_option maxRecDepth 100000 in
set_option maxHeartbeats 4000000 in
theorem z9_129 (E : zE) (h0 p1 p2 h3 p4 p5 qp qm qs l1 l2 l3 l4 l5 l6 l7 l8 l9 l10 l11 l12 l13 l14 l15 : Nat) (ab bb a b a2 b2 c2 : Nat → Nat) : z9P E h0 p1 p2 h3 p4 p5 qp qm qs l1 l2 l3 l4 l5 l6 l7 l8 l9 l10 l11 l12 l13 l14 l15 ab bb a b a2 b2 c2 129 := ⟨_, rfl, fun _ _ _ h => h⟩
set_option maxRecDepth 100000 in
set_option maxHeartbeats 4000000 in
theorem z9_130 (E : zE) (h0 p1 p2 h3 p4 p5 qp qm qs l1 l2 l3 l4 l5 l6 l7 l8 l9 l10 l11 l12 l13 l14 l15 : Nat) (ab bb a b a2 b2 c2 : Nat → Nat) : z9P E h0 p1 p2 h3 p4 p5 qp qm qs l1 l2 l3 l4 l5 l6 l7 l8 l9 l10 l11 l12 l13 l14 l15 ab bb a b a2 b2 c2 130 := ⟨_, rfl, fun _ _ _ h => h⟩
set_option maxRecDepth 100000 in
set_option maxHeartbeats 4000000 in
theorem z9_131 (E : zE) (h0 p1 p2 h3 p4 p5 qp qm qs l1 l2 l3 l4 l5 l6 l7 l8 l9 l10 l11 l12 l13 l14 l15 : Nat) (ab bb a b a2 b2 c2 : Nat → Nat) : z9P E h0 p1 p2 h3 p4 p5 qp qm qs l1 l2 l3 l4 l5 l6 l7 l8 l9 l10 l11 l12 l13 l14 l15 ab bb a b a2 b2 c2 131 := ⟨_, rfl, fun _ _ _ h => h⟩
set_option maxRecDepth 100000 in
set_option maxHeartbeats 4000000 in
theorem z9_132 (E : zE) (h0 p1 p2 h3 p4 p5 qp qm qs l1 l2 l3 l4 l5 l6 l7 l8 l9 l10 l11 l12 l13 l14 l15 : Nat) (ab bb a b a2 b2 c2 : Nat → Nat) : z9P E h0 p1 p2 h3 p4 p5 qp qm qs l1 l2 l3 l4 l5 l6 l7 l8 l9 l10 l11 l12 l13 l14 l15 ab bb a b a2 b2 c2 132 := ⟨_, rfl, fun _ _ _ h => h⟩
set_option maxRecDepth 100000 in
set_option maxHeartbeats 4000000 in
theorem z9_133 (E : zE) (h0 p1 p2 h3 p4 p5 qp qm qs l1 l2 l3 l4 l5 l6 l7 l8 l9 l10 l11 l12 l13 l14 l15 : Nat) (ab bb a b a2 b2 c2 : Nat → Nat) : z9P E h0 p1 p2 h3 p4 p5 qp qm qs l1 l2 l3 l4 l5 l6 l7 l8 l9 l10 l11 l12 l13 l14 l15 ab bb a b a2 b2 c2 133 := ⟨_, rfl, fun _ _ _ h => h⟩
set_option maxRecDepth 100000 in
set_option maxHeartbeats 4000000 in
theorem z9_134 (E : zE) (h0 p1 p2 h3 p4 p5 qp qm qs l1 l2 l3 l4 l5 l6 l7 l8 l9 l10 l11 l12 l13 l14 l15 : Nat) (ab bb a b a2 b2 c2 : Nat → Nat) : z9P E h0 p1 p2 h3 p4 p5 qp qm qs l1 l2 l3 l4 l5 l6 l7 l8 l9 l10 l11 l12 l13 l14 l15 ab bb a b a2 b2 c2 134 := ⟨_, rfl, fun _ _ _ h => h⟩
set_option maxRecDepth 100000 in
set_option maxHeartbeats 4000000 in
theorem z9_135 (E : zE) (h0 p1 p2 h3 p4 p5 qp qm qs l1 l2 l3 l4 l5 l6 l7 l8 l9 l10 l11 l12 l13 l14 l15 : Nat) (ab bb a b a2 b2 c2 : Nat → Nat) : z9P E h0 p1 p2 h3 p4 p5 qp qm qs l1 l2 l3 l4 l5 l6 l7 l8 l9 l10 l11 l12 l13 l14 l15 ab bb a b a2 b2 c2 135 := ⟨_, rfl, fun _ _ _ h => h⟩
set_option maxRecDepth 100000 in
set_option maxHeartbeats 4000000 in
theorem z9_136 (E : zE) (h0 p1 p2 h3 p4 p5 qp qm qs l1 l2 l3 l4 l5 l6 l7 l8 l9 l10 l11 l12 l13 l14 l15 : Nat) (ab bb a b a2 b2 c2 : Nat → Nat) : z9P E h0 p1 p2 h3 p4 p5 qp qm qs l1 l2 l3 l4 l5 l6 l7 l8 l9 l10 l11 l12 l13 l14 l15 ab bb a b a2 b2 c2 136 := ⟨_, rfl, fun _ _ _ h => h⟩
set_option maxRecDepth 100000 in
set_option maxHeartbeats 4000000 in
theorem z9_137 (E : zE) (h0 p1 p2 h3 p4 p5 qp qm qs l1 l2 l3 l4 l5 l6 l7 l8 l9 l10 l11 l12 l13 l14 l15 : Nat) (ab bb a b a2 b2 c2 : Nat → Nat) : z9P E h0 p1 p2 h3 p4 p5 qp qm qs l1 l2 l3 l4 l5 l6 l7 l8 l9 l10 l11 l12 l13 l14 l15 ab bb a b a2 b2 c2 137 := ⟨_, rfl, fun _ _ _ h => h⟩
set_option maxRecDepth 100000 in
set_option maxHeartbeats 4000000 in
theorem z9_138 (E : zE) (h0 p1 p2 h3 p4 p5 qp qm qs l1 l2 l3 l4 l5 l6 l7 l8 l9 l10 l11 l12 l13 l14 l15 : Nat) (ab bb a b a2 b2 c2 : Nat → Nat) : z9P E h0 p1 p2 h3 p4 p5 qp qm qs l1 l2 l3 l4 l5 l6 l7 l8 l9 l10 l11 l12 l13 l14 l15 ab bb a b a2 b2 c2 138 := ⟨_, rfl, fun _ _ _ h => h⟩
set_option maxRecDepth 100000 in
set_option maxHeartbeats 4000000 in
theorem z9_139 (E : zE) (h0 p1 p2 h3 p4 p5 qp qm qs l1 l2 l3 l4 l5 l6 l7 l8 l9 l10 l11 l12 l13 l14 l15 : Nat) (ab bb a b a2 b2 c2 : Nat → Nat) : z9P E h0 p1 p2 h3 p4 p5 qp qm qs l1 l2 l3 l4 l5 l6 l7 l8 l9 l10 l11 l12 l13 l14 l15 ab bb a b a2 b2 c2 139 := ⟨_, rfl, fun _ _ _ h => h⟩
set_option maxRecDepth 100000 in
set_option maxHeartbeats 4000000 in
theorem z9_140 (E : zE) (h0 p1 p2 h3 p4 p5 qp qm qs l1 l2 l3 l4 l5 l6 l7 l8 l9 l10 l11 l12 l13 l14 l15 : Nat) (ab bb a b a2 b2 c2 : Nat → Nat) : z9P E h0 p1 p2 h3 p4 p5 qp qm qs l1 l2 l3 l4 l5 l6 l7 l8 l9 l10 l11 l12 l13 l14 l15 ab bb a b a2 b2 c2 140 := ⟨_, rfl, fun _ _ _ h => h⟩
set_option maxRecDepth 100000 in
set_option maxHeartbeats 4000000 in
theorem z9_141 (E : zE) (h0 p1 p2 h3 p4 p5 qp qm qs l1 l2 l3 l4 l5 l6 l7 l8 l9 l10 l11 l12 l13 l14 l15 : Nat) (ab bb a b a2 b2 c2 : Nat → Nat) : z9P E h0 p1 p2 h3 p4 p5 qp qm qs l1 l2 l3 l4 l5 l6 l7 l8 l9 l10 l11 l12 l13 l14 l15 ab bb a b a2 b2 c2 141 := ⟨_, rfl, fun _ _ _ h => h⟩
set_option maxRecDepth 100000 in
set_option maxHeartbeats 4000000 in
theorem z9_142 (E : zE) (h0 p1 p2 h3 p4 p5 qp qm qs l1 l2 l3 l4 l5 l6 l7 l8 l9 l10 l11 l12 l13 l14 l15 : Nat) (ab bb a b a2 b2 c2 : Nat → Nat) : z9P E h0 p1 p2 h3 p4 p5 qp qm qs l1 l2 l3 l4 l5 l6 l7 l8 l9 l10 l11 l12 l13 l14 l15 ab bb a b a2 b2 c2 142 := ⟨_, rfl, fun _ _ _ h => h⟩
set_option maxRecDepth 100000 in
set_option maxHeartbeats 4000000 in
theorem z9_143 (E : zE) (h0 p1 p2 h3 p4 p5 qp qm qs l1 l2 l3 l4 l5 l6 l7 l8 l9 l10 l11 l12 l13 l14 l15 : Nat) (ab bb a b a2 b2 c2 : Nat → Nat) : z9P E h0 p1 p2 h3 p4 p5 qp qm qs l1 l2 l3 l4 l5 l6 l7 l8 l9 l10 l11 l12 l13 l14 l15 ab bb a b a2 b2 c2 143 := ⟨_, rfl, fun _ _ _ h => h⟩
set_option maxRecDepth 100000 in
set_option maxHeartbeats 4000000 in
theorem z9_144 (E : zE) (h0 p1 p2 h3 p4 p5 qp qm qs l1 l2 l3 l4 l5 l6 l7 l8 l9 l10 l11 l12 l13 l14 l15 : Nat) (ab bb a b a2 b2 c2 : Nat → Nat) : z9P E h0 p1 p2 h3 p4 p5 qp qm qs l1 l2 l3 l4 l5 l6 l7 l8 l9 l10 l11 l12 l13 l14 l15 ab bb a b a2 b2 c2 144 := ⟨_, rfl, fun _ _ _ h => h⟩
set_option maxRecDepth 100000 in
set_option maxHeartbeats 4000000 in
theorem z9_145 (E : zE) (h0 p1 p2 h3 p4 p5 qp qm qs l1 l2 l3 l4 l5 l6 l7 l8 l9 l10 l11 l12 l13 l14 l15 : Nat) (ab bb a b a2 b2 c2 : Nat → Nat) : z9P E h0 p1 p2 h3 p4 p5 qp qm qs l1 l2 l3 l4 l5 l6 l7 l8 l9 l10 l11 l12 l13 l14 l15 ab bb a b a2 b2 c2 145 := ⟨_, rfl, fun _ _ _ h => h⟩
set_option maxRecDepth 100000 in
set_option maxHeartbeats 4000000 in
theorem z9_146 (E : zE) (h0 p1 p2 h3 p4 p5 qp qm qs l1 l2 l3 l4 l5 l6 l7 l8 l9 l10 l11 l12 l13 l14 l15 : Nat) (ab bb a b a2 b2 c2 : Nat → Nat) : z9P E h0 p1 p2 h3 p4 p5 qp qm qs l1 l2 l3 l4 l5 l6 l7 l8 l9 l10 l11 l12 l13 l14 l15 ab bb a b a2 b2 c2 146 := ⟨_, rfl, fun _ _ _ h => h⟩
set_option maxRecDepth 100000 in
set_option maxHeartbeats 4000000 in
theorem z9_147 (E : zE) (h0 p1 p2 h3 p4 p5 qp qm qs l1 l2 l3 l4 l5 l6 l7 l8 l9 l10 l11 l12 l13 l14 l15 : Nat) (ab bb a b a2 b2 c2 : Nat → Nat) : z9P E h0 p1 p2 h3 p4 p5 qp qm qs l1 l2 l3 l4 l5 l6 l7 l8 l9 l10 l11 l12 l13 l14 l15 ab bb a b a2 b2 c2 147 := ⟨_, rfl, fun _ _ _ h => h⟩
set_option maxRecDepth 100000 in
set_option maxHeartbeats 4000000 in
theorem z9_148 (E : zE) (h0 p1 p2 h3 p4 p5 qp qm qs l1 l2 l3 l4 l5 l6 l7 l8 l9 l10 l11 l12 l13 l14 l15 : Nat) (ab bb a b a2 b2 c2 : Nat → Nat) : z9P E h0 p1 p2 h3 p4 p5 qp qm qs l1 l2 l3 l4 l5 l6 l7 l8 l9 l10 l11 l12 l13 l14 l15 ab bb a b a2 b2 c2 148 := ⟨_, rfl, fun _ _ _ h => h⟩
set_option maxRecDepth 100000 in
set_option maxHeartbeats 4000000 in
theorem z9_149 (E : zE) (h0 p1 p2 h3 p4 p5 qp qm qs l1 l2 l3 l4 l5 l6 l7 l8 l9 l10 l11 l12 l13 l14 l15 : Nat) (ab bb a b a2 b2 c2 : Nat → Nat) : z9P E h0 p1 p2 h3 p4 p5 qp qm qs l1 l2 l3 l4 l5 l6 l7 l8 l9 l10 l11 l12 l13 l14 l15 ab bb a b a2 b2 c2 149 := ⟨_, rfl, fun _ _ _ h => h⟩
set_option maxRecDepth 100000 in
set_option maxHeartbeats 4000000 in
theorem z9_150 (E : zE) (h0 p1 p2 h3 p4 p5 qp qm qs l1 l2 l3 l4 l5 l6 l7 l8 l9 l10 l11 l12 l13 l14 l15 : Nat) (ab bb a b a2 b2 c2 : Nat → Nat) : z9P E h0 p1 p2 h3 p4 p5 qp qm qs l1 l2 l3 l4 l5 l6 l7 l8 l9 l10 l11 l12 l13 l14 l15 ab bb a b a2 b2 c2 150 := ⟨_, rfl, fun _ _ _ h => h⟩
set_option maxRecDepth 100000 in
set_option maxHeartbeats 4000000 in
theorem z9_151 (E : zE) (h0 p1 p2 h3 p4 p5 qp qm qs l1 l2 l3 l4 l5 l6 l7 l8 l9 l10 l11 l12 l13 l14 l15 : Nat) (ab bb a b a2 b2 c2 : Nat → Nat) : z9P E h0 p1 p2 h3 p4 p5 qp qm qs l1 l2 l3 l4 l5 l6 l7 l8 l9 l10 l11 l12 l13 l14 l15 ab bb a b a2 b2 c2 151 := ⟨_, rfl, fun _ _ _ h => h⟩
set_option maxRecDepth 100000 in
set_option maxHeartbeats 4000000 in
theorem z9_152 (E : zE) (h0 p1 p2 h3 p4 p5 qp qm qs l1 l2 l3 l4 l5 l6 l7 l8 l9 l10 l11 l12 l13 l14 l15 : Nat) (ab bb a b a2 b2 c2 : Nat → Nat) : z9P E h0 p1 p2 h3 p4 p5 qp qm qs l1 l2 l3 l4 l5 l6 l7 l8 l9 l10 l11 l12 l13 l14 l15 ab bb a b a2 b2 c2 152 := ⟨_, rfl, fun _ _ _ h => h⟩
set_option maxRecDepth 100000 in
set_option maxHeartbeats 4000000 in
theorem z9_153 (E : zE) (h0 p1 p2 h3 p4 p5 qp qm qs l1 l2 l3 l4 l5 l6 l7 l8 l9 l10 l11 l12 l13 l14 l15 : Nat) (ab bb a b a2 b2 c2 : Nat → Nat) : z9P E h0 p1 p2 h3 p4 p5 qp qm qs l1 l2 l3 l4 l5 l6 l7 l8 l9 l10 l11 l12 l13 l14 l15 ab bb a b a2 b2 c2 153 := ⟨_, rfl, fun _ _ _ h => h⟩
set_option maxRecDepth 100000 in
set_option maxHeartbeats 4000000 in
theorem z9_154 (E : zE) (h0 p1 p2 h3 p4 p5 qp qm qs l1 l2 l3 l4 l5 l6 l7 l8 l9 l10 l11 l12 l13 l14 l15 : Nat) (ab bb a b a2 b2 c2 : Nat → Nat) : z9P E h0 p1 p2 h3 p4 p5 qp qm qs l1 l2 l3 l4 l5 l6 l7 l8 l9 l10 l11 l12 l13 l14 l15 ab bb a b a2 b2 c2 154 := ⟨_, rfl, fun _ _ _ h => h⟩
set_option maxRecDepth 100000 in
set_option maxHeartbeats 4000000 in
theorem z9_155 (E : zE) (h0 p1 p2 h3 p4 p5 qp qm qs l1 l2 l3 l4 l5 l6 l7 l8 l9 l10 l11 l12 l13 l14 l15 : Nat) (ab bb a b a2 b2 c2 : Nat → Nat) : z9P E h0 p1 p2 h3 p4 p5 qp qm qs l1 l2 l3 l4 l5 l6 l7 l8 l9 l10 l11 l12 l13 l14 l15 ab bb a b a2 b2 c2 155 := ⟨_, rfl, fun _ _ _ h => h⟩
set_option maxRecDepth 100000 in
set_option maxHeartbeats 4000000 in
theorem z9_156 (E : zE) (h0 p1 p2 h3 p4 p5 qp qm qs l1 l2 l3 l4 l5 l6 l7 l8 l9 l10 l11 l12 l13 l14 l15 : Nat) (ab bb a b a2 b2 c2 : Nat → Nat) : z9P E h0 p1 p2 h3 p4 p5 qp qm qs l1 l2 l3 l4 l5 l6 l7 l8 l9 l10 l11 l12 l13 l14 l15 ab bb a b a2 b2 c2 156 := ⟨_, rfl, fun _ _ _ h => h⟩
set_option maxRecDepth 100000 in
set_option maxHeartbeats 4000000 in
theorem z9_157 (E : zE) (h0 p1 p2 h3 p4 p5 qp qm qs l1 l2 l3 l4 l5 l6 l7 l8 l9 l10 l11 l12 l13 l14 l15 : Nat) (ab bb a b a2 b2 c2 : Nat → Nat) : z9P E h0 p1 p2 h3 p4 p5 qp qm qs l1 l2 l3 l4 l5 l6 l7 l8 l9 l10 l11 l12 l13 l14 l15 ab bb a b a2 b2 c2 157 := ⟨_, rfl, fun _ _ _ h => h⟩
set_option maxRecDepth 100000 in
set_option maxHeartbeats 4000000 in
theorem z9_158 (E : zE) (h0 p1 p2 h3 p4 p5 qp qm qs l1 l2 l3 l4 l5 l6 l7 l8 l9 l10 l11 l12 l13 l14 l15 : Nat) (ab bb a b a2 b2 c2 : Nat → Nat) : z9P E h0 p1 p2 h3 p4 p5 qp qm qs l1 l2 l3 l4 l5 l6 l7 l8 l9 l10 l11 l12 l13 l14 l15 ab bb a b a2 b2 c2 158 := ⟨_, rfl, fun _ _ _ h => h⟩
set_option maxRecDepth 100000 in
set_option maxHeartbeats 4000000 in
theorem z9_159 (E : zE) (h0 p1 p2 h3 p4 p5 qp qm qs l1 l2 l3 l4 l5 l6 l7 l8 l9 l10 l11 l12 l13 l14 l15 : Nat) (ab bb a b a2 b2 c2 : Nat → Nat) : z9P E h0 p1 p2 h3 p4 p5 qp qm qs l1 l2 l3 l4 l5 l6 l7 l8 l9 l10 l11 l12 l13 l14 l15 ab bb a b a2 b2 c2 159 := ⟨_, rfl, fun _ _ _ h => h⟩
set_option maxRecDepth 100000 in
set_option maxHeartbeats 4000000 in
theorem z9_160 (E : zE) (h0 p1 p2 h3 p4 p5 qp qm qs l1 l2 l3 l4 l5 l6 l7 l8 l9 l10 l11 l12 l13 l14 l15 : Nat) (ab bb a b a2 b2 c2 : Nat → Nat) : z9P E h0 p1 p2 h3 p4 p5 qp qm qs l1 l2 l3 l4 l5 l6 l7 l8 l9 l10 l11 l12 l13 l14 l15 ab bb a b a2 b2 c2 160 := ⟨_, rfl, fun _ _ _ h => h⟩
set_option maxRecDepth 100000 in
set_option maxHeartbeats 4000000 in
theorem z9_161 (E : zE) (h0 p1 p2 h3 p4 p5 qp qm qs l1 l2 l3 l4 l5 l6 l7 l8 l9 l10 l11 l12 l13 l14 l15 : Nat) (ab bb a b a2 b2 c2 : Nat → Nat) : z9P E h0 p1 p2 h3 p4 p5 qp qm qs l1 l2 l3 l4 l5 l6 l7 l8 l9 l10 l11 l12 l13 l14 l15 ab bb a b a2 b2 c2 161 := ⟨_, rfl, fun _ _ _ h => h⟩
set_option maxRecDepth 100000 in
set_option maxHeartbeats 4000000 in
theorem z9_162 (E : zE) (h0 p1 p2 h3 p4 p5 qp qm qs l1 l2 l3 l4 l5 l6 l7 l8 l9 l10 l11 l12 l13 l14 l15 : Nat) (ab bb a b a2 b2 c2 : Nat → Nat) : z9P E h0 p1 p2 h3 p4 p5 qp qm qs l1 l2 l3 l4 l5 l6 l7 l8 l9 l10 l11 l12 l13 l14 l15 ab bb a b a2 b2 c2 162 := ⟨_, rfl, fun _ _ _ h => h⟩
set_option maxRecDepth 100000 in
set_option maxHeartbeats 4000000 in
theorem z9_163 (E : zE) (h0 p1 p2 h3 p4 p5 qp qm qs l1 l2 l3 l4 l5 l6 l7 l8 l9 l10 l11 l12 l13 l14 l15 : Nat) (ab bb a b a2 b2 c2 : Nat → Nat) : z9P E h0 p1 p2 h3 p4 p5 qp qm qs l1 l2 l3 l4 l5 l6 l7 l8 l9 l10 l11 l12 l13 l14 l15 ab bb a b a2 b2 c2 163 := ⟨_, rfl, fun _ _ _ h => h⟩
set_option maxRecDepth 100000 in
set_option maxHeartbeats 4000000 in
theorem z9_164 (E : zE) (h0 p1 p2 h3 p4 p5 qp qm qs l1 l2 l3 l4 l5 l6 l7 l8 l9 l10 l11 l12 l13 l14 l15 : Nat) (ab bb a b a2 b2 c2 : Nat → Nat) : z9P E h0 p1 p2 h3 p4 p5 qp qm qs l1 l2 l3 l4 l5 l6 l7 l8 l9 l10 l11 l12 l13 l14 l15 ab bb a b a2 b2 c2 164 := ⟨_, rfl, fun _ _ _ h => h⟩
set_option maxRecDepth 100000 in
set_option maxHeartbeats 4000000 in
theorem z9_165 (E : zE) (h0 p1 p2 h3 p4 p5 qp qm qs l1 l2 l3 l4 l5 l6 l7 l8 l9 l10 l11 l12 l13 l14 l15 : Nat) (ab bb a b a2 b2 c2 : Nat → Nat) : z9P E h0 p1 p2 h3 p4 p5 qp qm qs l1 l2 l3 l4 l5 l6 l7 l8 l9 l10 l11 l12 l13 l14 l15 ab bb a b a2 b2 c2 165 := ⟨_, rfl, fun _ _ _ h => h⟩
set_option maxRecDepth 100000 in
set_option maxHeartbeats 4000000 in
theorem z9_166 (E : zE) (h0 p1 p2 h3 p4 p5 qp qm qs l1 l2 l3 l4 l5 l6 l7 l8 l9 l10 l11 l12 l13 l14 l15 : Nat) (ab bb a b a2 b2 c2 : Nat → Nat) : z9P E h0 p1 p2 h3 p4 p5 qp qm qs l1 l2 l3 l4 l5 l6 l7 l8 l9 l10 l11 l12 l13 l14 l15 ab bb a b a2 b2 c2 166 := ⟨_, rfl, fun _ _ _ h => h⟩
set_option maxRecDepth 100000 in
set_option maxHeartbeats 4000000 in
theorem z9_167 (E : zE) (h0 p1 p2 h3 p4 p5 qp qm qs l1 l2 l3 l4 l5 l6 l7 l8 l9 l10 l11 l12 l13 l14 l15 : Nat) (ab bb a b a2 b2 c2 : Nat → Nat) : z9P E h0 p1 p2 h3 p4 p5 qp qm qs l1 l2 l3 l4 l5 l6 l7 l8 l9 l10 l11 l12 l13 l14 l15 ab bb a b a2 b2 c2 167 := ⟨_, rfl, fun _ _ _ h => h⟩
set_option maxRecDepth 100000 in
set_option maxHeartbeats 4000000 in
theorem z9_168 (E : zE) (h0 p1 p2 h3 p4 p5 qp qm qs l1 l2 l3 l4 l5 l6 l7 l8 l9 l10 l11 l12 l13 l14 l15 : Nat) (ab bb a b a2 b2 c2 : Nat → Nat) : z9P E h0 p1 p2 h3 p4 p5 qp qm qs l1 l2 l3 l4 l5 l6 l7 l8 l9 l10 l11 l12 l13 l14 l15 ab bb a b a2 b2 c2 168 := ⟨_, rfl, fun _ _ _ h => h⟩
set_option maxRecDepth 100000 in
set_option maxHeartbeats 4000000 in
theorem z9_169 (E : zE) (h0 p1 p2 h3 p4 p5 qp qm qs l1 l2 l3 l4 l5 l6 l7 l8 l9 l10 l11 l12 l13 l14 l15 : Nat) (ab bb a b a2 b2 c2 : Nat → Nat) : z9P E h0 p1 p2 h3 p4 p5 qp qm qs l1 l2 l3 l4 l5 l6 l7 l8 l9 l10 l11 l12 l13 l14 l15 ab bb a b a2 b2 c2 169 := ⟨_, rfl, fun _ _ _ h => h⟩
set_option maxRecDepth 100000 in
set_option maxHeartbeats 4000000 in
theorem z9_170 (E : zE) (h0 p1 p2 h3 p4 p5 qp qm qs l1 l2 l3 l4 l5 l6 l7 l8 l9 l10 l11 l12 l13 l14 l15 : Nat) (ab bb a b a2 b2 c2 : Nat → Nat) : z9P E h0 p1 p2 h3 p4 p5 qp qm qs l1 l2 l3 l4 l5 l6 l7 l8 l9 l10 l11 l12 l13 l14 l15 ab bb a b a2 b2 c2 170 := ⟨_, rfl, fun _ _ _ h => h⟩
set_option maxRecDepth 100000 in
set_option maxHeartbeats 4000000 in
theorem z9_171 (E : zE) (h0 p1 p2 h3 p4 p5 qp qm qs l1 l2 l3 l4 l5 l6 l7 l8 l9 l10 l11 l12 l13 l14 l15 : Nat) (ab bb a b a2 b2 c2 : Nat → Nat) : z9P E h0 p1 p2 h3 p4 p5 qp qm qs l1 l2 l3 l4 l5 l6 l7 l8 l9 l10 l11 l12 l13 l14 l15 ab bb a b a2 b2 c2 171 := ⟨_, rfl, fun _ _ _ h => h⟩
set_option maxRecDepth 100000 in
set_option maxHeartbeats 4000000 in
theorem z9_172 (E : zE) (h0 p1 p2 h3 p4 p5 qp qm qs l1 l2 l3 l4 l5 l6 l7 l8 l9 l10 l11 l12 l13 l14 l15 : Nat) (ab bb a b a2 b2 c2 : Nat → Nat) : z9P E h0 p1 p2 h3 p4 p5 qp qm qs l1 l2 l3 l4 l5 l6 l7 l8 l9 l10 l11 l12 l13 l14 l15 ab bb a b a2 b2 c2 172 := ⟨_, rfl, fun _ _ _ h => h⟩
set_option maxRecDepth 100000 in
set_option maxHeartbeats 4000000 in
theorem z9_173 (E : zE) (h0 p1 p2 h3 p4 p5 qp qm qs l1 l2 l3 l4 l5 l6 l7 l8 l9 l10 l11 l12 l13 l14 l15 : Nat) (ab bb a b a2 b2 c2 : Nat → Nat) : z9P E h0 p1 p2 h3 p4 p5 qp qm qs l1 l2 l3 l4 l5 l6 l7 l8 l9 l10 l11 l12 l13 l14 l15 ab bb a b a2 b2 c2 173 := ⟨_, rfl, fun _ _ _ h => h⟩
set_option maxRecDepth 100000 in
set_option maxHeartbeats 4000000 in
theorem z9_174 (E : zE) (h0 p1 p2 h3 p4 p5 qp qm qs l1 l2 l3 l4 l5 l6 l7 l8 l9 l10 l11 l12 l13 l14 l15 : Nat) (ab bb a b a2 b2 c2 : Nat → Nat) : z9P E h0 p1 p2 h3 p4 p5 qp qm qs l1 l2 l3 l4 l5 l6 l7 l8 l9 l10 l11 l12 l13 l14 l15 ab bb a b a2 b2 c2 174 := ⟨_, rfl, fun _ _ _ h => h⟩
set_option maxRecDepth 100000 in
set_option maxHeartbeats 4000000 in
theorem z9_175 (E : zE) (h0 p1 p2 h3 p4 p5 qp qm qs l1 l2 l3 l4 l5 l6 l7 l8 l9 l10 l11 l12 l13 l14 l15 : Nat) (ab bb a b a2 b2 c2 : Nat → Nat) : z9P E h0 p1 p2 h3 p4 p5 qp qm qs l1 l2 l3 l4 l5 l6 l7 l8 l9 l10 l11 l12 l13 l14 l15 ab bb a b a2 b2 c2 175 := ⟨_, rfl, fun _ _ _ h => h⟩
set_option maxRecDepth 100000 in
set_option maxHeartbeats 4000000 in
theorem z9_176 (E : zE) (h0 p1 p2 h3 p4 p5 qp qm qs l1 l2 l3 l4 l5 l6 l7 l8 l9 l10 l11 l12 l13 l14 l15 : Nat) (ab bb a b a2 b2 c2 : Nat → Nat) : z9P E h0 p1 p2 h3 p4 p5 qp qm qs l1 l2 l3 l4 l5 l6 l7 l8 l9 l10 l11 l12 l13 l14 l15 ab bb a b a2 b2 c2 176 := ⟨_, rfl, fun _ _ _ h => h⟩
set_option maxRecDepth 100000 in
set_option maxHeartbeats 4000000 in
theorem z9_177 (E : zE) (h0 p1 p2 h3 p4 p5 qp qm qs l1 l2 l3 l4 l5 l6 l7 l8 l9 l10 l11 l12 l13 l14 l15 : Nat) (ab bb a b a2 b2 c2 : Nat → Nat) : z9P E h0 p1 p2 h3 p4 p5 qp qm qs l1 l2 l3 l4 l5 l6 l7 l8 l9 l10 l11 l12 l13 l14 l15 ab bb a b a2 b2 c2 177 := ⟨_, rfl, fun _ _ _ h => h⟩
set_option maxRecDepth 100000 in
set_option maxHeartbeats 4000000 in
theorem z9_178 (E : zE) (h0 p1 p2 h3 p4 p5 qp qm qs l1 l2 l3 l4 l5 l6 l7 l8 l9 l10 l11 l12 l13 l14 l15 : Nat) (ab bb a b a2 b2 c2 : Nat → Nat) : z9P E h0 p1 p2 h3 p4 p5 qp qm qs l1 l2 l3 l4 l5 l6 l7 l8 l9 l10 l11 l12 l13 l14 l15 ab bb a b a2 b2 c2 178 := ⟨_, rfl, fun _ _ _ h => h⟩
set_option maxRecDepth 100000 in
set_option maxHeartbeats 4000000 in
theorem z9_179 (E : zE) (h0 p1 p2 h3 p4 p5 qp qm qs l1 l2 l3 l4 l5 l6 l7 l8 l9 l10 l11 l12 l13 l14 l15 : Nat) (ab bb a b a2 b2 c2 : Nat → Nat) : z9P E h0 p1 p2 h3 p4 p5 qp qm qs l1 l2 l3 l4 l5 l6 l7 l8 l9 l10 l11 l12 l13 l14 l15 ab bb a b a2 b2 c2 179 := ⟨_, rfl, fun _ _ _ h => h⟩
set_option maxRecDepth 100000 in
set_option maxHeartbeats 4000000 in
theorem z9_180 (E : zE) (h0 p1 p2 h3 p4 p5 qp qm qs l1 l2 l3 l4 l5 l6 l7 l8 l9 l10 l11 l12 l13 l14 l15 : Nat) (ab bb a b a2 b2 c2 : Nat → Nat) : z9P E h0 p1 p2 h3 p4 p5 qp qm qs l1 l2 l3 l4 l5 l6 l7 l8 l9 l10 l11 l12 l13 l14 l15 ab bb a b a2 b2 c2 180 := ⟨_, rfl, fun _ _ _ h => h⟩
set_option maxRecDepth 100000 in
set_option maxHeartbeats 4000000 in
theorem z9_181 (E : zE) (h0 p1 p2 h3 p4 p5 qp qm qs l1 l2 l3 l4 l5 l6 l7 l8 l9 l10 l11 l12 l13 l14 l15 : Nat) (ab bb a b a2 b2 c2 : Nat → Nat) : z9P E h0 p1 p2 h3 p4 p5 qp qm qs l1 l2 l3 l4 l5 l6 l7 l8 l9 l10 l11 l12 l13 l14 l15 ab bb a b a2 b2 c2 181 := ⟨_, rfl, fun _ _ _ h => h⟩
set_option maxRecDepth 100000 in
set_option maxHeartbeats 4000000 in
theorem z9r_1 (E : zE) (h0 p1 p2 h3 p4 p5 qp qm qs l1 l2 l3 l4 l5 l6 l7 l8 l9 l10 l11 l12 l13 l14 l15 : Nat) (ab bb a b a2 b2 c2 : Nat → Nat) : ∀ j, j < 10 → zfs a 10 j = some ((zEx E h0 p1 p2 h3 p4 p5 qp qm qs l1 l2 l3 l4 l5 l6 l7 l8 l9 l10 l11 l12 l13 l14 l15 ab bb a b a2 b2 c2).1 (zrf 1 j)) := by
  have h : ∀ j ∈ [0, 1, 2, 3, 4, 5, 6, 7, 8, 9], zfs a 10 j = some ((zEx E h0 p1 p2 h3 p4 p5 qp qm qs l1 l2 l3 l4 l5 l6 l7 l8 l9 l10 l11 l12 l13 l14 l15 ab bb a b a2 b2 c2).1 (zrf 1 j)) := List.forall_mem_cons.mpr ⟨rfl, List.forall_mem_cons.mpr ⟨rfl, List.forall_mem_cons.mpr ⟨rfl, List.forall_mem_cons.mpr ⟨rfl, List.forall_mem_cons.mpr ⟨rfl, List.forall_mem_cons.mpr ⟨rfl, List.forall_mem_cons.mpr ⟨rfl, List.forall_mem_cons.mpr ⟨rfl, List.forall_mem_cons.mpr ⟨rfl, List.forall_mem_cons.mpr ⟨rfl, fun _ h => absurd h List.not_mem_nil⟩⟩⟩⟩⟩⟩⟩⟩⟩⟩
  intro j hj
  exact h j ((by decide +kernel : ∀ j, j < 10 → j ∈ [0, 1, 2, 3, 4, 5, 6, 7, 8, 9]) j hj)
set_option maxRecDepth 100000 in
set_option maxHeartbeats 4000000 in
theorem z9_1 (E : zE) (h0 p1 p2 h3 p4 p5 qp qm qs l1 l2 l3 l4 l5 l6 l7 l8 l9 l10 l11 l12 l13 l14 l15 : Nat) (ab bb a b a2 b2 c2 : Nat → Nat) : z9P E h0 p1 p2 h3 p4 p5 qp qm qs l1 l2 l3 l4 l5 l6 l7 l8 l9 l10 l11 l12 l13 l14 l15 ab bb a b a2 b2 c2 1 := ⟨_, rfl, fun D cl H h => zar_congr (k := 13) (n := 10) (f := zfs a 10) (g := fun j => some ((zEx E h0 p1 p2 h3 p4 p5 qp qm qs l1 l2 l3 l4 l5 l6 l7 l8 l9 l10 l11 l12 l13 l14 l15 ab bb a b a2 b2 c2).1 (zrf 1 j))) (z9r_1 E h0 p1 p2 h3 p4 p5 qp qm qs l1 l2 l3 l4 l5 l6 l7 l8 l9 l10 l11 l12 l13 l14 l15 ab bb a b a2 b2 c2) h⟩
set_option maxRecDepth 100000 in
set_option maxHeartbeats 4000000 in
theorem z9r_2 (E : zE) (h0 p1 p2 h3 p4 p5 qp qm qs l1 l2 l3 l4 l5 l6 l7 l8 l9 l10 l11 l12 l13 l14 l15 : Nat) (ab bb a b a2 b2 c2 : Nat → Nat) : ∀ j, j < 6 → zfs a2 6 j = some ((zEx E h0 p1 p2 h3 p4 p5 qp qm qs l1 l2 l3 l4 l5 l6 l7 l8 l9 l10 l11 l12 l13 l14 l15 ab bb a b a2 b2 c2).1 (zrf 2 j)) := by
  have h : ∀ j ∈ [0, 1, 2, 3, 4, 5], zfs a2 6 j = some ((zEx E h0 p1 p2 h3 p4 p5 qp qm qs l1 l2 l3 l4 l5 l6 l7 l8 l9 l10 l11 l12 l13 l14 l15 ab bb a b a2 b2 c2).1 (zrf 2 j)) := List.forall_mem_cons.mpr ⟨rfl, List.forall_mem_cons.mpr ⟨rfl, List.forall_mem_cons.mpr ⟨rfl, List.forall_mem_cons.mpr ⟨rfl, List.forall_mem_cons.mpr ⟨rfl, List.forall_mem_cons.mpr ⟨rfl, fun _ h => absurd h List.not_mem_nil⟩⟩⟩⟩⟩⟩
  intro j hj
  exact h j ((by decide +kernel : ∀ j, j < 6 → j ∈ [0, 1, 2, 3, 4, 5]) j hj)
set_option maxRecDepth 100000 in
set_option maxHeartbeats 4000000 in
theorem z9_2 (E : zE) (h0 p1 p2 h3 p4 p5 qp qm qs l1 l2 l3 l4 l5 l6 l7 l8 l9 l10 l11 l12 l13 l14 l15 : Nat) (ab bb a b a2 b2 c2 : Nat → Nat) : z9P E h0 p1 p2 h3 p4 p5 qp qm qs l1 l2 l3 l4 l5 l6 l7 l8 l9 l10 l11 l12 l13 l14 l15 ab bb a b a2 b2 c2 2 := ⟨_, rfl, fun D cl H h => zar_congr (k := 14) (n := 6) (f := zfs a2 6) (g := fun j => some ((zEx E h0 p1 p2 h3 p4 p5 qp qm qs l1 l2 l3 l4 l5 l6 l7 l8 l9 l10 l11 l12 l13 l14 l15 ab bb a b a2 b2 c2).1 (zrf 2 j))) (z9r_2 E h0 p1 p2 h3 p4 p5 qp qm qs l1 l2 l3 l4 l5 l6 l7 l8 l9 l10 l11 l12 l13 l14 l15 ab bb a b a2 b2 c2) h⟩
set_option maxRecDepth 100000 in
set_option maxHeartbeats 4000000 in
theorem z9r_6 (E : zE) (h0 p1 p2 h3 p4 p5 qp qm qs l1 l2 l3 l4 l5 l6 l7 l8 l9 l10 l11 l12 l13 l14 l15 : Nat) (ab bb a b a2 b2 c2 : Nat → Nat) : ∀ j, j < 60 → zfs ab 60 j = some ((zEx E h0 p1 p2 h3 p4 p5 qp qm qs l1 l2 l3 l4 l5 l6 l7 l8 l9 l10 l11 l12 l13 l14 l15 ab bb a b a2 b2 c2).1 (zrf 6 j)) := by
  have h : ∀ j ∈ [0, 1, 2, 3, 4, 5, 6, 7, 8, 9, 10, 11, 12, 13, 14, 15, 16, 17, 18, 19, 20, 21, 22, 23, 24, 25, 26, 27, 28, 29, 30, 31, 32, 33, 34, 35, 36, 37, 38, 39, 40, 41, 42, 43, 44, 45, 46, 47, 48, 49, 50, 51, 52, 53, 54, 55, 56, 57, 58, 59], zfs ab 60 j = some ((zEx E h0 p1 p2 h3 p4 p5 qp qm qs l1 l2 l3 l4 l5 l6 l7 l8 l9 l10 l11 l12 l13 l14 l15 ab bb a b a2 b2 c2).1 (zrf 6 j)) := List.forall_mem_cons.mpr ⟨rfl, List.forall_mem_cons.mpr ⟨rfl, List.forall_mem_cons.mpr ⟨rfl, List.forall_mem_cons.mpr ⟨rfl, List.forall_mem_cons.mpr ⟨rfl, List.forall_mem_cons.mpr ⟨rfl, List.forall_mem_cons.mpr ⟨rfl, List.forall_mem_cons.mpr ⟨rfl, List.forall_mem_cons.mpr ⟨rfl, List.forall_mem_cons.mpr ⟨rfl, List.forall_mem_cons.mpr ⟨rfl, List.forall_mem_cons.mpr ⟨rfl, List.forall_mem_cons.mpr ⟨rfl, List.forall_mem_cons.mpr ⟨rfl, List.forall_mem_cons.mpr ⟨rfl, List.forall_mem_cons.mpr ⟨rfl, List.forall_mem_cons.mpr ⟨rfl, List.forall_mem_cons.mpr ⟨rfl, List.forall_mem_cons.mpr ⟨rfl, List.forall_mem_cons.mpr ⟨rfl, List.forall_mem_cons.mpr ⟨rfl, List.forall_mem_cons.mpr ⟨rfl, List.forall_mem_cons.mpr ⟨rfl, List.forall_mem_cons.mpr ⟨rfl, List.forall_mem_cons.mpr ⟨rfl, List.forall_mem_cons.mpr ⟨rfl, List.forall_mem_cons.mpr ⟨rfl, List.forall_mem_cons.mpr ⟨rfl, List.forall_mem_cons.mpr ⟨rfl, List.forall_mem_cons.mpr ⟨rfl, List.forall_mem_cons.mpr ⟨rfl, List.forall_mem_cons.mpr ⟨rfl, List.forall_mem_cons.mpr ⟨rfl, List.forall_mem_cons.mpr ⟨rfl, List.forall_mem_cons.mpr ⟨rfl, List.forall_mem_cons.mpr ⟨rfl, List.forall_mem_cons.mpr ⟨rfl, List.forall_mem_cons.mpr ⟨rfl, List.forall_mem_cons.mpr ⟨rfl, List.forall_mem_cons.mpr ⟨rfl, List.forall_mem_cons.mpr ⟨rfl, List.forall_mem_cons.mpr ⟨rfl, List.forall_mem_cons.mpr ⟨rfl, List.forall_mem_cons.mpr ⟨rfl, List.forall_mem_cons.mpr ⟨rfl, List.forall_mem_cons.mpr ⟨rfl, List.forall_mem_cons.mpr ⟨rfl, List.forall_mem_cons.mpr ⟨rfl, List.forall_mem_cons.mpr ⟨rfl, List.forall_mem_cons.mpr ⟨rfl, List.forall_mem_cons.mpr ⟨rfl, List.forall_mem_cons.mpr ⟨rfl, List.forall_mem_cons.mpr ⟨rfl, List.forall_mem_cons.mpr ⟨rfl, List.forall_mem_cons.mpr ⟨rfl, List.forall_mem_cons.mpr ⟨rfl, List.forall_mem_cons.mpr ⟨rfl, List.forall_mem_cons.mpr ⟨rfl, List.forall_mem_cons.mpr ⟨rfl, List.forall_mem_cons.mpr ⟨rfl, fun _ h => absurd h List.not_mem_nil⟩⟩⟩⟩⟩⟩⟩⟩⟩⟩⟩⟩⟩⟩⟩⟩⟩⟩⟩⟩⟩⟩⟩⟩⟩⟩⟩⟩⟩⟩⟩⟩⟩⟩⟩⟩⟩⟩⟩⟩⟩⟩⟩⟩⟩⟩⟩⟩⟩⟩⟩⟩⟩⟩⟩⟩⟩⟩⟩⟩
  intro j hj
  exact h j ((by decide +kernel : ∀ j, j < 60 → j ∈ [0, 1, 2, 3, 4, 5, 6, 7, 8, 9, 10, 11, 12, 13, 14, 15, 16, 17, 18, 19, 20, 21, 22, 23, 24, 25, 26, 27, 28, 29, 30, 31, 32, 33, 34, 35, 36, 37, 38, 39, 40, 41, 42, 43, 44, 45, 46, 47, 48, 49, 50, 51, 52, 53, 54, 55, 56, 57, 58, 59]) j hj)
set_option maxRecDepth 100000 in
set_option maxHeartbeats 4000000 in
theorem z9_6 (E : zE) (h0 p1 p2 h3 p4 p5 qp qm qs l1 l2 l3 l4 l5 l6 l7 l8 l9 l10 l11 l12 l13 l14 l15 : Nat) (ab bb a b a2 b2 c2 : Nat → Nat) : z9P E h0 p1 p2 h3 p4 p5 qp qm qs l1 l2 l3 l4 l5 l6 l7 l8 l9 l10 l11 l12 l13 l14 l15 ab bb a b a2 b2 c2 6 := ⟨_, rfl, fun D cl H h => zar_congr (k := 12) (n := 60) (f := zfs ab 60) (g := fun j => some ((zEx E h0 p1 p2 h3 p4 p5 qp qm qs l1 l2 l3 l4 l5 l6 l7 l8 l9 l10 l11 l12 l13 l14 l15 ab bb a b a2 b2 c2).1 (zrf 6 j))) (z9r_6 E h0 p1 p2 h3 p4 p5 qp qm qs l1 l2 l3 l4 l5 l6 l7 l8 l9 l10 l11 l12 l13 l14 l15 ab bb a b a2 b2 c2) h⟩
set_option maxRecDepth 100000 in
set_option maxHeartbeats 4000000 in
theorem z9r_7 (E : zE) (h0 p1 p2 h3 p4 p5 qp qm qs l1 l2 l3 l4 l5 l6 l7 l8 l9 l10 l11 l12 l13 l14 l15 : Nat) (ab bb a b a2 b2 c2 : Nat → Nat) : ∀ j, j < 60 → zfs bb 60 j = some ((zEx E h0 p1 p2 h3 p4 p5 qp qm qs l1 l2 l3 l4 l5 l6 l7 l8 l9 l10 l11 l12 l13 l14 l15 ab bb a b a2 b2 c2).1 (zrf 7 j)) := by
  have h : ∀ j ∈ [0, 1, 2, 3, 4, 5, 6, 7, 8, 9, 10, 11, 12, 13, 14, 15, 16, 17, 18, 19, 20, 21, 22, 23, 24, 25, 26, 27, 28, 29, 30, 31, 32, 33, 34, 35, 36, 37, 38, 39, 40, 41, 42, 43, 44, 45, 46, 47, 48, 49, 50, 51, 52, 53, 54, 55, 56, 57, 58, 59], zfs bb 60 j = some ((zEx E h0 p1 p2 h3 p4 p5 qp qm qs l1 l2 l3 l4 l5 l6 l7 l8 l9 l10 l11 l12 l13 l14 l15 ab bb a b a2 b2 c2).1 (zrf 7 j)) := List.forall_mem_cons.mpr ⟨rfl, List.forall_mem_cons.mpr ⟨rfl, List.forall_mem_cons.mpr ⟨rfl, List.forall_mem_cons.mpr ⟨rfl, List.forall_mem_cons.mpr ⟨rfl, List.forall_mem_cons.mpr ⟨rfl, List.forall_mem_cons.mpr ⟨rfl, List.forall_mem_cons.mpr ⟨rfl, List.forall_mem_cons.mpr ⟨rfl, List.forall_mem_cons.mpr ⟨rfl, List.forall_mem_cons.mpr ⟨rfl, List.forall_mem_cons.mpr ⟨rfl, List.forall_mem_cons.mpr ⟨rfl, List.forall_mem_cons.mpr ⟨rfl, List.forall_mem_cons.mpr ⟨rfl, List.forall_mem_cons.mpr ⟨rfl, List.forall_mem_cons.mpr ⟨rfl, List.forall_mem_cons.mpr ⟨rfl, List.forall_mem_cons.mpr ⟨rfl, List.forall_mem_cons.mpr ⟨rfl, List.forall_mem_cons.mpr ⟨rfl, List.forall_mem_cons.mpr ⟨rfl, List.forall_mem_cons.mpr ⟨rfl, List.forall_mem_cons.mpr ⟨rfl, List.forall_mem_cons.mpr ⟨rfl, List.forall_mem_cons.mpr ⟨rfl, List.forall_mem_cons.mpr ⟨rfl, List.forall_mem_cons.mpr ⟨rfl, List.forall_mem_cons.mpr ⟨rfl, List.forall_mem_cons.mpr ⟨rfl, List.forall_mem_cons.mpr ⟨rfl, List.forall_mem_cons.mpr ⟨rfl, List.forall_mem_cons.mpr ⟨rfl, List.forall_mem_cons.mpr ⟨rfl, List.forall_mem_cons.mpr ⟨rfl, List.forall_mem_cons.mpr ⟨rfl, List.forall_mem_cons.mpr ⟨rfl, List.forall_mem_cons.mpr ⟨rfl, List.forall_mem_cons.mpr ⟨rfl, List.forall_mem_cons.mpr ⟨rfl, List.forall_mem_cons.mpr ⟨rfl, List.forall_mem_cons.mpr ⟨rfl, List.forall_mem_cons.mpr ⟨rfl, List.forall_mem_cons.mpr ⟨rfl, List.forall_mem_cons.mpr ⟨rfl, List.forall_mem_cons.mpr ⟨rfl, List.forall_mem_cons.mpr ⟨rfl, List.forall_mem_cons.mpr ⟨rfl, List.forall_mem_cons.mpr ⟨rfl, List.forall_mem_cons.mpr ⟨rfl, List.forall_mem_cons.mpr ⟨rfl, List.forall_mem_cons.mpr ⟨rfl, List.forall_mem_cons.mpr ⟨rfl, List.forall_mem_cons.mpr ⟨rfl, List.forall_mem_cons.mpr ⟨rfl, List.forall_mem_cons.mpr ⟨rfl, List.forall_mem_cons.mpr ⟨rfl, List.forall_mem_cons.mpr ⟨rfl, List.forall_mem_cons.mpr ⟨rfl, List.forall_mem_cons.mpr ⟨rfl, fun _ h => absurd h List.not_mem_nil⟩⟩⟩⟩⟩⟩⟩⟩⟩⟩⟩⟩⟩⟩⟩⟩⟩⟩⟩⟩⟩⟩⟩⟩⟩⟩⟩⟩⟩⟩⟩⟩⟩⟩⟩⟩⟩⟩⟩⟩⟩⟩⟩⟩⟩⟩⟩⟩⟩⟩⟩⟩⟩⟩⟩⟩⟩⟩⟩⟩
  intro j hj
  exact h j ((by decide +kernel : ∀ j, j < 60 → j ∈ [0, 1, 2, 3, 4, 5, 6, 7, 8, 9, 10, 11, 12, 13, 14, 15, 16, 17, 18, 19, 20, 21, 22, 23, 24, 25, 26, 27, 28, 29, 30, 31, 32, 33, 34, 35, 36, 37, 38, 39, 40, 41, 42, 43, 44, 45, 46, 47, 48, 49, 50, 51, 52, 53, 54, 55, 56, 57, 58, 59]) j hj)
set_option maxRecDepth 100000 in
set_option maxHeartbeats 4000000 in
theorem z9_7 (E : zE) (h0 p1 p2 h3 p4 p5 qp qm qs l1 l2 l3 l4 l5 l6 l7 l8 l9 l10 l11 l12 l13 l14 l15 : Nat) (ab bb a b a2 b2 c2 : Nat → Nat) : z9P E h0 p1 p2 h3 p4 p5 qp qm qs l1 l2 l3 l4 l5 l6 l7 l8 l9 l10 l11 l12 l13 l14 l15 ab bb a b a2 b2 c2 7 := ⟨_, rfl, fun D cl H h => zar_congr (k := 11) (n := 60) (f := zfs bb 60) (g := fun j => some ((zEx E h0 p1 p2 h3 p4 p5 qp qm qs l1 l2 l3 l4 l5 l6 l7 l8 l9 l10 l11 l12 l13 l14 l15 ab bb a b a2 b2 c2).1 (zrf 7 j))) (z9r_7 E h0 p1 p2 h3 p4 p5 qp qm qs l1 l2 l3 l4 l5 l6 l7 l8 l9 l10 l11 l12 l13 l14 l15 ab bb a b a2 b2 c2) h⟩
set_option maxRecDepth 100000 in
set_option maxHeartbeats 4000000 in
theorem z9_all (E : zE) (h0 p1 p2 h3 p4 p5 qp qm qs l1 l2 l3 l4 l5 l6 l7 l8 l9 l10 l11 l12 l13 l14 l15 : Nat) (ab bb a b a2 b2 c2 : Nat → Nat) : ∀ k, k < 182 → z9P E h0 p1 p2 h3 p4 p5 qp qm qs l1 l2 l3 l4 l5 l6 l7 l8 l9 l10 l11 l12 l13 l14 l15 ab bb a b a2 b2 c2 k := by
  have h : ∀ k ∈ List.range 182, z9P E h0 p1 p2 h3 p4 p5 qp qm qs l1 l2 l3 l4 l5 l6 l7 l8 l9 l10 l11 l12 l13 l14 l15 ab bb a b a2 b2 c2 k := List.forall_mem_cons.mpr ⟨z9_0 E h0 p1 p2 h3 p4 p5 qp qm qs l1 l2 l3 l4 l5 l6 l7 l8 l9 l10 l11 l12 l13 l14 l15 ab bb a b a2 b2 c2, List.forall_mem_cons.mpr ⟨z9_1 E h0 p1 p2 h3 p4 p5 qp qm qs l1 l2 l3 l4 l5 l6 l7 l8 l9 l10 l11 l12 l13 l14 l15 ab bb a b a2 b2 c2, List.forall_mem_cons.mpr ⟨z9_2 E h0 p1 p2 h3 p4 p5 qp qm qs l1 l2 l3 l4 l5 l6 l7 l8 l9 l10 l11 l12 l13 l14 l15 ab bb a b a2 b2 c2, List.forall_mem_cons.mpr ⟨z9_3 E h0 p1 p2 h3 p4 p5 qp qm qs l1 l2 l3 l4 l5 l6 l7 l8 l9 l10 l11 l12 l13 l14 l15 ab bb a b a2 b2 c2, List.forall_mem_cons.mpr ⟨z9_4 E h0 p1 p2 h3 p4 p5 qp qm qs l1 l2 l3 l4 l5 l6 l7 l8 l9 l10 l11 l12 l13 l14 l15 ab bb a b a2 b2 c2, List.forall_mem_cons.mpr ⟨z9_5 E h0 p1 p2 h3 p4 p5 qp qm qs l1 l2 l3 l4 l5 l6 l7 l8 l9 l10 l11 l12 l13 l14 l15 ab bb a b a2 b2 c2, List.forall_mem_cons.mpr ⟨z9_6 E h0 p1 p2 h3 p4 p5 qp qm qs l1 l2 l3 l4 l5 l6 l7 l8 l9 l10 l11 l12 l13 l14 l15 ab bb a b a2 b2 c2, List.forall_mem_cons.mpr ⟨z9_7 E h0 p1 p2 h3 p4 p5 qp qm qs l1 l2 l3 l4 l5 l6 l7 l8 l9 l10 l11 l12 l13 l14 l15 ab bb a b a2 b2 c2, List.forall_mem_cons.mpr ⟨z9_8 E h0 p1 p2 h3 p4 p5 qp qm qs l1 l2 l3 l4 l5 l6 l7 l8 l9 l10 l11 l12 l13 l14 l15 ab bb a b a2 b2 c2, List.forall_mem_cons.mpr ⟨z9_9 E h0 p1 p2 h3 p4 p5 qp qm qs l1 l2 l3 l4 l5 l6 l7 l8 l9 l10 l11 l12 l13 l14 l15 ab bb a b a2 b2 c2, List.forall_mem_cons.mpr ⟨z9_10 E h0 p1 p2 h3 p4 p5 qp qm qs l1 l2 l3 l4 l5 l6 l7 l8 l9 l10 l11 l12 l13 l14 l15 ab bb a b a2 b2 c2, List.forall_mem_cons.mpr ⟨z9_11 E h0 p1 p2 h3 p4 p5 qp qm qs l1 l2 l3 l4 l5 l6 l7 l8 l9 l10 l11 l12 l13 l14 l15 ab bb a b a2 b2 c2, List.forall_mem_cons.mpr ⟨z9_12 E h0 p1 p2 h3 p4 p5 qp qm qs l1 l2 l3 l4 l5 l6 l7 l8 l9 l10 l11 l12 l13 l14 l15 ab bb a b a2 b2 c2, List.forall_mem_cons.mpr ⟨z9_13 E h0 p1 p2 h3 p4 p5 qp qm qs l1 l2 l3 l4 l5 l6 l7 l8 l9 l10 l11 l12 l13 l14 l15 ab bb a b a2 b2 c2, List.forall_mem_cons.mpr ⟨z9_14 E h0 p1 p2 h3 p4 p5 qp qm qs l1 l2 l3 l4 l5 l6 l7 l8 l9 l10 l11 l12 l13 l14 l15 ab bb a b a2 b2 c2, List.forall_mem_cons.mpr ⟨z9_15 E h0 p1 p2 h3 p4 p5 qp qm qs l1 l2 l3 l4 l5 l6 l7 l8 l9 l10 l11 l12 l13 l14 l15 ab bb a b a2 b2 c2, List.forall_mem_cons.mpr ⟨z9_16 E h0 p1 p2 h3 p4 p5 qp qm qs l1 l2 l3 l4 l5 l6 l7 l8 l9 l10 l11 l12 l13 l14 l15 ab bb a b a2 b2 c2, List.forall_mem_cons.mpr ⟨z9_17 E h0 p1 p2 h3 p4 p5 qp qm qs l1 l2 l3 l4 l5 l6 l7 l8 l9 l10 l11 l12 l13 l14 l15 ab bb a b a2 b2 c2, List.forall_mem_cons.mpr ⟨z9_18 E h0 p1 p2 h3 p4 p5 qp qm qs l1 l2 l3 l4 l5 l6 l7 l8 l9 l10 l11 l12 l13 l14 l15 ab bb a b a2 b2 c2, List.forall_mem_cons.mpr ⟨z9_19 E h0 p1 p2 h3 p4 p5 qp qm qs l1 l2 l3 l4 l5 l6 l7 l8 l9 l10 l11 l12 l13 l14 l15 ab bb a b a2 b2 c2, List.forall_mem_cons.mpr ⟨z9_20 E h0 p1 p2 h3 p4 p5 qp qm qs l1 l2 l3 l4 l5 l6 l7 l8 l9 l10 l11 l12 l13 l14 l15 ab bb a b a2 b2 c2, List.forall_mem_cons.mpr ⟨z9_21 E h0 p1 p2 h3 p4 p5 qp qm qs l1 l2 l3 l4 l5 l6 l7 l8 l9 l10 l11 l12 l13 l14 l15 ab bb a b a2 b2 c2, List.forall_mem_cons.mpr ⟨z9_22 E h0 p1 p2 h3 p4 p5 qp qm qs l1 l2 l3 l4 l5 l6 l7 l8 l9 l10 l11 l12 l13 l14 l15 ab bb a b a2 b2 c2, List.forall_mem_cons.mpr ⟨z9_23 E h0 p1 p2 h3 p4 p5 qp qm qs l1 l2 l3 l4 l5 l6 l7 l8 l9 l10 l11 l12 l13 l14 l15 ab bb a b a2 b2 c2, List.forall_mem_cons.mpr ⟨z9_24 E h0 p1 p2 h3 p4 p5 qp qm qs l1 l2 l3 l4 l5 l6 l7 l8 l9 l10 l11 l12 l13 l14 l15 ab bb a b a2 b2 c2, List.forall_mem_cons.mpr ⟨z9_25 E h0 p1 p2 h3 p4 p5 qp qm qs l1 l2 l3 l4 l5 l6 l7 l8 l9 l10 l11 l12 l13 l14 l15 ab bb a b a2 b2 c2, List.forall_mem_cons.mpr ⟨z9_26 E h0 p1 p2 h3 p4 p5 qp qm qs l1 l2 l3 l4 l5 l6 l7 l8 l9 l10 l11 l12 l13 l14 l15 ab bb a b a2 b2 c2, List.forall_mem_cons.mpr ⟨z9_27 E h0 p1 p2 h3 p4 p5 qp qm qs l1 l2 l3 l4 l5 l6 l7 l8 l9 l10 l11 l12 l13 l14 l15 ab bb a b a2 b2 c2, List.forall_mem_cons.mpr ⟨z9_28 E h0 p1 p2 h3 p4 p5 qp qm qs l1 l2 l3 l4 l5 l6 l7 l8 l9 l10 l11 l12 l13 l14 l15 ab bb a b a2 b2 c2, List.forall_mem_cons.mpr ⟨z9_29 E h0 p1 p2 h3 p4 p5 qp qm qs l1 l2 l3 l4 l5 l6 l7 l8 l9 l10 l11 l12 l13 l14 l15 ab bb a b a2 b2 c2, List.forall_mem_cons.mpr ⟨z9_30 E h0 p1 p2 h3 p4 p5 qp qm qs l1 l2 l3 l4 l5 l6 l7 l8 l9 l10 l11 l12 l13 l14 l15 ab bb a b a2 b2 c2, List.forall_mem_cons.mpr ⟨z9_31 E h0 p1 p2 h3 p4 p5 qp qm qs l1 l2 l3 l4 l5 l6 l7 l8 l9 l10 l11 l12 l13 l14 l15 ab bb a b a2 b2 c2, List.forall_mem_cons.mpr ⟨z9_32 E h0 p1 p2 h3 p4 p5 qp qm qs l1 l2 l3 l4 l5 l6 l7 l8 l9 l10 l11 l12 l13 l14 l15 ab bb a b a2 b2 c2, List.forall_mem_cons.mpr ⟨z9_33 E h0 p1 p2 h3 p4 p5 qp qm qs l1 l2 l3 l4 l5 l6 l7 l8 l9 l10 l11 l12 l13 l14 l15 ab bb a b a2 b2 c2, List.forall_mem_cons.mpr ⟨z9_34 E h0 p1 p2 h3 p4 p5 qp qm qs l1 l2 l3 l4 l5 l6 l7 l8 l9 l10 l11 l12 l13 l14 l15 ab bb a b a2 b2 c2, List.forall_mem_cons.mpr ⟨z9_35 E h0 p1 p2 h3 p4 p5 qp qm qs l1 l2 l3 l4 l5 l6 l7 l8 l9 l10 l11 l12 l13 l14 l15 ab bb a b a2 b2 c2, List.forall_mem_cons.mpr ⟨z9_36 E h0 p1 p2 h3 p4 p5 qp qm qs l1 l2 l3 l4 l5 l6 l7 l8 l9 l10 l11 l12 l13 l14 l15 ab bb a b a2 b2 c2, List.forall_mem_cons.mpr ⟨z9_37 E h0 p1 p2 h3 p4 p5 qp qm qs l1 l2 l3 l4 l5 l6 l7 l8 l9 l10 l11 l12 l13 l14 l15 ab bb a b a2 b2 c2, List.forall_mem_cons.mpr ⟨z9_38 E h0 p1 p2 h3 p4 p5 qp qm qs l1 l2 l3 l4 l5 l6 l7 l8 l9 l10 l11 l12 l13 l14 l15 ab bb a b a2 b2 c2, List.forall_mem_cons.mpr ⟨z9_39 E h0 p1 p2 h3 p4 p5 qp qm qs l1 l2 l3 l4 l5 l6 l7 l8 l9 l10 l11 l12 l13 l14 l15 ab bb a b a2 b2 c2, List.forall_mem_cons.mpr ⟨z9_40 E h0 p1 p2 h3 p4 p5 qp qm qs l1 l2 l3 l4 l5 l6 l7 l8 l9 l10 l11 l12 l13 l14 l15 ab bb a b a2 b2 c2, List.forall_mem_cons.mpr ⟨z9_41 E h0 p1 p2 h3 p4 p5 qp qm qs l1 l2 l3 l4 l5 l6 l7 l8 l9 l10 l11 l12 l13 l14 l15 ab bb a b a2 b2 c2, List.forall_mem_cons.mpr ⟨z9_42 E h0 p1 p2 h3 p4 p5 qp qm qs l1 l2 l3 l4 l5 l6 l7 l8 l9 l10 l11 l12 l13 l14 l15 ab bb a b a2 b2 c2, List.forall_mem_cons.mpr ⟨z9_43 E h0 p1 p2 h3 p4 p5 qp qm qs l1 l2 l3 l4 l5 l6 l7 l8 l9 l10 l11 l12 l13 l14 l15 ab bb a b a2 b2 c2, List.forall_mem_cons.mpr ⟨z9_44 E h0 p1 p2 h3 p4 p5 qp qm qs l1 l2 l3 l4 l5 l6 l7 l8 l9 l10 l11 l12 l13 l14 l15 ab bb a b a2 b2 c2, List.forall_mem_cons.mpr ⟨z9_45 E h0 p1 p2 h3 p4 p5 qp qm qs l1 l2 l3 l4 l5 l6 l7 l8 l9 l10 l11 l12 l13 l14 l15 ab bb a b a2 b2 c2, List.forall_mem_cons.mpr ⟨z9_46 E h0 p1 p2 h3 p4 p5 qp qm qs l1 l2 l3 l4 l5 l6 l7 l8 l9 l10 l11 l12 l13 l14 l15 ab bb a b a2 b2 c2, List.forall_mem_cons.mpr ⟨z9_47 E h0 p1 p2 h3 p4 p5 qp qm qs l1 l2 l3 l4 l5 l6 l7 l8 l9 l10 l11 l12 l13 l14 l15 ab bb a b a2 b2 c2, List.forall_mem_cons.mpr ⟨z9_48 E h0 p1 p2 h3 p4 p5 qp qm qs l1 l2 l3 l4 l5 l6 l7 l8 l9 l10 l11 l12 l13 l14 l15 ab bb a b a2 b2 c2, List.forall_mem_cons.mpr ⟨z9_49 E h0 p1 p2 h3 p4 p5 qp qm qs l1 l2 l3 l4 l5 l6 l7 l8 l9 l10 l11 l12 l13 l14 l15 ab bb a b a2 b2 c2, List.forall_mem_cons.mpr ⟨z9_50 E h0 p1 p2 h3 p4 p5 qp qm qs l1 l2 l3 l4 l5 l6 l7 l8 l9 l10 l11 l12 l13 l14 l15 ab bb a b a2 b2 c2, List.forall_mem_cons.mpr ⟨z9_51 E h0 p1 p2 h3 p4 p5 qp qm qs l1 l2 l3 l4 l5 l6 l7 l8 l9 l10 l11 l12 l13 l14 l15 ab bb a b a2 b2 c2, List.forall_mem_cons.mpr ⟨z9_52 E h0 p1 p2 h3 p4 p5 qp qm qs l1 l2 l3 l4 l5 l6 l7 l8 l9 l10 l11 l12 l13 l14 l15 ab bb a b a2 b2 c2, List.forall_mem_cons.mpr ⟨z9_53 E h0 p1 p2 h3 p4 p5 qp qm qs l1 l2 l3 l4 l5 l6 l7 l8 l9 l10 l11 l12 l13 l14 l15 ab bb a b a2 b2 c2, List.forall_mem_cons.mpr ⟨z9_54 E h0 p1 p2 h3 p4 p5 qp qm qs l1 l2 l3 l4 l5 l6 l7 l8 l9 l10 l11 l12 l13 l14 l15 ab bb a b a2 b2 c2, List.forall_mem_cons.mpr ⟨z9_55 E h0 p1 p2 h3 p4 p5 qp qm qs l1 l2 l3 l4 l5 l6 l7 l8 l9 l10 l11 l12 l13 l14 l15 ab bb a b a2 b2 c2, List.forall_mem_cons.mpr ⟨z9_56 E h0 p1 p2 h3 p4 p5 qp qm qs l1 l2 l3 l4 l5 l6 l7 l8 l9 l10 l11 l12 l13 l14 l15 ab bb a b a2 b2 c2, List.forall_mem_cons.mpr ⟨z9_57 E h0 p1 p2 h3 p4 p5 qp qm qs l1 l2 l3 l4 l5 l6 l7 l8 l9 l10 l11 l12 l13 l14 l15 ab bb a b a2 b2 c2, List.forall_mem_cons.mpr ⟨z9_58 E h0 p1 p2 h3 p4 p5 qp qm qs l1 l2 l3 l4 l5 l6 l7 l8 l9 l10 l11 l12 l13 l14 l15 ab bb a b a2 b2 c2, List.forall_mem_cons.mpr ⟨z9_59 E h0 p1 p2 h3 p4 p5 qp qm qs l1 l2 l3 l4 l5 l6 l7 l8 l9 l10 l11 l12 l13 l14 l15 ab bb a b a2 b2 c2, List.forall_mem_cons.mpr ⟨z9_60 E h0 p1 p2 h3 p4 p5 qp qm qs l1 l2 l3 l4 l5 l6 l7 l8 l9 l10 l11 l12 l13 l14 l15 ab bb a b a2 b2 c2, List.forall_mem_cons.mpr ⟨z9_61 E h0 p1 p2 h3 p4 p5 qp qm qs l1 l2 l3 l4 l5 l6 l7 l8 l9 l10 l11 l12 l13 l14 l15 ab bb a b a2 b2 c2, List.forall_mem_cons.mpr ⟨z9_62 E h0 p1 p2 h3 p4 p5 qp qm qs l1 l2 l3 l4 l5 l6 l7 l8 l9 l10 l11 l12 l13 l14 l15 ab bb a b a2 b2 c2, List.forall_mem_cons.mpr ⟨z9_63 E h0 p1 p2 h3 p4 p5 qp qm qs l1 l2 l3 l4 l5 l6 l7 l8 l9 l10 l11 l12 l13 l14 l15 ab bb a b a2 b2 c2, List.forall_mem_cons.mpr ⟨z9_64 E h0 p1 p2 h3 p4 p5 qp qm qs l1 l2 l3 l4 l5 l6 l7 l8 l9 l10 l11 l12 l13 l14 l15 ab bb a b a2 b2 c2, List.forall_mem_cons.mpr ⟨z9_65 E h0 p1 p2 h3 p4 p5 qp qm qs l1 l2 l3 l4 l5 l6 l7 l8 l9 l10 l11 l12 l13 l14 l15 ab bb a b a2 b2 c2, List.forall_mem_cons.mpr ⟨z9_66 E h0 p1 p2 h3 p4 p5 qp qm qs l1 l2 l3 l4 l5 l6 l7 l8 l9 l10 l11 l12 l13 l14 l15 ab bb a b a2 b2 c2, List.forall_mem_cons.mpr ⟨z9_67 E h0 p1 p2 h3 p4 p5 qp qm qs l1 l2 l3 l4 l5 l6 l7 l8 l9 l10 l11 l12 l13 l14 l15 ab bb a b a2 b2 c2, List.forall_mem_cons.mpr ⟨z9_68 E h0 p1 p2 h3 p4 p5 qp qm qs l1 l2 l3 l4 l5 l6 l7 l8 l9 l10 l11 l12 l13 l14 l15 ab bb a b a2 b2 c2, List.forall_mem_cons.mpr ⟨z9_69 E h0 p1 p2 h3 p4 p5 qp qm qs l1 l2 l3 l4 l5 l6 l7 l8 l9 l10 l11 l12 l13 l14 l15 ab bb a b a2 b2 c2, List.forall_mem_cons.mpr ⟨z9_70 E h0 p1 p2 h3 p4 p5 qp qm qs l1 l2 l3 l4 l5 l6 l7 l8 l9 l10 l11 l12 l13 l14 l15 ab bb a b a2 b2 c2, List.forall_mem_cons.mpr ⟨z9_71 E h0 p1 p2 h3 p4 p5 qp qm qs l1 l2 l3 l4 l5 l6 l7 l8 l9 l10 l11 l12 l13 l14 l15 ab bb a b a2 b2 c2, List.forall_mem_cons.mpr ⟨z9_72 E h0 p1 p2 h3 p4 p5 qp qm qs l1 l2 l3 l4 l5 l6 l7 l8 l9 l10 l11 l12 l13 l14 l15 ab bb a b a2 b2 c2, List.forall_mem_cons.mpr ⟨z9_73 E h0 p1 p2 h3 p4 p5 qp qm qs l1 l2 l3 l4 l5 l6 l7 l8 l9 l10 l11 l12 l13 l14 l15 ab bb a b a2 b2 c2, List.forall_mem_cons.mpr ⟨z9_74 E h0 p1 p2 h3 p4 p5 qp qm qs l1 l2 l3 l4 l5 l6 l7 l8 l9 l10 l11 l12 l13 l14 l15 ab bb a b a2 b2 c2, List.forall_mem_cons.mpr ⟨z9_75 E h0 p1 p2 h3 p4 p5 qp qm qs l1 l2 l3 l4 l5 l6 l7 l8 l9 l10 l11 l12 l13 l14 l15 ab bb a b a2 b2 c2, List.forall_mem_cons.mpr ⟨z9_76 E h0 p1 p2 h3 p4 p5 qp qm qs l1 l2 l3 l4 l5 l6 l7 l8 l9 l10 l11 l12 l13 l14 l15 ab bb a b a2 b2 c2, List.forall_mem_cons.mpr ⟨z9_77 E h0 p1 p2 h3 p4 p5 qp qm qs l1 l2 l3 l4 l5 l6 l7 l8 l9 l10 l11 l12 l13 l14 l15 ab bb a b a2 b2 c2, List.forall_mem_cons.mpr ⟨z9_78 E h0 p1 p2 h3 p4 p5 qp qm qs l1 l2 l3 l4 l5 l6 l7 l8 l9 l10 l11 l12 l13 l14 l15 ab bb a b a2 b2 c2, List.forall_mem_cons.mpr ⟨z9_79 E h0 p1 p2 h3 p4 p5 qp qm qs l1 l2 l3 l4 l5 l6 l7 l8 l9 l10 l11 l12 l13 l14 l15 ab bb a b a2 b2 c2, List.forall_mem_cons.mpr ⟨z9_80 E h0 p1 p2 h3 p4 p5 qp qm qs l1 l2 l3 l4 l5 l6 l7 l8 l9 l10 l11 l12 l13 l14 l15 ab bb a b a2 b2 c2, List.forall_mem_cons.mpr ⟨z9_81 E h0 p1 p2 h3 p4 p5 qp qm qs l1 l2 l3 l4 l5 l6 l7 l8 l9 l10 l11 l12 l13 l14 l15 ab bb a b a2 b2 c2, List.forall_mem_cons.mpr ⟨z9_82 E h0 p1 p2 h3 p4 p5 qp qm qs l1 l2 l3 l4 l5 l6 l7 l8 l9 l10 l11 l12 l13 l14 l15 ab bb a b a2 b2 c2, List.forall_mem_cons.mpr ⟨z9_83 E h0 p1 p2 h3 p4 p5 qp qm qs l1 l2 l3 l4 l5 l6 l7 l8 l9 l10 l11 l12 l13 l14 l15 ab bb a b a2 b2 c2, List.forall_mem_cons.mpr ⟨z9_84 E h0 p1 p2 h3 p4 p5 qp qm qs l1 l2 l3 l4 l5 l6 l7 l8 l9 l10 l11 l12 l13 l14 l15 ab bb a b a2 b2 c2, List.forall_mem_cons.mpr ⟨z9_85 E h0 p1 p2 h3 p4 p5 qp qm qs l1 l2 l3 l4 l5 l6 l7 l8 l9 l10 l11 l12 l13 l14 l15 ab bb a b a2 b2 c2, List.forall_mem_cons.mpr ⟨z9_86 E h0 p1 p2 h3 p4 p5 qp qm qs l1 l2 l3 l4 l5 l6 l7 l8 l9 l10 l11 l12 l13 l14 l15 ab bb a b a2 b2 c2, List.forall_mem_cons.mpr ⟨z9_87 E h0 p1 p2 h3 p4 p5 qp qm qs l1 l2 l3 l4 l5 l6 l7 l8 l9 l10 l11 l12 l13 l14 l15 ab bb a b a2 b2 c2, List.forall_mem_cons.mpr ⟨z9_88 E h0 p1 p2 h3 p4 p5 qp qm qs l1 l2 l3 l4 l5 l6 l7 l8 l9 l10 l11 l12 l13 l14 l15 ab bb a b a2 b2 c2, List.forall_mem_cons.mpr ⟨z9_89 E h0 p1 p2 h3 p4 p5 qp qm qs l1 l2 l3 l4 l5 l6 l7 l8 l9 l10 l11 l12 l13 l14 l15 ab bb a b a2 b2 c2, List.forall_mem_cons.mpr ⟨z9_90 E h0 p1 p2 h3 p4 p5 qp qm qs l1 l2 l3 l4 l5 l6 l7 l8 l9 l10 l11 l12 l13 l14 l15 ab bb a b a2 b2 c2, List.forall_mem_cons.mpr ⟨z9_91 E h0 p1 p2 h3 p4 p5 qp qm qs l1 l2 l3 l4 l5 l6 l7 l8 l9 l10 l11 l12 l13 l14 l15 ab bb a b a2 b2 c2, List.forall_mem_cons.mpr ⟨z9_92 E h0 p1 p2 h3 p4 p5 qp qm qs l1 l2 l3 l4 l5 l6 l7 l8 l9 l10 l11 l12 l13 l14 l15 ab bb a b a2 b2 c2, List.forall_mem_cons.mpr ⟨z9_93 E h0 p1 p2 h3 p4 p5 qp qm qs l1 l2 l3 l4 l5 l6 l7 l8 l9 l10 l11 l12 l13 l14 l15 ab bb a b a2 b2 c2, List.forall_mem_cons.mpr ⟨z9_94 E h0 p1 p2 h3 p4 p5 qp qm qs l1 l2 l3 l4 l5 l6 l7 l8 l9 l10 l11 l12 l13 l14 l15 ab bb a b a2 b2 c2, List.forall_mem_cons.mpr ⟨z9_95 E h0 p1 p2 h3 p4 p5 qp qm qs l1 l2 l3 l4 l5 l6 l7 l8 l9 l10 l11 l12 l13 l14 l15 ab bb a b a2 b2 c2, List.forall_mem_cons.mpr ⟨z9_96 E h0 p1 p2 h3 p4 p5 qp qm qs l1 l2 l3 l4 l5 l6 l7 l8 l9 l10 l11 l12 l13 l14 l15 ab bb a b a2 b2 c2, List.forall_mem_cons.mpr ⟨z9_97 E h0 p1 p2 h3 p4 p5 qp qm qs l1 l2 l3 l4 l5 l6 l7 l8 l9 l10 l11 l12 l13 l14 l15 ab bb a b a2 b2 c2, List.forall_mem_cons.mpr ⟨z9_98 E h0 p1 p2 h3 p4 p5 qp qm qs l1 l2 l3 l4 l5 l6 l7 l8 l9 l10 l11 l12 l13 l14 l15 ab bb a b a2 b2 c2, List.forall_mem_cons.mpr ⟨z9_99 E h0 p1 p2 h3 p4 p5 qp qm qs l1 l2 l3 l4 l5 l6 l7 l8 l9 l10 l11 l12 l13 l14 l15 ab bb a b a2 b2 c2, List.forall_mem_cons.mpr ⟨z9_100 E h0 p1 p2 h3 p4 p5 qp qm qs l1 l2 l3 l4 l5 l6 l7 l8 l9 l10 l11 l12 l13 l14 l15 ab bb a b a2 b2 c2, List.forall_mem_cons.mpr ⟨z9_101 E h0 p1 p2 h3 p4 p5 qp qm qs l1 l2 l3 l4 l5 l6 l7 l8 l9 l10 l11 l12 l13 l14 l15 ab bb a b a2 b2 c2, List.forall_mem_cons.mpr ⟨z9_102 E h0 p1 p2 h3 p4 p5 qp qm qs l1 l2 l3 l4 l5 l6 l7 l8 l9 l10 l11 l12 l13 l14 l15 ab bb a b a2 b2 c2, List.forall_mem_cons.mpr ⟨z9_103 E h0 p1 p2 h3 p4 p5 qp qm qs l1 l2 l3 l4 l5 l6 l7 l8 l9 l10 l11 l12 l13 l14 l15 ab bb a b a2 b2 c2, List.forall_mem_cons.mpr ⟨z9_104 E h0 p1 p2 h3 p4 p5 qp qm qs l1 l2 l3 l4 l5 l6 l7 l8 l9 l10 l11 l12 l13 l14 l15 ab bb a b a2 b2 c2, List.forall_mem_cons.mpr ⟨z9_105 E h0 p1 p2 h3 p4 p5 qp qm qs l1 l2 l3 l4 l5 l6 l7 l8 l9 l10 l11 l12 l13 l14 l15 ab bb a b a2 b2 c2, List.forall_mem_cons.mpr ⟨z9_106 E h0 p1 p2 h3 p4 p5 qp qm qs l1 l2 l3 l4 l5 l6 l7 l8 l9 l10 l11 l12 l13 l14 l15 ab bb a b a2 b2 c2, List.forall_mem_cons.mpr ⟨z9_107 E h0 p1 p2 h3 p4 p5 qp qm qs l1 l2 l3 l4 l5 l6 l7 l8 l9 l10 l11 l12 l13 l14 l15 ab bb a b a2 b2 c2, List.forall_mem_cons.mpr ⟨z9_108 E h0 p1 p2 h3 p4 p5 qp qm qs l1 l2 l3 l4 l5 l6 l7 l8 l9 l10 l11 l12 l13 l14 l15 ab bb a b a2 b2 c2, List.forall_mem_cons.mpr ⟨z9_109 E h0 p1 p2 h3 p4 p5 qp qm qs l1 l2 l3 l4 l5 l6 l7 l8 l9 l10 l11 l12 l13 l14 l15 ab bb a b a2 b2 c2, List.forall_mem_cons.mpr ⟨z9_110 E h0 p1 p2 h3 p4 p5 qp qm qs l1 l2 l3 l4 l5 l6 l7 l8 l9 l10 l11 l12 l13 l14 l15 ab bb a b a2 b2 c2, List.forall_mem_cons.mpr ⟨z9_111 E h0 p1 p2 h3 p4 p5 qp qm qs l1 l2 l3 l4 l5 l6 l7 l8 l9 l10 l11 l12 l13 l14 l15 ab bb a b a2 b2 c2, List.forall_mem_cons.mpr ⟨z9_112 E h0 p1 p2 h3 p4 p5 qp qm qs l1 l2 l3 l4 l5 l6 l7 l8 l9 l10 l11 l12 l13 l14 l15 ab bb a b a2 b2 c2, List.forall_mem_cons.mpr ⟨z9_113 E h0 p1 p2 h3 p4 p5 qp qm qs l1 l2 l3 l4 l5 l6 l7 l8 l9 l10 l11 l12 l13 l14 l15 ab bb a b a2 b2 c2, List.forall_mem_cons.mpr ⟨z9_114 E h0 p1 p2 h3 p4 p5 qp qm qs l1 l2 l3 l4 l5 l6 l7 l8 l9 l10 l11 l12 l13 l14 l15 ab bb a b a2 b2 c2, List.forall_mem_cons.mpr ⟨z9_115 E h0 p1 p2 h3 p4 p5 qp qm qs l1 l2 l3 l4 l5 l6 l7 l8 l9 l10 l11 l12 l13 l14 l15 ab bb a b a2 b2 c2, List.forall_mem_cons.mpr ⟨z9_116 E h0 p1 p2 h3 p4 p5 qp qm qs l1 l2 l3 l4 l5 l6 l7 l8 l9 l10 l11 l12 l13 l14 l15 ab bb a b a2 b2 c2, List.forall_mem_cons.mpr ⟨z9_117 E h0 p1 p2 h3 p4 p5 qp qm qs l1 l2 l3 l4 l5 l6 l7 l8 l9 l10 l11 l12 l13 l14 l15 ab bb a b a2 b2 c2, List.forall_mem_cons.mpr ⟨z9_118 E h0 p1 p2 h3 p4 p5 qp qm qs l1 l2 l3 l4 l5 l6 l7 l8 l9 l10 l11 l12 l13 l14 l15 ab bb a b a2 b2 c2, List.forall_mem_cons.mpr ⟨z9_119 E h0 p1 p2 h3 p4 p5 qp qm qs l1 l2 l3 l4 l5 l6 l7 l8 l9 l10 l11 l12 l13 l14 l15 ab bb a b a2 b2 c2, List.forall_mem_cons.mpr ⟨z9_120 E h0 p1 p2 h3 p4 p5 qp qm qs l1 l2 l3 l4 l5 l6 l7 l8 l9 l10 l11 l12 l13 l14 l15 ab bb a b a2 b2 c2, List.forall_mem_cons.mpr ⟨z9_121 E h0 p1 p2 h3 p4 p5 qp qm qs l1 l2 l3 l4 l5 l6 l7 l8 l9 l10 l11 l12 l13 l14 l15 ab bb a b a2 b2 c2, List.forall_mem_cons.mpr ⟨z9_122 E h0 p1 p2 h3 p4 p5 qp qm qs l1 l2 l3 l4 l5 l6 l7 l8 l9 l10 l11 l12 l13 l14 l15 ab bb a b a2 b2 c2, List.forall_mem_cons.mpr ⟨z9_123 E h0 p1 p2 h3 p4 p5 qp qm qs l1 l2 l3 l4 l5 l6 l7 l8 l9 l10 l11 l12 l13 l14 l15 ab bb a b a2 b2 c2, List.forall_mem_cons.mpr ⟨z9_124 E h0 p1 p2 h3 p4 p5 qp qm qs l1 l2 l3 l4 l5 l6 l7 l8 l9 l10 l11 l12 l13 l14 l15 ab bb a b a2 b2 c2, List.forall_mem_cons.mpr ⟨z9_125 E h0 p1 p2 h3 p4 p5 qp qm qs l1 l2 l3 l4 l5 l6 l7 l8 l9 l10 l11 l12 l13 l14 l15 ab bb a b a2 b2 c2, List.forall_mem_cons.mpr ⟨z9_126 E h0 p1 p2 h3 p4 p5 qp qm qs l1 l2 l3 l4 l5 l6 l7 l8 l9 l10 l11 l12 l13 l14 l15 ab bb a b a2 b2 c2, List.forall_mem_cons.mpr ⟨z9_127 E h0 p1 p2 h3 p4 p5 qp qm qs l1 l2 l3 l4 l5 l6 l7 l8 l9 l10 l11 l12 l13 l14 l15 ab bb a b a2 b2 c2, List.forall_mem_cons.mpr ⟨z9_128 E h0 p1 p2 h3 p4 p5 qp qm qs l1 l2 l3 l4 l5 l6 l7 l8 l9 l10 l11 l12 l13 l14 l15 ab bb a b a2 b2 c2, List.forall_mem_cons.mpr ⟨z9_129 E h0 p1 p2 h3 p4 p5 qp qm qs l1 l2 l3 l4 l5 l6 l7 l8 l9 l10 l11 l12 l13 l14 l15 ab bb a b a2 b2 c2, List.forall_mem_cons.mpr ⟨z9_130 E h0 p1 p2 h3 p4 p5 qp qm qs l1 l2 l3 l4 l5 l6 l7 l8 l9 l10 l11 l12 l13 l14 l15 ab bb a b a2 b2 c2, List.forall_mem_cons.mpr ⟨z9_131 E h0 p1 p2 h3 p4 p5 qp qm qs l1 l2 l3 l4 l5 l6 l7 l8 l9 l10 l11 l12 l13 l14 l15 ab bb a b a2 b2 c2, List.forall_mem_cons.mpr ⟨z9_132 E h0 p1 p2 h3 p4 p5 qp qm qs l1 l2 l3 l4 l5 l6 l7 l8 l9 l10 l11 l12 l13 l14 l15 ab bb a b a2 b2 c2, List.forall_mem_cons.mpr ⟨z9_133 E h0 p1 p2 h3 p4 p5 qp qm qs l1 l2 l3 l4 l5 l6 l7 l8 l9 l10 l11 l12 l13 l14 l15 ab bb a b a2 b2 c2, List.forall_mem_cons.mpr ⟨z9_134 E h0 p1 p2 h3 p4 p5 qp qm qs l1 l2 l3 l4 l5 l6 l7 l8 l9 l10 l11 l12 l13 l14 l15 ab bb a b a2 b2 c2, List.forall_mem_cons.mpr ⟨z9_135 E h0 p1 p2 h3 p4 p5 qp qm qs l1 l2 l3 l4 l5 l6 l7 l8 l9 l10 l11 l12 l13 l14 l15 ab bb a b a2 b2 c2, List.forall_mem_cons.mpr ⟨z9_136 E h0 p1 p2 h3 p4 p5 qp qm qs l1 l2 l3 l4 l5 l6 l7 l8 l9 l10 l11 l12 l13 l14 l15 ab bb a b a2 b2 c2, List.forall_mem_cons.mpr ⟨z9_137 E h0 p1 p2 h3 p4 p5 qp qm qs l1 l2 l3 l4 l5 l6 l7 l8 l9 l10 l11 l12 l13 l14 l15 ab bb a b a2 b2 c2, List.forall_mem_cons.mpr ⟨z9_138 E h0 p1 p2 h3 p4 p5 qp qm qs l1 l2 l3 l4 l5 l6 l7 l8 l9 l10 l11 l12 l13 l14 l15 ab bb a b a2 b2 c2, List.forall_mem_cons.mpr ⟨z9_139 E h0 p1 p2 h3 p4 p5 qp qm qs l1 l2 l3 l4 l5 l6 l7 l8 l9 l10 l11 l12 l13 l14 l15 ab bb a b a2 b2 c2, List.forall_mem_cons.mpr ⟨z9_140 E h0 p1 p2 h3 p4 p5 qp qm qs l1 l2 l3 l4 l5 l6 l7 l8 l9 l10 l11 l12 l13 l14 l15 ab bb a b a2 b2 c2, List.forall_mem_cons.mpr ⟨z9_141 E h0 p1 p2 h3 p4 p5 qp qm qs l1 l2 l3 l4 l5 l6 l7 l8 l9 l10 l11 l12 l13 l14 l15 ab bb a b a2 b2 c2, List.forall_mem_cons.mpr ⟨z9_142 E h0 p1 p2 h3 p4 p5 qp qm qs l1 l2 l3 l4 l5 l6 l7 l8 l9 l10 l11 l12 l13 l14 l15 ab bb a b a2 b2 c2, List.forall_mem_cons.mpr ⟨z9_143 E h0 p1 p2 h3 p4 p5 qp qm qs l1 l2 l3 l4 l5 l6 l7 l8 l9 l10 l11 l12 l13 l14 l15 ab bb a b a2 b2 c2, List.forall_mem_cons.mpr ⟨z9_144 E h0 p1 p2 h3 p4 p5 qp qm qs l1 l2 l3 l4 l5 l6 l7 l8 l9 l10 l11 l12 l13 l14 l15 ab bb a b a2 b2 c2, List.forall_mem_cons.mpr ⟨z9_145 E h0 p1 p2 h3 p4 p5 qp qm qs l1 l2 l3 l4 l5 l6 l7 l8 l9 l10 l11 l12 l13 l14 l15 ab bb a b a2 b2 c2, List.forall_mem_cons.mpr ⟨z9_146 E h0 p1 p2 h3 p4 p5 qp qm qs l1 l2 l3 l4 l5 l6 l7 l8 l9 l10 l11 l12 l13 l14 l15 ab bb a b a2 b2 c2, List.forall_mem_cons.mpr ⟨z9_147 E h0 p1 p2 h3 p4 p5 qp qm qs l1 l2 l3 l4 l5 l6 l7 l8 l9 l10 l11 l12 l13 l14 l15 ab bb a b a2 b2 c2, List.forall_mem_cons.mpr ⟨z9_148 E h0 p1 p2 h3 p4 p5 qp qm qs l1 l2 l3 l4 l5 l6 l7 l8 l9 l10 l11 l12 l13 l14 l15 ab bb a b a2 b2 c2, List.forall_mem_cons.mpr ⟨z9_149 E h0 p1 p2 h3 p4 p5 qp qm qs l1 l2 l3 l4 l5 l6 l7 l8 l9 l10 l11 l12 l13 l14 l15 ab bb a b a2 b2 c2, List.forall_mem_cons.mpr ⟨z9_150 E h0 p1 p2 h3 p4 p5 qp qm qs l1 l2 l3 l4 l5 l6 l7 l8 l9 l10 l11 l12 l13 l14 l15 ab bb a b a2 b2 c2, List.forall_mem_cons.mpr ⟨z9_151 E h0 p1 p2 h3 p4 p5 qp qm qs l1 l2 l3 l4 l5 l6 l7 l8 l9 l10 l11 l12 l13 l14 l15 ab bb a b a2 b2 c2, List.forall_mem_cons.mpr ⟨z9_152 E h0 p1 p2 h3 p4 p5 qp qm qs l1 l2 l3 l4 l5 l6 l7 l8 l9 l10 l11 l12 l13 l14 l15 ab bb a b a2 b2 c2, List.forall_mem_cons.mpr ⟨z9_153 E h0 p1 p2 h3 p4 p5 qp qm qs l1 l2 l3 l4 l5 l6 l7 l8 l9 l10 l11 l12 l13 l14 l15 ab bb a b a2 b2 c2, List.forall_mem_cons.mpr ⟨z9_154 E h0 p1 p2 h3 p4 p5 qp qm qs l1 l2 l3 l4 l5 l6 l7 l8 l9 l10 l11 l12 l13 l14 l15 ab bb a b a2 b2 c2, List.forall_mem_cons.mpr ⟨z9_155 E h0 p1 p2 h3 p4 p5 qp qm qs l1 l2 l3 l4 l5 l6 l7 l8 l9 l10 l11 l12 l13 l14 l15 ab bb a b a2 b2 c2, List.forall_mem_cons.mpr ⟨z9_156 E h0 p1 p2 h3 p4 p5 qp qm qs l1 l2 l3 l4 l5 l6 l7 l8 l9 l10 l11 l12 l13 l14 l15 ab bb a b a2 b2 c2, List.forall_mem_cons.mpr ⟨z9_157 E h0 p1 p2 h3 p4 p5 qp qm qs l1 l2 l3 l4 l5 l6 l7 l8 l9 l10 l11 l12 l13 l14 l15 ab bb a b a2 b2 c2, List.forall_mem_cons.mpr ⟨z9_158 E h0 p1 p2 h3 p4 p5 qp qm qs l1 l2 l3 l4 l5 l6 l7 l8 l9 l10 l11 l12 l13 l14 l15 ab bb a b a2 b2 c2, List.forall_mem_cons.mpr ⟨z9_159 E h0 p1 p2 h3 p4 p5 qp qm qs l1 l2 l3 l4 l5 l6 l7 l8 l9 l10 l11 l12 l13 l14 l15 ab bb a b a2 b2 c2, List.forall_mem_cons.mpr ⟨z9_160 E h0 p1 p2 h3 p4 p5 qp qm qs l1 l2 l3 l4 l5 l6 l7 l8 l9 l10 l11 l12 l13 l14 l15 ab bb a b a2 b2 c2, List.forall_mem_cons.mpr ⟨z9_161 E h0 p1 p2 h3 p4 p5 qp qm qs l1 l2 l3 l4 l5 l6 l7 l8 l9 l10 l11 l12 l13 l14 l15 ab bb a b a2 b2 c2, List.forall_mem_cons.mpr ⟨z9_162 E h0 p1 p2 h3 p4 p5 qp qm qs l1 l2 l3 l4 l5 l6 l7 l8 l9 l10 l11 l12 l13 l14 l15 ab bb a b a2 b2 c2, List.forall_mem_cons.mpr ⟨z9_163 E h0 p1 p2 h3 p4 p5 qp qm qs l1 l2 l3 l4 l5 l6 l7 l8 l9 l10 l11 l12 l13 l14 l15 ab bb a b a2 b2 c2, List.forall_mem_cons.mpr ⟨z9_164 E h0 p1 p2 h3 p4 p5 qp qm qs l1 l2 l3 l4 l5 l6 l7 l8 l9 l10 l11 l12 l13 l14 l15 ab bb a b a2 b2 c2, List.forall_mem_cons.mpr ⟨z9_165 E h0 p1 p2 h3 p4 p5 qp qm qs l1 l2 l3 l4 l5 l6 l7 l8 l9 l10 l11 l12 l13 l14 l15 ab bb a b a2 b2 c2, List.forall_mem_cons.mpr ⟨z9_166 E h0 p1 p2 h3 p4 p5 qp qm qs l1 l2 l3 l4 l5 l6 l7 l8 l9 l10 l11 l12 l13 l14 l15 ab bb a b a2 b2 c2, List.forall_mem_cons.mpr ⟨z9_167 E h0 p1 p2 h3 p4 p5 qp qm qs l1 l2 l3 l4 l5 l6 l7 l8 l9 l10 l11 l12 l13 l14 l15 ab bb a b a2 b2 c2, List.forall_mem_cons.mpr ⟨z9_168 E h0 p1 p2 h3 p4 p5 qp qm qs l1 l2 l3 l4 l5 l6 l7 l8 l9 l10 l11 l12 l13 l14 l15 ab bb a b a2 b2 c2, List.forall_mem_cons.mpr ⟨z9_169 E h0 p1 p2 h3 p4 p5 qp qm qs l1 l2 l3 l4 l5 l6 l7 l8 l9 l10 l11 l12 l13 l14 l15 ab bb a b a2 b2 c2, List.forall_mem_cons.mpr ⟨z9_170 E h0 p1 p2 h3 p4 p5 qp qm qs l1 l2 l3 l4 l5 l6 l7 l8 l9 l10 l11 l12 l13 l14 l15 ab bb a b a2 b2 c2, List.forall_mem_cons.mpr ⟨z9_171 E h0 p1 p2 h3 p4 p5 qp qm qs l1 l2 l3 l4 l5 l6 l7 l8 l9 l10 l11 l12 l13 l14 l15 ab bb a b a2 b2 c2, List.forall_mem_cons.mpr ⟨z9_172 E h0 p1 p2 h3 p4 p5 qp qm qs l1 l2 l3 l4 l5 l6 l7 l8 l9 l10 l11 l12 l13 l14 l15 ab bb a b a2 b2 c2, List.forall_mem_cons.mpr ⟨z9_173 E h0 p1 p2 h3 p4 p5 qp qm qs l1 l2 l3 l4 l5 l6 l7 l8 l9 l10 l11 l12 l13 l14 l15 ab bb a b a2 b2 c2, List.forall_mem_cons.mpr ⟨z9_174 E h0 p1 p2 h3 p4 p5 qp qm qs l1 l2 l3 l4 l5 l6 l7 l8 l9 l10 l11 l12 l13 l14 l15 ab bb a b a2 b2 c2, List.forall_mem_cons.mpr ⟨z9_175 E h0 p1 p2 h3 p4 p5 qp qm qs l1 l2 l3 l4 l5 l6 l7 l8 l9 l10 l11 l12 l13 l14 l15 ab bb a b a2 b2 c2, List.forall_mem_cons.mpr ⟨z9_176 E h0 p1 p2 h3 p4 p5 qp qm qs l1 l2 l3 l4 l5 l6 l7 l8 l9 l10 l11 l12 l13 l14 l15 ab bb a b a2 b2 c2, List.forall_mem_cons.mpr ⟨z9_177 E h0 p1 p2 h3 p4 p5 qp qm qs l1 l2 l3 l4 l5 l6 l7 l8 l9 l10 l11 l12 l13 l14 l15 ab bb a b a2 b2 c2, List.forall_mem_cons.mpr ⟨z9_178 E h0 p1 p2 h3 p4 p5 qp qm qs l1 l2 l3 l4 l5 l6 l7 l8 l9 l10 l11 l12 l13 l14 l15 ab bb a b a2 b2 c2, List.forall_mem_cons.mpr ⟨z9_179 E h0 p1 p2 h3 p4 p5 qp qm qs l1 l2 l3 l4 l5 l6 l7 l8 l9 l10 l11 l12 l13 l14 l15 ab bb a b a2 b2 c2, List.forall_mem_cons.mpr ⟨z9_180 E h0 p1 p2 h3 p4 p5 qp qm qs l1 l2 l3 l4 l5 l6 l7 l8 l9 l10 l11 l12 l13 l14 l15 ab bb a b a2 b2 c2, List.forall_mem_cons.mpr ⟨z9_181 E h0 p1 p2 h3 p4 p5 qp qm qs l1 l2 l3 l4 l5 l6 l7 l8 l9 l10 l11 l12 l13 l14 l15 ab bb a b a2 b2 c2, fun _ h => absurd h List.not_mem_nil⟩⟩⟩⟩⟩⟩⟩⟩⟩⟩⟩⟩⟩⟩⟩⟩⟩⟩⟩⟩⟩⟩⟩⟩⟩⟩⟩⟩⟩⟩⟩⟩⟩⟩⟩⟩⟩⟩⟩⟩⟩⟩⟩⟩⟩⟩⟩⟩⟩⟩⟩⟩⟩⟩⟩⟩⟩⟩⟩⟩⟩⟩⟩⟩⟩⟩⟩⟩⟩⟩⟩⟩⟩⟩⟩⟩⟩⟩⟩⟩⟩⟩⟩⟩⟩⟩⟩⟩⟩⟩⟩⟩⟩⟩⟩⟩⟩⟩⟩⟩⟩⟩⟩⟩⟩⟩⟩⟩⟩⟩⟩⟩⟩⟩⟩⟩⟩⟩⟩⟩⟩⟩⟩⟩⟩⟩⟩⟩⟩⟩⟩⟩⟩⟩⟩⟩⟩⟩⟩⟩⟩⟩⟩⟩⟩⟩⟩⟩⟩⟩⟩⟩⟩⟩⟩⟩⟩⟩⟩⟩⟩⟩⟩⟩⟩⟩⟩⟩⟩⟩⟩⟩⟩⟩⟩⟩⟩⟩⟩⟩⟩⟩
  intro k hk
  exact h k (List.mem_range.mpr hk)
