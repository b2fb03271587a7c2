/-! ===== the numbers of no cell (168 to 191), as whole's invariant wants them ===== -/
def zAg (σ τ : zS) : Prop := ∀ k, (k < 168 ∨ 192 ≤ k) → τ k = σ k
noncomputable def zG (σ : zS) : zS := @dite _ (∃ τ, zAg σ τ ∧ Iv 1000000000 τ) (Classical.propDecidable _) (fun h => h.choose) (fun _ => σ)
theorem zG_ok (σ : zS) : ∀ k, (k < 168 ∨ 192 ≤ k) → zG σ k = σ k := by
  unfold zG
  by_cases h : ∃ τ, zAg σ τ ∧ Iv 1000000000 τ
  · rw [dif_pos h]
    exact h.choose_spec.1
  · rw [dif_neg h]
    exact fun _ _ => rfl
theorem zG_iv {σ τ : zS} {B : Int} (h : zAg σ τ) (hI : Iv B τ) : Iv 1000000000 (zG σ) := by
  have h1 : ∃ τ, zAg σ τ ∧ Iv 1000000000 τ := by
    refine ⟨τ, h, Iv_mono hI ?_ (by omega)⟩
    obtain ⟨n, sn, tn, pn, mn, hA, hT, hN, hS, hP⟩ := hI
    obtain ⟨b1, b2, b3, b4⟩ := hN
    exact b4
  unfold zG
  rw [dif_pos h1]
  exact h1.choose_spec.2
