/-! the start -/
def nu0 : fm_T := fun k j => if k = 3 then (if j < 8 then nI (2 * j) else 0) else 0
theorem nu0_3 (j : Nat) : nu0 3 j = if j < 8 then nI (2 * j) else 0 := if_pos rfl
theorem nu0_o {k : Nat} (h : k ≠ 3) (j : Nat) : nu0 k j = 0 := if_neg h
theorem v0 {n : Nat} (h : 0 < n) (h2 : n < 2 ^ 31) : vp_in (0 : Int32) n := vp_in_nI (n := 0) h h2
theorem safC0 : SafC mu0 := by
  intro k j
  refine ⟨fun h => ?_, fun h hj => ?_, fun i hi h => ⟨fun hj => ?_, fun hj => ?_⟩, fun i hi h => ?_, fun i hi h => ?_, fun i hi h => ?_⟩
  · rw [h, mu0_lo (by decide) (by decide) (by decide)]
    exact v0 (by decide) (by decide)
  · rw [h, mu0_lo (by decide) (by decide) (by decide)]
    exact v0 (by decide) (by decide)
  · rw [h, mu0_lo (by omega) (by omega) (by omega)]
    exact v0 (by decide) (by decide)
  · rw [h, mu0_lo (by omega) (by omega) (by omega)]
    exact Or.inl rfl
  · rw [h, mu0_lo (by omega) (by omega) (by omega)]
    exact v0 (by decide) (by decide)
  · rw [h, mu0_Ccm]
    exact v0 (by decide) (by decide)
  · rw [h, mu0_Ahe]
    show (if j < 16 then (-1 : Int32) else 0) = -1 ∨ vp_in (if j < 16 then (-1 : Int32) else 0) 5
    by_cases z : j < 16
    · rw [if_pos z]
      exact Or.inl rfl
    · rw [if_neg z]
      exact Or.inr (v0 (by decide) (by decide))
theorem safM0 : SafM nu0 := by
  intro k j
  refine ⟨fun h => ⟨fun _ => ?_, fun _ => ?_⟩, fun h => ?_, fun h => ⟨fun _ => ?_, fun _ => ?_⟩⟩
  · rw [nu0_o (by omega)]
    exact v0 (by decide) (by decide)
  · rw [nu0_o (by omega)]
    exact v0 (by decide) (by decide)
  · rw [nu0_o (by omega)]
    exact v0 (by decide) (by decide)
  · rw [nu0_o (by omega)]
    exact v0 (by decide) (by decide)
  · rw [nu0_o (by omega)]
    exact v0 (by decide) (by decide)
theorem rel_0 : Rel 0 mu0 nu0 := by
  have t0 : ∀ k j, k ≠ 3 → tn (nu0 k j) = 0 := fun k j h => by rw [nu0_o h]; rfl
  have eT : rT nu0 = 0 := t0 0 2 (by decide)
  have eZ : rZ nu0 = 0 := t0 0 11 (by decide)
  have eI : ∀ c, rI nu0 c = 0 := fun c => t0 7 c (by decide)
  have eA : ∀ c, rA nu0 c = 0 := fun c => t0 8 c (by decide)
  have eW : ∀ c, rW nu0 c = 0 := fun c => t0 9 c (by decide)
  have eD : ∀ t c, rD nu0 t c = 0 := fun t c => t0 4 _ (by decide)
  refine ⟨⟨by rw [eT]; exact Nat.le_refl _, fun t e ht he => ?_, fun e e1 e2 => ?_, fun c hc => ?_, fun i hi => by rw [eZ] at hi; omega⟩, ⟨⟨?_, ?_⟩, fun i hi => ?_, fun e he => ?_, fun e e1 e2 => ?_, fun i j hi hj hij => ?_, fun i hi => by rw [eZ] at hi; omega, fun c hc => ?_, fun c hc => ?_⟩, safC0, safM0⟩
  · rw [eT] at ht
    rw [show 8 * t + e = e by omega, nu0_3, if_pos he]
    exact vp_in_nI (by omega) (by decide)
  · rw [nu0_o (by decide)]
    exact v0 (by decide) (by decide)
  · unfold RIc
    rw [eI, eW, eT, eA, eD]
    refine ⟨Nat.le_refl _, Nat.le_refl _, Nat.le_refl _, Nat.le_refl _, by omega, fun t ht => by omega, fun k k1 k2 => by omega, fun k k1 k2 k3 => ?_⟩
    exact absurd (nu0_o (by decide) _) k3
  · rw [mu0_lo (by decide) (by decide) (by decide), nu0_o (by decide)]
  · rw [mu0_lo (by decide) (by decide) (by decide), nu0_o (by decide)]
  · rw [mu0_lo (by decide) (by decide) (by decide), nu0_o (by decide)]
  · rw [mu0_3, eT, show 8 * 0 + e = e by omega, nu0_3]
  · rw [mu0_lo (by decide) (by decide) (by decide), nu0_o (by decide)]
  · rw [mu0_6] at hij
    unfold pn at hij
    rw [nI_clamp (by omega), nI_clamp (by omega)] at hij
    omega
  · unfold CliR
    rw [mu0_C, eW, eI, eD, nu0_o (by decide), nu0_o (by decide), nu0_o (by decide), nu0_3, if_pos (by omega), mu0_Csh]
    refine ⟨rfl, rfl, rfl, rfl, fun e he => ?_, fun k k1 k2 => by omega⟩
    rw [if_pos rfl]
    exact if_pos he
  · unfold AccR hld
    rw [mu0_A, eT, eD, eI, nu0_o (by decide), nu0_o (by decide), mu0_Ahe]
    refine ⟨rfl, rfl, fun k k1 k2 => ?_, fun t t1 t2 => by omega⟩
    rw [if_neg (show ¬ (k ≤ 0 ∧ ¬ nu0 6 (513 * c + k) = 0) from fun w => by omega)]
    exact if_pos (by omega)
