/-! moving parts of the relation -/
theorem fm_up_ne {mu : fm_T} {k j k2 : Nat} {x : Int32} (h : k2 ≠ k) : fm_up mu k j x k2 = mu k2 := va_up_ne _ _ h
theorem fm_up_id (mu : fm_T) (k j : Nat) : fm_up mu k j (mu k j) = mu := by
  funext k2 j2
  rw [fm_up_val]
  by_cases h : k2 = k ∧ j2 = j
  · rw [if_pos h, h.1, h.2]
  · rw [if_neg h]
theorem va_up_id (mu : fm_T) (k : Nat) : va_up mu k (mu k) = mu := by
  funext k2
  unfold va_up
  by_cases h : k2 = k
  · rw [if_pos h, h]
  · rw [if_neg h]
theorem CliR_mu {mu mu2 nu : fm_T} {c : Nat} (h81 : mu2 (81 + 6 * c) = mu (81 + 6 * c)) (h82 : mu2 (82 + 6 * c) = mu (82 + 6 * c)) (h83 : mu2 (83 + 6 * c) = mu (83 + 6 * c)) (h : CliR mu nu c) : CliR mu2 nu c := by
  unfold CliR at h ⊢
  rw [h81, h82, h83]
  exact h
theorem AccR_mu {mu mu2 nu : fm_T} {c : Nat} (h84 : mu2 (84 + 6 * c) = mu (84 + 6 * c)) (h85 : mu2 (85 + 6 * c) = mu (85 + 6 * c)) (h86 : mu2 (86 + 6 * c) = mu (86 + 6 * c)) (h : AccR mu nu c) : AccR mu2 nu c := by
  unfold AccR at h ⊢
  rw [h84, h85, h86]
  exact h
/-- a packet in another place, beside a reference that has gone on -/
theorem PkR_of {mu nu mu2 nu2 : fm_T} {q i q2 i2 : Nat} (hS : SafM nu) (hp : RIp nu i) (h7 : mu2 (7 + 3 * q2) = mu (7 + 3 * q)) (h8 : mu2 (8 + 3 * q2) = mu (8 + 3 * q)) (h9 : mu2 (9 + 3 * q2) = mu (9 + 3 * q)) (h10 : ∀ k, k < 5 → nu2 10 (5 * i2 + k) = nu 10 (5 * i + k)) (h3 : nu 10 (5 * i + 1) = 1 → ∀ t, t ≤ rT nu → ∀ k, k < 8 → nu2 3 (8 * t + k) = nu 3 (8 * t + k)) (h5 : ∀ c k, c < 3 → 1 ≤ k → k ≤ rI nu c → nu2 5 (513 * c + k) = nu 5 (513 * c + k)) (h : PkR mu nu q i) : PkR mu2 nu2 q2 i2 := by
  have hC := n_pC hS i
  have e0 : nu2 10 (5 * i2) = nu 10 (5 * i) := h10 0 (by decide)
  have eC : pC nu2 i2 = pC nu i := by unfold pC; rw [e0]
  have eT : pT nu2 i2 = pT nu i := by unfold pT; rw [h10 2 (by decide)]
  have eM : pM nu2 i2 = pM nu i := by unfold pM; rw [h10 3 (by decide)]
  have eO : pO nu2 i2 = pO nu i := by unfold pO; rw [h10 4 (by decide)]
  obtain ⟨a0, a1, a2, a3, a4, a5, a6⟩ := h
  unfold PkR
  rw [h7, h8, h9, e0, h10 1 (by decide), h10 2 (by decide), h10 3 (by decide), h10 4 (by decide), eC, eT, eM, eO]
  refine ⟨a0, a1, ?_, a3, a4, fun z => ⟨(a5 z).1, fun j hj => ?_⟩, fun z => ⟨(a6 z).1, fun e he => ?_⟩⟩
  · rw [a2]
    exact (size_cg hS hp (n_T hS).2 h3 h10).symm
  · rw [(a5 z).2 j hj]
    rcases hp with ⟨-, b1, b2, b3, b4⟩ | ⟨b0, -⟩
    · exact (h5 _ _ hC.2 (by omega) (by omega)).symm
    · rw [z] at b0
      exact absurd b0 (by decide)
  · rw [(a6 z).2 e he]
    rcases hp with ⟨b0, -⟩ | ⟨-, b1, b2, -⟩
    · rw [z] at b0
      exact absurd b0 (by decide)
    · exact (shw_cg (by have := (n_pT hS i).2; omega) (h3 z _ b2) (by omega) he).symm
