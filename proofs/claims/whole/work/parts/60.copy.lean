/-! copy -/
theorem bl_eq {mu : fm_T} {q q2 : Nat} (hne : q ≠ q2) : f_P_becomeLike mu q q2 = va_up (fm_up (va_up (fm_up (fm_up (fm_up (fm_up (fm_up (fm_up mu (7 + 3 * q) 0 (mu (7 + 3 * q2) 0)) (7 + 3 * q) 1 (mu (7 + 3 * q2) 1)) (7 + 3 * q) 2 (mu (7 + 3 * q2) 2)) (7 + 3 * q) 3 (mu (7 + 3 * q2) 3)) (7 + 3 * q) 4 (mu (7 + 3 * q2) 4)) (7 + 3 * q) 5 (mu (7 + 3 * q2) 5)) (8 + 3 * q) (va_cpy (mu (8 + 3 * q2)) (mu (8 + 3 * q)) 0 0 8)) (7 + 3 * q) 7 (mu (7 + 3 * q2) 7)) (9 + 3 * q) (va_cpy (mu (9 + 3 * q2)) (mu (9 + 3 * q)) 0 0 4) := by
  have a1 : 7 + 3 * q2 ≠ 7 + 3 * q := by omega
  have a2 : 8 + 3 * q2 ≠ 7 + 3 * q := by omega
  have a3 : 8 + 3 * q ≠ 7 + 3 * q := by omega
  have a4 : 9 + 3 * q2 ≠ 7 + 3 * q := by omega
  have a5 : 9 + 3 * q ≠ 7 + 3 * q := by omega
  have b1 : 7 + 3 * q2 ≠ 8 + 3 * q := by omega
  have b2 : 9 + 3 * q2 ≠ 8 + 3 * q := by omega
  have b3 : 9 + 3 * q ≠ 8 + 3 * q := by omega
  rw [e_P_becomeLike, e_P_becomeLike_16, e_P_becomeLike_32, e_P_becomeLike_48, e_P_becomeLike_63]
  simp only [fm_up_ne a1, fm_up_ne a2, fm_up_ne a3, fm_up_ne a4, fm_up_ne a5, va_up_ne _ _ b1, va_up_ne _ _ b2, va_up_ne _ _ b3]
theorem PkR_pt {mu nu mu2 nu2 : fm_T} {q i q2 i2 : Nat} (hS : SafM nu) (hp : RIp nu i) (h7 : ∀ j, j < 6 ∨ j = 7 → mu2 (7 + 3 * q2) j = mu (7 + 3 * q) j) (h8 : ∀ j, j < 8 → mu2 (8 + 3 * q2) j = mu (8 + 3 * q) j) (h9 : ∀ j, j < 4 → mu2 (9 + 3 * q2) j = mu (9 + 3 * q) j) (h10 : ∀ k, k < 5 → nu2 10 (5 * i2 + k) = nu 10 (5 * i + k)) (h3 : nu 10 (5 * i + 1) = 1 → ∀ t, t ≤ rT nu → ∀ k, k < 8 → nu2 3 (8 * t + k) = nu 3 (8 * t + k)) (h5 : ∀ c k, c < 3 → 1 ≤ k → k ≤ rI nu c → nu2 5 (513 * c + k) = nu 5 (513 * c + k)) (h : PkR mu nu q i) : PkR mu2 nu2 q2 i2 := by
  have hC := n_pC hS i
  have e0 : nu2 10 (5 * i2) = nu 10 (5 * i) := h10 0 (by decide)
  have eC : pC nu2 i2 = pC nu i := by unfold pC; rw [e0]
  have eT : pT nu2 i2 = pT nu i := by unfold pT; rw [h10 2 (by decide)]
  have eM : pM nu2 i2 = pM nu i := by unfold pM; rw [h10 3 (by decide)]
  have eO : pO nu2 i2 = pO nu i := by unfold pO; rw [h10 4 (by decide)]
  obtain ⟨a0, a1, a2, a3, a4, a5, a6⟩ := h
  unfold PkR
  rw [h7 0 (by decide), h7 1 (by decide), h7 2 (by decide), h7 3 (by decide), h7 4 (by decide), h7 5 (by decide), h7 7 (by decide), e0, h10 1 (by decide), h10 2 (by decide), h10 3 (by decide), h10 4 (by decide), eC, eT, eM, eO]
  refine ⟨a0, a1, ?_, a3, a4, fun z => ⟨(a5 z).1, fun j hj => ?_⟩, fun z => ⟨(a6 z).1, fun e he => ?_⟩⟩
  · rw [a2]
    exact (size_cg hS hp (n_T hS).2 h3 h10).symm
  · rcases hp with ⟨-, b1, b2, b3, b4⟩ | ⟨b0, -⟩
    · rw [h9 j (by omega), (a5 z).2 j hj]
      exact (h5 _ _ hC.2 (by omega) (by omega)).symm
    · rw [z] at b0
      exact absurd b0 (by decide)
  · rw [h8 e he, (a6 z).2 e he]
    rcases hp with ⟨b0, -⟩ | ⟨-, b1, b2, -⟩
    · rw [z] at b0
      exact absurd b0 (by decide)
    · exact (shw_cg (by have := (n_pT hS i).2; omega) (h3 z _ b2) (by omega) he).symm
theorem rel_copy {n : Nat} {mu nu : fm_T} (h : Rel n mu nu) (kk : Int32) : (f_D_copy mu kk).1 = (f_M_copy nu kk).1 ∧ Rel (n + 1) (f_D_copy mu kk).2 (f_M_copy nu kk).2 := by
  have hm := rel_mono h
  rw [e_D_copy, e_M_copy, rel_has h]
  by_cases h1 : f_M_there nu kk = 0
  · rw [if_pos h1, if_pos h1]
    exact ⟨rfl, hm⟩
  · rw [if_neg h1, if_neg h1]
    obtain ⟨k, hk, rfl⟩ := has_k h h1
    have h0 := h
    obtain ⟨⟨r1, r2, r3, r4, r5⟩, hCR, hC, hM⟩ := h0
    have hZ := n_Z hM
    rw [nI_clamp (by omega)]
    by_cases hz : rZ nu = 24
    · rw [addLast_none hCR hM hz, if_pos (by rw [hZ.1, hz]; rfl)]
      exact ⟨rfl, hm⟩
    · have hz : rZ nu < 24 := by omega
      rw [addLast_some hCR hM hz, if_neg (fun q => by rw [hZ.1] at q; have := (nI_eq (b := 24) (by omega) (by decide)).mp q; omega)]
      refine ⟨rfl, rel_mono ?_⟩
      show Rel n (f_P_becomeLike (fm_up mu 5 1 (nI (rZ nu + 1))) (pn (mu 6 (rZ nu))) (pn (mu 6 k))) (f_M_send nu (nu 10 (5 * k)) (nu 10 (5 * k + 1)) (nu 10 (5 * k + 2)) (nu 10 (5 * k + 3)) (nu 10 (5 * k + 4)))
      have hq := pn_lt (mu 6 (rZ nu))
      have hq2 := pn_lt (mu 6 k)
      have hinj := hCR.2.2.2.2.1
      have hne : pn (mu 6 (rZ nu)) ≠ pn (mu 6 k) := fun z => by
        have := hinj (rZ nu) k hz (by omega) z
        omega
      have hS1 : SafC (fm_up mu 5 1 (nI (rZ nu + 1))) := saf_up hC (ok_5 (vp_in_nI (by omega) (by decide)))
      have eb := bl_eq (mu := fm_up mu 5 1 (nI (rZ nu + 1))) hne
      rw [fm_up_ne (show 7 + 3 * pn (mu 6 k) ≠ 5 by omega), fm_up_ne (show 8 + 3 * pn (mu 6 k) ≠ 5 by omega), fm_up_ne (show 9 + 3 * pn (mu 6 k) ≠ 5 by omega), fm_up_ne (show 8 + 3 * pn (mu 6 (rZ nu)) ≠ 5 by omega), fm_up_ne (show 9 + 3 * pn (mu 6 (rZ nu)) ≠ 5 by omega)] at eb
      obtain ⟨no, n02, n011, n10, a0, a1, a2, a3, a4⟩ := send_rows hM hz (nu 10 (5 * k)) (nu 10 (5 * k + 1)) (nu 10 (5 * k + 2)) (nu 10 (5 * k + 3)) (nu 10 (5 * k + 4))
      have h10 : ∀ m, m < 5 → f_M_send nu (nu 10 (5 * k)) (nu 10 (5 * k + 1)) (nu 10 (5 * k + 2)) (nu 10 (5 * k + 3)) (nu 10 (5 * k + 4)) 10 (5 * rZ nu + m) = nu 10 (5 * k + m) := fun m hm5 => by
        rcases (show m = 0 ∨ m = 1 ∨ m = 2 ∨ m = 3 ∨ m = 4 by omega) with rfl | rfl | rfl | rfl | rfl
        · exact a0
        · exact a1
        · exact a2
        · exact a3
        · exact a4
      have c78 : 7 + 3 * pn (mu 6 (rZ nu)) ≠ 8 + 3 * pn (mu 6 (rZ nu)) := by omega
      have c79 : 7 + 3 * pn (mu 6 (rZ nu)) ≠ 9 + 3 * pn (mu 6 (rZ nu)) := by omega
      have c89 : 8 + 3 * pn (mu 6 (rZ nu)) ≠ 9 + 3 * pn (mu 6 (rZ nu)) := by omega
      have c87 : 8 + 3 * pn (mu 6 (rZ nu)) ≠ 7 + 3 * pn (mu 6 (rZ nu)) := by omega
      have hS2 : SafC (f_P_becomeLike (fm_up mu 5 1 (nI (rZ nu + 1))) (pn (mu 6 (rZ nu))) (pn (mu 6 k))) := by
        rw [eb]
        refine saf_row (saf_up (saf_row (saf_up (saf_up (saf_up (saf_up (saf_up (saf_up hS1 (ok_70 hq (saf_pc hC hq2))) (ok_71 hq (saf_b hC hq2))) (ok_7 hq (by decide) (by decide) _)) (ok_7 hq (by decide) (by decide) _)) (ok_7 hq (by decide) (by decide) _)) (ok_7 hq (by decide) (by decide) _)) (fun j => ok_8 hq _ _)) (ok_7 hq (by decide) (by decide) _)) (fun j => ok_9 hq ?_)
        unfold va_cpy
        split
        · exact saf_pcm hC hq2 _
        · exact saf_pcm hC hq _
      refine add_rel h hz (smf_a0 hM (k5 k)) (smf_a2 hM (k5 k)) (smf_a3 hM (k5 k)) (smf_a4 hM (k5 k)) ?_ (fun j j5 j7 j8 j9 => ?_) hS2 ?_ ?_
      · rw [eb, va_up_ne _ _ (by omega), fm_up_ne (by omega), va_up_ne _ _ (by omega), fm_up_ne (by omega), fm_up_ne (by omega), fm_up_ne (by omega), fm_up_ne (by omega), fm_up_ne (by omega), fm_up_ne (by omega), fm_up_same]
      · rw [eb, va_up_ne _ _ j9, fm_up_ne j7, va_up_ne _ _ j8, fm_up_ne j7, fm_up_ne j7, fm_up_ne j7, fm_up_ne j7, fm_up_ne j7, fm_up_ne j7, fm_up_ne j5]
      · refine RIp_of (i := k) h10 (fun c => Nat.le_of_eq ?_) (Nat.le_of_eq ?_) (fun c _ => Nat.le_of_eq ?_) (fun t c _ _ => ?_) hM (r5 k hk)
        · unfold rI
          rw [no 7 (by decide) (by decide)]
        · unfold rT
          rw [n02]
        · unfold rD rT
          rw [n02, no 4 (by decide) (by decide)]
        · unfold rD
          rw [no 4 (by decide) (by decide)]
      · refine PkR_pt hM (r5 k hk) (fun j hj => ?_) (fun j hj => ?_) (fun j hj => ?_) h10 (fun _ t _ m _ => by rw [no 3 (by decide) (by decide)]) (fun c m _ _ _ => by rw [no 5 (by decide) (by decide)]) (hCR.2.2.2.2.2.1 k hk)
        · rw [eb, va_up_ne _ _ c79]
          rcases (show j = 0 ∨ j = 1 ∨ j = 2 ∨ j = 3 ∨ j = 4 ∨ j = 5 ∨ j = 7 by omega) with rfl | rfl | rfl | rfl | rfl | rfl | rfl
          · rw [fm_up_slot (by decide), va_up_ne _ _ c78, fm_up_slot (by decide), fm_up_slot (by decide), fm_up_slot (by decide), fm_up_slot (by decide), fm_up_slot (by decide), fm_up_same]
          · rw [fm_up_slot (by decide), va_up_ne _ _ c78, fm_up_slot (by decide), fm_up_slot (by decide), fm_up_slot (by decide), fm_up_slot (by decide), fm_up_same]
          · rw [fm_up_slot (by decide), va_up_ne _ _ c78, fm_up_slot (by decide), fm_up_slot (by decide), fm_up_slot (by decide), fm_up_same]
          · rw [fm_up_slot (by decide), va_up_ne _ _ c78, fm_up_slot (by decide), fm_up_slot (by decide), fm_up_same]
          · rw [fm_up_slot (by decide), va_up_ne _ _ c78, fm_up_slot (by decide), fm_up_same]
          · rw [fm_up_slot (by decide), va_up_ne _ _ c78, fm_up_same]
          · rw [fm_up_same]
        · rw [eb, va_up_ne _ _ c89, fm_up_ne c87, va_up_self, pk_cpy_in (Nat.zero_le _) (by omega)]
          congr 1
          omega
        · rw [eb, va_up_self, pk_cpy_in (Nat.zero_le _) (by omega)]
          congr 1
          omega
