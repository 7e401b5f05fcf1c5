/-! a packet is added -/
section ADD
variable {n : Nat} {mu nu : fm_T}
theorem send_rows (hM : SafM nu) (hz : rZ nu < 24) (cc sn tk mo to : Int32) : (∀ j, j ≠ 0 → j ≠ 10 → f_M_send nu cc sn tk mo to j = nu j) ∧ f_M_send nu cc sn tk mo to 0 2 = nu 0 2 ∧ f_M_send nu cc sn tk mo to 0 11 = nI (rZ nu + 1) ∧ (∀ i, i < 5 * rZ nu → f_M_send nu cc sn tk mo to 10 i = nu 10 i) ∧
    f_M_send nu cc sn tk mo to 10 (5 * rZ nu) = cc ∧ f_M_send nu cc sn tk mo to 10 (5 * rZ nu + 1) = sn ∧ f_M_send nu cc sn tk mo to 10 (5 * rZ nu + 2) = tk ∧ f_M_send nu cc sn tk mo to 10 (5 * rZ nu + 3) = mo ∧ f_M_send nu cc sn tk mo to 10 (5 * rZ nu + 4) = to := by
  have hZ := n_Z hM
  have h24 : ¬ nu 0 11 = 24 := fun q => by
    rw [hZ.1] at q
    have := (nI_eq (b := 24) (by omega) (by decide)).mp q
    omega
  rw [e_M_send, if_neg h24, show (nu 0 11).toNatClampNeg = rZ nu from rfl]
  refine ⟨fun j j0 j10 => ?_, ?_, ?_, fun i hi => ?_, ?_, ?_, ?_, ?_, ?_⟩
  · rw [fm_up_ne j0, fm_up_ne j10, fm_up_ne j10, fm_up_ne j10, fm_up_ne j10, fm_up_ne j10]
  · rfl
  · rw [fm_up_same, fm_up_cell (by decide), fm_up_cell (by decide), fm_up_cell (by decide), fm_up_cell (by decide), fm_up_cell (by decide), hZ.1, nI_1]
  · rw [fm_up_cell (by decide), fm_up_slot (by omega), fm_up_slot (by omega), fm_up_slot (by omega), fm_up_slot (by omega), fm_up_slot (by omega)]
  · rw [fm_up_cell (by decide), fm_up_slot (by omega), fm_up_slot (by omega), fm_up_slot (by omega), fm_up_slot (by omega), fm_up_same]
  · rw [fm_up_cell (by decide), fm_up_slot (by omega), fm_up_slot (by omega), fm_up_slot (by omega), fm_up_same]
  · rw [fm_up_cell (by decide), fm_up_slot (by omega), fm_up_slot (by omega), fm_up_same]
  · rw [fm_up_cell (by decide), fm_up_slot (by omega), fm_up_same]
  · rw [fm_up_cell (by decide), fm_up_same]
theorem send_full (hM : SafM nu) (hz : rZ nu = 24) (cc sn tk mo to : Int32) : f_M_send nu cc sn tk mo to = nu := by
  rw [e_M_send, if_pos]
  rw [(n_Z hM).1, hz]
  rfl
theorem addLast_some (hC : CR mu nu) (hM : SafM nu) (hz : rZ nu < 24) : f_N_addLast mu = (some (mu 6 (rZ nu)), fm_up mu 5 1 (nI (rZ nu + 1))) := by
  have hZ := n_Z hM
  rw [e_N_addLast, hC.1.2, hZ.1, if_pos (show nI (rZ nu) < 24 from nI_lt (b := 24) hz (by decide)), nI_clamp (by omega), nI_1]
theorem addLast_none (hC : CR mu nu) (hM : SafM nu) (hz : rZ nu = 24) : f_N_addLast mu = (none, mu) := by
  have hZ := n_Z hM
  rw [e_N_addLast, hC.1.2, hZ.1, hz, if_neg (by decide)]
theorem add_rel (h : Rel n mu nu) (hz : rZ nu < 24) {cc sn tk mo to : Int32} (vc : vp_in cc 3) (vt : vp_in tk 513) (vm : vp_in mo 513) (vo : vp_in to 513) {mu2 : fm_T} (m5 : mu2 5 1 = nI (rZ nu + 1)) (mo2 : ∀ j, j ≠ 5 → j ≠ 7 + 3 * pn (mu 6 (rZ nu)) → j ≠ 8 + 3 * pn (mu 6 (rZ nu)) → j ≠ 9 + 3 * pn (mu 6 (rZ nu)) → mu2 j = mu j) (hS2 : SafC mu2) (hr : RIp (f_M_send nu cc sn tk mo to) (rZ nu)) (hp : PkR mu2 (f_M_send nu cc sn tk mo to) (pn (mu 6 (rZ nu))) (rZ nu)) : Rel n mu2 (f_M_send nu cc sn tk mo to) := by
  obtain ⟨⟨r1, r2, r3, r4, r5⟩, ⟨⟨ha, hz5⟩, hw, hpl, hd, hinj, hpk, hcl, hac⟩, hC, hM⟩ := h
  have hSM2 : SafM (f_M_send nu cc sn tk mo to) := smf_send hM vc vt vm vo
  obtain ⟨no, n02, n011, n10, -⟩ := send_rows hM hz cc sn tk mo to
  generalize f_M_send nu cc sn tk mo to = nu2 at *
  have hq := pn_lt (mu 6 (rZ nu))
  have eT : rT nu2 = rT nu := by unfold rT; rw [n02]
  have eZ : rZ nu2 = rZ nu + 1 := by unfold rZ; rw [n011]; exact nI_clamp (by omega)
  have eW : ∀ c, rW nu2 c = rW nu c := fun c => by unfold rW; rw [no 9 (by decide) (by decide)]
  have eA : ∀ c, rA nu2 c = rA nu c := fun c => by unfold rA; rw [no 8 (by decide) (by decide)]
  have eI : ∀ c, rI nu2 c = rI nu c := fun c => by unfold rI; rw [no 7 (by decide) (by decide)]
  have eD : ∀ t c, rD nu2 t c = rD nu t c := fun t c => by unfold rD; rw [no 4 (by decide) (by decide)]
  have e3 : ∀ t, ∀ k, k < 8 → nu2 3 (8 * t + k) = nu 3 (8 * t + k) := fun t k _ => by rw [no 3 (by decide) (by decide)]
  refine ⟨⟨by rw [eT]; exact r1, fun t e ht he => ?_, fun e e1 e2 => ?_, fun c hc => ?_, fun i hi => ?_⟩, ⟨⟨?_, ?_⟩, fun i hi => ?_, fun e he => ?_, fun e e1 e2 => ?_, ?_, fun i hi => ?_, fun c hc => ?_, fun c hc => ?_⟩, hS2, hSM2⟩
  · rw [no 3 (by decide) (by decide)]
    exact r2 t e (by rw [← eT]; exact ht) he
  · rw [no 2 (by decide) (by decide)]
    exact r3 e e1 e2
  · have q := r4 c hc
    unfold RIc at q ⊢
    rw [eT, eW, eA, eI, no 5 (by decide) (by decide), no 6 (by decide) (by decide)]
    simp only [eD]
    exact q
  · rcases Nat.lt_or_ge i (rZ nu) with z | z
    · exact RIp_of (i := i) (fun k hk => n10 _ (by omega)) (fun c => by rw [eI]; exact Nat.le_refl _) (by rw [eT]; exact Nat.le_refl _) (fun c _ => by rw [eT, eD]; exact Nat.le_refl _) (fun t c _ _ => eD t c) hM (r5 i z)
    · rw [eZ] at hi
      rw [show i = rZ nu by omega]
      exact hr
  · rw [mo2 0 (by omega) (by omega) (by omega) (by omega), n02]
    exact ha
  · rw [m5, n011]
  · rw [mo2 2 (by omega) (by omega) (by omega) (by omega), no 1 (by decide) (by decide)]
    exact hw i hi
  · rw [mo2 3 (by omega) (by omega) (by omega) (by omega), no 3 (by decide) (by decide), eT]
    exact hpl e he
  · rw [mo2 4 (by omega) (by omega) (by omega) (by omega), no 2 (by decide) (by decide)]
    exact hd e e1 e2
  · intro i j hi hj
    rw [mo2 6 (by omega) (by omega) (by omega) (by omega)]
    exact hinj i j hi hj
  · rw [mo2 6 (by omega) (by omega) (by omega) (by omega)]
    rcases Nat.lt_or_ge i (rZ nu) with z | z
    · have hne : pn (mu 6 i) ≠ pn (mu 6 (rZ nu)) := fun q => by
        have := hinj i (rZ nu) (by omega) hz q
        omega
      have hqi := pn_lt (mu 6 i)
      exact PkR_of hM (r5 i z) (mo2 _ (by omega) (by omega) (by omega) (by omega)) (mo2 _ (by omega) (by omega) (by omega) (by omega)) (mo2 _ (by omega) (by omega) (by omega) (by omega)) (fun k hk => n10 _ (by omega)) (fun _ t _ => e3 t) (fun c k _ _ _ => by rw [no 5 (by decide) (by decide)]) (hpk i z)
    · rw [eZ] at hi
      rw [show i = rZ nu by omega]
      exact hp
  · have q := hcl c hc
    have hW2 := (n_W hM c).2
    refine CliR_mu (mu := mu) (mo2 _ (by omega) (by omega) (by omega) (by omega)) (mo2 _ (by omega) (by omega) (by omega) (by omega)) (mo2 _ (by omega) (by omega) (by omega) (by omega)) ?_
    unfold CliR at q ⊢
    rw [no 7 (by decide) (by decide), no 9 (by decide) (by decide), no 4 (by decide) (by decide), no 3 (by decide) (by decide), no 5 (by decide) (by decide), eW, eI, eD]
    refine ⟨q.1, q.2.1, q.2.2.1, q.2.2.2.1, fun e he => ?_, q.2.2.2.2.2⟩
    rw [q.2.2.2.2.1 e he, shw_cg (nu := nu) (nu2 := nu2) (by omega) (e3 _) (by omega) he]
  · have q := hac c hc
    have hT := n_T hM
    refine AccR_mu (mu := mu) (mo2 _ (by omega) (by omega) (by omega) (by omega)) (mo2 _ (by omega) (by omega) (by omega) (by omega)) (mo2 _ (by omega) (by omega) (by omega) (by omega)) ?_
    unfold AccR hld at q ⊢
    rw [no 8 (by decide) (by decide), no 4 (by decide) (by decide), no 5 (by decide) (by decide), no 6 (by decide) (by decide), eT, eI, eD]
    refine ⟨q.1, q.2.1, q.2.2.1, fun t t1 t2 t3 e he => ?_⟩
    rw [q.2.2.2 t t1 t2 t3 e he, shw_cg (nu := nu) (nu2 := nu2) (by omega) (e3 _) (by omega) he]
end ADD
