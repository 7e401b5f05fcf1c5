/-! report -/
theorem wr35_eq {c p s M : Nat} (hc : c < 3) (hp : p < 24) (hM : M ≤ 4) (hs : s < 2 ^ 30) : ∀ (m n : Nat) (mu : fm_T) (j : Nat), mu (7 + 3 * p) 7 = nI M → mu (81 + 6 * c) 4 = nI s → j + m = M → m < n → f_C_writeReport_35 n mu c p j = fm_up (va_up mu (9 + 3 * p) (fun i => if j ≤ i ∧ i < M then mu (82 + 6 * c) ((s + 1 + i) % 16) else mu (9 + 3 * p) i)) (7 + 3 * p) 2 (nI (23 + 3 * M)) := by
  intro m
  induction m with
  | zero =>
    intro n mu j h1 h2 h3 h4
    obtain ⟨n, rfl⟩ : ∃ z, n = z + 1 := ⟨n - 1, by omega⟩
    have e : (fun i => if j ≤ i ∧ i < M then mu (82 + 6 * c) ((s + 1 + i) % 16) else mu (9 + 3 * p) i) = mu (9 + 3 * p) := by
      funext i
      rw [if_neg (by omega)]
    rw [e_C_writeReport_35, h1, if_pos (nI_le (by omega) (by omega)), e, va_up_id, show (23 : Int32) = nI 23 from rfl, show (3 : Int32) = nI 3 from rfl, pk_mul, nI_add]
  | succ m ih =>
    intro n mu j h1 h2 h3 h4
    obtain ⟨n, rfl⟩ : ∃ z, n = z + 1 := ⟨n - 1, by omega⟩
    rw [e_C_writeReport_35, h1, if_neg (nI_ge (by omega) (by omega)), cmdAt_eq h2 (by omega), ih n _ (j + 1) (by rw [fm_up_ne (by omega)]; exact h1) (by rw [fm_up_ne (by omega)]; exact h2) (by omega) (by omega), fm_up_ne (show 82 + 6 * c ≠ 9 + 3 * p by omega)]
    congr 1
    unfold fm_up
    rw [bx_uu]
    congr 1
    funext i
    rw [va_up_self]
    unfold upd
    by_cases a : j + 1 ≤ i ∧ i < M
    · rw [if_pos a, if_pos (by omega)]
    · rw [if_neg a]
      by_cases b : i = j
      · rw [if_pos b, if_pos (by omega), b]
      · rw [if_neg b, if_neg (by omega)]
/-- what writing a report does -/
theorem wrep_eq {mu : fm_T} {c p s I : Nat} (hc : c < 3) (hp : p < 24) (hs : mu (81 + 6 * c) 4 = nI s) (hI : mu (81 + 6 * c) 3 = nI I) (h1 : s ≤ I) (h2 : I < 2 ^ 30) {M : Nat} (hM : M = if I - s ≤ 4 then I - s else 4) : f_C_writeReport mu c p = fm_up (va_up (fm_up (fm_up (fm_up (fm_up mu (7 + 3 * p) 1 0) (7 + 3 * p) 3 (mu (81 + 6 * c) 5)) (7 + 3 * p) 4 (nI s)) (7 + 3 * p) 7 (nI M)) (9 + 3 * p) (fun i => if i < M then mu (82 + 6 * c) ((s + 1 + i) % 16) else mu (9 + 3 * p) i)) (7 + 3 * p) 2 (nI (23 + 3 * M)) := by
  have k1 : 81 + 6 * c ≠ 7 + 3 * p := by omega
  have k2 : 82 + 6 * c ≠ 7 + 3 * p := by omega
  have k3 : 9 + 3 * p ≠ 7 + 3 * p := by omega
  have hM4 : M ≤ 4 := by
    rw [hM]
    split <;> omega
  rw [e_C_writeReport, e_C_unseenCommands]
  simp only [fm_up_ne k1]
  rw [hs, hI, pk_sub h1]
  have e : (if 4 < nI (I - s) then (4 : Int32) else nI (I - s)) = nI M := by
    rw [hM]
    by_cases q : I - s ≤ 4
    · rw [if_neg (show ¬ (4 : Int32) < nI (I - s) from nI_nlt (a := 4) q (by decide)), if_pos q]
    · rw [if_pos (show (4 : Int32) < nI (I - s) from nI_lt (a := 4) (by omega) (by omega)), if_neg q]
      rfl
  rw [e, wr35_eq (s := s) hc hp hM4 (by omega) M 5 _ 0 (fm_up_same _ _ _ _) (by simp only [fm_up_ne k1]; exact hs) (by omega) (by omega)]
  simp only [fm_up_ne k2, fm_up_ne k3]
  congr 2
  funext i
  by_cases q : i < M
  · rw [if_pos ⟨Nat.zero_le _, q⟩, if_pos q]
  · rw [if_neg (fun z => q z.2), if_neg q]
theorem rel_report {n : Nat} {mu nu : fm_T} (h : Rel n mu nu) (cli : Int32) : (f_D_report mu cli).1 = (f_M_report nu cli).1 ∧ Rel (n + 1) (f_D_report mu cli).2 (f_M_report nu cli).2 := by
  have hm := rel_mono h
  have h0 := h
  obtain ⟨⟨r1, r2, r3, r4, r5⟩, hCR, hC, hM⟩ := h0
  rw [e_D_report, e_M_report]
  by_cases h1 : f_D_isClient cli = 0
  · rw [if_pos h1, if_pos (show f_M_client cli = 0 from h1)]
    exact ⟨rfl, hm⟩
  · rw [if_neg h1, if_neg (show ¬ f_M_client cli = 0 from h1)]
    obtain ⟨c, hc, rfl⟩ := vp_in_of (cl_in h1) (by decide)
    rw [nI_clamp (by omega)]
    obtain ⟨q1, q2, q3, q4, q5, q6, q7, q8⟩ := r4 c hc
    obtain ⟨g1, g2, g3, g4, g5, g6⟩ := hCR.2.2.2.2.2.2.1 c hc
    have hmo := mono_D (r4 c hc) (rT nu) (rW nu c) q2 (Nat.le_refl _)
    have hW := n_W hM c
    have hI := n_I hM c
    have hD := n_D hM (rW nu c) c
    have hZ := n_Z hM
    have hse : f_M_seen nu (nI c) = nI (rD nu (rW nu c) c) := by rw [e_M_seen, nI_clamp (by omega), hW.1, lin3 (by omega), hD.1]
    obtain ⟨M, hMM⟩ : ∃ M, M = if rI nu c - rD nu (rW nu c) c ≤ 4 then rI nu c - rD nu (rW nu c) c else 4 := ⟨_, rfl⟩
    have hM4 : M ≤ 4 ∧ rD nu (rW nu c) c + M ≤ rI nu c := by
      rw [hMM]
      split <;> omega
    have eM : (if (nu 7 c - f_M_seen nu (nI c)) ≤ 4 then ((1 : Int32), (f_M_send nu (nI c) 0 (nu 9 c) (nu 7 c - f_M_seen nu (nI c)) (f_M_seen nu (nI c)))) else (1, (f_M_send nu (nI c) 0 (nu 9 c) 4 (f_M_seen nu (nI c))))) = (1, f_M_send nu (nI c) 0 (nu 9 c) (nI M) (nI (rD nu (rW nu c) c))) := by
      rw [hse, hI.1, pk_sub (by omega), hMM]
      by_cases q : rI nu c - rD nu (rW nu c) c ≤ 4
      · rw [if_pos (show nI (rI nu c - rD nu (rW nu c) c) ≤ 4 from nI_le (b := 4) q (by decide)), if_pos q]
      · rw [if_neg (show ¬ nI (rI nu c - rD nu (rW nu c) c) ≤ 4 from nI_ge (a := 4) (by omega) (by omega)), if_neg q]
        rfl
    rw [eM]
    by_cases hz : rZ nu = 24
    · rw [addLast_none hCR hM hz, send_full hM hz]
      exact ⟨rfl, hm⟩
    · have hz : rZ nu < 24 := by omega
      rw [addLast_some hCR hM hz]
      refine ⟨rfl, rel_mono ?_⟩
      show Rel n (f_C_writeReport (fm_up (fm_up mu 5 1 (nI (rZ nu + 1))) (7 + 3 * pn (mu 6 (rZ nu))) 0 (nI c)) c (pn (mu 6 (rZ nu)))) (f_M_send nu (nI c) 0 (nu 9 c) (nI M) (nI (rD nu (rW nu c) c)))
      have hq := pn_lt (mu 6 (rZ nu))
      have hS2 : SafC (f_C_writeReport (fm_up (fm_up mu 5 1 (nI (rZ nu + 1))) (7 + 3 * pn (mu 6 (rZ nu))) 0 (nI c)) c (pn (mu 6 (rZ nu)))) := saf_wrep (saf_up (saf_up hC (ok_5 (vp_in_nI (by omega) (by decide)))) (ok_70 hq (vp_in_nI hc (by decide)))) hc hq
      have k1 : 81 + 6 * c ≠ 7 + 3 * pn (mu 6 (rZ nu)) := by omega
      have k2 : 82 + 6 * c ≠ 7 + 3 * pn (mu 6 (rZ nu)) := by omega
      have k3 : 9 + 3 * pn (mu 6 (rZ nu)) ≠ 7 + 3 * pn (mu 6 (rZ nu)) := by omega
      have ew := wrep_eq (mu := fm_up (fm_up mu 5 1 (nI (rZ nu + 1))) (7 + 3 * pn (mu 6 (rZ nu))) 0 (nI c)) (s := rD nu (rW nu c) c) (I := rI nu c) hc hq (by rw [fm_up_ne k1, fm_up_ne (by omega), g3, hD.1]) (by rw [fm_up_ne k1, fm_up_ne (by omega), g1, hI.1]) (by omega) (by omega) hMM
      rw [fm_up_ne k1, fm_up_ne k2, fm_up_ne k3, fm_up_ne (show 81 + 6 * c ≠ 5 by omega), fm_up_ne (show 82 + 6 * c ≠ 5 by omega), fm_up_ne (show 9 + 3 * pn (mu 6 (rZ nu)) ≠ 5 by omega), g2] at ew
      obtain ⟨no, n02, n011, n10, a0, a1, a2, a3, a4⟩ := send_rows hM hz (nI c) 0 (nu 9 c) (nI M) (nI (rD nu (rW nu c) c))
      have eC : pC (f_M_send nu (nI c) 0 (nu 9 c) (nI M) (nI (rD nu (rW nu c) c))) (rZ nu) = c := by unfold pC; rw [a0]; exact nI_clamp (by omega)
      have eT : pT (f_M_send nu (nI c) 0 (nu 9 c) (nI M) (nI (rD nu (rW nu c) c))) (rZ nu) = rW nu c := by unfold pT; rw [a2]; rfl
      have eMM : pM (f_M_send nu (nI c) 0 (nu 9 c) (nI M) (nI (rD nu (rW nu c) c))) (rZ nu) = M := by unfold pM; rw [a3]; exact nI_clamp (by omega)
      have eO : pO (f_M_send nu (nI c) 0 (nu 9 c) (nI M) (nI (rD nu (rW nu c) c))) (rZ nu) = rD nu (rW nu c) c := by unfold pO; rw [a4]; exact nI_clamp (by omega)
      have eI : ∀ c2, rI (f_M_send nu (nI c) 0 (nu 9 c) (nI M) (nI (rD nu (rW nu c) c))) c2 = rI nu c2 := fun c2 => by unfold rI; rw [no 7 (by decide) (by decide)]
      have eD : ∀ t c2, rD (f_M_send nu (nI c) 0 (nu 9 c) (nI M) (nI (rD nu (rW nu c) c))) t c2 = rD nu t c2 := fun t c2 => congrArg tn (congrFun (no 4 (by decide) (by decide)) (3 * t + c2))
      have eTT : rT (f_M_send nu (nI c) 0 (nu 9 c) (nI M) (nI (rD nu (rW nu c) c))) = rT nu := by unfold rT; rw [n02]
      refine add_rel h hz (vp_in_nI hc (by decide)) (smf_new hM c) (vp_in_nI (by omega) (by decide)) (vp_in_nI (by omega) (by decide)) ?_ (fun j j5 j7 j8 j9 => ?_) hS2 ?_ ?_
      · rw [ew, fm_up_ne (by omega), va_up_ne _ _ (by omega), fm_up_ne (by omega), fm_up_ne (by omega), fm_up_ne (by omega), fm_up_ne (by omega), fm_up_ne (by omega), fm_up_same]
      · rw [ew, fm_up_ne j7, va_up_ne _ _ j9, fm_up_ne j7, fm_up_ne j7, fm_up_ne j7, fm_up_ne j7, fm_up_ne j7, fm_up_ne j5]
      · refine Or.inl ⟨a1, ?_, ?_, ?_, ?_⟩
        · rw [eO, eMM, eI, eC]
          exact hM4.2
        · rw [eO, eTT, eD, eC]
          exact hmo
        · rw [eMM]
          exact hM4.1
        · rw [eT, eTT]
          exact q2
      · have k4 : 7 + 3 * pn (mu 6 (rZ nu)) ≠ 9 + 3 * pn (mu 6 (rZ nu)) := by omega
        refine ⟨?_, ?_, ?_, ?_, ?_, fun _ => ⟨?_, fun j hj => ?_⟩, fun z => ?_⟩
        · rw [ew, a0, fm_up_slot (by decide), va_up_ne _ _ k4, fm_up_slot (by decide), fm_up_slot (by decide), fm_up_slot (by decide), fm_up_slot (by decide), fm_up_same]
        · rw [ew, a1, fm_up_slot (by decide), va_up_ne _ _ k4, fm_up_slot (by decide), fm_up_slot (by decide), fm_up_slot (by decide), fm_up_same]
        · rw [ew, fm_up_same, e_M_size, if_pos a1, a3, show (23 : Int32) = nI 23 from rfl, show (3 : Int32) = nI 3 from rfl, pk_mul, nI_add]
        · rw [ew, a2, fm_up_slot (by decide), va_up_ne _ _ k4, fm_up_slot (by decide), fm_up_slot (by decide), fm_up_same]
        · rw [ew, a4, fm_up_slot (by decide), va_up_ne _ _ k4, fm_up_slot (by decide), fm_up_same]
        · rw [ew, a3, fm_up_slot (by decide), va_up_ne _ _ k4, fm_up_same]
        · rw [eMM] at hj
          rw [ew, fm_up_ne k3, va_up_self, eC, eO, no 5 (by decide) (by decide)]
          show (if j < M then _ else _) = _
          rw [if_pos hj, g6 _ (by omega) (by omega)]
        · rw [a1] at z
          exact absurd z (by decide)
