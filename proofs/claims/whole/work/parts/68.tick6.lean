theorem addT_some {m : Nat} {mu nu : fm_T} (hC : CRT m mu nu) (hM : SafM nu) (hz : rZ nu < 24) : f_N_addLast mu = (some (mu 6 (rZ nu)), fm_up mu 5 1 (nI (rZ nu + 1))) := by
  have hZ := n_Z hM
  rw [e_N_addLast, hC.1.2, hZ.1, if_pos (show nI (rZ nu) < 24 from nI_lt (b := 24) hz (by decide)), nI_clamp (by omega), nI_1]
theorem addT_none {m : Nat} {mu nu : fm_T} (hC : CRT m mu nu) (hM : SafM nu) (hz : rZ nu = 24) : f_N_addLast mu = (none, mu) := by
  have hZ := n_Z hM
  rw [e_N_addLast, hC.1.2, hZ.1, hz, if_neg (by decide)]
/-- what writing a snapshot does -/
theorem wsn_eq {B : fm_T} {c q T d a ba : Nat} (hc : c < 3) (hq : q < 24) (hT : T < 513) (hd : B (84 + 6 * c) 2 = nI d) (ha : B (84 + 6 * c) 3 = nI a) (haT : a ≤ T) (hba : ba = if a = 0 then 0 else if 6 < T - a then 0 else a) : ∃ X : fm_T, (∀ k, k ≠ 7 + 3 * q → k ≠ 8 + 3 * q → X k = B k) ∧ X (8 + 3 * q) = va_cpy (B (86 + 6 * c)) (B (8 + 3 * q)) (T % 8 * 8) 0 8 ∧ (X (7 + 3 * q) 0 = B (7 + 3 * q) 0 ∧ X (7 + 3 * q) 1 = 1 ∧ X (7 + 3 * q) 3 = nI T ∧ X (7 + 3 * q) 4 = nI d ∧ X (7 + 3 * q) 5 = nI ba) ∧ f_A_writeSnapshot B c q (nI T) = fm_up X (7 + 3 * q) 2 (f_A_snapshotSize X c (nI T) (nI ba)) := by
  have k1 : 84 + 6 * c ≠ 7 + 3 * q := by omega
  have k2 : 86 + 6 * c ≠ 7 + 3 * q := by omega
  have k3 : 8 + 3 * q ≠ 7 + 3 * q := by omega
  have k4 : 7 + 3 * q ≠ 8 + 3 * q := by omega
  have eb : ∀ mu : fm_T, mu (84 + 6 * c) 3 = nI a → f_A_baseAt mu c (nI T) = nI ba := fun mu h => by
    rw [e_A_baseAt, h, hba]
    by_cases z : a = 0
    · rw [if_pos (show nI a = 0 by rw [z]; rfl), if_pos z]
      rfl
    · rw [if_neg (nI_ne0 (by omega) (by omega)), if_neg z, pk_sub haT]
      by_cases y : 6 < T - a
      · rw [if_pos (show (6 : Int32) < nI (T - a) from nI_lt (a := 6) y (by omega)), if_pos y]
        rfl
      · rw [if_neg (show ¬ (6 : Int32) < nI (T - a) from nI_nlt (a := 6) (by omega) (by decide)), if_neg y]
  refine ⟨va_up (fm_up (fm_up (fm_up (fm_up B (7 + 3 * q) 1 1) (7 + 3 * q) 3 (nI T)) (7 + 3 * q) 4 (nI d)) (7 + 3 * q) 5 (nI ba)) (8 + 3 * q) (va_cpy (B (86 + 6 * c)) (B (8 + 3 * q)) (T % 8 * 8) 0 8), fun k k7 k8 => ?_, ?_, ⟨?_, ?_, ?_, ?_, ?_⟩, ?_⟩
  · rw [va_up_ne _ _ k8, fm_up_ne k7, fm_up_ne k7, fm_up_ne k7, fm_up_ne k7]
  · rw [va_up_self]
  · rw [va_up_ne _ _ k4, fm_up_slot (by decide), fm_up_slot (by decide), fm_up_slot (by decide), fm_up_slot (by decide)]
  · rw [va_up_ne _ _ k4, fm_up_slot (by decide), fm_up_slot (by decide), fm_up_slot (by decide), fm_up_same]
  · rw [va_up_ne _ _ k4, fm_up_slot (by decide), fm_up_slot (by decide), fm_up_same]
  · rw [va_up_ne _ _ k4, fm_up_slot (by decide), fm_up_same]
  · rw [va_up_ne _ _ k4, fm_up_same]
  · rw [e_A_writeSnapshot, e_A_writeSnapshot_27]
    simp only [fm_up_ne k1, fm_up_ne k2, fm_up_ne k3, va_up_ne _ _ k4]
    rw [hd, eb _ (by rw [fm_up_ne k1, fm_up_ne k1, fm_up_ne k1]; exact ha), fm_up_same, and7 (by omega), nI_clamp (by omega)]
theorem snd_relT {n m : Nat} {mu nu : fm_T} (h : RelT n m mu nu) (hm : m < 3) (hT1 : 1 ≤ rT nu) : RelT n (m + 1) (f_D_sendSnapshot mu m) (mS nu m) := by
  obtain ⟨hR, mo1⟩ := rem_relT h hm
  rw [e_D_sendSnapshot]
  generalize f_A_remember mu m (mu 0 4) m = mu1 at *
  have hRR := hR
  obtain ⟨⟨r1, r2, r3, r4, r5⟩, hCR, hC, hM⟩ := hRR
  have hZ := n_Z hM
  have hT := n_T hM
  have hA := n_A hM m
  have hD := n_D hM (rT nu) m
  have haT := (r4 m hm).2.2.1
  obtain ⟨b1, b2, b3, b4⟩ := hCR.2.2.2.2.2.2.2 m hm
  obtain ⟨ba, hba⟩ : ∃ ba, ba = if rA nu m = 0 then 0 else if 6 < rT nu - rA nu m then 0 else rA nu m := ⟨_, rfl⟩
  have hbaT : ba ≤ rT nu ∧ (1 ≤ ba → rT nu < ba + 8) := by
    rw [hba]
    split
    · omega
    · split <;> omega
  have eS : mS nu m = f_M_send nu (nI m) 1 (nI (rT nu)) (nI ba) (nI (rD nu (rT nu) m)) := by
    unfold mS
    rw [hT.1, hA.1, lin3 (by omega), hD.1, pk_sub haT, hba]
    by_cases z : rA nu m = 0
    · rw [if_pos (show nI (rA nu m) ≤ 0 by rw [z]; decide), if_pos z]
      rfl
    · rw [if_neg (nI_nle (by omega) (by omega)), if_neg z]
      by_cases y : 6 < rT nu - rA nu m
      · rw [if_pos (show (6 : Int32) < nI (rT nu - rA nu m) from nI_lt (a := 6) y (by omega)), if_pos y]
        rfl
      · rw [if_neg (show ¬ (6 : Int32) < nI (rT nu - rA nu m) from nI_nlt (a := 6) (by omega) (by decide)), if_neg y]
  rw [eS]
  by_cases hz : rZ nu = 24
  · rw [addT_none hCR hM hz, send_full hM hz]
    exact hR
  · have hz : rZ nu < 24 := by omega
    rw [addT_some hCR hM hz]
    show RelT n (m + 1) (f_A_writeSnapshot (fm_up (fm_up mu1 5 1 (nI (rZ nu + 1))) (7 + 3 * pn (mu1 6 (rZ nu))) 0 (nI m)) m (pn (mu1 6 (rZ nu))) ((fm_up (fm_up mu1 5 1 (nI (rZ nu + 1))) (7 + 3 * pn (mu1 6 (rZ nu))) 0 (nI m)) 0 4)) _
    have hq := pn_lt (mu1 6 (rZ nu))
    have e04 : (fm_up (fm_up mu1 5 1 (nI (rZ nu + 1))) (7 + 3 * pn (mu1 6 (rZ nu))) 0 (nI m)) 0 4 = nI (rT nu) := by
      rw [fm_up_ne (by omega), fm_up_ne (by decide), hCR.1.1, hT.1]
    rw [e04]
    have hS2 : SafC (f_A_writeSnapshot (fm_up (fm_up mu1 5 1 (nI (rZ nu + 1))) (7 + 3 * pn (mu1 6 (rZ nu))) 0 (nI m)) m (pn (mu1 6 (rZ nu))) (nI (rT nu))) := saf_wsn (saf_up (saf_up hC (ok_5 (vp_in_nI (by omega) (by decide)))) (ok_70 hq (vp_in_nI hm (by decide)))) hq _
    obtain ⟨X, x1, x2, ⟨y0, y1, y3, y4, y5⟩, eX⟩ := wsn_eq (B := fm_up (fm_up mu1 5 1 (nI (rZ nu + 1))) (7 + 3 * pn (mu1 6 (rZ nu))) 0 (nI m)) (c := m) (q := pn (mu1 6 (rZ nu))) (T := rT nu) (d := rD nu (rT nu) m) (a := rA nu m) (ba := ba) hm hq hT.2 (by rw [fm_up_ne (by omega), fm_up_ne (by omega), b1, hD.1]) (by rw [fm_up_ne (by omega), fm_up_ne (by omega), b2, hA.1]) haT hba
    rw [eX] at hS2 ⊢
    rw [fm_up_same] at y0
    rw [fm_up_ne (show 86 + 6 * m ≠ 7 + 3 * pn (mu1 6 (rZ nu)) by omega), fm_up_ne (show 86 + 6 * m ≠ 5 by omega)] at x2
    have x86 : X (86 + 6 * m) = mu1 (86 + 6 * m) := by rw [x1 _ (by omega) (by omega), fm_up_ne (by omega), fm_up_ne (by omega)]
    obtain ⟨no, n02, n011, n10, a0, a1, a2, a3, a4⟩ := send_rows hM hz (nI m) 1 (nI (rT nu)) (nI ba) (nI (rD nu (rT nu) m))
    have eC : pC (f_M_send nu (nI m) 1 (nI (rT nu)) (nI ba) (nI (rD nu (rT nu) m))) (rZ nu) = m := by unfold pC; rw [a0]; exact nI_clamp (by omega)
    have eT : pT (f_M_send nu (nI m) 1 (nI (rT nu)) (nI ba) (nI (rD nu (rT nu) m))) (rZ nu) = rT nu := by unfold pT; rw [a2]; exact nI_clamp (by omega)
    have eM : pM (f_M_send nu (nI m) 1 (nI (rT nu)) (nI ba) (nI (rD nu (rT nu) m))) (rZ nu) = ba := by unfold pM; rw [a3]; exact nI_clamp (by omega)
    have eO : pO (f_M_send nu (nI m) 1 (nI (rT nu)) (nI ba) (nI (rD nu (rT nu) m))) (rZ nu) = rD nu (rT nu) m := by unfold pO; rw [a4]; exact nI_clamp (by omega)
    have eD : ∀ t c, rD (f_M_send nu (nI m) 1 (nI (rT nu)) (nI ba) (nI (rD nu (rT nu) m))) t c = rD nu t c := fun t c => congrArg tn (congrFun (no 4 (by decide) (by decide)) (3 * t + c))
    have eTT : rT (f_M_send nu (nI m) 1 (nI (rT nu)) (nI ba) (nI (rD nu (rT nu) m))) = rT nu := congrArg tn n02
    have hrT : ∀ e, e < 8 → mu1 (86 + 6 * m) (rT nu % 8 * 8 + e) = shw nu m e (rT nu) := fun e he => b4 (rT nu) hT1 (Nat.le_refl _) (by omega) (Or.inr (by omega)) e he
    have k7 : 7 + 3 * pn (mu1 6 (rZ nu)) ≠ 8 + 3 * pn (mu1 6 (rZ nu)) := by omega
    refine add_relT hR hz (vp_in_nI hm (by decide)) (vp_in_nI (by omega) (by decide)) (vp_in_nI (by omega) (by decide)) (vp_in_nI (by omega) (by decide)) ?_ (fun j j5 j7 j8 j9 => ?_) hS2 ?_ ?_
    · rw [fm_up_ne (by omega), x1 _ (by omega) (by omega), fm_up_ne (by omega), fm_up_same]
    · rw [fm_up_ne j7, x1 _ j7 j8, fm_up_ne j7, fm_up_ne j5]
    · refine Or.inr ⟨a1, ?_, ?_, ?_, ?_⟩
      · rw [eT]
        exact hT1
      · rw [eT, eTT]
        exact Nat.le_refl _
      · rw [eM, eTT]
        exact hbaT.1
      · rw [eO, eT, eC, eD]
    · refine ⟨?_, ?_, ?_, ?_, ?_, fun z => ?_, fun _ => ⟨?_, fun e he => ?_⟩⟩
      · rw [fm_up_slot (by decide), y0, a0]
      · rw [fm_up_slot (by decide), y1, a1]
      · have sl := size_loop (mu := X) (nu := nu) (nu2 := f_M_send nu (nI m) 1 (nI (rT nu)) (nI ba) (nI (rD nu (rT nu) m))) (c := m) (T := rT nu) (ba := ba) (a := 5 * rZ nu) hm hT.2 hbaT.1 r2 (no 3 (by decide) (by decide)) a0 a2 a3 (fun e he => by rw [x86]; exact hrT e he) (fun h1 e he => by rw [x86]; exact b4 ba h1 hbaT.1 (hbaT.2 h1) (Or.inr (by omega)) e he)
        rw [fm_up_same, e_A_snapshotSize, e_M_size, a1, if_neg (show ¬ ((1 : Int32) = 0) by decide), a3]
        by_cases w : ba = 0
        · rw [if_pos (show nI ba = 0 by rw [w]; rfl), if_pos (show nI ba ≤ 0 by rw [w]; decide)]
          exact sl _ _ _ (by decide)
        · rw [if_neg (nI_ne0 (by omega) (by omega)), if_neg (nI_nle (by omega) (by omega))]
          exact sl _ _ _ (by decide)
      · rw [fm_up_slot (by decide), y3, a2]
      · rw [fm_up_slot (by decide), y4, a4]
      · rw [a1] at z
        exact absurd z (by decide)
      · rw [fm_up_slot (by decide), y5, a3]
      · rw [fm_up_ne (by omega), x2, pk_cpy_in (Nat.zero_le _) (by omega), show e - 0 = e by omega, hrT e he, eC, eT]
        exact (shw_cg (nu := nu) (by omega) (fun k _ => by rw [no 3 (by decide) (by decide)]) (by omega) he).symm
theorem rT_mS {n m : Nat} {mu nu : fm_T} (h : RelT n m mu nu) (j : Nat) : rT (mS nu j) = rT nu := by
  have hM := h.2.2.2
  have hZ := n_Z hM
  unfold mS
  by_cases hz : rZ nu = 24
  · rw [send_full hM hz]
  · exact congrArg tn (send_rows hM (by omega) _ _ _ _ _).2.1
theorem rel_tick {n : Nat} {mu nu : fm_T} (h : Rel n mu nu) (hn : n < 512) : (f_D_tick mu).1 = (f_M_tick nu).1 ∧ Rel (n + 1) (f_D_tick mu).2 (f_M_tick nu).2 := by
  obtain ⟨mu1, nu1, e1, e2, hD⟩ := dif_all h hn
  have hT : rT nu < 512 := by
    have := h.1.1
    omega
  have R0 := dif_rel h hT hD
  have hT1 : 1 ≤ rT nu1 := by
    have q := hD.2.2.2.1.1
    unfold rT
    rw [q, show tn (nI (rT nu + 1)) = rT nu + 1 from nI_clamp (by omega)]
    omega
  have R1 : RelT (n + 1) 1 (f_D_sendSnapshot mu1 0) (mS nu1 0) := snd_relT R0 (by decide) hT1
  have T1 : 1 ≤ rT (mS nu1 0) := by rw [rT_mS R0]; exact hT1
  have R2 : RelT (n + 1) 2 (f_D_sendSnapshot (f_D_sendSnapshot mu1 0) 1) (mS (mS nu1 0) 1) := snd_relT R1 (by decide) T1
  have T2 : 1 ≤ rT (mS (mS nu1 0) 1) := by rw [rT_mS R1]; exact T1
  have R3 : RelT (n + 1) 3 (f_D_sendSnapshot (f_D_sendSnapshot (f_D_sendSnapshot mu1 0) 1) 2) (mS (mS (mS nu1 0) 1) 2) := snd_relT R2 (by decide) T2
  rw [t37_all] at e1
  rw [t267_all] at e2
  generalize f_D_sendSnapshot (f_D_sendSnapshot (f_D_sendSnapshot mu1 0) 1) 2 = mu3 at *
  generalize mS (mS (mS nu1 0) 1) 2 = nu3 at *
  rw [e1, e2]
  exact ⟨R3.2.1.1.1, relT_3 R3⟩
