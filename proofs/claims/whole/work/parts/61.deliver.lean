/-! deliver -/
section DEL
variable {n : Nat} {mu nu : fm_T}
theorem ack_rel (h : Rel n mu nu) {c x : Nat} (hc : c < 3) (hx : x ≤ rT nu) : Rel n (fm_up mu (84 + 6 * c) 3 (nI x)) (fm_up nu 8 c (nI x)) := by
  obtain ⟨⟨r1, r2, r3, r4, r5⟩, ⟨⟨ha, hz⟩, hw, hpl, hd, hinj, hpk, hcl, hac⟩, hC, hM⟩ := h
  have hT := n_T hM
  have mo : ∀ k, k ≠ 84 + 6 * c → fm_up mu (84 + 6 * c) 3 (nI x) k = mu k := fun k hk => fm_up_ne hk
  refine ⟨⟨r1, r2, r3, fun c2 hc2 => ?_, r5⟩, ⟨⟨by rw [mo 0 (by omega)]; exact ha, by rw [mo 5 (by omega)]; exact hz⟩, fun i hi => by rw [mo 2 (by omega)]; exact hw i hi, fun e he => by rw [mo 3 (by omega)]; exact hpl e he, fun e e1 e2 => by rw [mo 4 (by omega)]; exact hd e e1 e2, fun i j hi hj => by rw [mo 6 (by omega)]; exact hinj i j hi hj, fun i hi => ?_, fun c2 hc2 => ?_, fun c2 hc2 => ?_⟩, saf_up hC (ok_84 hc _ _), smf_up hM (om_8 (vp_in_nI (by omega) (by decide)))⟩
  · obtain ⟨p1, p2, p3, p4, p5, p6, p7, p8⟩ := r4 c2 hc2
    refine ⟨p1, p2, ?_, p4, p5, p6, p7, p8⟩
    show tn (upd (nu 8) c (nI x) c2) ≤ rT nu
    unfold upd
    split
    · rw [show tn (nI x) = x from nI_clamp (by omega)]
      exact hx
    · exact p3
  · rw [mo 6 (by omega)]
    have hq := pn_lt (mu 6 i)
    exact PkR_of hM (r5 i hi) (mo _ (by omega)) (mo _ (by omega)) (mo _ (by omega)) (fun _ _ => rfl) (fun _ _ _ _ _ => rfl) (fun _ _ _ _ _ => rfl) (hpk i hi)
  · exact CliR_mu (nu := fm_up nu 8 c (nI x)) (mo _ (by omega)) (mo _ (by omega)) (mo _ (by omega)) (hcl c2 hc2)
  · obtain ⟨b1, b2, b3, b4⟩ := hac c2 hc2
    refine ⟨?_, ?_, ?_, ?_⟩
    · rw [fm_up_slot (by decide)]
      exact b1
    · show fm_up mu (84 + 6 * c) 3 (nI x) (84 + 6 * c2) 3 = upd (nu 8) c (nI x) c2
      rw [fm_up_val]
      unfold upd
      by_cases z : c2 = c
      · rw [if_pos ⟨by omega, rfl⟩, if_pos z]
      · rw [if_neg (fun y => z (by omega)), if_neg z]
        exact b2
    · rw [mo _ (by omega)]
      exact b3
    · rw [mo _ (by omega)]
      exact b4
theorem held_step (h : Rel n mu nu) {c k : Nat} (hc : c < 3) (h1 : rD nu (rT nu) c < k) (h2 : k ≤ rI nu c) : Rel n (fm_up mu (85 + 6 * c) (k % 16) (nu 5 (513 * c + k))) (fm_up nu 6 (513 * c + k) 1) := by
  obtain ⟨⟨r1, r2, r3, r4, r5⟩, ⟨⟨ha, hz⟩, hw, hpl, hd, hinj, hpk, hcl, hac⟩, hC, hM⟩ := h
  have mo : ∀ j, j ≠ 85 + 6 * c → fm_up mu (85 + 6 * c) (k % 16) (nu 5 (513 * c + k)) j = mu j := fun j hj => fm_up_ne hj
  have v5 := (r4 c hc).2.2.2.2.2.2.1 k (by omega) h2
  have hIc := (n_I hM c).2
  refine ⟨⟨r1, r2, r3, fun c2 hc2 => ?_, r5⟩, ⟨⟨by rw [mo 0 (by omega)]; exact ha, by rw [mo 5 (by omega)]; exact hz⟩, fun i hi => by rw [mo 2 (by omega)]; exact hw i hi, fun e he => by rw [mo 3 (by omega)]; exact hpl e he, fun e e1 e2 => by rw [mo 4 (by omega)]; exact hd e e1 e2, fun i j hi hj => by rw [mo 6 (by omega)]; exact hinj i j hi hj, fun i hi => ?_, fun c2 hc2 => ?_, fun c2 hc2 => ?_⟩, saf_up hC (ok_85 hc (Or.inr v5)), smf_up hM (om_6 _ _)⟩
  · obtain ⟨p1, p2, p3, p4, p5, p6, p7, p8⟩ := r4 c2 hc2
    refine ⟨p1, p2, p3, p4, p5, p6, p7, fun j j1 j2 j3 => ?_⟩
    by_cases z : 513 * c2 + j = 513 * c + k
    · have e1 : c2 = c := by omega
      subst e1
      have e2 : j = k := by omega
      subst e2
      exact ⟨h1, h2⟩
    · refine p8 j j1 j2 (fun y => j3 ?_)
      show upd (nu 6) (513 * c + k) 1 (513 * c2 + j) = 0
      unfold upd
      rw [if_neg z]
      exact y
  · rw [mo 6 (by omega)]
    have hq := pn_lt (mu 6 i)
    exact PkR_of hM (r5 i hi) (mo _ (by omega)) (mo _ (by omega)) (mo _ (by omega)) (fun _ _ => rfl) (fun _ _ _ _ _ => rfl) (fun _ _ _ _ _ => rfl) (hpk i hi)
  · exact CliR_mu (nu := fm_up nu 6 (513 * c + k) 1) (mo _ (by omega)) (mo _ (by omega)) (mo _ (by omega)) (hcl c2 hc2)
  · obtain ⟨b1, b2, b3, b4⟩ := hac c2 hc2
    obtain ⟨p1, p2, p3, p4, p5, p6, p7, p8⟩ := r4 c2 hc2
    have hmo := mono_D (r4 c2 hc2) (rT nu) (rW nu c2) p2 (Nat.le_refl _)
    have hI2 := (n_I hM c2).2
    refine ⟨by rw [mo _ (by omega)]; exact b1, by rw [mo _ (by omega)]; exact b2, fun j j1 j2 => ?_, by rw [mo _ (by omega)]; exact b4⟩
    have j1 : rD nu (rT nu) c2 < j := j1
    have j2 : j ≤ rD nu (rT nu) c2 + 16 := j2
    show fm_up mu (85 + 6 * c) (k % 16) (nu 5 (513 * c + k)) (85 + 6 * c2) (j % 16) = (if j ≤ rI nu c2 ∧ ¬ upd (nu 6) (513 * c + k) 1 (513 * c2 + j) = 0 then nu 5 (513 * c2 + j) else -1)
    rw [fm_up_val]
    by_cases z : c2 = c
    · subst z
      by_cases y : j = k
      · subst y
        rw [if_pos ⟨rfl, rfl⟩, if_pos ⟨h2, by unfold upd; rw [if_pos rfl]; decide⟩]
      · rw [if_neg (fun w => by have := w.2; omega), b3 j j1 j2]
        unfold hld upd
        rw [if_neg (show ¬ 513 * c2 + j = 513 * c2 + k by omega)]
    · rw [if_neg (fun w => z (by omega)), b3 j j1 j2]
      unfold hld
      by_cases w : j ≤ rI nu c2
      · unfold upd
        rw [if_neg (show ¬ 513 * c2 + j = 513 * c + k by omega)]
      · rw [if_neg (fun v => w v.1), if_neg (fun v => w v.1)]
theorem rr17_end {c q M : Nat} (hM : M ≤ 4) : ∀ (m n1 : Nat) (mu : fm_T) (j : Nat), j + m = 4 → M ≤ j → m < n1 → mu (7 + 3 * q) 7 = nI M → f_A_readReport_17 n1 mu c q j = mu := by
  intro m
  induction m with
  | zero =>
    intro n1 mu j h1 h2 h3 h4
    obtain ⟨n1, rfl⟩ : ∃ z, n1 = z + 1 := ⟨n1 - 1, by omega⟩
    rw [e_A_readReport_17, if_pos (show (4 : Int32) ≤ nI j from nI_le (a := 4) (by omega) (by omega))]
  | succ m ih =>
    intro n1 mu j h1 h2 h3 h4
    obtain ⟨n1, rfl⟩ : ∃ z, n1 = z + 1 := ⟨n1 - 1, by omega⟩
    rw [e_A_readReport_17, if_neg (show ¬ (4 : Int32) ≤ nI j from nI_ge (b := 4) (by omega) (by decide)), h4, if_pos (nI_le h2 (by omega))]
    exact ih n1 mu (j + 1) (by omega) (by omega) (by omega) h4
theorem rr_rel {c q M o d : Nat} (hc : c < 3) (hq : q < 24) (hM4 : M ≤ 4) : ∀ (m n1 n2 : Nat) (mu nu : fm_T) (j : Nat), j + m = M → 4 < j + n1 → m < n2 → Rel n mu nu → mu (7 + 3 * q) 7 = nI M → mu (7 + 3 * q) 4 = nI o → rD nu (rT nu) c = d → o + M ≤ rI nu c → (∀ i, i < M → mu (9 + 3 * q) i = nu 5 (513 * c + (o + 1 + i))) → ∃ nu2, f_M_deliver_184 n2 nu (nI c) (nI M) (nI o) (nI d) (o + 1 + j) = (1, nu2) ∧ Rel n (f_A_readReport_17 n1 mu c q j) nu2 := by
  intro m
  induction m with
  | zero =>
    intro n1 n2 mu nu j h1 h2 h3 h4 h5 h6 h7 h8 h9
    obtain ⟨n2, rfl⟩ : ∃ z, n2 = z + 1 := ⟨n2 - 1, by omega⟩
    have hI := (n_I h4.2.2.2 c).2
    refine ⟨nu, ?_, ?_⟩
    · rw [e_M_deliver_184, nI_add, if_pos (nI_lt (by omega) (by omega))]
    · rw [rr17_end (M := M) hM4 (4 - j) n1 mu j (by omega) (by omega) (by omega) h5]
      exact h4
  | succ m ih =>
    intro n1 n2 mu nu j h1 h2 h3 h4 h5 h6 h7 h8 h9
    obtain ⟨n1, rfl⟩ : ∃ z, n1 = z + 1 := ⟨n1 - 1, by omega⟩
    obtain ⟨n2, rfl⟩ : ∃ z, n2 = z + 1 := ⟨n2 - 1, by omega⟩
    have hI := (n_I h4.2.2.2 c).2
    have hDD := n_D h4.2.2.2 (rT nu) c
    have hA := (h4.2.1.2.2.2.2.2.2.2 c hc).1
    rw [hDD.1, h7] at hA
    rw [h7] at hDD
    rw [e_M_deliver_184, nI_add, if_neg (show ¬ nI (o + M) < nI (o + 1 + j) from nI_nlt (by omega) (by omega)), nI_clamp (by omega), e_A_readReport_17, if_neg (show ¬ (4 : Int32) ≤ nI j from nI_ge (b := 4) (by omega) (by decide)), h5, if_neg (show ¬ nI M ≤ nI j from nI_ge (by omega) (by omega)), h6, hA, nI_1, nI_add]
    rcases Nat.lt_or_ge d (o + 1 + j) with z | z
    · have e1 : (if nu 6 (513 * c + (o + 1 + j)) = 0 then (if nI (o + 1 + j) ≤ nI d then (f_M_deliver_184 n2 (fm_up nu 6 (513 * c + (o + 1 + j)) 0) (nI c) (nI M) (nI o) (nI d) (o + 1 + j + 1)) else (f_M_deliver_184 n2 (fm_up nu 6 (513 * c + (o + 1 + j)) 1) (nI c) (nI M) (nI o) (nI d) (o + 1 + j + 1))) else (f_M_deliver_184 n2 (fm_up nu 6 (513 * c + (o + 1 + j)) 1) (nI c) (nI M) (nI o) (nI d) (o + 1 + j + 1))) = f_M_deliver_184 n2 (fm_up nu 6 (513 * c + (o + 1 + j)) 1) (nI c) (nI M) (nI o) (nI d) (o + 1 + j + 1) := by
        split
        · rw [if_neg (nI_ge z (by omega))]
        · rfl
      rw [e1, if_neg (nI_ge z (by omega)), and15 (by omega), h9 j (by omega)]
      exact ih n1 n2 _ _ (j + 1) (by omega) (by omega) (by omega) (held_step h4 hc (by omega) (by omega)) (by rw [fm_up_ne (by omega)]; exact h5) (by rw [fm_up_ne (by omega)]; exact h6) h7 h8 (fun i hi => by rw [fm_up_ne (by omega)]; exact h9 i hi)
    · have e0 : nu 6 (513 * c + (o + 1 + j)) = 0 := by
        by_cases y : nu 6 (513 * c + (o + 1 + j)) = 0
        · exact y
        · have := (h4.1.2.2.2.1 c hc).2.2.2.2.2.2.2 (o + 1 + j) (by omega) (by omega) y
          omega
      have e1 : fm_up nu 6 (513 * c + (o + 1 + j)) 0 = nu := by
        have q9 := fm_up_id nu 6 (513 * c + (o + 1 + j))
        rw [e0] at q9
        exact q9
      rw [if_pos e0, if_pos (nI_le z (by omega)), e1, if_pos (nI_le z (by omega))]
      exact ih n1 n2 mu nu (j + 1) (by omega) (by omega) (by omega) h4 h5 h6 h7 h8 h9
theorem snap_rel (h : Rel n mu nu) {c q t : Nat} (hc : c < 3) (hq : q < 24) (h1 : rW nu c < t) (h2 : t ≤ rT nu) (hpl8 : ∀ e, e < 8 → mu (8 + 3 * q) e = shw nu c e t) (h4 : mu (7 + 3 * q) 4 = nu 4 (3 * t + c)) : Rel n (va_up (fm_up (fm_up mu (81 + 6 * c) 5 (nI t)) (81 + 6 * c) 4 (mu (7 + 3 * q) 4)) (83 + 6 * c) (va_cpy (mu (8 + 3 * q)) (mu (83 + 6 * c)) 0 0 8)) (fm_up nu 9 c (nI t)) := by
  obtain ⟨⟨r1, r2, r3, r4, r5⟩, ⟨⟨ha, hz⟩, hw, hpl, hd, hinj, hpk, hcl, hac⟩, hC, hM⟩ := h
  have hT := n_T hM
  generalize hmu2 : va_up (fm_up (fm_up mu (81 + 6 * c) 5 (nI t)) (81 + 6 * c) 4 (mu (7 + 3 * q) 4)) (83 + 6 * c) (va_cpy (mu (8 + 3 * q)) (mu (83 + 6 * c)) 0 0 8) = mu2
  have mo : ∀ k, k ≠ 81 + 6 * c → k ≠ 83 + 6 * c → mu2 k = mu k := fun k k1 k2 => by rw [← hmu2, va_up_ne _ _ k2, fm_up_ne k1, fm_up_ne k1]
  have hS2 : SafC mu2 := by
    rw [← hmu2]
    exact saf_row (saf_up (saf_up hC (ok_81 hc _ _)) (ok_81 hc _ _)) (fun j => ok_83 hc _ _)
  have e9 : ∀ c2, rW (fm_up nu 9 c (nI t)) c2 = if c2 = c then t else rW nu c2 := fun c2 => by
    show tn (upd (nu 9) c (nI t) c2) = _
    unfold upd
    split
    · exact nI_clamp (by omega)
    · rfl
  refine ⟨⟨r1, r2, r3, fun c2 hc2 => ?_, r5⟩, ⟨⟨by rw [mo 0 (by omega) (by omega)]; exact ha, by rw [mo 5 (by omega) (by omega)]; exact hz⟩, fun i hi => by rw [mo 2 (by omega) (by omega)]; exact hw i hi, fun e he => by rw [mo 3 (by omega) (by omega)]; exact hpl e he, fun e e1 e2 => by rw [mo 4 (by omega) (by omega)]; exact hd e e1 e2, fun i j hi hj => by rw [mo 6 (by omega) (by omega)]; exact hinj i j hi hj, fun i hi => ?_, fun c2 hc2 => ?_, fun c2 hc2 => ?_⟩, hS2, smf_up hM (om_9 (vp_in_nI (by omega) (by decide)))⟩
  · obtain ⟨p1, p2, p3, p4, p5, p6, p7, p8⟩ := r4 c2 hc2
    refine ⟨p1, ?_, p3, p4, ?_, p6, p7, p8⟩
    · rw [e9]
      split
      · exact h2
      · exact p2
    · show rI nu c2 ≤ rD nu (rW (fm_up nu 9 c (nI t)) c2) c2 + 12
      rw [e9]
      split
      · rename_i z
        subst z
        have := mono_D (r4 c2 hc2) t (rW nu c2) (by omega) h2
        omega
      · exact p5
  · rw [mo 6 (by omega) (by omega)]
    have hq := pn_lt (mu 6 i)
    exact PkR_of hM (r5 i hi) (mo _ (by omega) (by omega)) (mo _ (by omega) (by omega)) (mo _ (by omega) (by omega)) (fun _ _ => rfl) (fun _ _ _ _ _ => rfl) (fun _ _ _ _ _ => rfl) (hpk i hi)
  · by_cases z : c2 = c
    · subst z
      obtain ⟨d1, d2, d3, d4, d5, d6⟩ := hcl c2 hc2
      have e9 := e9 c2
      rw [if_pos rfl] at e9
      have k0 : 81 + 6 * c2 ≠ 83 + 6 * c2 := by omega
      refine ⟨?_, ?_, ?_, ?_, fun e he => ?_, fun k k1 k2 => ?_⟩
      · rw [← hmu2, va_up_ne _ _ k0, fm_up_slot (by decide), fm_up_slot (by decide)]
        exact d1
      · rw [← hmu2, va_up_ne _ _ k0, fm_up_slot (by decide), fm_up_same]
        exact (fm_up_same nu 9 c2 (nI t)).symm
      · rw [← hmu2, va_up_ne _ _ k0, fm_up_same, e9]
        exact h4
      · rw [← hmu2, va_up_ne _ _ k0, fm_up_slot (by decide), fm_up_slot (by decide)]
        exact d4
      · rw [← hmu2, va_up_self, pk_cpy_in (Nat.zero_le _) (by omega), e9, if_neg (by omega), show 0 + (e - 0) = e by omega]
        exact hpl8 e he
      · rw [e9] at k1
        rw [mo _ (by omega) (by omega)]
        have := mono_D (r4 c2 hc2) t (rW nu c2) (by omega) h2
        have k1 : rD nu t c2 < k := k1
        exact d6 k (by omega) k2
    · have e9 := e9 c2
      rw [if_neg z] at e9
      obtain ⟨d1, d2, d3, d4, d5, d6⟩ := hcl c2 hc2
      refine CliR_mu (mu := mu) (mo _ (by omega) (by omega)) (mo _ (by omega) (by omega)) (mo _ (by omega) (by omega)) ⟨d1, ?_, ?_, d4, ?_, ?_⟩
      · show _ = upd (nu 9) c (nI t) c2
        unfold upd
        rw [if_neg z]
        exact d2
      · rw [e9]
        exact d3
      · rw [e9]
        exact d5
      · rw [e9]
        exact d6
  · exact AccR_mu (nu := fm_up nu 9 c (nI t)) (mo _ (by omega) (by omega)) (mo _ (by omega) (by omega)) (mo _ (by omega) (by omega)) (hac c2 hc2)
end DEL
