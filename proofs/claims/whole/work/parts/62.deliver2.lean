theorem rel_deliver {n : Nat} {mu nu : fm_T} (h : Rel n mu nu) (kk : Int32) : (f_D_deliver mu kk).1 = (f_M_deliver nu kk).1 ∧ Rel (n + 1) (f_D_deliver mu kk).2 (f_M_deliver nu kk).2 := by
  have hm := rel_mono h
  rw [e_D_deliver, e_M_deliver, rel_has h]
  by_cases h1 : f_M_there nu kk = 0
  · rw [if_pos h1, if_pos h1]
    exact ⟨rfl, hm⟩
  · rw [if_neg h1, if_neg h1]
    obtain ⟨k, hk, rfl⟩ := has_k h h1
    obtain ⟨t1, hR, mo, no, n02⟩ := take_rel h hk
    obtain ⟨⟨r1, r2, r3, r4, r5⟩, hCR, hC, hM⟩ := h
    have hZ := n_Z hM
    rw [nI_clamp (by omega), t1]
    generalize (f_N_takeOut mu (nI k)).2 = mu1 at *
    generalize f_M_takeOut nu (nI k) = nu1 at *
    obtain ⟨a0, a1, a2, a3, a4, a5, a6⟩ := hCR.2.2.2.2.2.1 k hk
    have hp := r5 k hk
    have hq := pn_lt (mu 6 k)
    have vC := n_pC hM k
    have vT := n_pT hM k
    have vM := n_pM hM k
    have vO := n_pO hM k
    have hM1 := hR.2.2.2
    have e7 := mo (7 + 3 * pn (mu 6 k)) (by omega) (by omega)
    have e8 := mo (8 + 3 * pn (mu 6 k)) (by omega) (by omega)
    have e9 := mo (9 + 3 * pn (mu 6 k)) (by omega) (by omega)
    have eT : rT nu1 = rT nu := by unfold rT; rw [n02]
    have eI : ∀ c, rI nu1 c = rI nu c := fun c => congrArg tn (congrFun (no 7 (by decide) (by decide)) c)
    have eD : ∀ t c, rD nu1 t c = rD nu t c := fun t c => congrArg tn (congrFun (no 4 (by decide) (by decide)) (3 * t + c))
    have hTT := n_T hM
    rw [e7, a1, a0, vC.1, nI_clamp (by omega), vT.1]
    rcases hp with ⟨p0, p1, p2, p3, p4⟩ | ⟨p0, p1, p2, p3, p4⟩
    · rw [if_pos p0, if_neg (show ¬ nu 10 (5 * k + 1) = 1 by rw [p0]; decide)]
      have vA := n_A hM1 (pC nu k)
      have hac := hR.2.1.2.2.2.2.2.2.2 (pC nu k) vC.2
      obtain ⟨x, hx⟩ : ∃ x, x = if pT nu k ≤ rA nu1 (pC nu k) then rA nu1 (pC nu k) else pT nu k := ⟨_, rfl⟩
      have hxT : x ≤ rT nu1 := by
        have := (hR.1.2.2.2.1 (pC nu k) vC.2).2.2.1
        rw [hx, eT]
        split <;> omega
      have hA2 := ack_rel hR vC.2 hxT
      have eAck : (if mu1 (84 + 6 * pC nu k) 3 < mu1 (7 + 3 * pn (mu 6 k)) 3 then mu1 (7 + 3 * pn (mu 6 k)) 3 else mu1 (84 + 6 * pC nu k) 3) = nI x := by
        rw [hac.2.1, vA.1, e7, a3, vT.1, hx]
        by_cases z : pT nu k ≤ rA nu1 (pC nu k)
        · rw [if_neg (nI_nlt z (by omega)), if_pos z]
        · rw [if_pos (nI_lt (by omega) (by omega)), if_neg z]
      rw [e_A_readReport, eAck]
      have eM : ∀ (y : Int32), y = nI x → f_M_deliver_184 514 (fm_up nu1 8 (pC nu k) y) (nI (pC nu k)) (nu 10 (5 * k + 3)) (nu 10 (5 * k + 4)) ((fm_up nu1 8 (pC nu k) y) 4 (((3 * ((fm_up nu1 8 (pC nu k) y) 0 2)) + nI (pC nu k)).toNatClampNeg)) ((nu 10 (5 * k + 4)).toNatClampNeg + 1) = f_M_deliver_184 514 (fm_up nu1 8 (pC nu k) (nI x)) (nI (pC nu k)) (nI (pM nu k)) (nI (pO nu k)) (nI (rD nu1 (rT nu1) (pC nu k))) (pO nu k + 1 + 0) := by
        intro y hy
        have hD1 := n_D hM1 (rT nu1) (pC nu k)
        have hT1 := n_T hM1
        rw [hy, fm_up_ne (show 4 ≠ 8 by decide), fm_up_ne (show 0 ≠ 8 by decide), hT1.1, lin3 (by omega), hD1.1, vM.1, vO.1, nI_clamp (by omega)]
      have eIf : (if nI (pT nu k) ≤ nu1 8 (pC nu k) then f_M_deliver_184 514 (fm_up nu1 8 (pC nu k) (nu1 8 (pC nu k))) (nI (pC nu k)) (nu 10 (5 * k + 3)) (nu 10 (5 * k + 4)) ((fm_up nu1 8 (pC nu k) (nu1 8 (pC nu k))) 4 (((3 * ((fm_up nu1 8 (pC nu k) (nu1 8 (pC nu k))) 0 2)) + nI (pC nu k)).toNatClampNeg)) ((nu 10 (5 * k + 4)).toNatClampNeg + 1) else f_M_deliver_184 514 (fm_up nu1 8 (pC nu k) (nI (pT nu k))) (nI (pC nu k)) (nu 10 (5 * k + 3)) (nu 10 (5 * k + 4)) ((fm_up nu1 8 (pC nu k) (nI (pT nu k))) 4 (((3 * ((fm_up nu1 8 (pC nu k) (nI (pT nu k))) 0 2)) + nI (pC nu k)).toNatClampNeg)) ((nu 10 (5 * k + 4)).toNatClampNeg + 1)) = f_M_deliver_184 514 (fm_up nu1 8 (pC nu k) (nI x)) (nI (pC nu k)) (nI (pM nu k)) (nI (pO nu k)) (nI (rD nu1 (rT nu1) (pC nu k))) (pO nu k + 1 + 0) := by
        by_cases z : pT nu k ≤ rA nu1 (pC nu k)
        · rw [if_pos (by rw [vA.1]; exact nI_le z (by omega))]
          exact eM _ (by rw [vA.1, hx, if_pos z])
        · rw [if_neg (by rw [vA.1]; exact nI_ge (by omega) (by omega))]
          exact eM _ (by rw [hx, if_neg z])
      rw [eIf]
      have k1 : 7 + 3 * pn (mu 6 k) ≠ 84 + 6 * pC nu k := by have := vC.2; omega
      have k2 : 9 + 3 * pn (mu 6 k) ≠ 84 + 6 * pC nu k := by have := vC.2; omega
      obtain ⟨nu2, e2, hR2⟩ := rr_rel (d := rD nu1 (rT nu1) (pC nu k)) (o := pO nu k) vC.2 hq p3 (pM nu k) 5 514 (fm_up mu1 (84 + 6 * pC nu k) 3 (nI x)) (fm_up nu1 8 (pC nu k) (nI x)) 0 (by omega) (by omega) (by omega) hA2 (by rw [fm_up_ne k1, e7, (a5 p0).1, vM.1]) (by rw [fm_up_ne k1, e7, a4, vO.1]) rfl (by show _ ≤ rI nu1 (pC nu k); rw [eI]; exact p1) (fun i hi => by
        rw [fm_up_ne k2, e9, (a5 p0).2 i hi]
        show _ = nu1 5 _
        rw [no 5 (by decide) (by decide)])
      rw [e2]
      exact ⟨rfl, rel_mono hR2⟩
    · have p0n : ¬ nu 10 (5 * k + 1) = 0 := by rw [p0]; decide
      rw [if_neg p0n, if_pos p0]
      have vW := n_W hM1 (pC nu k)
      have hcl := hR.2.1.2.2.2.2.2.2.1 (pC nu k) vC.2
      have k1 : 7 + 3 * pn (mu 6 k) ≠ 81 + 6 * pC nu k := by have := vC.2; omega
      have k2 : 8 + 3 * pn (mu 6 k) ≠ 81 + 6 * pC nu k := by have := vC.2; omega
      have k3 : 83 + 6 * pC nu k ≠ 81 + 6 * pC nu k := by omega
      rw [e_C_takeSnapshot, hcl.2.1, vW.1, e7, a3, vT.1]
      by_cases z : rW nu1 (pC nu k) < pT nu k
      · rw [if_pos (nI_lt z (by omega)), if_neg (show ¬ nI (pT nu k) ≤ nI (rW nu1 (pC nu k)) from nI_ge z (by omega)), if_neg (show ¬ ((1 : Int32) = 0) by decide)]
        simp only [fm_up_ne k1, fm_up_ne k2, fm_up_ne k3]
        rw [e7]
        have hs := snap_rel hR vC.2 hq z (by rw [eT]; exact p2) (fun e he => by rw [e8, (a6 p0).2 e he]; exact (shw_cg (nu := nu) (nu2 := nu1) (by omega) (fun m _ => by rw [no 3 (by decide) (by decide)]) (by have := vC.2; omega) he).symm) (by rw [e7, a4, vO.1, p4, no 4 (by decide) (by decide), (n_D hM _ _).1])
        rw [e7] at hs
        exact ⟨trivial, rel_mono hs⟩
      · rw [if_neg (nI_nlt (by omega) (by omega)), if_pos (show nI (pT nu k) ≤ nI (rW nu1 (pC nu k)) from nI_le (by omega) (by omega)), if_pos rfl, ← vW.1, fm_up_id]
        exact ⟨rfl, rel_mono hR⟩
