/-! input -/
theorem rel_input {n : Nat} {mu nu : fm_T} (h : Rel n mu nu) (hn : n < 512) (cli cmd : Int32) : (f_D_input mu cli cmd).1 = (f_M_input nu cli cmd).1 ∧ Rel (n + 1) (f_D_input mu cli cmd).2 (f_M_input nu cli cmd).2 := by
  have hm := rel_mono h
  have h0 := h
  obtain ⟨⟨r1, r2, r3, r4, r5⟩, ⟨⟨ha, hz⟩, hw, hpl, hd, hinj, hpk, hcl, hac⟩, hC, hM⟩ := h0
  rw [e_D_input, e_M_input]
  by_cases h1 : f_D_isClient cli = 0
  · rw [if_pos h1, if_pos (show f_M_client cli = 0 from h1)]
    exact ⟨rfl, hm⟩
  · rw [if_neg h1, if_neg (show ¬ f_M_client cli = 0 from h1)]
    obtain ⟨c, hc, rfl⟩ := vp_in_of (cl_in h1) (by decide)
    rw [nI_clamp (by omega)]
    by_cases h2 : f_D_isCommand cmd = 0
    · rw [if_pos h2]
      split
      · exact ⟨rfl, hm⟩
      · split
        · exact ⟨rfl, hm⟩
        · rename_i q1 q2
          exfalso
          have q3 : vp_in cmd 5 := vp_of (K := 5) rfl (by decide) q1 (fun q => q2 (Int32.lt_iff_toInt_lt.mpr (by have z := Int32.le_iff_toInt_le.mp q; have e4 : (4 : Int32).toInt = 4 := rfl; have e5 : (5 : Int32).toInt = 5 := rfl; omega)))
          obtain ⟨x, hx, rfl⟩ := vp_in_of q3 (by decide)
          rcases (show x = 0 ∨ x = 1 ∨ x = 2 ∨ x = 3 ∨ x = 4 by omega) with rfl | rfl | rfl | rfl | rfl <;> exact absurd h2 (by decide)
    · have h5 := cm_in h2
      obtain ⟨x, hx, rfl⟩ := vp_in_of h5 (by decide)
      rw [if_neg h2, if_neg (nI_pos (by omega)), if_neg (show ¬ (4 : Int32) < nI x from nI_nlt (a := 4) (by omega) (by decide))]
      obtain ⟨q1, q2, q3, q4, q5, q6, q7, q8⟩ := r4 c hc
      obtain ⟨g1, -, g3, -, -, -⟩ := hcl c hc
      have hmo := mono_D (r4 c hc) (rT nu) (rW nu c) q2 (Nat.le_refl _)
      have hW := n_W hM c
      have hI := n_I hM c
      have hD := n_D hM (rW nu c) c
      have hse : f_M_seen nu (nI c) = nI (rD nu (rW nu c) c) := by rw [e_M_seen, nI_clamp (by omega), hW.1, lin3 (by omega), hD.1]
      rw [hse, e_C_unseenCommands, g1, g3, hI.1, hD.1, pk_sub (by omega)]
      by_cases h6 : rI nu c - rD nu (rW nu c) c = 12
      · rw [h6, if_neg (by decide), if_pos (show nI 12 = 12 from rfl)]
        exact ⟨rfl, hm⟩
      · rw [if_pos (show nI (rI nu c - rD nu (rW nu c) c) < 12 from nI_lt (b := 12) (by omega) (by decide)), if_neg (show ¬ nI (rI nu c - rD nu (rW nu c) c) = 12 from fun z => h6 ((nI_eq (b := 12) (by omega) (by decide)).mp z)), nI_1]
        have eix : ((513 * nI c) + ((fm_up nu 7 c (nI (rI nu c + 1))) 7 c)).toNatClampNeg = 513 * c + (rI nu c + 1) := by
          rw [fm_up_same, show (513 : Int32) = nI 513 from rfl, lin_c, nI_clamp (by omega)]
        rw [eix, e_C_addCommand, fm_up_same, g1, hI.1, nI_1, and15 (by omega)]
        generalize hmu2 : fm_up (fm_up mu (81 + 6 * c) 3 (nI (rI nu c + 1))) (82 + 6 * c) ((rI nu c + 1) % 16) (nI x) = mu2
        generalize hnu2 : fm_up (fm_up nu 7 c (nI (rI nu c + 1))) 5 (513 * c + (rI nu c + 1)) (nI x) = nu2
        have m81 : ∀ c2 j, mu2 (81 + 6 * c2) j = if c2 = c ∧ j = 3 then nI (rI nu c + 1) else mu (81 + 6 * c2) j := fun c2 j => by
          rw [← hmu2, fm_up_ne (by omega), fm_up_val]
          by_cases z : c2 = c ∧ j = 3
          · rw [if_pos z, if_pos ⟨by omega, z.2⟩]
          · rw [if_neg z, if_neg (fun y => z ⟨by omega, y.2⟩)]
        have m82 : ∀ c2 j, mu2 (82 + 6 * c2) j = if c2 = c ∧ j = (rI nu c + 1) % 16 then nI x else mu (82 + 6 * c2) j := fun c2 j => by
          rw [← hmu2, fm_up_val]
          by_cases z : c2 = c ∧ j = (rI nu c + 1) % 16
          · rw [if_pos z, if_pos ⟨by omega, z.2⟩]
          · rw [if_neg z, if_neg (fun y => z ⟨by omega, y.2⟩), fm_up_ne (by omega)]
        have mo : ∀ k, k ≠ 81 + 6 * c → k ≠ 82 + 6 * c → mu2 k = mu k := fun k k1 k2 => by rw [← hmu2, fm_up_ne k2, fm_up_ne k1]
        have n7 : ∀ c2, nu2 7 c2 = if c2 = c then nI (rI nu c + 1) else nu 7 c2 := fun c2 => by rw [← hnu2]; rfl
        have n5 : ∀ k, nu2 5 k = if k = 513 * c + (rI nu c + 1) then nI x else nu 5 k := fun k => by rw [← hnu2]; rfl
        have no : ∀ k, k ≠ 7 → k ≠ 5 → nu2 k = nu k := fun k k1 k2 => by rw [← hnu2, fm_up_ne k2, fm_up_ne k1]
        have eT : rT nu2 = rT nu := by unfold rT; rw [no 0 (by decide) (by decide)]
        have eZ : rZ nu2 = rZ nu := by unfold rZ; rw [no 0 (by decide) (by decide)]
        have eW : ∀ c2, rW nu2 c2 = rW nu c2 := fun c2 => by unfold rW; rw [no 9 (by decide) (by decide)]
        have eA : ∀ c2, rA nu2 c2 = rA nu c2 := fun c2 => by unfold rA; rw [no 8 (by decide) (by decide)]
        have eD : ∀ t c2, rD nu2 t c2 = rD nu t c2 := fun t c2 => by unfold rD; rw [no 4 (by decide) (by decide)]
        have eI2 : ∀ c2, rI nu2 c2 = if c2 = c then rI nu c + 1 else rI nu c2 := fun c2 => by
          unfold rI
          rw [n7]
          split
          · exact nI_clamp (by omega)
          · rfl
        have eIle : ∀ c2, rI nu c2 ≤ rI nu2 c2 := fun c2 => by
          rw [eI2]
          split
          · rename_i z
            rw [z]
            omega
          · exact Nat.le_refl _
        have n5o : ∀ c2 k, c2 < 3 → 1 ≤ k → k ≤ rI nu c2 → nu2 5 (513 * c2 + k) = nu 5 (513 * c2 + k) := fun c2 k g1 g2 g3 => by
          have := (n_I hM c2).2
          rw [n5, if_neg]
          intro z
          have : c2 = c := by omega
          subst this
          omega
        have hSC2 : SafC mu2 := by rw [← hmu2]; exact saf_up (saf_up hC (ok_81 hc _ _)) (ok_82 hc h5)
        have hSM2 : SafM nu2 := by rw [← hnu2]; exact smf_up (smf_up hM (om_7 (vp_in_nI (by omega) (by decide)))) (om_5 _ _)
        refine ⟨?_, ⟨⟨by rw [eT]; omega, fun t e ht he => ?_, fun e e1 e2 => ?_, fun c2 hc2 => ?_, fun i hi => ?_⟩, ⟨⟨?_, ?_⟩, fun i hi => ?_, fun e he => ?_, fun e e1 e2 => ?_, ?_, fun i hi => ?_, fun c2 hc2 => ?_, fun c2 hc2 => ?_⟩, hSC2, hSM2⟩⟩
        · show mu2 (81 + 6 * c) 3 = nu2 7 c
          rw [m81, n7, if_pos ⟨rfl, rfl⟩, if_pos rfl]
        · show vp_in (nu2 3 (8 * t + e)) 256
          rw [no 3 (by decide) (by decide)]
          exact r2 t e (by rw [← eT]; exact ht) he
        · show vp_in (nu2 2 e) 4
          rw [no 2 (by decide) (by decide)]
          exact r3 e e1 e2
        · show RIc (n + 1) nu2 c2
          obtain ⟨p1, p2, p3, p4, p5, p6, p7, p8⟩ := r4 c2 hc2
          have hle := eIle c2
          unfold RIc
          rw [eT, eW, eA]
          simp only [eD]
          rw [no 6 (by decide) (by decide)]
          refine ⟨?_, p2, p3, by omega, ?_, p6, fun k k1 k2 => ?_, fun k k1 k2 k3 => ?_⟩
          · rw [eI2]
            split <;> omega
          · rw [eI2]
            split
            · rename_i z
              subst z
              omega
            · exact p5
          · rw [n5]
            split
            · exact vp_in_nI hx (by decide)
            · rename_i z
              refine p7 k k1 ?_
              rw [eI2] at k2
              split at k2
              · rename_i z2
                subst z2
                omega
              · exact k2
          · have := p8 k k1 k2 k3
            omega
        · show RIp nu2 i
          have hi : i < rZ nu := by rw [← eZ]; exact hi
          have hp := r5 i hi
          unfold RIp pC pT pM pO at hp ⊢
          rw [no 10 (by decide) (by decide), eT, eD]
          simp only [eD]
          rcases hp with ⟨a, b1, b2⟩ | b
          · exact Or.inl ⟨a, Nat.le_trans b1 (eIle _), b2⟩
          · exact Or.inr b
        · show mu2 0 4 = nu2 0 2
          rw [mo 0 (by omega) (by omega), no 0 (by decide) (by decide)]
          exact ha
        · show mu2 5 1 = nu2 0 11
          rw [mo 5 (by omega) (by omega), no 0 (by decide) (by decide)]
          exact hz
        · show mu2 2 i = nu2 1 i
          rw [mo 2 (by omega) (by omega), no 1 (by decide) (by decide)]
          exact hw i hi
        · show mu2 3 e = nu2 3 (8 * rT nu2 + e)
          rw [mo 3 (by omega) (by omega), no 3 (by decide) (by decide), eT]
          exact hpl e he
        · show mu2 4 e = nu2 2 e
          rw [mo 4 (by omega) (by omega), no 2 (by decide) (by decide)]
          exact hd e e1 e2
        · show Inj mu2
          intro i j hi hj
          rw [mo 6 (by omega) (by omega)]
          exact hinj i j hi hj
        · show PkR mu2 nu2 (pn (mu2 6 i)) i
          have hi : i < rZ nu := by rw [← eZ]; exact hi
          rw [mo 6 (by omega) (by omega)]
          have hq := pn_lt (mu 6 i)
          exact PkR_of hM (r5 i hi) (mo _ (by omega) (by omega)) (mo _ (by omega) (by omega)) (mo _ (by omega) (by omega)) (fun k _ => by rw [no 10 (by decide) (by decide)]) (fun _ t _ k _ => by rw [no 3 (by decide) (by decide)]) n5o (hpk i hi)
        · show CliR mu2 nu2 c2
          obtain ⟨d1, d2, d3, d4, d5, d6⟩ := hcl c2 hc2
          have hW2 := (n_W hM c2).2
          refine ⟨?_, ?_, ?_, ?_, fun e he => ?_, fun k k1 k2 => ?_⟩
          · rw [m81, n7]
            by_cases z : c2 = c
            · rw [if_pos ⟨z, rfl⟩, if_pos z]
            · rw [if_neg (fun y => z y.1), if_neg z, d1]
          · rw [m81, if_neg (fun y => absurd y.2 (by decide)), no 9 (by decide) (by decide), d2]
          · rw [m81, if_neg (fun y => absurd y.2 (by decide)), no 4 (by decide) (by decide), eW, d3]
          · rw [m81, if_neg (fun y => absurd y.2 (by decide)), no 3 (by decide) (by decide), d4]
          · rw [mo _ (by omega) (by omega), eW, d5 e he, shw_cg (nu := nu) (nu2 := nu2) (by omega) (fun k _ => by rw [no 3 (by decide) (by decide)]) (by omega) he]
          · rw [eW, eD] at k1
            rw [eI2] at k2
            rw [m82, n5]
            by_cases z : c2 = c
            · subst z
              rw [if_pos rfl] at k2
              by_cases y : k = rI nu c2 + 1
              · rw [if_pos ⟨rfl, by rw [y]⟩, if_pos (by rw [y])]
              · rw [if_neg (fun w => by have := w.2; omega), if_neg (by omega), d6 k k1 (by omega)]
            · rw [if_neg z] at k2
              have := (n_I hM c2).2
              rw [if_neg (fun y => z y.1), if_neg (by omega), d6 k k1 k2]
        · show AccR mu2 nu2 c2
          obtain ⟨b1, b2, b3, b4⟩ := hac c2 hc2
          obtain ⟨p1, p2, p3, p4, p5, p6, p7, p8⟩ := r4 c2 hc2
          refine ⟨?_, ?_, fun k k1 k2 => ?_, fun t t1 t2 t3 e he => ?_⟩
          · rw [mo _ (by omega) (by omega), no 4 (by decide) (by decide), eT, b1]
          · rw [mo _ (by omega) (by omega), no 8 (by decide) (by decide), b2]
          · rw [eT, eD] at k1 k2
            rw [mo _ (by omega) (by omega), b3 k k1 k2]
            unfold hld
            rw [no 6 (by decide) (by decide)]
            by_cases z : k ≤ rI nu c2 ∧ ¬ nu 6 (513 * c2 + k) = 0
            · rw [if_pos z, if_pos ⟨Nat.le_trans z.1 (eIle c2), z.2⟩, n5o c2 k hc2 (by omega) z.1]
            · rw [if_neg z, if_neg]
              intro y
              have y1 := y.1
              rw [eI2] at y1
              split at y1
              · rename_i w
                subst w
                have := p8 k (by omega) (by omega) y.2
                exact z ⟨this.2, y.2⟩
              · exact z ⟨y1, y.2⟩
          · rw [eT] at t2 t3
            have hT := n_T hM
            rw [mo _ (by omega) (by omega), b4 t t1 t2 t3 e he, shw_cg (nu := nu) (nu2 := nu2) (by omega) (fun k _ => by rw [no 3 (by decide) (by decide)]) (by omega) he]
