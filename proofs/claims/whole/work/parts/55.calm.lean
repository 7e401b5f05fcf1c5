/-! wall, place -/
section CALM
variable {n : Nat} {mu nu : fm_T}
theorem wall_loop (px py : Int32) (h3 : ∀ e, e < 8 → mu 3 e = nu 3 e) : ∀ (m n1 n2 j : Nat), j + m = 8 → m < n1 → m < n2 → f_M_wall_19 n1 nu px py j = (if f_F_isOccupied_2 n2 mu (f_D_placeOf px py) j = 0 then (1, fm_up nu 1 ((px + (16 * py)).toNatClampNeg) 1) else (0, nu)) := by
  intro m
  induction m with
  | zero =>
    intro n1 n2 j h1 h2 h4
    obtain ⟨n1, rfl⟩ : ∃ z, n1 = z + 1 := ⟨n1 - 1, by omega⟩
    obtain ⟨n2, rfl⟩ : ∃ z, n2 = z + 1 := ⟨n2 - 1, by omega⟩
    have hj : (8 : Int32) ≤ nI j := nI_le (a := 8) (by omega) (by omega)
    rw [e_M_wall_19, e_F_isOccupied_2, if_pos hj, if_pos hj, if_pos rfl]
  | succ m ih =>
    intro n1 n2 j h1 h2 h4
    obtain ⟨n1, rfl⟩ : ∃ z, n1 = z + 1 := ⟨n1 - 1, by omega⟩
    obtain ⟨n2, rfl⟩ : ∃ z, n2 = z + 1 := ⟨n2 - 1, by omega⟩
    have hj : ¬ (8 : Int32) ≤ nI j := nI_ge (b := 8) (by omega) (by decide)
    rw [e_M_wall_19, e_F_isOccupied_2, if_neg hj, if_neg hj, h3 j (by omega)]
    by_cases h : nu 3 j = f_D_placeOf px py
    · rw [if_pos (show nu 3 j = px + (16 * py) from h), if_pos h, if_neg (by decide)]
    · rw [if_neg (show ¬ nu 3 j = px + (16 * py) from h), if_neg h]
      exact ih n1 n2 (j + 1) (by omega) (by omega) (by omega)
theorem rel_wall (h : Rel n mu nu) (px py : Int32) : (f_D_wall mu px py).1 = (f_M_wall nu px py).1 ∧ Rel (n + 1) (f_D_wall mu px py).2 (f_M_wall nu px py).2 := by
  have hm := rel_mono h
  have h0 := h
  obtain ⟨⟨r1, r2, r3, r4, r5⟩, ⟨⟨ha, hz⟩, hw, hpl, hd, hinj, hpk, hcl, hac⟩, hC, hM⟩ := h0
  have hT := n_T hM
  rw [e_D_wall, e_M_wall, ha]
  by_cases hs : f_D_isSquare px py = 0
  · rw [if_pos hs, if_pos (show f_M_square px py = 0 from hs)]
    split
    · exact ⟨rfl, hm⟩
    · exact ⟨rfl, hm⟩
  · rw [if_neg hs, if_neg (show ¬ f_M_square px py = 0 from hs)]
    by_cases ht : nu 0 2 = 0
    · rw [if_pos ht, if_pos ht]
      have hT0 : rT nu = 0 := by unfold rT; rw [ht]; rfl
      have h3 : ∀ e, e < 8 → mu 3 e = nu 3 e := fun e he => by rw [hpl e he, hT0]; congr 1; omega
      rw [wall_loop px py h3 8 9 9 0 (by omega) (by omega) (by omega), e_F_isOccupied]
      split
      · refine ⟨rfl, ⟨by have := hm.1; exact this, ⟨⟨ha, hz⟩, fun i hi => ?_, hpl, hd, hinj, fun i hi => ?_, fun c hc => ?_, fun c hc => ?_⟩, saf_up hC (ok_2 _ _), smf_up hM (om_1 _ _)⟩⟩
        · show fm_up mu 2 (px + 16 * py).toNatClampNeg 1 2 i = fm_up nu 1 (px + 16 * py).toNatClampNeg 1 1 i
          rw [fm_up_row, fm_up_row]
          unfold upd
          rw [hw i hi]
        · exact PkR_of hM (r5 i hi) (fm_up_ne (by omega)) (fm_up_ne (by omega)) (fm_up_ne (by omega)) (fun _ _ => rfl) (fun _ _ _ _ _ => rfl) (fun _ _ _ _ _ => rfl) (hpk i hi)
        · exact CliR_mu (nu := fm_up nu 1 ((px + (16 * py)).toNatClampNeg) 1) (fm_up_ne (by omega)) (fm_up_ne (by omega)) (fm_up_ne (by omega)) (hcl c hc)
        · exact AccR_mu (nu := fm_up nu 1 ((px + (16 * py)).toNatClampNeg) 1) (fm_up_ne (by omega)) (fm_up_ne (by omega)) (fm_up_ne (by omega)) (hac c hc)
      · exact ⟨rfl, hm⟩
    · rw [if_neg ht, if_neg ht]
      exact ⟨rfl, hm⟩
theorem place_core (h : Rel n mu nu) (hT0 : rT nu = 0) {e : Nat} (he : e < 8) {p d : Int32} (hp : vp_in p 256) (hd4 : 3 ≤ e → vp_in d 4) {mu2 : fm_T} (hS2 : SafC mu2) (m3 : mu2 3 = upd (mu 3) e p) (m4 : ∀ x, 3 ≤ x → x < 8 → mu2 4 x = upd (nu 2) e d x) (mo : ∀ k, k ≠ 3 → k ≠ 4 → (∀ c, c < 3 → k ≠ 81 + 6 * c) → mu2 k = mu k) (mc : ∀ c j, c < 3 → mu2 (81 + 6 * c) j = if c = e ∧ j = 2 then p else mu (81 + 6 * c) j) : Rel (n + 1) mu2 (fm_up (fm_up nu 3 e p) 2 e d) := by
  have hm := rel_mono h
  obtain ⟨⟨r1, r2, r3, r4, r5⟩, ⟨⟨ha, hz⟩, hw, hpl, hd, hinj, hpk, hcl, hac⟩, hC, hM⟩ := h
  have e3 : ∀ j, (fm_up (fm_up nu 3 e p) 2 e d) 3 j = upd (nu 3) e p j := fun j => rfl
  have hnosnap : ∀ i, i < rZ nu → ¬ nu 10 (5 * i + 1) = 1 := fun i hi z => by
    rcases r5 i hi with ⟨q, -⟩ | ⟨-, q1, q2, -⟩
    · rw [z] at q
      exact absurd q (by decide)
    · omega
  refine ⟨⟨by have := hm.1.1; exact this, fun t x ht hx => ?_, fun x h1 h2 => ?_, fun c hc => hm.1.2.2.2.1 c hc, r5⟩, ⟨⟨?_, ?_⟩, fun i hi => ?_, fun x hx => ?_, ?_, ?_, fun i hi => ?_, fun c hc => ?_, fun c hc => ?_⟩, hS2, smf_up (smf_up hM (om_3 _ _)) (om_2 _ _)⟩
  · have ht : t ≤ rT nu := ht
    show vp_in (upd (nu 3) e p (8 * t + x)) 256
    unfold upd
    split
    · exact hp
    · exact r2 t x ht hx
  · show vp_in (upd (nu 2) e d x) 4
    unfold upd
    split
    · rename_i q
      exact hd4 (by omega)
    · exact r3 x h1 h2
  · rw [mo 0 (by decide) (by decide) (fun c _ => by omega)]
    exact ha
  · rw [mo 5 (by decide) (by decide) (fun c _ => by omega)]
    exact hz
  · rw [mo 2 (by decide) (by decide) (fun c _ => by omega)]
    exact hw i hi
  · rw [m3]
    show upd (mu 3) e p x = upd (nu 3) e p (8 * rT nu + x)
    have q := hpl x hx
    rw [hT0] at q ⊢
    rw [show 8 * 0 + x = x by omega] at q ⊢
    unfold upd
    rw [q]
  · exact m4
  · intro i j hi hj
    rw [mo 6 (by decide) (by decide) (fun c _ => by omega)]
    exact hinj i j hi hj
  · rw [mo 6 (by decide) (by decide) (fun c _ => by omega)]
    have hq := pn_lt (mu 6 i)
    exact PkR_of hM (r5 i hi) (mo _ (by omega) (by omega) (fun c _ => by omega)) (mo _ (by omega) (by omega) (fun c _ => by omega)) (mo _ (by omega) (by omega) (fun c _ => by omega)) (fun _ _ => rfl) (fun z => absurd z (hnosnap i hi)) (fun _ _ _ _ _ => rfl) (hpk i hi)
  · obtain ⟨c1, c2, c3, c4, c5, c6⟩ := hcl c hc
    have hW0 : rW nu c = 0 := by
      have q := (r4 c hc).2.1
      omega
    refine ⟨?_, ?_, ?_, ?_, fun x hx => ?_, fun k h1 h2 => ?_⟩
    · rw [mc c 3 hc, if_neg (fun z => absurd z.2 (by decide))]
      exact c1
    · rw [mc c 5 hc, if_neg (fun z => absurd z.2 (by decide))]
      exact c2
    · rw [mc c 4 hc, if_neg (fun z => absurd z.2 (by decide))]
      exact c3
    · rw [mc c 2 hc, e3]
      unfold upd
      by_cases q : c = e
      · rw [if_pos ⟨q, rfl⟩, if_pos q]
      · rw [if_neg (fun z => q z.1), if_neg q]
        exact c4
    · rw [mo (83 + 6 * c) (by omega) (by omega) (fun c2 _ => by omega), c5 x hx, if_pos hW0]
      exact (if_pos (show rW (fm_up (fm_up nu 3 e p) 2 e d) c = 0 from hW0)).symm
    · rw [mo (82 + 6 * c) (by omega) (by omega) (fun c2 _ => by omega)]
      exact c6 k h1 h2
  · obtain ⟨a1, a2, a3, a4⟩ := hac c hc
    refine ⟨?_, ?_, fun k h1 h2 => ?_, fun t h1 h2 => ?_⟩
    · rw [mo (84 + 6 * c) (by omega) (by omega) (fun c2 _ => by omega)]
      exact a1
    · rw [mo (84 + 6 * c) (by omega) (by omega) (fun c2 _ => by omega)]
      exact a2
    · rw [mo (85 + 6 * c) (by omega) (by omega) (fun c2 _ => by omega)]
      exact a3 k h1 h2
    · have h2 : t ≤ rT nu := h2
      omega
theorem rel_place (h : Rel n mu nu) (en px py dr : Int32) : (f_D_place mu en px py dr).1 = (f_M_place nu en px py dr).1 ∧ Rel (n + 1) (f_D_place mu en px py dr).2 (f_M_place nu en px py dr).2 := by
  have hm := rel_mono h
  have h0 := h
  obtain ⟨-, ⟨⟨ha, hz⟩, hw, hpl, hd, -⟩, hC, hM⟩ := h0
  rw [e_D_place, e_M_place, ha]
  by_cases ht : nu 0 2 = 0
  · have hT0 : rT nu = 0 := by unfold rT; rw [ht]; rfl
    rw [if_pos ht]
    simp only [if_pos ht]
    by_cases h1 : f_D_isEntity en = 0
    · rw [if_pos h1, if_pos (show f_M_entity en = 0 from h1)]
      exact ⟨rfl, hm⟩
    · rw [if_neg h1, if_neg (show ¬ f_M_entity en = 0 from h1), e_F_isFree]
      by_cases hs : f_D_isSquare px py = 0
      · rw [if_pos hs, if_pos rfl, if_pos (show f_M_square px py = 0 from hs)]
        exact ⟨rfl, hm⟩
      · rw [if_neg hs, if_neg (show ¬ f_M_square px py = 0 from hs), hw _ (vp_l (sq_in hs))]
        by_cases hq : nu 1 (f_D_placeOf px py).toNatClampNeg = 0
        · rw [if_pos hq, if_neg (by decide), if_pos (show nu 1 (px + (16 * py)).toNatClampNeg = 0 from hq)]
          obtain ⟨e, he, rfl⟩ := vp_in_of (en_in h1) (by decide)
          rw [nI_clamp (by omega)]
          by_cases hc : f_D_isClient (nI e) = 0
          · have h3 : 3 ≤ e := by
              rcases Nat.lt_or_ge e 3 with z | z
              · rw [e_D_isClient, if_neg (nI_pos (by omega)), if_neg (show ¬ (3 : Int32) ≤ nI e from nI_ge (b := 3) z (by decide))] at hc
                exact absurd hc (by decide)
              · exact z
            rw [if_pos hc, if_neg (show ¬ nI e ≤ 2 from nI_ge (a := 2) (by omega) (by omega))]
            by_cases hdr : f_D_isDirection dr = 0
            · rw [if_pos hdr]
              split
              · exact ⟨rfl, hm⟩
              · split
                · exact ⟨rfl, hm⟩
                · rename_i q1 q2
                  exfalso
                  rw [e_D_isDirection, if_neg q1, if_neg (fun q => q2 (Int32.lt_iff_toInt_lt.mpr (by have z := Int32.le_iff_toInt_le.mp q; have e4 : (4 : Int32).toInt = 4 := rfl; have e3 : (3 : Int32).toInt = 3 := rfl; omega)))] at hdr
                  exact absurd hdr (by decide)
            · have hd4 := dr_in hdr
              obtain ⟨x, hx, rfl⟩ := vp_in_of hd4 (by decide)
              rw [if_neg hdr, if_neg (nI_pos (by omega)), if_neg (show ¬ (3 : Int32) < nI x from nI_nlt (a := 3) (by omega) (by decide)), if_neg (show ¬ nI e ≤ 2 from nI_ge (a := 2) (by omega) (by omega))]
              refine ⟨rfl, place_core h hT0 he (sq_in hs) (fun _ => hd4) (saf_up (saf_up hC (ok_4 (vp_mono hd4 (by decide)))) (ok_3 _ _)) ?_ ?_ ?_ ?_⟩
              · show fm_up (fm_up mu 4 e (nI x)) 3 e (f_D_placeOf px py) 3 = upd (mu 3) e (f_D_placeOf px py)
                rw [fm_up_row, fm_up_ne (by decide)]
              · intro y y1 y2
                show fm_up (fm_up mu 4 e (nI x)) 3 e (f_D_placeOf px py) 4 y = upd (nu 2) e (nI x) y
                rw [fm_up_ne (by decide), fm_up_row]
                unfold upd
                rw [hd y y1 y2]
              · intro k k3 k4 _
                show fm_up (fm_up mu 4 e (nI x)) 3 e (f_D_placeOf px py) k = mu k
                rw [fm_up_ne k3, fm_up_ne k4]
              · intro c j hc3
                show fm_up (fm_up mu 4 e (nI x)) 3 e (f_D_placeOf px py) (81 + 6 * c) j = _
                rw [fm_up_ne (by omega), fm_up_ne (by omega), if_neg (fun z => by omega)]
          · have h3 : e < 3 := by
              have q := cl_in hc
              have q2 := vp_l q
              rw [nI_clamp (by omega)] at q2
              exact q2
            rw [if_neg hc, if_pos (show nI e ≤ 2 from nI_le (b := 2) (by omega) (by decide)), if_pos (show nI e ≤ 2 from nI_le (b := 2) (by omega) (by decide))]
            refine ⟨rfl, place_core h hT0 he (sq_in hs) (fun q => by omega) (saf_up (saf_up hC (ok_81 h3 _ _)) (ok_3 _ _)) ?_ ?_ ?_ ?_⟩
            · show fm_up (fm_up mu (81 + 6 * e) 2 (f_D_placeOf px py)) 3 e (f_D_placeOf px py) 3 = upd (mu 3) e (f_D_placeOf px py)
              rw [fm_up_row, fm_up_ne (by omega)]
            · intro y y1 y2
              show fm_up (fm_up mu (81 + 6 * e) 2 (f_D_placeOf px py)) 3 e (f_D_placeOf px py) 4 y = upd (nu 2) e 0 y
              rw [fm_up_ne (by decide), fm_up_ne (by omega), hd y y1 y2]
              unfold upd
              rw [if_neg (by omega)]
            · intro k k3 k4 k81
              show fm_up (fm_up mu (81 + 6 * e) 2 (f_D_placeOf px py)) 3 e (f_D_placeOf px py) k = mu k
              rw [fm_up_ne k3, fm_up_ne (k81 e h3)]
            · intro c j hc3
              show fm_up (fm_up mu (81 + 6 * e) 2 (f_D_placeOf px py)) 3 e (f_D_placeOf px py) (81 + 6 * c) j = _
              rw [fm_up_ne (by omega), fm_up_val]
              by_cases q : c = e ∧ j = 2
              · rw [if_pos q, if_pos ⟨by omega, q.2⟩]
              · rw [if_neg q, if_neg (fun z => q ⟨by omega, z.2⟩)]
        · rw [if_neg hq, if_pos rfl, if_neg (show ¬ nu 1 (px + (16 * py)).toNatClampNeg = 0 from hq)]
          exact ⟨rfl, hm⟩
  · rw [if_neg ht]
    simp only [if_neg ht]
    repeat' split
    all_goals exact ⟨rfl, hm⟩
end CALM
