/-! the calls that only ask -/
theorem rel_mono {n : Nat} {mu nu : fm_T} (h : Rel n mu nu) : Rel (n + 1) mu nu := by
  obtain ⟨⟨h1, h2, h3, h4, h5⟩, hC, hs, hm⟩ := h
  exact ⟨⟨by omega, h2, h3, fun c hc => by obtain ⟨a, b⟩ := h4 c hc; exact ⟨by omega, b⟩, h5⟩, hC, hs, hm⟩
theorem and15 {x : Nat} (h : x < 2 ^ 31) : (nI x &&& 15).toNatClampNeg = x % 16 := by
  rw [pk_andN (by omega) (m := 15) 4 (by decide)]
  exact nI_clamp (by omega)
theorem and7 {x : Nat} (h : x < 2 ^ 31) : f_A_rowOf (nI x) = nI (x % 8 * 8) := by
  rw [e_A_rowOf, pk_andN (by omega) (m := 7) 3 (by decide)]
  exact pk_mul _ 8
section READS
variable {n : Nat} {mu nu : fm_T}
theorem rel_flight (h : Rel n mu nu) : f_D_flight mu = f_M_flight nu := h.2.1.1.2
theorem rel_has (h : Rel n mu nu) (kk : Int32) : f_N_has mu kk = f_M_there nu kk := by rw [e_N_has, e_M_there, h.2.1.1.2]
theorem rel_position (h : Rel n mu nu) (en : Int32) : f_D_position mu en = f_M_position nu en := by
  obtain ⟨-, ⟨-, -, hpl, -⟩, -, hM⟩ := h
  rw [e_D_position, e_M_position]
  by_cases h1 : f_D_isEntity en = 0
  · rw [if_pos h1, if_pos (show f_M_entity en = 0 from h1)]
  · rw [if_neg h1, if_neg (show ¬ f_M_entity en = 0 from h1)]
    obtain ⟨e, he, rfl⟩ := vp_in_of (en_in h1) (by decide)
    have hT := n_T hM
    rw [hT.1, lin8 (by omega), nI_clamp (by omega)]
    exact hpl e he
theorem rel_view (h : Rel n mu nu) (cli en : Int32) : f_D_view mu cli en = f_M_view nu cli en := by
  obtain ⟨-, ⟨-, -, -, -, -, -, hcl, -⟩, -, hM⟩ := h
  rw [e_D_view, e_M_view]
  by_cases h0 : f_D_isClient cli = 0
  · rw [if_pos h0, if_pos (show f_M_client cli = 0 from h0)]
  · rw [if_neg h0, if_neg (show ¬ f_M_client cli = 0 from h0)]
    by_cases h1 : f_D_isEntity en = 0
    · rw [if_pos h1, if_pos (show f_M_entity en = 0 from h1)]
    · rw [if_neg h1, if_neg (show ¬ f_M_entity en = 0 from h1)]
      obtain ⟨c, hc, rfl⟩ := vp_in_of (cl_in h0) (by decide)
      obtain ⟨e, he, rfl⟩ := vp_in_of (en_in h1) (by decide)
      rw [nI_clamp (by omega), nI_clamp (by omega), (hcl c hc).2.2.2.2.1 e he]
      have hW := n_W hM c
      by_cases h2 : rW nu c = 0
      · rw [if_pos h2, hW.1, h2, if_pos (show nI 0 = 0 from rfl)]
      · rw [if_neg h2, hW.1, if_neg (nI_ne0 (by omega) (by omega)), lin8 (by omega)]
        rfl
theorem rel_packet (h : Rel n mu nu) (kk wh : Int32) : f_D_packet mu kk wh = f_M_packet nu kk wh := by
  have hh := rel_has h kk
  obtain ⟨⟨-, -, -, -, hrp⟩, ⟨⟨-, hz⟩, -, -, -, -, hpk, -, -⟩, hC, hM⟩ := h
  rw [e_D_packet, e_M_packet, hh]
  by_cases h0 : f_M_there nu kk = 0
  · rw [if_pos h0, if_pos h0]
  · rw [if_neg h0, if_neg h0]
    have hlt := mt_lt hM (th0 h0) (th1 h0)
    obtain ⟨k, hk, rfl⟩ := vp_in_of (mt_in hM (th0 h0) (th1 h0)) (by decide)
    rw [nI_clamp (by omega)] at hlt ⊢
    obtain ⟨a0, a1, a2, a3, a4, a5, a6⟩ := hpk k hlt
    have hp := hrp k hlt
    have ix : ∀ w : Nat, w < 6 → (nI (5 * k) + nI w).toNatClampNeg = 5 * k + w := fun w hw => by rw [nI_add, nI_clamp (by omega)]
    have ix1 : ∀ w : Nat, w < 6 → (nI (5 * k) + nI (w + 1) - 1).toNatClampNeg = 5 * k + w := fun w hw => by rw [nI_add, ← Nat.add_assoc, nI_pred, nI_clamp (by omega)]
    by_cases w0 : wh = 0
    · subst w0
      rw [if_pos rfl, if_neg (by decide), if_pos (by decide), if_neg (by decide), if_neg (by decide), a0]
      exact congrArg (nu 10) (ix 0 (by decide)).symm
    · rw [if_neg w0]
      by_cases w1 : wh = 1
      · subst w1
        have e2 : (nI (5 * k) + 1).toNatClampNeg = 5 * k + 1 := ix 1 (by decide)
        rw [if_pos rfl, a1]
        rcases hp with ⟨p1, -⟩ | ⟨p1, -⟩
        · rw [p1, if_pos rfl, if_neg (by decide), if_pos (by decide), if_neg (by decide), if_neg (by decide), e2, p1]
        · rw [p1, if_neg (by decide), if_neg (by decide), if_pos (by decide), if_neg (by decide), if_neg (by decide), e2, p1]
      · rw [if_neg w1]
        by_cases w2 : wh = 2
        · subst w2
          rw [if_pos rfl, if_neg (by decide), if_pos (by decide), if_pos rfl, a2]
        · rw [if_neg w2]
          by_cases w3 : wh = 3
          · subst w3
            rw [if_pos rfl, if_neg (by decide), if_pos (by decide), if_neg (by decide), if_pos (by decide), a3]
            exact congrArg (nu 10) (ix1 2 (by decide)).symm
          · rw [if_neg w3]
            by_cases w4 : wh = 4
            · subst w4
              have e1 : (nI (5 * k) + 4 - 1).toNatClampNeg = 5 * k + 3 := ix1 3 (by decide)
              rw [if_pos rfl, a1]
              rcases hp with ⟨p1, -⟩ | ⟨p1, -⟩
              · rw [p1, if_pos rfl, (a5 p1).1, if_neg (by decide), if_pos (by decide), if_neg (by decide), if_pos (by decide), e1]
              · rw [p1, if_neg (by decide), (a6 p1).1, if_neg (by decide), if_pos (by decide), if_neg (by decide), if_pos (by decide), e1]
            · rw [if_neg w4]
              by_cases w5 : wh = 5
              · subst w5
                rw [if_pos rfl, if_neg (by decide), if_pos (by decide), if_neg (by decide), if_pos (by decide), a4]
                exact congrArg (nu 10) (ix1 4 (by decide)).symm
              · rw [if_neg w5]
                by_cases wn : wh < 0
                · rw [if_pos wn]
                · rw [if_neg wn]
                  rcases sw_out wh w0 w1 w2 w3 w4 w5 with z | z
                  · exact absurd (Int32.lt_iff_toInt_lt.mpr z) wn
                  · rw [if_neg]
                    intro q
                    have q2 := Int32.le_iff_toInt_le.mp q
                    have z5 : (5 : Int32).toInt = 5 := rfl
                    omega
/-- a client sees itself -/
theorem near_self (x : Nat) : near x x := ⟨by omega, by omega⟩
theorem shw_self {c t x : Nat} (hx : nu 3 (8 * t + c) = nI x) (h1 : x < 256) (hb : t < 1000) (hc : c < 8) : shw nu c c t = nu 3 (8 * t + c) := by
  unfold shw
  rw [if_neg]
  intro q
  exact (seesM hx hx h1 h1 hb hc hc).mp q (near_self x)
theorem cmdAt_eq {c s j : Nat} (hs : mu (81 + 6 * c) 4 = nI s) (hb : s + 1 + j < 2 ^ 31) : f_C_commandAt mu c (((mu (81 + 6 * c) 4) + 1) + (nI j)) = mu (82 + 6 * c) ((s + 1 + j) % 16) := by
  rw [e_C_commandAt, hs, nI_1, nI_add, and15 hb]
theorem pred_eq (hSC : SafC mu) (hw : ∀ i, i < 256 → mu 2 i = nu 1 i) {c s I : Nat} (hc : c < 3) (hs : mu (81 + 6 * c) 4 = nI s) (hI : nu 7 c = nI I) (hb : I < 2 ^ 30) (hcm : ∀ k, s < k → k ≤ I → mu (82 + 6 * c) (k % 16) = nu 5 (513 * c + k)) {U : Nat} (hU : s + U = I) : ∀ (m n1 n2 j : Nat) (re : Int32), j + m = U → m < n1 → m < n2 → f_D_predicted_46 n1 mu c re (nI U) j = f_M_predicted_34 n2 nu (nI c) re (s + 1 + j) := by
  intro m
  induction m with
  | zero =>
    intro n1 n2 j re h1 h2 h3
    obtain ⟨n1, rfl⟩ : ∃ z, n1 = z + 1 := ⟨n1 - 1, by omega⟩
    obtain ⟨n2, rfl⟩ : ∃ z, n2 = z + 1 := ⟨n2 - 1, by omega⟩
    rw [e_D_predicted_46, e_M_predicted_34, if_pos (nI_le (by omega) (by omega)), nI_clamp (by omega), hI, if_pos (nI_lt (by omega) (by omega))]
  | succ m ih =>
    intro n1 n2 j re h1 h2 h3
    obtain ⟨n1, rfl⟩ : ∃ z, n1 = z + 1 := ⟨n1 - 1, by omega⟩
    obtain ⟨n2, rfl⟩ : ∃ z, n2 = z + 1 := ⟨n2 - 1, by omega⟩
    rw [e_D_predicted_46, e_M_predicted_34, if_neg (nI_ge (by omega) (by omega)), nI_clamp (by omega), hI, if_neg (nI_nlt (by omega) (by omega)), ih n1 n2 (j + 1) _ (by omega) (by omega) (by omega), step_eq hw _ (saf_cmd hSC hc _), cmdAt_eq hs (by omega), hcm _ (by omega) (by omega)]
    rfl
theorem rel_predicted (h : Rel n mu nu) (cli : Int32) : f_D_predicted mu cli = f_M_predicted nu cli := by
  obtain ⟨⟨-, hst, -, hrc, -⟩, ⟨-, hw, -, -, -, -, hcl, -⟩, hC, hM⟩ := h
  rw [e_D_predicted, e_M_predicted]
  by_cases h0 : f_D_isClient cli = 0
  · rw [if_pos h0, if_pos (show f_M_client cli = 0 from h0)]
  · rw [if_neg h0, if_neg (show ¬ f_M_client cli = 0 from h0)]
    obtain ⟨c, hc, rfl⟩ := vp_in_of (cl_in h0) (by decide)
    obtain ⟨r1, r2, r3, r4, r5, r6, -, -⟩ := hrc c hc
    have hmo := mono_D (hrc c hc) (rT nu) (rW nu c) r2 (Nat.le_refl _)
    obtain ⟨c1, c2, c3, c4, c5, c6⟩ := hcl c hc
    have hW := n_W hM c
    have hI := n_I hM c
    have hD := n_D hM (rW nu c) c
    have hun : f_C_unseenCommands mu c = nI (rI nu c - rD nu (rW nu c) c) := by rw [e_C_unseenCommands, c1, c3, hI.1, hD.1, pk_sub (by omega)]
    have hse : f_M_seen nu (nI c) = nI (rD nu (rW nu c) c) := by rw [e_M_seen, nI_clamp (by omega), hW.1, lin3 (by omega), hD.1]
    rw [nI_clamp (by omega), hun, hse, nI_clamp (by omega), nI_clamp (by omega), c2, hW.1, lin8 (by omega)]
    have key := pred_eq hC hw hc (c3.trans hD.1) hI.1 (by omega) c6 (U := rI nu c - rD nu (rW nu c) c) (by omega)
    by_cases h2 : rW nu c = 0
    · rw [if_pos (by rw [h2]; rfl), c4]
      have e := key (rI nu c - rD nu (rW nu c) c) (rI nu c - rD nu (rW nu c) c + 1) 514 0 (nu 3 c) (by omega) (by omega) (by omega)
      rw [e, show 8 * rW nu c + c = c by omega]
    · rw [if_neg (nI_ne0 (by omega) (by omega)), c5 c (by omega), if_neg h2]
      obtain ⟨x, hx, ex⟩ := vp_in_of (hst (rW nu c) c r2 (by omega)) (by decide)
      rw [shw_self ex hx (by omega) (by omega)]
      have e := key (rI nu c - rD nu (rW nu c) c) (rI nu c - rD nu (rW nu c) c + 1) 514 0 (nu 3 (8 * rW nu c + c)) (by omega) (by omega) (by omega)
      rw [e]
end READS
