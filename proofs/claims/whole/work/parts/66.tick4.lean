/-! tick: the relation while the snapshots are sent: the first m clients' are -/
def AccT (m : Nat) (mu nu : fm_T) (c : Nat) : Prop :=
  mu (84 + 6 * c) 2 = nu 4 (3 * rT nu + c) ∧ mu (84 + 6 * c) 3 = nu 8 c ∧
  (∀ k, rD nu (rT nu) c < k → k ≤ rD nu (rT nu) c + 16 → mu (85 + 6 * c) (k % 16) = hld nu c k) ∧
  (∀ t, 1 ≤ t → t ≤ rT nu → rT nu < t + 8 → (t < rT nu ∨ c < m) → ∀ e, e < 8 → mu (86 + 6 * c) (t % 8 * 8 + e) = shw nu c e t)
def CRT (m : Nat) (mu nu : fm_T) : Prop :=
  (mu 0 4 = nu 0 2 ∧ mu 5 1 = nu 0 11) ∧ (∀ i, i < 256 → mu 2 i = nu 1 i) ∧ (∀ e, e < 8 → mu 3 e = nu 3 (8 * rT nu + e)) ∧ (∀ e, 3 ≤ e → e < 8 → mu 4 e = nu 2 e) ∧
  Inj mu ∧ (∀ i, i < rZ nu → PkR mu nu (pn (mu 6 i)) i) ∧ (∀ c, c < 3 → CliR mu nu c) ∧ (∀ c, c < 3 → AccT m mu nu c)
def RelT (n m : Nat) (mu nu : fm_T) : Prop := RI n nu ∧ CRT m mu nu ∧ SafC mu ∧ SafM nu
theorem relT_3 {n : Nat} {mu nu : fm_T} (h : RelT n 3 mu nu) : Rel n mu nu := by
  obtain ⟨hR, ⟨c1, c2, c3, c4, c5, c6, c7, c8⟩, hC, hM⟩ := h
  exact ⟨hR, ⟨c1, c2, c3, c4, c5, c6, c7, fun c hc => ⟨(c8 c hc).1, (c8 c hc).2.1, (c8 c hc).2.2.1, fun t t1 t2 t3 => (c8 c hc).2.2.2 t t1 t2 t3 (Or.inr hc)⟩⟩, hC, hM⟩
theorem AccT_mu {m : Nat} {mu mu2 nu : fm_T} {c : Nat} (h84 : mu2 (84 + 6 * c) = mu (84 + 6 * c)) (h85 : mu2 (85 + 6 * c) = mu (85 + 6 * c)) (h86 : mu2 (86 + 6 * c) = mu (86 + 6 * c)) (h : AccT m mu nu c) : AccT m mu2 nu c := by
  unfold AccT at h ⊢
  rw [h84, h85, h86]
  exact h
theorem add_relT {n m : Nat} {mu nu : fm_T} (h : RelT n m mu nu) (hz : rZ nu < 24) {cc sn tk mo to : Int32} (vc : vp_in cc 3) (vt : vp_in tk 513) (vm : vp_in mo 513) (vo : vp_in to 513) {mu2 : fm_T} (m5 : mu2 5 1 = nI (rZ nu + 1)) (mo2 : ∀ j, j ≠ 5 → j ≠ 7 + 3 * pn (mu 6 (rZ nu)) → j ≠ 8 + 3 * pn (mu 6 (rZ nu)) → j ≠ 9 + 3 * pn (mu 6 (rZ nu)) → mu2 j = mu j) (hS2 : SafC mu2) (hr : RIp (f_M_send nu cc sn tk mo to) (rZ nu)) (hp : PkR mu2 (f_M_send nu cc sn tk mo to) (pn (mu 6 (rZ nu))) (rZ nu)) : RelT n m mu2 (f_M_send nu cc sn tk mo to) := by
  obtain ⟨⟨r1, r2, r3, r4, r5⟩, ⟨⟨ha, hz5⟩, hw, hpl, hd, hinj, hpk, hcl, hac⟩, hC, hM⟩ := h
  have hSM2 : SafM (f_M_send nu cc sn tk mo to) := smf_send hM vc vt vm vo
  obtain ⟨no, n02, n011, n10, -⟩ := send_rows hM hz cc sn tk mo to
  generalize f_M_send nu cc sn tk mo to = nu2 at *
  have hq := pn_lt (mu 6 (rZ nu))
  have eT : rT nu2 = rT nu := by unfold rT; rw [n02]
  have eZ : rZ nu2 = rZ nu + 1 := by unfold rZ; rw [n011]; exact nI_clamp (by omega)
  have eW : ∀ c, rW nu2 c = rW nu c := fun c => by unfold rW; rw [no 9 (by decide) (by decide)]
  have eA : ∀ c, rA nu2 c = rA nu c := fun c => by unfold rA; rw [no 8 (by decide) (by decide)]
  have eI : ∀ c, rI nu2 c = rI nu c := fun c => by unfold rI; rw [no 7 (by decide) (by decide)]
  have eD : ∀ t c, rD nu2 t c = rD nu t c := fun t c => by unfold rD; rw [no 4 (by decide) (by decide)]
  have e3 : ∀ t, ∀ k, k < 8 → nu2 3 (8 * t + k) = nu 3 (8 * t + k) := fun t k _ => by rw [no 3 (by decide) (by decide)]
  refine ⟨⟨by rw [eT]; exact r1, fun t e ht he => ?_, fun e e1 e2 => ?_, fun c hc => ?_, fun i hi => ?_⟩, ⟨⟨?_, ?_⟩, fun i hi => ?_, fun e he => ?_, fun e e1 e2 => ?_, ?_, fun i hi => ?_, fun c hc => ?_, fun c hc => ?_⟩, hS2, hSM2⟩
  · rw [no 3 (by decide) (by decide)]
    exact r2 t e (by rw [← eT]; exact ht) he
  · rw [no 2 (by decide) (by decide)]
    exact r3 e e1 e2
  · have q := r4 c hc
    unfold RIc at q ⊢
    rw [eT, eW, eA, eI, no 5 (by decide) (by decide), no 6 (by decide) (by decide)]
    simp only [eD]
    exact q
  · rcases Nat.lt_or_ge i (rZ nu) with z | z
    · exact RIp_of (i := i) (fun k hk => n10 _ (by omega)) (fun c => by rw [eI]; exact Nat.le_refl _) (by rw [eT]; exact Nat.le_refl _) (fun c _ => by rw [eT, eD]; exact Nat.le_refl _) (fun t c _ _ => eD t c) hM (r5 i z)
    · rw [eZ] at hi
      rw [show i = rZ nu by omega]
      exact hr
  · rw [mo2 0 (by omega) (by omega) (by omega) (by omega), n02]
    exact ha
  · rw [m5, n011]
  · rw [mo2 2 (by omega) (by omega) (by omega) (by omega), no 1 (by decide) (by decide)]
    exact hw i hi
  · rw [mo2 3 (by omega) (by omega) (by omega) (by omega), no 3 (by decide) (by decide), eT]
    exact hpl e he
  · rw [mo2 4 (by omega) (by omega) (by omega) (by omega), no 2 (by decide) (by decide)]
    exact hd e e1 e2
  · intro i j hi hj
    rw [mo2 6 (by omega) (by omega) (by omega) (by omega)]
    exact hinj i j hi hj
  · rw [mo2 6 (by omega) (by omega) (by omega) (by omega)]
    rcases Nat.lt_or_ge i (rZ nu) with z | z
    · have hne : pn (mu 6 i) ≠ pn (mu 6 (rZ nu)) := fun q => by
        have := hinj i (rZ nu) (by omega) hz q
        omega
      have hqi := pn_lt (mu 6 i)
      exact PkR_of hM (r5 i z) (mo2 _ (by omega) (by omega) (by omega) (by omega)) (mo2 _ (by omega) (by omega) (by omega) (by omega)) (mo2 _ (by omega) (by omega) (by omega) (by omega)) (fun k hk => n10 _ (by omega)) (fun _ t _ => e3 t) (fun c k _ _ _ => by rw [no 5 (by decide) (by decide)]) (hpk i z)
    · rw [eZ] at hi
      rw [show i = rZ nu by omega]
      exact hp
  · have q := hcl c hc
    have hW2 := (n_W hM c).2
    refine CliR_mu (mu := mu) (mo2 _ (by omega) (by omega) (by omega) (by omega)) (mo2 _ (by omega) (by omega) (by omega) (by omega)) (mo2 _ (by omega) (by omega) (by omega) (by omega)) ?_
    unfold CliR at q ⊢
    rw [no 7 (by decide) (by decide), no 9 (by decide) (by decide), no 4 (by decide) (by decide), no 3 (by decide) (by decide), no 5 (by decide) (by decide), eW, eI, eD]
    refine ⟨q.1, q.2.1, q.2.2.1, q.2.2.2.1, fun e he => ?_, q.2.2.2.2.2⟩
    rw [q.2.2.2.2.1 e he, shw_cg (nu := nu) (nu2 := nu2) (by omega) (e3 _) (by omega) he]
  · have q := hac c hc
    have hT := n_T hM
    refine AccT_mu (mu := mu) (mo2 _ (by omega) (by omega) (by omega) (by omega)) (mo2 _ (by omega) (by omega) (by omega) (by omega)) (mo2 _ (by omega) (by omega) (by omega) (by omega)) ?_
    unfold AccT hld at q ⊢
    rw [no 8 (by decide) (by decide), no 4 (by decide) (by decide), no 5 (by decide) (by decide), no 6 (by decide) (by decide), eT, eI, eD]
    refine ⟨q.1, q.2.1, q.2.2.1, fun t t1 t2 t3 t4 e he => ?_⟩
    rw [q.2.2.2 t t1 t2 t3 t4 e he, shw_cg (nu := nu) (nu2 := nu2) (by omega) (e3 _) (by omega) he]
theorem dif_rel {n : Nat} {m0 n0 mu nu : fm_T} (h0 : Rel n m0 n0) (hT2 : rT n0 < 512) (h : Dif m0 n0 (rT n0) 8 mu nu) : RelT (n + 1) 0 mu nu := by
  obtain ⟨⟨r1, r2, r3, r4, r5⟩, ⟨⟨ha, hz⟩, hw, hpl, hd, hinj, hpk, hcl, hac⟩, hC0, hM0⟩ := h0
  obtain ⟨d1, d2, d3, d4, d5, d6, d7, d8, d9, d10, d11, hC, hM⟩ := h
  have mo : ∀ k, k ≠ 0 → k ≠ 3 → k ≠ 4 → (∀ c, c < 3 → k ≠ 84 + 6 * c ∧ k ≠ 85 + 6 * c) → mu k = m0 k := d1
  have no : ∀ k, k ≠ 0 → k ≠ 2 → k ≠ 3 → k ≠ 4 → k ≠ 6 → nu k = n0 k := d3
  have eT : rT nu = rT n0 + 1 := by unfold rT at *; rw [d4.1]; exact nI_clamp (by omega)
  have eZ : rZ nu = rZ n0 := by unfold rZ; rw [d4.2]
  have eI : ∀ c, rI nu c = rI n0 c := fun c => by unfold rI; rw [no 7 (by decide) (by decide) (by decide) (by decide) (by decide)]
  have eA : ∀ c, rA nu c = rA n0 c := fun c => by unfold rA; rw [no 8 (by decide) (by decide) (by decide) (by decide) (by decide)]
  have eW : ∀ c, rW nu c = rW n0 c := fun c => by unfold rW; rw [no 9 (by decide) (by decide) (by decide) (by decide) (by decide)]
  have eD : ∀ t c, t ≤ rT n0 → c < 3 → rD nu t c = rD n0 t c := fun t c ht hc => by unfold rD; rw [d6 _ (by omega)]
  have e3 : ∀ t, t ≤ rT n0 → ∀ k, k < 8 → nu 3 (8 * t + k) = n0 3 (8 * t + k) := fun t ht k hk => d5 _ (by omega)
  have eN : ∀ c, c < 3 → ∃ d, nu 4 (3 * (rT n0 + 1) + c) = nI d ∧ rD nu (rT n0 + 1) c = d ∧ rD n0 (rT n0) c ≤ d ∧ d ≤ rI n0 c := fun c hc => by
    obtain ⟨d, s1, s2, s3, -⟩ := d11 c hc (by omega)
    have hI := (n_I hM0 c).2
    exact ⟨d, s1, by unfold rD; rw [s1]; exact nI_clamp (by omega), s2, s3⟩
  refine ⟨⟨by omega, fun t e ht he => ?_, fun e e1 e2 => (d9 e e1 e2).2, fun c hc => ?_, fun i hi => ?_⟩, ⟨⟨by rw [d2, d4.1], by rw [mo 5 (by decide) (by decide) (by decide) (fun c _ => by omega), d4.2]; exact hz⟩, fun i hi => by rw [mo 2 (by decide) (by decide) (by decide) (fun c _ => by omega), no 1 (by decide) (by decide) (by decide) (by decide) (by decide)]; exact hw i hi, fun e he => ?_, fun e e1 e2 => (d9 e e1 e2).1, fun i j hi hj => by rw [mo 6 (by decide) (by decide) (by decide) (fun c _ => by omega)]; exact hinj i j hi hj, fun i hi => ?_, fun c hc => ?_, fun c hc => ?_⟩, hC, hM⟩
  · rcases Nat.lt_or_ge (rT n0) t with z | z
    · have : t = rT n0 + 1 := by omega
      subst this
      rw [show 8 * (rT n0 + 1) + e = 8 * rT n0 + 8 + e by omega]
      exact d8 e he he
    · rw [e3 t z e he]
      exact r2 t e z he
  · obtain ⟨p1, p2, p3, p4, p5, p6, p7, p8⟩ := r4 c hc
    obtain ⟨d, s0, s1, s2, s3⟩ := eN c hc
    obtain ⟨dd, u1, u2, u3, u4, u5, u6, u7⟩ := d11 c hc (by omega)
    have hdd : dd = d := by
      rw [u1] at s0
      have hI := (n_I hM0 c).2
      exact (nI_eq (by omega) (by omega)).mp s0
    subst hdd
    unfold RIc
    rw [eT, eI, eW, eA, s1, eD _ c p2 hc, no 5 (by decide) (by decide) (by decide) (by decide) (by decide)]
    refine ⟨by omega, by omega, by omega, s3, p5, fun t ht => ?_, p7, u7⟩
    rcases Nat.lt_or_ge t (rT n0) with z | z
    · rw [eD t c (by omega) hc, eD (t + 1) c (by omega) hc]
      exact p6 t z
    · rw [show t = rT n0 by omega, s1, eD _ c (Nat.le_refl _) hc]
      exact s2
  · rw [eZ] at hi
    refine RIp_of (i := i) (fun k _ => by rw [no 10 (by decide) (by decide) (by decide) (by decide) (by decide)]) (fun c => by rw [eI]; exact Nat.le_refl _) (by omega) (fun c hc => ?_) (fun t c ht hc => eD t c ht hc) hM0 (r5 i hi)
    obtain ⟨d, s0, s1, s2, s3⟩ := eN c hc
    rw [eT, s1]
    exact s2
  · rw [eT, show 8 * (rT n0 + 1) + e = 8 * rT n0 + 8 + e by omega, d7 e he, if_pos he]
  · rw [eZ] at hi
    rw [mo 6 (by decide) (by decide) (by decide) (fun c _ => by omega)]
    have hq := pn_lt (m0 6 i)
    exact PkR_of hM0 (r5 i hi) (mo _ (by omega) (by omega) (by omega) (fun c _ => by omega)) (mo _ (by omega) (by omega) (by omega) (fun c _ => by omega)) (mo _ (by omega) (by omega) (by omega) (fun c _ => by omega)) (fun k _ => by rw [no 10 (by decide) (by decide) (by decide) (by decide) (by decide)]) (fun _ t ht => e3 t ht) (fun c k _ _ _ => by rw [no 5 (by decide) (by decide) (by decide) (by decide) (by decide)]) (hpk i hi)
  · have q := hcl c hc
    have p2 := (r4 c hc).2.1
    refine CliR_mu (mu := m0) (mo _ (by omega) (by omega) (by omega) (fun c _ => by omega)) (mo _ (by omega) (by omega) (by omega) (fun c _ => by omega)) (mo _ (by omega) (by omega) (by omega) (fun c _ => by omega)) ?_
    unfold CliR at q ⊢
    rw [no 7 (by decide) (by decide) (by decide) (by decide) (by decide), no 9 (by decide) (by decide) (by decide) (by decide) (by decide), no 5 (by decide) (by decide) (by decide) (by decide) (by decide), eW, eI, eD _ c p2 hc, d6 _ (by omega), d5 c (by omega)]
    refine ⟨q.1, q.2.1, q.2.2.1, q.2.2.2.1, fun e he => ?_, q.2.2.2.2.2⟩
    rw [q.2.2.2.2.1 e he, shw_cg (nu := n0) (nu2 := nu) (by omega) (e3 _ p2) (by omega) he]
  · obtain ⟨a1, a2, a3, a4⟩ := hac c hc
    obtain ⟨d, s0, s1, s2, s3⟩ := eN c hc
    obtain ⟨dd, u1, u2, u3, u4, u5, u6, u7⟩ := d11 c hc (by omega)
    have hdd : dd = d := by
      rw [u1] at s0
      have hI := (n_I hM0 c).2
      exact (nI_eq (by omega) (by omega)).mp s0
    subst hdd
    unfold AccT
    rw [eT, s1, u4, s0, u5, a2, no 8 (by decide) (by decide) (by decide) (by decide) (by decide), mo (86 + 6 * c) (by omega) (by omega) (by omega) (fun c _ => by omega)]
    refine ⟨rfl, rfl, fun k k1 k2 => ?_, fun t t1 t2 t3 t4 e he => ?_⟩
    · rw [u6 k k1 k2]
      unfold hld
      rw [eI, no 5 (by decide) (by decide) (by decide) (by decide) (by decide)]
    · rw [a4 t t1 (by omega) (by omega) e he, shw_cg (nu := n0) (nu2 := nu) (by omega) (e3 t (by omega)) (by omega) he]
