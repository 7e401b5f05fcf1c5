/-! tick: the snapshots -/
theorem seesF_cg {mu mu2 : fm_T} (h : mu2 3 = mu 3) (a b : Nat) : f_F_sees mu2 a b = f_F_sees mu a b := by
  rw [e_F_sees, e_F_sees, e_F_sees_47, e_F_sees_47, h]
theorem rem9_eq {ci cn R : Nat} (hR : R + 8 < 2 ^ 31) : ∀ (m n : Nat) (mu : fm_T) (j : Nat), j + m = 8 → m < n → f_A_remember_9 n mu ci cn (nI R) j = va_up mu (86 + 6 * ci) (fun x => if R + j ≤ x ∧ x < R + 8 then (if f_F_sees mu cn (x - R) = 0 then -1 else mu 3 (x - R)) else mu (86 + 6 * ci) x) := by
  intro m
  induction m with
  | zero =>
    intro n mu j h1 h2
    obtain ⟨n, rfl⟩ : ∃ z, n = z + 1 := ⟨n - 1, by omega⟩
    have e : (fun x => if R + j ≤ x ∧ x < R + 8 then (if f_F_sees mu cn (x - R) = 0 then -1 else mu 3 (x - R)) else mu (86 + 6 * ci) x) = mu (86 + 6 * ci) := by
      funext x
      rw [if_neg (by omega)]
    rw [e_A_remember_9, if_pos (show (8 : Int32) ≤ nI j from nI_le (a := 8) (by omega) (by omega)), e, va_up_id]
  | succ m ih =>
    intro n mu j h1 h2
    obtain ⟨n, rfl⟩ : ∃ z, n = z + 1 := ⟨n - 1, by omega⟩
    have e1 : f_A_remember_9 (n + 1) mu ci cn (nI R) j = f_A_remember_9 n (fm_up mu (86 + 6 * ci) (R + j) (if f_F_sees mu cn j = 0 then -1 else mu 3 j)) ci cn (nI R) (j + 1) := by
      rw [e_A_remember_9, if_neg (show ¬ (8 : Int32) ≤ nI j from nI_ge (b := 8) (by omega) (by decide)), nI_add, nI_clamp (by omega)]
      split <;> rfl
    rw [e1, ih n _ (j + 1) (by omega) (by omega), fm_up_ne (show 3 ≠ 86 + 6 * ci by omega)]
    unfold fm_up
    rw [bx_uu]
    congr 1
    funext x
    rw [va_up_self, seesF_cg (mu := mu) (va_up_ne _ _ (by omega))]
    unfold upd
    by_cases a : R + (j + 1) ≤ x ∧ x < R + 8
    · rw [if_pos a, if_pos (show R + j ≤ x ∧ x < R + 8 by omega)]
    · rw [if_neg a]
      by_cases b : x = R + j
      · rw [if_pos b, if_pos (show R + j ≤ x ∧ x < R + 8 by omega), b, show R + j - R = j by omega]
      · rw [if_neg b, if_neg (show ¬ (R + j ≤ x ∧ x < R + 8) by omega)]
theorem rem_relT {n m : Nat} {mu nu : fm_T} (h : RelT n m mu nu) (hm : m < 3) : RelT n (m + 1) (f_A_remember mu m (mu 0 4) m) nu ∧ (∀ k, k ≠ 86 + 6 * m → f_A_remember mu m (mu 0 4) m k = mu k) := by
  obtain ⟨⟨r1, r2, r3, r4, r5⟩, ⟨⟨ha, hz⟩, hw, hpl, hd, hinj, hpk, hcl, hac⟩, hC, hM⟩ := h
  have hT := n_T hM
  have e0 : f_A_remember mu m (mu 0 4) m = va_up mu (86 + 6 * m) (fun x => if rT nu % 8 * 8 ≤ x ∧ x < rT nu % 8 * 8 + 8 then (if f_F_sees mu m (x - rT nu % 8 * 8) = 0 then -1 else mu 3 (x - rT nu % 8 * 8)) else mu (86 + 6 * m) x) := by
    rw [e_A_remember, ha, hT.1, and7 (by omega), rem9_eq (by omega) 8 9 mu 0 (by omega) (by omega)]
    rfl
  have hS := saf_remember hC hm (mu 0 4) m
  have mo : ∀ k, k ≠ 86 + 6 * m → f_A_remember mu m (mu 0 4) m k = mu k := fun k hk => by rw [e0, va_up_ne _ _ hk]
  have m86 : ∀ x, f_A_remember mu m (mu 0 4) m (86 + 6 * m) x = if rT nu % 8 * 8 ≤ x ∧ x < rT nu % 8 * 8 + 8 then (if f_F_sees mu m (x - rT nu % 8 * 8) = 0 then -1 else mu 3 (x - rT nu % 8 * 8)) else mu (86 + 6 * m) x := fun x => by rw [e0, va_up_self]
  generalize f_A_remember mu m (mu 0 4) m = mu2 at *
  refine ⟨⟨⟨r1, r2, r3, r4, r5⟩, ⟨⟨by rw [mo 0 (by omega)]; exact ha, by rw [mo 5 (by omega)]; exact hz⟩, fun i hi => by rw [mo 2 (by omega)]; exact hw i hi, fun e he => by rw [mo 3 (by omega)]; exact hpl e he, fun e e1 e2 => by rw [mo 4 (by omega)]; exact hd e e1 e2, fun i j hi hj => by rw [mo 6 (by omega)]; exact hinj i j hi hj, fun i hi => ?_, fun c hc => CliR_mu (mo _ (by omega)) (mo _ (by omega)) (mo _ (by omega)) (hcl c hc), fun c hc => ?_⟩, hS, hM⟩, mo⟩
  · rw [mo 6 (by omega)]
    have hq := pn_lt (mu 6 i)
    exact PkR_of hM (r5 i hi) (mo _ (by omega)) (mo _ (by omega)) (mo _ (by omega)) (fun _ _ => rfl) (fun _ _ _ _ _ => rfl) (fun _ _ _ _ _ => rfl) (hpk i hi)
  · obtain ⟨a1, a2, a3, a4⟩ := hac c hc
    refine ⟨by rw [mo _ (by omega)]; exact a1, by rw [mo _ (by omega)]; exact a2, by rw [mo _ (by omega)]; exact a3, fun t t1 t2 t3 t4 e he => ?_⟩
    by_cases z : c = m
    · subst z
      rw [m86]
      rcases Nat.lt_or_ge t (rT nu) with y | y
      · rw [if_neg (by omega)]
        exact a4 t t1 t2 t3 (Or.inl y) e he
      · have ht : t = rT nu := by omega
        subst ht
        rw [if_pos (by omega), show rT nu % 8 * 8 + e - rT nu % 8 * 8 = e by omega]
        obtain ⟨x, hx, ex⟩ := vp_in_of (r2 (rT nu) c (Nat.le_refl _) (by omega)) (by decide)
        obtain ⟨y2, hy, ey⟩ := vp_in_of (r2 (rT nu) e (Nat.le_refl _) he) (by decide)
        have s1 := seesC (mu := mu) (ca := c) (eb := e) ((hpl c (by omega)).trans ex) ((hpl e he).trans ey) hx hy
        have s2 := seesM (nu := nu) (c := c) (e := e) (t := rT nu) ex ey hx hy (by omega) (by omega) he
        unfold shw
        by_cases w : near x y2
        · rw [if_neg (fun q => s1.mp q w), if_neg (fun q => s2.mp q w), hpl e he]
        · rw [if_pos (s1.mpr w), if_pos (s2.mpr w)]
    · rw [mo _ (by omega)]
      exact a4 t t1 t2 t3 (t4.elim Or.inl (fun q => Or.inr (by omega))) e he
theorem size_loop {mu nu nu2 : fm_T} {c T ba a : Nat} (hc : c < 3) (hT : T < 513) (hba : ba ≤ T) (hv : ∀ s k, s ≤ T → k < 8 → vp_in (nu 3 (8 * s + k)) 256) (h3 : nu2 3 = nu 3) (c2 : nu2 10 a = nI c) (t2 : nu2 10 (a + 2) = nI T) (b2 : nu2 10 (a + 3) = nI ba) (hrT : ∀ e, e < 8 → mu (86 + 6 * c) (T % 8 * 8 + e) = shw nu c e T) (hrB : 1 ≤ ba → ∀ e, e < 8 → mu (86 + 6 * c) (ba % 8 * 8 + e) = shw nu c e ba) : ∀ (n j : Nat) (sz : Int32), j ≤ 8 → f_A_snapshotSize_15 n mu c (nI T) (nI ba) sz j = f_M_size_46 n nu2 a sz j := by
  intro n
  induction n with
  | zero => exact fun _ _ _ => rfl
  | succ n ih =>
    intro j sz hj9
    rw [e_A_snapshotSize_15, e_M_size_46]
    by_cases hj : 8 ≤ nI j
    · rw [if_pos hj, if_pos hj]
    · have hj8 : j < 8 := lp_lt rfl hj9 (by decide) hj
      have e2 : ∀ s, s ≤ T → ∀ k, k < 8 → nu2 3 (8 * s + k) = nu 3 (8 * s + k) := fun s _ k _ => by rw [h3]
      have ix : ∀ s, s ≤ T → (f_A_rowOf (nI s) + nI j).toNatClampNeg = s % 8 * 8 + j := fun s hs => by rw [and7 (by omega), nI_add, nI_clamp (by omega)]
      rw [if_neg hj, if_neg hj, c2, t2, b2, bits_cg (nu := nu) (nu2 := nu2) (by omega) (by omega) (e2 T (Nat.le_refl _)) (e2 ba hba) (by omega) hj8, ← bits_eq (by omega) (by omega) (by omega) hj8 (fun s k hs hk => by rcases hs with rfl | rfl; exact hv _ k (Nat.le_refl _) hk; exact hv _ k hba hk), ix T (Nat.le_refl _), ix ba hba, hrT j hj8]
      by_cases z : ba = 0
      · rw [if_pos (show nI ba = 0 by rw [z]; rfl), if_pos z, ih _ _ (by omega)]
      · rw [if_neg (nI_ne0 (by omega) (by omega)), if_neg z, hrB (by omega) j hj8, ih _ _ (by omega)]
