/-! a packet is taken out -/
theorem tk19_eq (tk : Int32) {Z : Nat} (hZ : Z < 24) : ∀ (n : Nat) (mu : fm_T) (j : Nat), mu 5 1 = nI Z → j ≤ Z → Z < j + n → f_N_takeOut_19 n mu tk j = (tk, va_up mu 6 (fun i => if j ≤ i ∧ i < Z then mu 6 (i + 1) else if i = Z then tk else mu 6 i)) := by
  intro n
  induction n with
  | zero =>
    intro mu j h1 h2 h3
    exfalso
    omega
  | succ n ih =>
    intro mu j h1 h2 h3
    rw [e_N_takeOut_19, h1]
    rcases Nat.lt_or_ge j Z with z | z
    · rw [if_neg (nI_ge z (by omega)), ih _ (j + 1) (by rw [fm_up_ne (by decide)]; exact h1) (by omega) (by omega)]
      congr 1
      unfold fm_up
      rw [bx_uu]
      congr 1
      funext i
      rw [va_up_self]
      unfold upd
      by_cases a : j + 1 ≤ i ∧ i < Z
      · rw [if_pos a, if_neg (by omega), if_pos (by omega)]
      · rw [if_neg a]
        by_cases b : i = Z
        · rw [if_pos b, if_neg (by omega), if_pos b]
        · rw [if_neg b]
          by_cases c : i = j
          · rw [if_pos c, if_pos (by omega), c]
          · rw [if_neg c, if_neg (by omega), if_neg b]
    · have hj : j = Z := by omega
      subst hj
      rw [if_pos (nI_le (Nat.le_refl _) (by omega)), nI_clamp (by omega)]
      congr 1
      unfold fm_up
      congr 1
      funext i
      unfold upd
      rw [if_neg (show ¬ (j ≤ i ∧ i < j) by omega)]
theorem mt14_eq {Z : Nat} (hZ : Z < 24) : ∀ (n : Nat) (nu : fm_T) (j : Nat), nu 0 11 = nI Z → j ≤ 5 * Z → 5 * Z < j + n → f_M_takeOut_14 n nu j = va_up nu 10 (fun i => if j ≤ i ∧ i < 5 * Z then nu 10 (i + 5) else nu 10 i) := by
  intro n
  induction n with
  | zero =>
    intro nu j h1 h2 h3
    exfalso
    omega
  | succ n ih =>
    intro nu j h1 h2 h3
    rw [e_M_takeOut_14, h1, nI_clamp (by omega)]
    rcases Nat.lt_or_ge j (5 * Z) with z | z
    · rw [if_neg (nI_ge z (by omega)), ih _ (j + 1) (by rw [fm_up_ne (by decide)]; exact h1) (by omega) (by omega)]
      unfold fm_up
      rw [bx_uu]
      congr 1
      funext i
      rw [va_up_self]
      unfold upd
      by_cases a : j + 1 ≤ i ∧ i < 5 * Z
      · rw [if_pos a, if_neg (by omega), if_pos (by omega)]
      · rw [if_neg a]
        by_cases c : i = j
        · rw [if_pos c, if_pos (by omega), c]
        · rw [if_neg c, if_neg (by omega)]
    · rw [if_pos (nI_le z (by omega))]
      have e : (fun i => if j ≤ i ∧ i < 5 * Z then nu 10 (i + 5) else nu 10 i) = nu 10 := by
        funext i
        rw [if_neg (by omega)]
      rw [e, va_up_id]
theorem RIp_of {nu nu2 : fm_T} {i i2 : Nat} (h10 : ∀ k, k < 5 → nu2 10 (5 * i2 + k) = nu 10 (5 * i + k)) (eI : ∀ c, rI nu c ≤ rI nu2 c) (eT : rT nu ≤ rT nu2) (eDT : ∀ c, c < 3 → rD nu (rT nu) c ≤ rD nu2 (rT nu2) c) (eD : ∀ t c, t ≤ rT nu → c < 3 → rD nu2 t c = rD nu t c) (hM : SafM nu) (h : RIp nu i) : RIp nu2 i2 := by
  have e0 : nu2 10 (5 * i2) = nu 10 (5 * i) := h10 0 (by decide)
  have eC : pC nu2 i2 = pC nu i := by unfold pC; rw [e0]
  have eT2 : pT nu2 i2 = pT nu i := by unfold pT; rw [h10 2 (by decide)]
  have eM : pM nu2 i2 = pM nu i := by unfold pM; rw [h10 3 (by decide)]
  have eO : pO nu2 i2 = pO nu i := by unfold pO; rw [h10 4 (by decide)]
  have hc := (n_pC hM i).2
  unfold RIp
  rw [h10 1 (by decide), eC, eT2, eM, eO]
  rcases h with ⟨a, b1, b2, b3, b4⟩ | ⟨a, b1, b2, b3, b4⟩
  · exact Or.inl ⟨a, Nat.le_trans b1 (eI _), Nat.le_trans b2 (eDT _ hc), b3, Nat.le_trans b4 eT⟩
  · exact Or.inr ⟨a, b1, Nat.le_trans b2 eT, Nat.le_trans b3 eT, by rw [eD _ _ b2 hc]; exact b4⟩
/-- where the i-th packet behind a taking-out of k lay -/
def sg (k i : Nat) : Nat := if k ≤ i then i + 1 else i
theorem take_rel {n : Nat} {mu nu : fm_T} (h : Rel n mu nu) {k : Nat} (hk : k < rZ nu) : (f_N_takeOut mu (nI k)).1 = mu 6 k ∧ Rel n (f_N_takeOut mu (nI k)).2 (f_M_takeOut nu (nI k)) ∧ (∀ j, j ≠ 5 → j ≠ 6 → (f_N_takeOut mu (nI k)).2 j = mu j) ∧ (∀ j, j ≠ 0 → j ≠ 10 → f_M_takeOut nu (nI k) j = nu j) ∧ f_M_takeOut nu (nI k) 0 2 = nu 0 2 := by
  obtain ⟨⟨r1, r2, r3, r4, r5⟩, ⟨⟨ha, hz⟩, hw, hpl, hd, hinj, hpk, hcl, hac⟩, hC, hM⟩ := h
  have hZ := n_Z hM
  obtain ⟨Z, eZ⟩ : ∃ Z, rZ nu = Z + 1 := ⟨rZ nu - 1, by omega⟩
  rw [eZ] at hZ hk
  have e1 : f_N_takeOut mu (nI k) = (mu 6 k, va_up (fm_up mu 5 1 (nI Z)) 6 (fun i => if k ≤ i ∧ i < Z then mu 6 (i + 1) else if i = Z then mu 6 k else mu 6 i)) := by
    rw [e_N_takeOut, hz, hZ.1, nI_pred, nI_clamp (by omega), tk19_eq _ (Z := Z) (by omega) 24 _ k (fm_up_same _ _ _ _) (by omega) (by omega), fm_up_ne (by decide)]
  have e2 : f_M_takeOut nu (nI k) = va_up (fm_up nu 0 11 (nI Z)) 10 (fun i => if 5 * k ≤ i ∧ i < 5 * Z then nu 10 (i + 5) else nu 10 i) := by
    rw [e_M_takeOut, hZ.1, nI_pred, nI_clamp (by omega), mt14_eq (Z := Z) (by omega) 116 _ (5 * k) (fm_up_same _ _ _ _) (by omega) (by omega), fm_up_ne (by decide)]
  have hk0 : ¬ nI k < 0 := nI_pos (by omega)
  have hk1 : ¬ mu 5 1 ≤ nI k := by
    rw [hz, hZ.1]
    exact nI_ge (by omega) (by omega)
  have hS1 := saf_take hC hk0 hk1
  have hS2 := smf_take hM hk0 (by rw [← hz]; exact hk1)
  rw [e1] at hS1 ⊢
  rw [e2] at hS2 ⊢
  dsimp only at hS1 ⊢
  refine ⟨rfl, ?_, fun j j5 j6 => ?_, fun j j0 j10 => ?_, rfl⟩
  · have sgl : ∀ i, i < Z → sg k i < rZ nu := fun i hi => by
      unfold sg
      split <;> omega
    have m6 : ∀ i, i < Z → (va_up (fm_up mu 5 1 (nI Z)) 6 (fun i => if k ≤ i ∧ i < Z then mu 6 (i + 1) else if i = Z then mu 6 k else mu 6 i)) 6 i = mu 6 (sg k i) := fun i hi => by
      rw [va_up_self]
      unfold sg
      by_cases a : k ≤ i
      · rw [if_pos ⟨a, hi⟩, if_pos a]
      · rw [if_neg (fun z => a z.1), if_neg (by omega), if_neg a]
    have n10 : ∀ i, i < Z → ∀ m, m < 5 → (va_up (fm_up nu 0 11 (nI Z)) 10 (fun i => if 5 * k ≤ i ∧ i < 5 * Z then nu 10 (i + 5) else nu 10 i)) 10 (5 * i + m) = nu 10 (5 * sg k i + m) := fun i hi m hm => by
      rw [va_up_self]
      unfold sg
      by_cases a : k ≤ i
      · rw [if_pos ⟨by omega, by omega⟩, if_pos a]
        congr 1
        omega
      · rw [if_neg (by omega), if_neg a]
    have eZ1 : rZ (va_up (fm_up nu 0 11 (nI Z)) 10 (fun i => if 5 * k ≤ i ∧ i < 5 * Z then nu 10 (i + 5) else nu 10 i)) = Z := nI_clamp (n := Z) (by omega)
    refine ⟨⟨r1, r2, r3, r4, fun i hi => ?_⟩, ⟨⟨ha, rfl⟩, hw, hpl, hd, ?_, fun i hi => ?_, fun c hc => ?_, fun c hc => ?_⟩, hS1, hS2⟩
    · rw [eZ1] at hi
      exact RIp_of (i := sg k i) (n10 i hi) (fun _ => Nat.le_refl _) (Nat.le_refl _) (fun _ _ => Nat.le_refl _) (fun _ _ _ _ => rfl) hM (r5 _ (sgl i hi))
    · intro i j hi hj hij
      have t6 : ∀ i, (va_up (fm_up mu 5 1 (nI Z)) 6 (fun i => if k ≤ i ∧ i < Z then mu 6 (i + 1) else if i = Z then mu 6 k else mu 6 i)) 6 i = mu 6 (if k ≤ i ∧ i < Z then i + 1 else if i = Z then k else i) := fun i => by
        rw [va_up_self]
        split
        · rfl
        · split <;> rfl
      rw [t6, t6] at hij
      have tb : ∀ i, i < 24 → (if k ≤ i ∧ i < Z then i + 1 else if i = Z then k else i) < 24 := fun i hi => by
        split
        · omega
        · split <;> omega
      have q := hinj _ _ (tb i hi) (tb j hj) hij
      split at q
      · split at q
        · omega
        · split at q <;> omega
      · split at q
        · split at q
          · omega
          · split at q <;> omega
        · split at q
          · omega
          · split at q <;> omega
    · rw [eZ1] at hi
      rw [m6 i hi]
      have hq := pn_lt (mu 6 (sg k i))
      exact PkR_of hM (r5 _ (sgl i hi)) (by rw [va_up_ne _ _ (by omega), fm_up_ne (by omega)]) (by rw [va_up_ne _ _ (by omega), fm_up_ne (by omega)]) (by rw [va_up_ne _ _ (by omega), fm_up_ne (by omega)]) (n10 i hi) (fun _ _ _ _ _ => rfl) (fun _ _ _ _ _ => rfl) (hpk _ (sgl i hi))
    · exact CliR_mu (nu := va_up (fm_up nu 0 11 (nI Z)) 10 (fun i => if 5 * k ≤ i ∧ i < 5 * Z then nu 10 (i + 5) else nu 10 i)) (by rw [va_up_ne _ _ (by omega), fm_up_ne (by omega)]) (by rw [va_up_ne _ _ (by omega), fm_up_ne (by omega)]) (by rw [va_up_ne _ _ (by omega), fm_up_ne (by omega)]) (hcl c hc)
    · exact AccR_mu (nu := va_up (fm_up nu 0 11 (nI Z)) 10 (fun i => if 5 * k ≤ i ∧ i < 5 * Z then nu 10 (i + 5) else nu 10 i)) (by rw [va_up_ne _ _ (by omega), fm_up_ne (by omega)]) (by rw [va_up_ne _ _ (by omega), fm_up_ne (by omega)]) (by rw [va_up_ne _ _ (by omega), fm_up_ne (by omega)]) (hac c hc)
  · rw [va_up_ne _ _ j6, fm_up_ne j5]
  · rw [va_up_ne _ _ j10, fm_up_ne j0]
/-- a number that the flight has -/
theorem has_k {n : Nat} {mu nu : fm_T} (h : Rel n mu nu) {kk : Int32} (hk : ¬ f_M_there nu kk = 0) : ∃ k, k < rZ nu ∧ kk = nI k := by
  have hM := h.2.2.2
  have hlt := mt_lt hM (th0 hk) (th1 hk)
  exact ⟨kk.toNatClampNeg, hlt, vp_e (mt_in hM (th0 hk) (th1 hk))⟩
theorem rel_lose {n : Nat} {mu nu : fm_T} (h : Rel n mu nu) (kk : Int32) : (f_D_lose mu kk).1 = (f_M_lose nu kk).1 ∧ Rel (n + 1) (f_D_lose mu kk).2 (f_M_lose nu kk).2 := by
  rw [e_D_lose, e_M_lose, rel_has h]
  by_cases h1 : f_M_there nu kk = 0
  · rw [if_pos h1, if_pos h1]
    exact ⟨rfl, rel_mono h⟩
  · rw [if_neg h1, if_neg h1]
    obtain ⟨k, hk, rfl⟩ := has_k h h1
    exact ⟨rfl, rel_mono (take_rel h hk).2.1⟩
