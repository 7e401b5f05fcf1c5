/-! ranges, for the reference -/
theorem ms_in {px py : Int32} (h : ¬ f_M_square px py = 0) : vp_in (px + (16 * py)) 256 := sq_in (px := px) (py := py) h
theorem me_in {x : Int32} (h : ¬ f_M_entity x = 0) : vp_in x 8 := en_in (x := x) h
theorem mc_in {x : Int32} (h : ¬ f_M_client x = 0) : vp_in x 3 := cl_in (x := x) h
theorem lin_in {x y K : Int32} {k n q N : Nat} (hK : K = nI k) (hx : vp_in x n) (hy : vp_in y q) (hb : k * (n - 1) + (q - 1) < N ∧ n < 2 ^ 31 ∧ q < 2 ^ 31 ∧ N < 2 ^ 31) : vp_in (K * x + y) N := by
  obtain ⟨h1, h2, h3, h4⟩ := hb
  obtain ⟨j, hj, rfl⟩ := vp_in_of hx h2
  obtain ⟨i, hi, rfl⟩ := vp_in_of hy h3
  subst hK
  rw [pk_mul, nI_add]
  have h5 : k * j ≤ k * (n - 1) := Nat.mul_le_mul_left k (by omega)
  exact vp_in_nI (by omega) h4
theorem inp_in {x cli : Int32} (h : vp_in x 512) (hc : vp_in cli 3) : vp_in ((513 * cli) + (x + 1)) 1539 := by
  obtain ⟨j, hj, rfl⟩ := vp_in_of h (by decide)
  rw [nI_1]
  exact lin_in (k := 513) rfl hc (vp_in_nI (N := 513) (by omega) (by decide)) (by decide)
theorem five_e {x : Int32} {n : Nat} (h : vp_in x n) : 5 * x = nI (5 * x.toNatClampNeg) := by
  have e := vp_e h
  generalize x.toNatClampNeg = c at e ⊢
  subst e
  exact pk_mul 5 c
theorem plus_e {x : Int32} {n : Nat} (h : vp_in x n) : x + 1 = nI (x.toNatClampNeg + 1) := by
  have e := vp_e h
  generalize x.toNatClampNeg = c at e ⊢
  subst e
  exact nI_1 c
theorem off_e {x : Int32} {n j : Nat} (h : vp_in x n) : 513 * x + nI j = nI (513 * x.toNatClampNeg + j) := by
  have e := vp_e h
  generalize x.toNatClampNeg = c at e ⊢
  subst e
  rw [show (513 : Int32) = nI 513 from rfl, pk_mul, nI_add]
theorem was_e {x : Int32} (h : vp_in x 512) : 8 * ((x + 1) - 1) = nI (8 * x.toNatClampNeg) := by
  have e := vp_e h
  generalize x.toNatClampNeg = c at e ⊢
  subst e
  rw [nI_1, nI_pred]
  exact pk_mul 8 c
theorem is_e {x : Int32} (h : vp_in x 512) : 8 * (x + 1) = nI (8 * x.toNatClampNeg + 8) := by
  have e := vp_e h
  generalize x.toNatClampNeg = c at e ⊢
  subst e
  rw [nI_1, show (8 : Int32) = nI 8 from rfl, pk_mul]
  rfl
theorem now_1 {x : Int32} (h : vp_in x 512) : vp_in (x + 1) 513 := by
  obtain ⟨j, hj, rfl⟩ := vp_in_of h (by decide)
  rw [nI_1]
  exact vp_in_nI (by omega) (by decide)
theorem now_ex {x : Int32} (h : vp_in x 512) : ∃ t : Nat, x + 1 = nI (t + 1) ∧ t < 512 ∧ 8 * x.toNatClampNeg = 8 * t ∧ 8 * x.toNatClampNeg + 8 = 8 * t + 8 := ⟨_, plus_e h, vp_l h, rfl, rfl⟩
theorem tk1_in {X : Int32} {t j : Nat} (ht : X = nI (t + 1)) (ht2 : t < 512) (hj : j < 3) : vp_in ((3 * (X - 1)) + (nI j)) 1539 := by
  rw [ht, nI_pred]
  exact lin_in (k := 3) (n := 513) (q := 3) rfl (vp_in_nI (by omega) (by decide)) (vp_in_nI hj (by decide)) (by decide)
theorem tk2_in {X : Int32} {t j : Nat} (ht : X = nI (t + 1)) (ht2 : t < 512) (hj : j < 3) : vp_in ((3 * X) + (nI j)) 1539 := by
  rw [ht]
  exact lin_in (k := 3) (n := 513) (q := 3) rfl (vp_in_nI (by omega) (by decide)) (vp_in_nI hj (by decide)) (by decide)
theorem done_1 {d i : Int32} (hd : vp_in d 513) (hi : vp_in i 513) (h : ¬ i ≤ d) : vp_in (d + 1) 513 := by
  obtain ⟨a, ha, rfl⟩ := vp_in_of hd (by decide)
  obtain ⟨c, hc, rfl⟩ := vp_in_of hi (by decide)
  have h1 : a < c := by
    rcases Nat.lt_or_ge a c with z | z
    · exact z
    · exact absurd (nI_le z (by omega)) h
  rw [nI_1]
  exact vp_in_nI (by omega) (by decide)
theorem kk_in {d i : Int32} {j : Nat} (hd : vp_in d 513) (hi : vp_in i 513) (h : ¬ i ≤ d) (hj : j < 3) : vp_in (((513 * (nI j)) + d) + 1) 1539 := by
  obtain ⟨a, ha, rfl⟩ := vp_in_of hd (by decide)
  obtain ⟨c, hc, rfl⟩ := vp_in_of hi (by decide)
  have h1 : a < c := by
    rcases Nat.lt_or_ge a c with z | z
    · exact z
    · exact absurd (nI_le z (by omega)) h
  rw [show (513 : Int32) = nI 513 from rfl, pk_mul, nI_add, nI_1]
  exact vp_in_nI (by omega) (by decide)
theorem z513 : vp_in (0 : Int32) 513 := vp_in_nI (n := 0) (by decide) (by decide)
theorem nle_lt {E : Int32} {j : Nat} (hE : vp_in E 513) (hj : j ≤ E.toNatClampNeg + 1) (h : ¬ E < nI j) : j ≤ E.toNatClampNeg := by
  have e := vp_e hE
  have l := vp_l hE
  generalize E.toNatClampNeg = c at e l hj ⊢
  subst e
  rcases Nat.lt_or_ge c j with z | z
  · exact absurd (nI_lt z (by omega)) h
  · exact z
theorem nle_iss {X : Int32} {j : Nat} (hi : vp_in X 513) (h : ¬ X < nI j) (hj : j ≤ 513) : j ≤ 512 := by
  obtain ⟨c, hc, rfl⟩ := vp_in_of hi (by decide)
  rcases Nat.lt_or_ge c j with z | z
  · exact absurd (nI_lt z (by omega)) h
  · omega
theorem pa_in {kk wh : Int32} (hk : vp_in kk 24) (h9 : ¬ wh < 0) (h38 : ¬ 2 ≤ wh) : vp_in ((nI (5 * kk.toNatClampNeg)) + wh) 120 := by
  have l := vp_l hk
  obtain ⟨w, hw, rfl⟩ := vp_in_of (vp_of (n := 2) rfl (by decide) h9 h38) (by decide)
  rw [nI_add]
  exact vp_in_nI (by omega) (by decide)
theorem pb_in {kk wh : Int32} (hk : vp_in kk 24) (h14 : wh ≤ 5) (h38 : 2 ≤ wh) (h25 : ¬ wh = 2) : vp_in (((nI (5 * kk.toNatClampNeg)) + wh) - 1) 120 := by
  have l := vp_l hk
  have h0 : ¬ wh < 0 := fun q => by
    have a := Int32.lt_iff_toInt_lt.mp q
    have c := Int32.le_iff_toInt_le.mp h38
    have z0 : (0 : Int32).toInt = 0 := rfl
    have z2 : (2 : Int32).toInt = 2 := rfl
    omega
  obtain ⟨w, hw, rfl⟩ := nI_of h0
  rw [show (5 : Int32) = nI 5 from rfl] at h14
  rw [show (2 : Int32) = nI 2 from rfl] at h38
  have a := (nI_leI hw (by decide)).mp h14
  have c := (nI_leI (by decide) hw).mp h38
  rw [nI_add, show 5 * kk.toNatClampNeg + w = (5 * kk.toNatClampNeg + w - 1) + 1 by omega, nI_pred]
  exact vp_in_nI (by omega) (by decide)
theorem k5 (z : Nat) : (5 * z) % 5 = 0 := by omega
/-! what every table of the reference keeps -/
def okM (k j : Nat) (x : Int32) : Prop := (k = 0 → (j = 2 → vp_in x 513) ∧ (j = 11 → vp_in x 25)) ∧ (k = 4 ∨ k = 7 ∨ k = 8 ∨ k = 9 → vp_in x 513) ∧ (k = 10 → (j % 5 = 0 → vp_in x 3) ∧ (j % 5 = 2 ∨ j % 5 = 3 ∨ j % 5 = 4 → vp_in x 513))
def SafM (mu : fm_T) : Prop := ∀ k j, okM k j (mu k j)
theorem smf_up {mu : fm_T} {k j : Nat} {x : Int32} (hI : SafM mu) (ho : okM k j x) : SafM (fm_up mu k j x) := by
  intro k2 j2
  rw [fm_up_val]
  by_cases h : k2 = k ∧ j2 = j
  · rw [if_pos h, h.1, h.2]
    exact ho
  · rw [if_neg h]
    exact hI k2 j2
theorem om_free {k j : Nat} {x : Int32} (h0 : k ≠ 0) (h4 : k ≠ 4) (h7 : k ≠ 7) (h8 : k ≠ 8) (h9 : k ≠ 9) (h10 : k ≠ 10) : okM k j x :=
  ⟨fun h => absurd h h0, fun h => by rcases h with h | h | h | h <;> contradiction, fun h => absurd h h10⟩
theorem om_1 (j : Nat) (x : Int32) : okM 1 j x := om_free (by decide) (by decide) (by decide) (by decide) (by decide) (by decide)
theorem om_2 (j : Nat) (x : Int32) : okM 2 j x := om_free (by decide) (by decide) (by decide) (by decide) (by decide) (by decide)
theorem om_3 (j : Nat) (x : Int32) : okM 3 j x := om_free (by decide) (by decide) (by decide) (by decide) (by decide) (by decide)
theorem om_5 (j : Nat) (x : Int32) : okM 5 j x := om_free (by decide) (by decide) (by decide) (by decide) (by decide) (by decide)
theorem om_6 (j : Nat) (x : Int32) : okM 6 j x := om_free (by decide) (by decide) (by decide) (by decide) (by decide) (by decide)
theorem om_4 {j : Nat} {x : Int32} (h : vp_in x 513) : okM 4 j x := ⟨fun q => absurd q (by decide), fun _ => h, fun q => absurd q (by decide)⟩
theorem om_7 {j : Nat} {x : Int32} (h : vp_in x 513) : okM 7 j x := ⟨fun q => absurd q (by decide), fun _ => h, fun q => absurd q (by decide)⟩
theorem om_8 {j : Nat} {x : Int32} (h : vp_in x 513) : okM 8 j x := ⟨fun q => absurd q (by decide), fun _ => h, fun q => absurd q (by decide)⟩
theorem om_9 {j : Nat} {x : Int32} (h : vp_in x 513) : okM 9 j x := ⟨fun q => absurd q (by decide), fun _ => h, fun q => absurd q (by decide)⟩
theorem om_now {x : Int32} (h : vp_in x 513) : okM 0 2 x := ⟨fun _ => ⟨fun _ => h, fun q => absurd q (by decide)⟩, fun q => absurd q (by decide), fun q => absurd q (by decide)⟩
theorem om_air {x : Int32} (h : vp_in x 25) : okM 0 11 x := ⟨fun _ => ⟨fun q => absurd q (by decide), fun _ => h⟩, fun q => absurd q (by decide), fun q => absurd q (by decide)⟩
theorem om_a {j : Nat} {x : Int32} (h0 : j % 5 = 0 → vp_in x 3) (h2 : j % 5 = 2 ∨ j % 5 = 3 ∨ j % 5 = 4 → vp_in x 513) : okM 10 j x := ⟨fun q => absurd q (by decide), fun q => absurd q (by decide), fun _ => ⟨h0, h2⟩⟩
section SMG
variable {mu : fm_T}
theorem smf_now (hI : SafM mu) : vp_in (mu 0 2) 513 := ((hI 0 2).1 rfl).1 rfl
theorem smf_air (hI : SafM mu) : vp_in (mu 0 11) 25 := ((hI 0 11).1 rfl).2 rfl
theorem smf_done (hI : SafM mu) (j : Nat) : vp_in (mu 4 j) 513 := (hI 4 j).2.1 (Or.inl rfl)
theorem smf_iss (hI : SafM mu) (j : Nat) : vp_in (mu 7 j) 513 := (hI 7 j).2.1 (Or.inr (Or.inl rfl))
theorem smf_ack (hI : SafM mu) (j : Nat) : vp_in (mu 8 j) 513 := (hI 8 j).2.1 (Or.inr (Or.inr (Or.inl rfl)))
theorem smf_new (hI : SafM mu) (j : Nat) : vp_in (mu 9 j) 513 := (hI 9 j).2.1 (Or.inr (Or.inr (Or.inr rfl)))
theorem smf_a0 (hI : SafM mu) {j : Nat} (h : j % 5 = 0) : vp_in (mu 10 j) 3 := ((hI 10 j).2.2 rfl).1 h
theorem smf_a2 (hI : SafM mu) {j : Nat} (h : j % 5 = 0) : vp_in (mu 10 (j + 2)) 513 := ((hI 10 (j + 2)).2.2 rfl).2 (Or.inl (by omega))
theorem smf_a3 (hI : SafM mu) {j : Nat} (h : j % 5 = 0) : vp_in (mu 10 (j + 3)) 513 := ((hI 10 (j + 3)).2.2 rfl).2 (Or.inr (Or.inl (by omega)))
theorem smf_a4 (hI : SafM mu) {j : Nat} (h : j % 5 = 0) : vp_in (mu 10 (j + 4)) 513 := ((hI 10 (j + 4)).2.2 rfl).2 (Or.inr (Or.inr (by omega)))
theorem air_e (hI : SafM mu) : 5 * mu 0 11 = nI (5 * (mu 0 11).toNatClampNeg) := five_e (smf_air hI)
theorem air_lt (hI : SafM mu) (h : ¬ mu 0 11 = 24) : (mu 0 11).toNatClampNeg < 24 := by
  have e := vp_e (smf_air hI)
  have l := vp_l (smf_air hI)
  rcases Nat.lt_or_ge (mu 0 11).toNatClampNeg 24 with z | z
  · exact z
  · exfalso
    rw [show (mu 0 11).toNatClampNeg = 24 by omega] at e
    exact h e
theorem mt_ex (hI : SafM mu) {kk : Int32} (hk0 : ¬ kk < 0) (hk1 : ¬ mu 0 11 ≤ kk) : ∃ j z : Nat, kk = nI j ∧ mu 0 11 = nI (z + 1) ∧ j ≤ z ∧ z < 24 := by
  obtain ⟨z, hz, e⟩ := vp_in_of (smf_air hI) (by decide)
  obtain ⟨j, hj, rfl⟩ := nI_of hk0
  rw [e] at hk1 ⊢
  have h : j < z := by
    rcases Nat.lt_or_ge j z with h | h
    · exact h
    · exact absurd (nI_le h hj) hk1
  exact ⟨j, z - 1, rfl, by rw [show z - 1 + 1 = z by omega], by omega, by omega⟩
theorem mt_in (hI : SafM mu) {kk : Int32} (hk0 : ¬ kk < 0) (hk1 : ¬ mu 0 11 ≤ kk) : vp_in kk 24 := by
  obtain ⟨j, z, rfl, e, h1, h2⟩ := mt_ex hI hk0 hk1
  exact vp_in_nI (by omega) (by decide)
theorem mt_e (hI : SafM mu) {kk : Int32} (hk0 : ¬ kk < 0) (hk1 : ¬ mu 0 11 ≤ kk) : 5 * kk = nI (5 * kk.toNatClampNeg) := five_e (mt_in hI hk0 hk1)
theorem mt_sz (hI : SafM mu) {kk : Int32} (hk0 : ¬ kk < 0) (hk1 : ¬ mu 0 11 ≤ kk) : vp_in (mu 0 11 - 1) 24 := by
  obtain ⟨j, z, rfl, e, h1, h2⟩ := mt_ex hI hk0 hk1
  rw [e, nI_pred]
  exact vp_in_nI (by omega) (by decide)
theorem mt_le (hI : SafM mu) {kk : Int32} (hk0 : ¬ kk < 0) (hk1 : ¬ mu 0 11 ≤ kk) : 5 * kk.toNatClampNeg ≤ 5 * (mu 0 11 - 1).toNatClampNeg := by
  obtain ⟨j, z, rfl, e, h1, h2⟩ := mt_ex hI hk0 hk1
  rw [e, nI_pred, nI_clamp (by omega), nI_clamp (by omega)]
  omega
theorem mt_lt (hI : SafM mu) {kk : Int32} (hk0 : ¬ kk < 0) (hk1 : ¬ mu 0 11 ≤ kk) : kk.toNatClampNeg < (mu 0 11).toNatClampNeg := by
  obtain ⟨j, z, rfl, e, h1, h2⟩ := mt_ex hI hk0 hk1
  rw [e, nI_clamp (by omega), nI_clamp (by omega)]
  omega
end SMG
