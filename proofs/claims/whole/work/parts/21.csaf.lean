/-! ranges -/
theorem vp_of {x K : Int32} {n : Nat} (hK : K = nI n) (hn : n < 2 ^ 31) (h0 : ¬ x < 0) (h1 : ¬ K ≤ x) : vp_in x n := by
  obtain ⟨j, hj, rfl⟩ := nI_of h0
  subst hK
  refine vp_in_nI ?_ hn
  rcases Nat.lt_or_ge j n with h | h
  · exact h
  · exact absurd (nI_le h hj) h1
theorem vp_mono {x : Int32} {n k : Nat} (h : vp_in x n) (hk : n ≤ k) : vp_in x k := fun q => q.elim (fun z => h (Or.inl z)) (fun z => h (Or.inr (Nat.le_trans hk z)))
theorem rg_of {x K : Int32} (h : ¬ (if x < 0 then (0 : Int32) else (if K ≤ x then 0 else 1)) = 0) : ¬ x < 0 ∧ ¬ K ≤ x := by
  by_cases h1 : x < 0
  · exact absurd (if_pos h1) h
  · rw [if_neg h1] at h
    exact ⟨h1, fun q => h (if_pos q)⟩
theorem en_in {x : Int32} (h : ¬ f_D_isEntity x = 0) : vp_in x 8 := by
  have g := rg_of (x := x) (K := 8) h
  exact vp_of rfl (by decide) g.1 g.2
theorem cl_in {x : Int32} (h : ¬ f_D_isClient x = 0) : vp_in x 3 := by
  have g := rg_of (x := x) (K := 3) h
  exact vp_of rfl (by decide) g.1 g.2
theorem dr_in {x : Int32} (h : ¬ f_D_isDirection x = 0) : vp_in x 4 := by
  have g := rg_of (x := x) (K := 4) h
  exact vp_of rfl (by decide) g.1 g.2
theorem cm_in {x : Int32} (h : ¬ f_D_isCommand x = 0) : vp_in x 5 := by
  rw [e_D_isCommand] at h
  by_cases h1 : f_D_isDirection x = 0
  · rw [if_pos h1] at h
    by_cases h2 : x = 4
    · rw [h2]
      exact vp_in_nI (n := 4) (by decide) (by decide)
    · rw [if_neg h2] at h
      exact absurd rfl h
  · exact vp_mono (dr_in h1) (by decide)
theorem sq_xy {px py : Int32} (h : ¬ f_D_isSquare px py = 0) : vp_in px 16 ∧ vp_in py 16 := by
  rw [e_D_isSquare] at h
  by_cases h1 : px < 0
  · exact absurd (if_pos h1) h
  · rw [if_neg h1] at h
    by_cases h2 : 16 ≤ px
    · exact absurd (if_pos h2) h
    · rw [if_neg h2] at h
      have g := rg_of (x := py) (K := 16) h
      exact ⟨vp_of rfl (by decide) h1 h2, vp_of rfl (by decide) g.1 g.2⟩
theorem sq_in {px py : Int32} (h : ¬ f_D_isSquare px py = 0) : vp_in (f_D_placeOf px py) 256 := by
  obtain ⟨a, c⟩ := sq_xy h
  obtain ⟨j, hj, rfl⟩ := vp_in_of a (by decide)
  obtain ⟨i, hi, rfl⟩ := vp_in_of c (by decide)
  rw [e_D_placeOf, show (16 : Int32) = nI 16 from rfl, pk_mul, nI_add]
  exact vp_in_nI (by omega) (by decide)
theorem row_ex (tk : Int32) : ∃ q : Nat, q < 8 ∧ f_A_rowOf tk = nI (q * 8) := by
  obtain ⟨q, hq, h⟩ := pk_andE tk (m := 7) 3 (by decide)
  refine ⟨q, hq, ?_⟩
  rw [e_A_rowOf, h, show (8 : Int32) = nI 8 from rfl, pk_mul]
theorem row_in (tk : Int32) {j : Nat} (hj : j < 8) : vp_in (f_A_rowOf tk + nI j) 64 := by
  obtain ⟨q, hq, h⟩ := row_ex tk
  rw [h, nI_add]
  exact vp_in_nI (by omega) (by decide)
theorem row_e (tk : Int32) : f_A_rowOf tk = nI (f_A_rowOf tk).toNatClampNeg := by
  obtain ⟨q, hq, h⟩ := row_ex tk
  rw [h, nI_clamp (by omega)]
theorem row_8 (tk : Int32) : (f_A_rowOf tk).toNatClampNeg + 8 ≤ 64 := by
  obtain ⟨q, hq, h⟩ := row_ex tk
  rw [h, nI_clamp (by omega)]
  omega
theorem dir_rem {x : Int32} (h : vp_in x 5) : vp_in ((x + 2) - (x + 2) / 4 * 4) 5 := by
  obtain ⟨j, hj, rfl⟩ := vp_in_of h (by decide)
  rw [show (2 : Int32) = nI 2 from rfl, nI_add, show (4 : Int32) = nI 4 from rfl, pk_rem (by omega) (by decide) (by decide)]
  exact vp_in_nI (by omega) (by decide)
theorem min4 (x : Int32) : (if 4 < x then (4 : Int32) else x) ≤ 4 := by
  by_cases h : 4 < x
  · rw [if_pos h]
    exact Int32.le_refl _
  · rw [if_neg h]
    exact Int32.not_lt.mp h
theorem lp_lt2 {j : Nat} {C : Int32} (hz : C ≤ 4) (hj : j ≤ 4) (h : ¬ C ≤ nI j) : j < 4 := by
  rcases Nat.lt_or_eq_of_le hj with h1 | h1
  · exact h1
  · subst h1
    exact absurd hz h
theorem le_clamp (y : Int32) : y ≤ nI y.toNatClampNeg := by
  by_cases h : y < 0
  · have h2 := Int32.lt_iff_toInt_lt.mp h
    apply Int32.le_iff_toInt_le.mpr
    rw [nI_toInt (by have := y.toInt_lt; have e : y.toNatClampNeg = y.toInt.toNat := rfl; rw [e]; omega)]
    have e : y.toNatClampNeg = y.toInt.toNat := rfl
    rw [e]
    have h0 : (0 : Int32).toInt = 0 := rfl
    omega
  · obtain ⟨j, hj, rfl⟩ := nI_of h
    rw [nI_clamp hj]
    exact Int32.le_refl _
theorem lp_ltn {j : Nat} {y : Int32} (hj : j ≤ y.toNatClampNeg) (h : ¬ y ≤ nI j) : j < y.toNatClampNeg := by
  rcases Nat.lt_or_eq_of_le hj with h1 | h1
  · exact h1
  · rw [h1] at h
    exact absurd (le_clamp y) h
theorem nz_b {x : Int32} (h : x = 0 ∨ x = 1) : narrow .boolean (.int x) = .int x := by rcases h with h | h <;> rw [h] <;> rfl
theorem ft_b {x : Int32} (h : x = 0 ∨ x = 1) : fits .boolean (.int x) = true := by rcases h with h | h <;> rw [h] <;> rfl
/-! what every table of the class keeps, slot by slot: no place in an array is ever out of range -/
def okC (k j : Nat) (x : Int32) : Prop :=
  (k = 4 → vp_in x 5) ∧ (k = 5 → j = 1 → vp_in x 25) ∧ (∀ i, i < 24 → k = 7 + 3 * i → (j = 0 → vp_in x 3) ∧ (j = 1 → x = 0 ∨ x = 1)) ∧ (∀ i, i < 24 → k = 9 + 3 * i → vp_in x 5) ∧ (∀ i, i < 3 → k = 82 + 6 * i → vp_in x 5) ∧ (∀ i, i < 3 → k = 85 + 6 * i → x = -1 ∨ vp_in x 5)
def SafC (mu : fm_T) : Prop := ∀ k j, okC k j (mu k j)
theorem saf_up {mu : fm_T} {k j : Nat} {x : Int32} (hI : SafC mu) (ho : okC k j x) : SafC (fm_up mu k j x) := by
  intro k2 j2
  rw [fm_up_val]
  by_cases h : k2 = k ∧ j2 = j
  · rw [if_pos h, h.1, h.2]
    exact ho
  · rw [if_neg h]
    exact hI k2 j2
theorem saf_row {mu : fm_T} {k : Nat} {r : Nat → Int32} (hI : SafC mu) (ho : ∀ j, okC k j (r j)) : SafC (va_up mu k r) := by
  intro k2 j2
  by_cases h : k2 = k
  · subst h
    rw [va_up_self]
    exact ho j2
  · rw [va_up_ne _ _ h]
    exact hI k2 j2
theorem ok_free {k j : Nat} {x : Int32} (h4 : k ≠ 4) (h5 : k ≠ 5) (h7 : ∀ i, i < 24 → k ≠ 7 + 3 * i) (h9 : ∀ i, i < 24 → k ≠ 9 + 3 * i) (h82 : ∀ i, i < 3 → k ≠ 82 + 6 * i) (h85 : ∀ i, i < 3 → k ≠ 85 + 6 * i) : okC k j x :=
  ⟨fun h => absurd h h4, fun h => absurd h h5, fun i hi h => absurd h (h7 i hi), fun i hi h => absurd h (h9 i hi), fun i hi h => absurd h (h82 i hi), fun i hi h => absurd h (h85 i hi)⟩
theorem ok_0 (j : Nat) (x : Int32) : okC 0 j x := ok_free (by omega) (by omega) (by omega) (by omega) (by omega) (by omega)
theorem ok_2 (j : Nat) (x : Int32) : okC 2 j x := ok_free (by omega) (by omega) (by omega) (by omega) (by omega) (by omega)
theorem ok_3 (j : Nat) (x : Int32) : okC 3 j x := ok_free (by omega) (by omega) (by omega) (by omega) (by omega) (by omega)
theorem ok_6 (j : Nat) (x : Int32) : okC 6 j x := ok_free (by omega) (by omega) (by omega) (by omega) (by omega) (by omega)
theorem ok_8 {i : Nat} (hi : i < 24) (j : Nat) (x : Int32) : okC (8 + 3 * i) j x := ok_free (by omega) (by omega) (by omega) (by omega) (by omega) (by omega)
theorem ok_81 {i : Nat} (hi : i < 3) (j : Nat) (x : Int32) : okC (81 + 6 * i) j x := ok_free (by omega) (by omega) (by omega) (by omega) (by omega) (by omega)
theorem ok_83 {i : Nat} (hi : i < 3) (j : Nat) (x : Int32) : okC (83 + 6 * i) j x := ok_free (by omega) (by omega) (by omega) (by omega) (by omega) (by omega)
theorem ok_84 {i : Nat} (hi : i < 3) (j : Nat) (x : Int32) : okC (84 + 6 * i) j x := ok_free (by omega) (by omega) (by omega) (by omega) (by omega) (by omega)
theorem ok_86 {i : Nat} (hi : i < 3) (j : Nat) (x : Int32) : okC (86 + 6 * i) j x := ok_free (by omega) (by omega) (by omega) (by omega) (by omega) (by omega)
theorem ok_4 {j : Nat} {x : Int32} (h : vp_in x 5) : okC 4 j x := ⟨fun _ => h, fun q => by omega, fun i hi q => by omega, fun i hi q => h, fun i hi q => h, fun i hi q => Or.inr h⟩
theorem ok_5 {x : Int32} (h : vp_in x 25) : okC 5 1 x := ⟨fun q => by omega, fun _ _ => h, fun i hi q => by omega, fun i hi q => by omega, fun i hi q => by omega, fun i hi q => by omega⟩
theorem ok_7 {i : Nat} (hi : i < 24) {j : Nat} (h0 : j ≠ 0) (h1 : j ≠ 1) (x : Int32) : okC (7 + 3 * i) j x := ⟨fun q => by omega, fun q => by omega, fun i hi q => ⟨fun z => absurd z h0, fun z => absurd z h1⟩, fun i hi q => by omega, fun i hi q => by omega, fun i hi q => by omega⟩
theorem ok_70 {i : Nat} (hi : i < 24) {x : Int32} (h : vp_in x 3) : okC (7 + 3 * i) 0 x := ⟨fun q => by omega, fun q => by omega, fun i hi q => ⟨fun z => h, fun z => by omega⟩, fun i hi q => by omega, fun i hi q => by omega, fun i hi q => by omega⟩
theorem ok_71 {i : Nat} (hi : i < 24) {x : Int32} (h : x = 0 ∨ x = 1) : okC (7 + 3 * i) 1 x := ⟨fun q => by omega, fun q => by omega, fun i hi q => ⟨fun z => by omega, fun z => h⟩, fun i hi q => by omega, fun i hi q => by omega, fun i hi q => by omega⟩
theorem ok_9 {i : Nat} (hi : i < 24) {j : Nat} {x : Int32} (h : vp_in x 5) : okC (9 + 3 * i) j x := ⟨fun _ => h, fun q => by omega, fun i hi q => by omega, fun i hi q => h, fun i hi q => h, fun i hi q => Or.inr h⟩
theorem ok_82 {i : Nat} (hi : i < 3) {j : Nat} {x : Int32} (h : vp_in x 5) : okC (82 + 6 * i) j x := ⟨fun _ => h, fun q => by omega, fun i hi q => by omega, fun i hi q => h, fun i hi q => h, fun i hi q => Or.inr h⟩
theorem ok_85 {i : Nat} (hi : i < 3) {j : Nat} {x : Int32} (h : x = -1 ∨ vp_in x 5) : okC (85 + 6 * i) j x := ⟨fun q => by omega, fun q => by omega, fun i hi q => by omega, fun i hi q => by omega, fun i hi q => by omega, fun i hi q => h⟩
section SAFG
variable {mu : fm_T}
theorem saf_dir (hI : SafC mu) (j : Nat) : vp_in (mu 4 j) 5 := (hI 4 j).1 rfl
theorem saf_sz (hI : SafC mu) : vp_in (mu 5 1) 25 := (hI 5 1).2.1 rfl rfl
theorem saf_pc (hI : SafC mu) {i : Nat} (hi : i < 24) : vp_in (mu (7 + 3 * i) 0) 3 := ((hI _ 0).2.2.1 i hi rfl).1 rfl
theorem saf_b (hI : SafC mu) {i : Nat} (hi : i < 24) : mu (7 + 3 * i) 1 = 0 ∨ mu (7 + 3 * i) 1 = 1 := ((hI _ 1).2.2.1 i hi rfl).2 rfl
theorem saf_pcm (hI : SafC mu) {i : Nat} (hi : i < 24) (j : Nat) : vp_in (mu (9 + 3 * i) j) 5 := (hI _ j).2.2.2.1 i hi rfl
theorem saf_ccm (hI : SafC mu) {i : Nat} (hi : i < 3) (j : Nat) : vp_in (mu (82 + 6 * i) j) 5 := (hI _ j).2.2.2.2.1 i hi rfl
theorem saf_held (hI : SafC mu) {i : Nat} (hi : i < 3) (j : Nat) : mu (85 + 6 * i) j = -1 ∨ vp_in (mu (85 + 6 * i) j) 5 := (hI _ j).2.2.2.2.2 i hi rfl
theorem sz_in (hI : SafC mu) (h : mu 5 1 < 24) : vp_in (mu 5 1) 24 := by
  obtain ⟨z, hz, e⟩ := vp_in_of (saf_sz hI) (by decide)
  rw [e] at h ⊢
  rw [show (24 : Int32) = nI 24 from rfl] at h
  exact vp_in_nI ((nI_ltI (by omega) (by decide)).mp h) (by decide)
theorem tk_ex (hI : SafC mu) {kk : Int32} (hk0 : ¬ kk < 0) (hk1 : ¬ mu 5 1 ≤ kk) : ∃ j z : Nat, kk = nI j ∧ mu 5 1 = nI (z + 1) ∧ j ≤ z ∧ z < 24 := by
  obtain ⟨z, hz, e⟩ := vp_in_of (saf_sz hI) (by decide)
  obtain ⟨j, hj, rfl⟩ := nI_of hk0
  rw [e] at hk1 ⊢
  have h : j < z := by
    rcases Nat.lt_or_ge j z with h | h
    · exact h
    · exact absurd (nI_le h hj) hk1
  exact ⟨j, z - 1, rfl, by rw [show z - 1 + 1 = z by omega], by omega, by omega⟩
theorem tk_in (hI : SafC mu) {kk : Int32} (hk0 : ¬ kk < 0) (hk1 : ¬ mu 5 1 ≤ kk) : vp_in kk 24 := by
  obtain ⟨j, z, rfl, e, h1, h2⟩ := tk_ex hI hk0 hk1
  exact vp_in_nI (by omega) (by decide)
theorem tk_sz (hI : SafC mu) {kk : Int32} (hk0 : ¬ kk < 0) (hk1 : ¬ mu 5 1 ≤ kk) : vp_in (mu 5 1 - 1) 24 := by
  obtain ⟨j, z, rfl, e, h1, h2⟩ := tk_ex hI hk0 hk1
  rw [e, nI_pred]
  exact vp_in_nI (by omega) (by decide)
theorem tk_le (hI : SafC mu) {kk : Int32} (hk0 : ¬ kk < 0) (hk1 : ¬ mu 5 1 ≤ kk) : kk.toNatClampNeg ≤ (mu 5 1 - 1).toNatClampNeg := by
  obtain ⟨j, z, rfl, e, h1, h2⟩ := tk_ex hI hk0 hk1
  rw [e, nI_pred, nI_clamp (by omega), nI_clamp (by omega)]
  exact h1
end SAFG
