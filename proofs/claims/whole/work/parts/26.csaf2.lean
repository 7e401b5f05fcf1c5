/-! the methods keep it -/
section SAF2
variable {mu : fm_T}
theorem has0 {kk : Int32} (h : ¬ f_N_has mu kk = 0) : ¬ kk < 0 := (rg_of (x := kk) (K := mu 5 1) h).1
theorem has1 {kk : Int32} (h : ¬ f_N_has mu kk = 0) : ¬ mu 5 1 ≤ kk := (rg_of (x := kk) (K := mu 5 1) h).2
theorem saf_cmd (hI : SafC mu) {ci : Nat} (hc : ci < 3) (num : Int32) : vp_in (f_C_commandAt mu ci num) 5 := saf_ccm hI hc _
theorem tn_1 (ci : Nat) : (f_A_takeNextCommand mu ci).1 = mu (85 + 6 * ci) ((((mu (84 + 6 * ci) 2) + 1) &&& 15).toNatClampNeg) := by
  rw [e_A_takeNextCommand]
  split <;> rfl
theorem tn_in (hI : SafC mu) {ci : Nat} (hc : ci < 3) (h : ¬ (f_A_takeNextCommand mu ci).1 = -1) : vp_in (f_A_takeNextCommand mu ci).1 5 := by
  rw [tn_1] at h ⊢
  exact (saf_held hI hc _).resolve_left h
theorem saf_add (hI : SafC mu) : SafC (f_N_addLast mu).2 := by
  rw [e_N_addLast]
  by_cases h : mu 5 1 < 24
  · rw [if_pos h]
    refine saf_up hI (ok_5 ?_)
    obtain ⟨z, hz, e⟩ := vp_in_of (sz_in hI h) (by decide)
    rw [e, nI_1]
    exact vp_in_nI (by omega) (by decide)
  · rw [if_neg h]
    exact hI
theorem saf_take19 (tk : Int32) : ∀ (n : Nat) (mu : fm_T) (j : Nat), SafC mu → SafC (f_N_takeOut_19 n mu tk j).2 := by
  intro n
  induction n with
  | zero => exact fun mu j h => h
  | succ n ih =>
    intro mu j h
    rw [e_N_takeOut_19]
    by_cases h1 : mu 5 1 ≤ nI j
    · rw [if_pos h1]
      exact saf_up h (ok_6 _ _)
    · rw [if_neg h1]
      exact ih _ _ (saf_up h (ok_6 _ _))
theorem saf_take (hI : SafC mu) {kk : Int32} (hk0 : ¬ kk < 0) (hk1 : ¬ mu 5 1 ≤ kk) : SafC (f_N_takeOut mu kk).2 := by
  rw [e_N_takeOut]
  exact saf_take19 _ _ _ _ (saf_up hI (ok_5 (vp_mono (tk_sz hI hk0 hk1) (by decide))))
theorem saf_remember9 {ci cn : Nat} (hc : ci < 3) (row : Int32) : ∀ (n : Nat) (mu : fm_T) (j : Nat), SafC mu → SafC (f_A_remember_9 n mu ci cn row j) := by
  intro n
  induction n with
  | zero => exact fun mu j h => h
  | succ n ih =>
    intro mu j h
    rw [e_A_remember_9]
    split
    · exact h
    · split
      · exact ih _ _ (saf_up h (ok_86 hc _ _))
      · exact ih _ _ (saf_up h (ok_86 hc _ _))
theorem saf_remember (hI : SafC mu) {ci : Nat} (hc : ci < 3) (tk : Int32) (cn : Nat) : SafC (f_A_remember mu ci tk cn) := by
  rw [e_A_remember]
  exact saf_remember9 hc _ _ _ _ hI
theorem saf_move2 : ∀ (n : Nat) (mu : fm_T) (j : Nat), SafC mu → SafC (f_F_moveDrifters_2 n mu j) := by
  intro n
  induction n with
  | zero => exact fun mu j h => h
  | succ n ih =>
    intro mu j h
    rw [e_F_moveDrifters_2]
    split
    · exact h
    · split
      · exact ih _ _ (saf_up (saf_up h (ok_4 (dir_rem (saf_dir h _)))) (ok_3 _ _))
      · exact ih _ _ (saf_up h (ok_3 _ _))
theorem saf_move (hI : SafC mu) : SafC (f_F_moveDrifters mu) := by
  rw [e_F_moveDrifters]
  exact saf_move2 _ _ _ hI
theorem saf_takeNext (hI : SafC mu) {ci : Nat} (hc : ci < 3) : SafC (f_A_takeNextCommand mu ci).2 := by
  rw [e_A_takeNextCommand]
  split
  · exact hI
  · exact saf_up (saf_up hI (ok_85 hc (Or.inl rfl))) (ok_84 hc _ _)
theorem saf_wsn27 (hI : SafC mu) {ci pi : Nat} (hp : pi < 24) (tk : Int32) : SafC (f_A_writeSnapshot_27 mu ci pi tk) := by
  rw [e_A_writeSnapshot_27]
  exact saf_up (saf_row hI (fun j => ok_8 hp _ _)) (ok_7 hp (by decide) (by decide) _)
theorem saf_wsn (hI : SafC mu) {ci pi : Nat} (hp : pi < 24) (tk : Int32) : SafC (f_A_writeSnapshot mu ci pi tk) := by
  rw [e_A_writeSnapshot]
  exact saf_wsn27 (saf_up (saf_up (saf_up (saf_up hI (ok_71 hp (Or.inr rfl))) (ok_7 hp (by decide) (by decide) _)) (ok_7 hp (by decide) (by decide) _)) (ok_7 hp (by decide) (by decide) _)) hp tk
theorem saf_wrep35 {ci pi : Nat} (hc : ci < 3) (hp : pi < 24) : ∀ (n : Nat) (mu : fm_T) (j : Nat), SafC mu → SafC (f_C_writeReport_35 n mu ci pi j) := by
  intro n
  induction n with
  | zero => exact fun mu j h => h
  | succ n ih =>
    intro mu j h
    rw [e_C_writeReport_35]
    split
    · exact saf_up h (ok_7 hp (by decide) (by decide) _)
    · exact ih _ _ (saf_up h (ok_9 hp (saf_cmd h hc _)))
theorem saf_wrep (hI : SafC mu) {ci pi : Nat} (hc : ci < 3) (hp : pi < 24) : SafC (f_C_writeReport mu ci pi) := by
  rw [e_C_writeReport]
  exact saf_wrep35 hc hp _ _ _ (saf_up (saf_up (saf_up (saf_up hI (ok_71 hp (Or.inl rfl))) (ok_7 hp (by decide) (by decide) _)) (ok_7 hp (by decide) (by decide) _)) (ok_7 hp (by decide) (by decide) _))
end SAF2
