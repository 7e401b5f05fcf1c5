/-! tick: what one client's step does on both sides -/
theorem lin513 {j d : Nat} (h : 513 * j + d + 1 < 2 ^ 31) : (((513 * (nI j)) + nI d) + 1).toNatClampNeg = 513 * j + (d + 1) := by
  rw [show (513 : Int32) = nI 513 from rfl, pk_mul, nI_add, nI_1, nI_clamp (by omega)]
  omega
/-- the reference's tables behind client j's step -/
def mC (nu : fm_T) (T j d I : Nat) : fm_T := if d < I ∧ ¬ nu 6 (513 * j + (d + 1)) = 0 then fm_up (fm_up (fm_up nu 3 (8 * T + 8 + j) (f_M_stepFrom nu (nu 3 (8 * T + j)) (nu 5 (513 * j + (d + 1))))) 4 (3 * (T + 1) + j) (nI (d + 1))) 6 (513 * j + (d + 1)) 0 else fm_up (fm_up nu 3 (8 * T + 8 + j) (nu 3 (8 * T + j))) 4 (3 * (T + 1) + j) (nI d)
theorem t30_step {nu : fm_T} {T j d I : Nat} (hj : j < 3) (hT : T < 512) (h02 : nu 0 2 = nI (T + 1)) (hd : nu 4 (3 * T + j) = nI d) (hI : nu 7 j = nI I) (h1 : d < 513) (h2 : I < 513) (n : Nat) : f_M_tick_30 (n + 1) nu (8 * T) (8 * T + 8) j = f_M_tick_30 n (mC nu T j d I) (8 * T) (8 * T + 8) (j + 1) := by
  rw [e_M_tick_30, if_neg (show ¬ (3 : Int32) ≤ nI j from nI_ge (b := 3) hj (by decide))]
  simp only [fm_up_ne (show (0 : Nat) ≠ 3 by decide)]
  rw [h02, nI_pred, lin3 (by omega), lin3 (by omega), hd, hI, lin513 (by omega), nI_1]
  unfold mC
  rcases Nat.lt_or_ge d I with z | z
  · rw [if_neg (nI_ge z (by omega))]
    by_cases y : nu 6 (513 * j + (d + 1)) = 0
    · rw [if_pos y, if_neg (fun w => w.2 y)]
    · rw [if_neg y, if_pos ⟨z, y⟩]
  · rw [if_pos (nI_le z (by omega)), if_neg (fun w => by omega)]
theorem t30_all {nu : fm_T} {T : Nat} {d I : Nat → Nat} (hT : T < 512) (h02 : nu 0 2 = nI (T + 1)) (hd : ∀ j, j < 3 → nu 4 (3 * T + j) = nI (d j)) (hI : ∀ j, j < 3 → nu 7 j = nI (I j)) (h1 : ∀ j, d j < 513) (h2 : ∀ j, I j < 513) : f_M_tick_30 4 nu (8 * T) (8 * T + 8) 0 = f_M_tick_183 6 (mC (mC (mC nu T 0 (d 0) (I 0)) T 1 (d 1) (I 1)) T 2 (d 2) (I 2)) (8 * T) (8 * T + 8) 3 := by
  have keep : ∀ (nu : fm_T) (j dd II : Nat), (nu 0 2 = nI (T + 1) ∧ (∀ j, j < 3 → nu 4 (3 * T + j) = nI (d j)) ∧ ∀ j, j < 3 → nu 7 j = nI (I j)) → (mC nu T j dd II 0 2 = nI (T + 1) ∧ (∀ i, i < 3 → mC nu T j dd II 4 (3 * T + i) = nI (d i)) ∧ ∀ i, i < 3 → mC nu T j dd II 7 i = nI (I i)) := by
    intro nu j dd II h
    unfold mC
    split
    · refine ⟨h.1, fun i hi => ?_, fun i hi => h.2.2 i hi⟩
      rw [fm_up_ne (by decide), fm_up_slot (by omega), fm_up_ne (by decide)]
      exact h.2.1 i hi
    · refine ⟨h.1, fun i hi => ?_, fun i hi => h.2.2 i hi⟩
      rw [fm_up_slot (by omega), fm_up_ne (by decide)]
      exact h.2.1 i hi
  have k0 : nu 0 2 = nI (T + 1) ∧ (∀ j, j < 3 → nu 4 (3 * T + j) = nI (d j)) ∧ ∀ j, j < 3 → nu 7 j = nI (I j) := ⟨h02, hd, hI⟩
  have k1 := keep nu 0 (d 0) (I 0) k0
  have k2 := keep _ 1 (d 1) (I 1) k1
  rw [t30_step (d := d 0) (I := I 0) (by decide) hT k0.1 (k0.2.1 0 (by decide)) (k0.2.2 0 (by decide)) (h1 0) (h2 0), t30_step (d := d 1) (I := I 1) (by decide) hT k1.1 (k1.2.1 1 (by decide)) (k1.2.2 1 (by decide)) (h1 1) (h2 1), t30_step (d := d 2) (I := I 2) (by decide) hT k2.1 (k2.2.1 2 (by decide)) (k2.2.2 2 (by decide)) (h1 2) (h2 2), e_M_tick_30, if_pos (show (3 : Int32) ≤ nI (0 + 1 + 1 + 1) by decide)]
/-- the reference's tables behind drifter j's step -/
def mD (nu : fm_T) (T j : Nat) : fm_T := fm_up (fm_up nu 3 (8 * T + 8 + j) (f_M_stepFrom nu (nu 3 (8 * T + j)) (nu 2 j))) 2 j (if f_M_stepFrom nu (nu 3 (8 * T + j)) (nu 2 j) = nu 3 (8 * T + j) then (nu 2 j + 2) - (nu 2 j + 2) / 4 * 4 else nu 2 j)
theorem t183_step {nu : fm_T} {T j : Nat} (hj : j < 8) (n : Nat) : f_M_tick_183 (n + 1) nu (8 * T) (8 * T + 8) j = f_M_tick_183 n (mD nu T j) (8 * T) (8 * T + 8) (j + 1) := by
  rw [e_M_tick_183, if_neg (show ¬ (8 : Int32) ≤ nI j from nI_ge (b := 8) hj (by decide)), fm_up_same, fm_up_slot (show 8 * T + j ≠ 8 * T + 8 + j by omega)]
  simp only [fm_up_ne (show (2 : Nat) ≠ 3 by decide)]
  unfold mD
  split <;> rfl
theorem t183_all {nu : fm_T} {T : Nat} : f_M_tick_183 6 nu (8 * T) (8 * T + 8) 3 = f_M_tick_267 4 (mD (mD (mD (mD (mD nu T 3) T 4) T 5) T 6) T 7) 0 := by
  rw [t183_step (by decide), t183_step (by decide), t183_step (by decide), t183_step (by decide), t183_step (by decide), e_M_tick_183, if_pos (show (8 : Int32) ≤ nI (3 + 1 + 1 + 1 + 1 + 1) by decide)]
/-- the class's table behind drifter j's step -/
def cD (mu : fm_T) (j : Nat) : fm_T := if f_F_after mu (mu 3 j) (mu 4 j) = mu 3 j then fm_up (fm_up mu 4 j ((mu 4 j + 2) - (mu 4 j + 2) / 4 * 4)) 3 j (f_F_after mu (mu 3 j) (mu 4 j)) else fm_up mu 3 j (f_F_after mu (mu 3 j) (mu 4 j))
theorem mv_step {mu : fm_T} {j : Nat} (hj : j < 8) (n : Nat) : f_F_moveDrifters_2 (n + 1) mu j = f_F_moveDrifters_2 n (cD mu j) (j + 1) := by
  rw [e_F_moveDrifters_2, if_neg (show ¬ (8 : Int32) ≤ nI j from nI_ge (b := 8) hj (by decide))]
  unfold cD
  split <;> rfl
theorem mv_all (mu : fm_T) : f_F_moveDrifters mu = cD (cD (cD (cD (cD mu 3) 4) 5) 6) 7 := by
  rw [e_F_moveDrifters, mv_step (by decide), mv_step (by decide), mv_step (by decide), mv_step (by decide), mv_step (by decide), e_F_moveDrifters_2, if_pos (show (8 : Int32) ≤ nI (3 + 1 + 1 + 1 + 1 + 1) by decide)]
theorem t12_all (mu : fm_T) : f_D_tick_12 4 mu 0 = f_D_tick_37 4 (f_F_moveDrifters (f_D_doNextCommand (f_D_doNextCommand (f_D_doNextCommand mu 0) 1) 2)) 0 := by
  rw [e_D_tick_12, if_neg (by decide), e_D_tick_12, if_neg (by decide), e_D_tick_12, if_neg (by decide), e_D_tick_12, if_pos (by decide)]
theorem t37_all (mu : fm_T) : f_D_tick_37 4 mu 0 = ((f_D_sendSnapshot (f_D_sendSnapshot (f_D_sendSnapshot mu 0) 1) 2) 0 4, f_D_sendSnapshot (f_D_sendSnapshot (f_D_sendSnapshot mu 0) 1) 2) := by
  rw [e_D_tick_37, if_neg (by decide), e_D_tick_37, if_neg (by decide), e_D_tick_37, if_neg (by decide), e_D_tick_37, if_pos (by decide)]
/-- the reference's snapshot for client j -/
def mS (nu : fm_T) (j : Nat) : fm_T := f_M_send nu (nI j) 1 (nu 0 2) (if nu 8 j ≤ 0 then 0 else if 6 < nu 0 2 - nu 8 j then 0 else nu 8 j) (nu 4 (((3 * (nu 0 2)) + (nI j)).toNatClampNeg))
theorem t267_step {nu : fm_T} {j : Nat} (hj : j < 3) (n : Nat) : f_M_tick_267 (n + 1) nu j = f_M_tick_267 n (mS nu j) (j + 1) := by
  rw [e_M_tick_267, if_neg (show ¬ (3 : Int32) ≤ nI j from nI_ge (b := 3) hj (by decide))]
  unfold mS
  split
  · rfl
  · split <;> rfl
theorem t267_all (nu : fm_T) : f_M_tick_267 4 nu 0 = (mS (mS (mS nu 0) 1) 2 0 2, mS (mS (mS nu 0) 1) 2) := by
  rw [t267_step (by decide), t267_step (by decide), t267_step (by decide), e_M_tick_267, if_pos (show (3 : Int32) ≤ nI (0 + 1 + 1 + 1) by decide)]
/-- the class's table behind client j's step -/
theorem dn_eq {mu : fm_T} {j d : Nat} (hd : mu (84 + 6 * j) 2 = nI d) (hb : d < 2 ^ 30) : f_D_doNextCommand mu j = if mu (85 + 6 * j) ((d + 1) % 16) = -1 then mu else fm_up (fm_up (fm_up mu (85 + 6 * j) ((d + 1) % 16) (-1)) (84 + 6 * j) 2 (nI (d + 1))) 3 j (f_F_after (fm_up (fm_up mu (85 + 6 * j) ((d + 1) % 16) (-1)) (84 + 6 * j) 2 (nI (d + 1))) (mu 3 j) (mu (85 + 6 * j) ((d + 1) % 16))) := by
  have e1 : f_A_takeNextCommand mu j = if mu (85 + 6 * j) ((d + 1) % 16) = -1 then (mu (85 + 6 * j) ((d + 1) % 16), mu) else (mu (85 + 6 * j) ((d + 1) % 16), fm_up (fm_up mu (85 + 6 * j) ((d + 1) % 16) (-1)) (84 + 6 * j) 2 (nI (d + 1))) := by
    rw [e_A_takeNextCommand, hd, nI_1, and15 (by omega), fm_up_ne (show 84 + 6 * j ≠ 85 + 6 * j by omega), hd, nI_1]
  rw [e_D_doNextCommand, e1]
  by_cases z : mu (85 + 6 * j) ((d + 1) % 16) = -1
  · rw [if_pos z, if_pos z, if_pos z]
  · rw [if_neg z, if_neg z, if_neg z]
    dsimp only
    rw [fm_up_ne (show 3 ≠ 84 + 6 * j by omega), fm_up_ne (show 3 ≠ 85 + 6 * j by omega)]
