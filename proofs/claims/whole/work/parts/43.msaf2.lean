section SM2
variable {mu : fm_T}
theorem th0 {kk : Int32} (h : ¬ f_M_there mu kk = 0) : ¬ kk < 0 := (rg_of (x := kk) (K := mu 0 11) h).1
theorem th1 {kk : Int32} (h : ¬ f_M_there mu kk = 0) : ¬ mu 0 11 ≤ kk := (rg_of (x := kk) (K := mu 0 11) h).2
theorem smf_seen (hI : SafM mu) (cli : Int32) : vp_in (f_M_seen mu cli) 513 := smf_done hI _
theorem smf_take14 : ∀ (n : Nat) (mu : fm_T) (j : Nat), SafM mu → SafM (f_M_takeOut_14 n mu j) := by
  intro n
  induction n with
  | zero => exact fun mu j h => h
  | succ n ih =>
    intro mu j h
    rw [e_M_takeOut_14]
    split
    · exact h
    · refine ih _ _ (smf_up h (om_a (fun q => ?_) (fun q => ?_)))
      · exact smf_a0 h (by omega)
      · exact ((h 10 (j + 5)).2.2 rfl).2 (by omega)
theorem smf_take (hI : SafM mu) {kk : Int32} (hk0 : ¬ kk < 0) (hk1 : ¬ mu 0 11 ≤ kk) : SafM (f_M_takeOut mu kk) := by
  rw [e_M_takeOut]
  exact smf_take14 _ _ _ (smf_up hI (om_air (vp_mono (mt_sz hI hk0 hk1) (by decide))))
theorem smf_send (hI : SafM mu) {cc sn tk mo to : Int32} (hc : vp_in cc 3) (ht : vp_in tk 513) (hm : vp_in mo 513) (ho : vp_in to 513) : SafM (f_M_send mu cc sn tk mo to) := by
  rw [e_M_send]
  split
  · exact hI
  · rename_i h
    have l := air_lt hI h
    have e := vp_e (smf_air hI)
    refine smf_up (smf_up (smf_up (smf_up (smf_up (smf_up hI (om_a (fun _ => hc) (fun q => ?_))) (om_a (fun q => ?_) (fun q => ?_))) (om_a (fun q => ?_) (fun _ => ht))) (om_a (fun q => ?_) (fun _ => hm))) (om_a (fun q => ?_) (fun _ => ho))) (om_air ?_)
    · exfalso; omega
    · exfalso; omega
    · exfalso; omega
    · exfalso; omega
    · exfalso; omega
    · exfalso; omega
    · rw [fm_up_cell (by decide), fm_up_cell (by decide), fm_up_cell (by decide), fm_up_cell (by decide), fm_up_cell (by decide), e, nI_1]
      exact vp_in_nI (by omega) (by decide)
end SM2
