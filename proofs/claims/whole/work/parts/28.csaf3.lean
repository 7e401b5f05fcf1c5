section SAF3
variable {mu : fm_T}
theorem saf_doNext (hI : SafC mu) {cn : Nat} (hc : cn < 3) : SafC (f_D_doNextCommand mu cn) := by
  rw [e_D_doNextCommand]
  split
  · exact saf_takeNext hI hc
  · exact saf_up (saf_takeNext hI hc) (ok_3 _ _)
theorem saf_send (hI : SafC mu) {cn : Nat} (hc : cn < 3) : SafC (f_D_sendSnapshot mu cn) := by
  rw [e_D_sendSnapshot]
  have h1 := saf_remember hI hc (mu 0 4) cn
  have h2 := saf_add h1
  rcases hq : (f_N_addLast (f_A_remember mu cn (mu 0 4) cn)).1 with _ | a
  · rw [fm_opt_none rfl]
    exact h2
  · rw [fm_opt_some rfl]
    exact saf_wsn (saf_up h2 (ok_70 (pn_lt _) (vp_in_nI hc (by decide)))) (pn_lt _) _
end SAF3
