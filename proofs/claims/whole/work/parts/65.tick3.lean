theorem dif_c {n : Nat} {m0 n0 mu nu : fm_T} {T j : Nat} (h0 : Rel n m0 n0) (hT : rT n0 = T) (hT2 : T < 512) (hj : j < 3) (h : Dif m0 n0 T j mu nu) : Dif m0 n0 T (j + 1) (f_D_doNextCommand mu j) (mC nu T j (rD n0 T j) (rI n0 j)) := by
  obtain ⟨⟨r1, r2, r3, r4, r5⟩, ⟨⟨ha, hz⟩, hw, hpl, hd, hinj, hpk, hcl, hac⟩, hC0, hM0⟩ := h0
  have hI : ∀ c, rI n0 c < 513 := fun c => (n_I hM0 c).2
  obtain ⟨q1, q2, q3, q4, q5, q6, q7, q8⟩ := r4 j hj
  have hmo := mono_D (r4 j hj) (rT n0) (rW n0 j) q2 (Nat.le_refl _)
  obtain ⟨a1, a2, a3, a4⟩ := hac j hj
  have hDD := n_D hM0 T j
  rw [hT] at hmo q4 q8 a1 a3 hpl r2
  have hIj := hI j
  have hh := h
  obtain ⟨d1, d2, d3, d4, d5, d6, d7, d8, d9, d10, d11, hC, hM⟩ := hh
  obtain ⟨g1, g2, g3⟩ := d10 j hj (Nat.le_refl _)
  have hd2 : mu (84 + 6 * j) 2 = nI (rD n0 T j) := by rw [g1, a1, hDD.1]
  have e3 : mu 3 j = nu 3 (8 * T + j) := by rw [d7 j (by omega), if_neg (by omega), hpl j (by omega), d5 _ (by omega)]
  have v3 : vp_in (nu 3 (8 * T + j)) 256 := by rw [d5 _ (by omega)]; exact r2 T j (Nat.le_refl _) (by omega)
  have eh : mu (85 + 6 * j) ((rD n0 T j + 1) % 16) = hld n0 j (rD n0 T j + 1) := by rw [g2, a3 _ (by omega) (by omega)]
  rw [dn_eq hd2 (by omega), eh]
  by_cases does : rD n0 T j < rI n0 j ∧ ¬ nu 6 (513 * j + (rD n0 T j + 1)) = 0
  · have e6 : nu 6 (513 * j + (rD n0 T j + 1)) = n0 6 (513 * j + (rD n0 T j + 1)) := g3 _ (by omega)
    have eh2 : hld n0 j (rD n0 T j + 1) = n0 5 (513 * j + (rD n0 T j + 1)) := by
      unfold hld
      rw [if_pos ⟨by omega, by rw [← e6]; exact does.2⟩]
    have v5 := q7 (rD n0 T j + 1) (by omega) (by omega)
    have hne : ¬ n0 5 (513 * j + (rD n0 T j + 1)) = -1 := by
      obtain ⟨y, hy, ey⟩ := vp_in_of v5 (by decide)
      rw [ey]
      exact neg1_nI (by omega)
    have n5 : nu 5 (513 * j + (rD n0 T j + 1)) = n0 5 (513 * j + (rD n0 T j + 1)) := by rw [d3 5 (by decide) (by decide) (by decide) (by decide) (by decide)]
    unfold mC
    rw [eh2, if_neg hne, if_pos does, n5]
    have est : f_F_after (fm_up (fm_up mu (85 + 6 * j) ((rD n0 T j + 1) % 16) (-1)) (84 + 6 * j) 2 (nI (rD n0 T j + 1))) (mu 3 j) (n0 5 (513 * j + (rD n0 T j + 1))) = f_M_stepFrom nu (nu 3 (8 * T + j)) (n0 5 (513 * j + (rD n0 T j + 1))) := by
      rw [e3]
      exact step_eq (fun i hi => by
        rw [fm_up_ne (by omega), fm_up_ne (by omega), d1 2 (by decide) (by decide) (by decide) (fun c _ => by omega), d3 1 (by decide) (by decide) (by decide) (by decide) (by decide)]
        exact hw i hi) _ v5
    rw [est]
    have vx : vp_in (f_M_stepFrom nu (nu 3 (8 * T + j)) (n0 5 (513 * j + (rD n0 T j + 1)))) 256 := step_in v3
    generalize f_M_stepFrom nu (nu 3 (8 * T + j)) (n0 5 (513 * j + (rD n0 T j + 1))) = x at vx
    refine dif_cli (x := x) (d := rD n0 T j + 1) hj h (fun k k3 k84 k85 => ?_) ?_ (fun k k3 k4 k6 => ?_) ?_ ?_ (fun c k c1 c2 c3 => ?_) vx ?_ (saf_up (saf_up (saf_up hC (ok_85 hj (Or.inl rfl))) (ok_84 hj _ _)) (ok_3 _ _)) (smf_up (smf_up (smf_up hM (om_3 _ _)) (om_4 (vp_in_nI (by omega) (by decide)))) (om_6 _ _)) hI
    · rw [fm_up_ne k3, fm_up_ne k84, fm_up_ne k85]
    · rw [fm_up_row, fm_up_ne (by omega), fm_up_ne (by omega)]
    · rw [fm_up_ne k6, fm_up_ne k4, fm_up_ne k3]
    · rw [fm_up_ne (by decide), fm_up_ne (by decide), fm_up_row]
    · rw [fm_up_ne (by decide), fm_up_row, fm_up_ne (by decide)]
    · rw [fm_up_slot (by omega), fm_up_ne (by decide), fm_up_ne (by decide)]
    · have n6 : ∀ k, (fm_up (fm_up (fm_up nu 3 (8 * T + 8 + j) x) 4 (3 * (T + 1) + j) (nI (rD n0 T j + 1))) 6 (513 * j + (rD n0 T j + 1)) 0) 6 (513 * j + k) = if k = rD n0 T j + 1 then 0 else nu 6 (513 * j + k) := fun k => by
        rw [fm_up_row, fm_up_ne (by decide), fm_up_ne (by decide)]
        unfold upd
        by_cases z : k = rD n0 T j + 1
        · rw [if_pos (by omega), if_pos z]
        · rw [if_neg (by omega), if_neg z]
      refine ⟨rD n0 T j + 1, ?_, by omega, by omega, ?_, ?_, fun k k1 k2 => ?_, fun k k1 k2 k3 => ?_⟩
      · rw [fm_up_ne (by decide), fm_up_same]
      · rw [fm_up_ne (by omega), fm_up_same]
      · rw [fm_up_ne (by omega), fm_up_slot (by decide), fm_up_ne (by omega), g1]
      · rw [fm_up_ne (by omega), fm_up_ne (by omega), n6, if_neg (show ¬ k = rD n0 T j + 1 by omega), fm_up_row]
        by_cases z : k = rD n0 T j + 17
        · rw [show k % 16 = (rD n0 T j + 1) % 16 by omega, pk_us, if_neg (fun w => by omega)]
        · rw [upd_ne (by omega), g2, a3 k (by omega) (by omega)]
          unfold hld
          by_cases y : k ≤ 512
          · rw [g3 k y]
          · rw [if_neg (fun w => by omega), if_neg (fun w => by omega)]
      · rw [n6] at k3
        split at k3
        · exact absurd rfl k3
        · rw [g3 k k2] at k3
          have := q8 k k1 k2 k3
          omega
  · have eh2 : hld n0 j (rD n0 T j + 1) = -1 := by
      unfold hld
      rw [if_neg]
      intro w
      exact does ⟨by omega, by rw [g3 _ (by omega)]; exact w.2⟩
    unfold mC
    rw [eh2, if_pos rfl, if_neg does]
    refine dif_cli (x := nu 3 (8 * T + j)) (d := rD n0 T j) hj h (fun k _ _ _ => rfl) ?_ (fun k k3 k4 k6 => ?_) ?_ ?_ (fun c k c1 c2 c3 => rfl) v3 ?_ hC (smf_up (smf_up hM (om_3 _ _)) (om_4 (vp_in_nI (by omega) (by decide)))) hI
    · rw [← e3, upd_id]
    · rw [fm_up_ne k4, fm_up_ne k3]
    · rw [fm_up_ne (by decide), fm_up_row]
    · rw [fm_up_row, fm_up_ne (by decide)]
    · refine ⟨rD n0 T j, ?_, Nat.le_refl _, q4, hd2, by rw [g1], fun k k1 k2 => ?_, fun k k1 k2 k3 => ?_⟩
      · rw [fm_up_same]
      · rw [g2, a3 k k1 k2, fm_up_ne (by decide), fm_up_ne (by decide)]
        unfold hld
        by_cases y : k ≤ 512
        · rw [g3 k y]
        · rw [if_neg (fun w => by omega), if_neg (fun w => by omega)]
      · rw [fm_up_ne (by decide), fm_up_ne (by decide), g3 k k2] at k3
        exact q8 k k1 k2 k3
theorem dif_0 {n : Nat} {m0 n0 : fm_T} (h0 : Rel n m0 n0) (hT2 : rT n0 < 512) : Dif m0 n0 (rT n0) 0 (fm_up m0 0 4 (nI (rT n0 + 1))) (fm_up n0 0 2 (nI (rT n0 + 1))) := by
  obtain ⟨⟨r1, r2, r3, r4, r5⟩, ⟨⟨ha, hz⟩, hw, hpl, hd, hinj, hpk, hcl, hac⟩, hC0, hM0⟩ := h0
  refine ⟨fun k k0 _ _ _ => fm_up_ne k0, fm_up_same _ _ _ _, fun k k0 _ _ _ _ => fm_up_ne k0, ⟨fm_up_same _ _ _ _, fm_up_slot (by decide)⟩, fun i hi => rfl, fun i hi => rfl, fun e he => ?_, fun e e1 e2 => by omega, fun e e1 e2 => ⟨?_, r3 e e1 e2⟩, fun c c1 _ => ⟨fm_up_ne (by omega), fm_up_ne (by omega), fun k _ => rfl⟩, fun c _ c2 => by omega, saf_up hC0 (ok_0 _ _), smf_up hM0 (om_now (vp_in_nI (by omega) (by decide)))⟩
  · rw [if_neg (by omega), fm_up_ne (by decide)]
  · rw [fm_up_ne (by decide)]
    exact hd e e1 e2
/-- all entities are moved -/
theorem dif_all {n : Nat} {m0 n0 : fm_T} (h0 : Rel n m0 n0) (hn : n < 512) : ∃ mu nu, f_D_tick m0 = f_D_tick_37 4 mu 0 ∧ f_M_tick n0 = f_M_tick_267 4 nu 0 ∧ Dif m0 n0 (rT n0) 8 mu nu := by
  have hh := h0
  obtain ⟨⟨r1, r2, r3, r4, r5⟩, ⟨⟨ha, hz⟩, hw, hpl, hd, hinj, hpk, hcl, hac⟩, hC0, hM0⟩ := hh
  have hT := n_T hM0
  have hT2 : rT n0 < 512 := by omega
  have D0 := dif_0 h0 hT2
  have D1 := dif_c h0 rfl hT2 (by decide) D0
  have D2 := dif_c h0 rfl hT2 (by decide) D1
  have D3 := dif_c h0 rfl hT2 (by decide) D2
  have D4 := dif_dr (by decide) (by decide) hw (hpl 3 (by decide)) (r2 _ 3 (Nat.le_refl _) (by decide)) D3
  have D5 := dif_dr (by decide) (by decide) hw (hpl 4 (by decide)) (r2 _ 4 (Nat.le_refl _) (by decide)) D4
  have D6 := dif_dr (by decide) (by decide) hw (hpl 5 (by decide)) (r2 _ 5 (Nat.le_refl _) (by decide)) D5
  have D7 := dif_dr (by decide) (by decide) hw (hpl 6 (by decide)) (r2 _ 6 (Nat.le_refl _) (by decide)) D6
  have D8 := dif_dr (by decide) (by decide) hw (hpl 7 (by decide)) (r2 _ 7 (Nat.le_refl _) (by decide)) D7
  refine ⟨_, _, ?_, ?_, D8⟩
  · rw [e_D_tick, ha, hT.1, nI_1, t12_all, mv_all]
  · rw [e_M_tick, hT.1, nI_1, nI_clamp (by omega), t30_all (T := rT n0) (d := rD n0 (rT n0)) (I := rI n0) hT2 (fm_up_same _ _ _ _) (fun j _ => (n_D hM0 (rT n0) j).1) (fun j _ => (n_I hM0 j).1) (fun j => (n_D hM0 (rT n0) j).2) (fun j => (n_I hM0 j).2), t183_all]
