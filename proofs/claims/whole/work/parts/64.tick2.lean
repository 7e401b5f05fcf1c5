/-! tick: the tables while the entities are moved; m0, n0: those before it, T: the tick before -/
def StC (m0 n0 : fm_T) (T : Nat) (mu nu : fm_T) (c : Nat) : Prop := ∃ d : Nat, nu 4 (3 * (T + 1) + c) = nI d ∧ rD n0 T c ≤ d ∧ d ≤ rI n0 c ∧ mu (84 + 6 * c) 2 = nI d ∧ mu (84 + 6 * c) 3 = m0 (84 + 6 * c) 3 ∧
  (∀ k, d < k → k ≤ d + 16 → mu (85 + 6 * c) (k % 16) = if k ≤ rI n0 c ∧ ¬ nu 6 (513 * c + k) = 0 then n0 5 (513 * c + k) else -1) ∧ (∀ k, 1 ≤ k → k ≤ 512 → ¬ nu 6 (513 * c + k) = 0 → d < k ∧ k ≤ rI n0 c)
def Dif (m0 n0 : fm_T) (T p : Nat) (mu nu : fm_T) : Prop :=
  (∀ k, k ≠ 0 → k ≠ 3 → k ≠ 4 → (∀ c, c < 3 → k ≠ 84 + 6 * c ∧ k ≠ 85 + 6 * c) → mu k = m0 k) ∧ mu 0 4 = nI (T + 1) ∧
  (∀ k, k ≠ 0 → k ≠ 2 → k ≠ 3 → k ≠ 4 → k ≠ 6 → nu k = n0 k) ∧ (nu 0 2 = nI (T + 1) ∧ nu 0 11 = n0 0 11) ∧
  (∀ i, i < 8 * (T + 1) → nu 3 i = n0 3 i) ∧ (∀ i, i < 3 * (T + 1) → nu 4 i = n0 4 i) ∧
  (∀ e, e < 8 → mu 3 e = if e < p then nu 3 (8 * T + 8 + e) else m0 3 e) ∧ (∀ e, e < p → e < 8 → vp_in (nu 3 (8 * T + 8 + e)) 256) ∧
  (∀ e, 3 ≤ e → e < 8 → mu 4 e = nu 2 e ∧ vp_in (nu 2 e) 4) ∧
  (∀ c, c < 3 → p ≤ c → mu (84 + 6 * c) = m0 (84 + 6 * c) ∧ mu (85 + 6 * c) = m0 (85 + 6 * c) ∧ ∀ k, k ≤ 512 → nu 6 (513 * c + k) = n0 6 (513 * c + k)) ∧
  (∀ c, c < 3 → c < p → StC m0 n0 T mu nu c) ∧ SafC mu ∧ SafM nu
theorem upd_ne {f : Nat → Int32} {k j : Nat} {x : Int32} (h : j ≠ k) : upd f k x j = f j := pk_un h
theorem upd_id (f : Nat → Int32) (k : Nat) : upd f k (f k) = f := by
  funext j
  unfold upd
  by_cases h : j = k
  · rw [if_pos h, h]
  · rw [if_neg h]
theorem dif_cli {m0 n0 mu nu mu2 nu2 : fm_T} {T j d : Nat} {x : Int32} (hj : j < 3) (h : Dif m0 n0 T j mu nu) (ma : ∀ k, k ≠ 3 → k ≠ 84 + 6 * j → k ≠ 85 + 6 * j → mu2 k = mu k) (m3 : mu2 3 = upd (mu 3) j x) (na : ∀ k, k ≠ 3 → k ≠ 4 → k ≠ 6 → nu2 k = nu k) (n3 : nu2 3 = upd (nu 3) (8 * T + 8 + j) x) (n4 : nu2 4 = upd (nu 4) (3 * (T + 1) + j) (nI d)) (n6 : ∀ c k, c < 3 → c ≠ j → k ≤ 512 → nu2 6 (513 * c + k) = nu 6 (513 * c + k)) (hx : vp_in x 256) (hs : StC m0 n0 T mu2 nu2 j) (hC : SafC mu2) (hM : SafM nu2) (hI : ∀ c, rI n0 c < 513) : Dif m0 n0 T (j + 1) mu2 nu2 := by
  obtain ⟨d1, d2, d3, d4, d5, d6, d7, d8, d9, d10, d11, -, -⟩ := h
  refine ⟨fun k k0 k3 k4 kc => ?_, ?_, fun k k0 k2 k3 k4 k6 => ?_, ⟨?_, ?_⟩, fun i hi => ?_, fun i hi => ?_, fun e he => ?_, fun e e1 e2 => ?_, fun e e1 e2 => ?_, fun c c1 c2 => ?_, fun c c1 c2 => ?_, hC, hM⟩
  · rw [ma k k3 (kc j hj).1 (kc j hj).2]
    exact d1 k k0 k3 k4 kc
  · rw [ma 0 (by decide) (by omega) (by omega)]
    exact d2
  · rw [na k k3 k4 k6]
    exact d3 k k0 k2 k3 k4 k6
  · rw [na 0 (by decide) (by decide) (by decide)]
    exact d4.1
  · rw [na 0 (by decide) (by decide) (by decide)]
    exact d4.2
  · rw [n3, upd_ne (by omega)]
    exact d5 i hi
  · rw [n4, upd_ne (by omega)]
    exact d6 i hi
  · rw [m3, n3]
    by_cases z : e = j
    · subst z
      rw [pk_us, if_pos (by omega), pk_us]
    · rw [upd_ne z, d7 e he]
      by_cases y : e < j
      · rw [if_pos y, if_pos (by omega), upd_ne (by omega)]
      · rw [if_neg y, if_neg (by omega)]
  · rw [n3]
    by_cases z : e = j
    · subst z
      rw [pk_us]
      exact hx
    · rw [upd_ne (by omega)]
      exact d8 e (by omega) e2
  · rw [ma 4 (by decide) (by omega) (by omega), na 2 (by decide) (by decide) (by decide)]
    exact d9 e e1 e2
  · rw [ma (84 + 6 * c) (by omega) (by omega) (by omega), ma (85 + 6 * c) (by omega) (by omega) (by omega)]
    obtain ⟨q1, q2, q3⟩ := d10 c c1 (by omega)
    exact ⟨q1, q2, fun k hk => by rw [n6 c k c1 (by omega) hk]; exact q3 k hk⟩
  · by_cases z : c = j
    · subst z
      exact hs
    · obtain ⟨dd, s1, s2, s3, s4, s5, s6, s7⟩ := d11 c c1 (by omega)
      refine ⟨dd, by rw [n4, upd_ne (by omega)]; exact s1, s2, s3, ?_, ?_, fun k k1 k2 => ?_, fun k k1 k2 k3 => ?_⟩
      · rw [ma (84 + 6 * c) (by omega) (by omega) (by omega)]
        exact s4
      · rw [ma (84 + 6 * c) (by omega) (by omega) (by omega)]
        exact s5
      · rw [ma (85 + 6 * c) (by omega) (by omega) (by omega), s6 k k1 k2]
        by_cases y : k ≤ 512
        · rw [n6 c k c1 z y]
        · have h3 := hI c
          rw [if_neg (fun w => by omega), if_neg (fun w => by omega)]
      · rw [n6 c k c1 z k2] at k3
        exact s7 k k1 k2 k3
theorem dif_dr {m0 n0 mu nu : fm_T} {T j : Nat} (hj3 : 3 ≤ j) (hj : j < 8) (hw : ∀ i, i < 256 → m0 2 i = n0 1 i) (hpl : m0 3 j = n0 3 (8 * T + j)) (hv : vp_in (n0 3 (8 * T + j)) 256) (h : Dif m0 n0 T j mu nu) : Dif m0 n0 T (j + 1) (cD mu j) (mD nu T j) := by
  obtain ⟨d1, d2, d3, d4, d5, d6, d7, d8, d9, d10, d11, hC, hM⟩ := h
  have e3 : mu 3 j = nu 3 (8 * T + j) := by rw [d7 j hj, if_neg (by omega), hpl, d5 _ (by omega)]
  have v3 : vp_in (nu 3 (8 * T + j)) 256 := by rw [d5 _ (by omega)]; exact hv
  obtain ⟨e4, v4⟩ := d9 j hj3 hj
  have hst : f_F_after mu (mu 3 j) (mu 4 j) = f_M_stepFrom nu (nu 3 (8 * T + j)) (nu 2 j) := by
    rw [e3, e4]
    exact step_eq (fun i hi => by rw [d1 2 (by decide) (by decide) (by decide) (fun c _ => by omega), d3 1 (by decide) (by decide) (by decide) (by decide) (by decide)]; exact hw i hi) _ (vp_mono v4 (by decide))
  have hx : vp_in (f_M_stepFrom nu (nu 3 (8 * T + j)) (nu 2 j)) 256 := step_in v3
  generalize hX : f_M_stepFrom nu (nu 3 (8 * T + j)) (nu 2 j) = x at hst hx
  obtain ⟨y, hy⟩ : ∃ y, y = if x = nu 3 (8 * T + j) then (nu 2 j + 2) - (nu 2 j + 2) / 4 * 4 else nu 2 j := ⟨_, rfl⟩
  have vy : vp_in y 4 := by
    rw [hy]
    split
    · obtain ⟨q, hq, eq⟩ := vp_in_of v4 (by decide)
      rw [eq, show (2 : Int32) = nI 2 from rfl, nI_add, show (4 : Int32) = nI 4 from rfl, pk_rem (by omega) (by decide) (by decide)]
      exact vp_in_nI (by omega) (by decide)
    · exact v4
  have eD : mD nu T j = fm_up (fm_up nu 3 (8 * T + 8 + j) x) 2 j y := by unfold mD; rw [hX, ← hy]
  have eC : cD mu j = fm_up (fm_up mu 4 j y) 3 j x := by
    unfold cD
    rw [hst, e3, e4]
    by_cases z : x = nu 3 (8 * T + j)
    · rw [if_pos z, hy, if_pos z]
    · rw [if_neg z, hy, if_neg z, ← e4, fm_up_id]
  rw [eD, eC]
  refine ⟨fun k k0 k3 k4 kc => ?_, ?_, fun k k0 k2 k3 k4 k6 => ?_, ⟨d4.1, d4.2⟩, fun i hi => ?_, fun i hi => d6 i hi, fun e he => ?_, fun e e1 e2 => ?_, fun e e1 e2 => ?_, fun c c1 c2 => by omega, fun c c1 c2 => ?_, saf_up (saf_up hC (ok_4 (vp_mono vy (by decide)))) (ok_3 _ _), smf_up (smf_up hM (om_3 _ _)) (om_2 _ _)⟩
  · rw [fm_up_ne k3, fm_up_ne k4]
    exact d1 k k0 k3 k4 kc
  · rw [fm_up_ne (by decide), fm_up_ne (by decide)]
    exact d2
  · rw [fm_up_ne k2, fm_up_ne k3]
    exact d3 k k0 k2 k3 k4 k6
  · rw [fm_up_ne (by decide), fm_up_slot (by omega)]
    exact d5 i hi
  · rw [fm_up_row, fm_up_ne (by decide), fm_up_ne (show 3 ≠ 2 by decide), fm_up_row]
    by_cases z : e = j
    · subst z
      rw [pk_us, if_pos (by omega), pk_us]
    · rw [upd_ne z, d7 e he]
      by_cases w : e < j
      · rw [if_pos w, if_pos (by omega), upd_ne (by omega)]
      · rw [if_neg w, if_neg (by omega)]
  · rw [fm_up_ne (by decide), fm_up_row]
    by_cases z : e = j
    · subst z
      rw [pk_us]
      exact hx
    · rw [upd_ne (by omega)]
      exact d8 e (by omega) e2
  · rw [fm_up_ne (show 4 ≠ 3 by decide), fm_up_row, fm_up_row, fm_up_ne (show 2 ≠ 3 by decide)]
    by_cases z : e = j
    · subst z
      rw [pk_us, pk_us]
      exact ⟨rfl, vy⟩
    · rw [upd_ne z, upd_ne z]
      exact d9 e e1 e2
  · obtain ⟨dd, s1, s2, s3, s4, s5, s6, s7⟩ := d11 c c1 (by omega)
    refine ⟨dd, s1, s2, s3, ?_, ?_, ?_, s7⟩
    · rw [fm_up_ne (by omega), fm_up_ne (by omega)]
      exact s4
    · rw [fm_up_ne (by omega), fm_up_ne (by omega)]
      exact s5
    · rw [fm_up_ne (by omega), fm_up_ne (by omega)]
      exact s6
