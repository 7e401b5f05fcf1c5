/-! the playfield's constructor: the same memory, with what isn't made yet left out -/
def mu0 : fm_T := fun k j =>
  if k = 3 then (if j < 8 then nI (2 * j) else 0)
  else if k = 6 then nI j
  else if k < 81 then 0
  else if (k - 81) % 6 = 0 then (if j = 2 then nI (2 * ((k - 81) / 6)) else 0)
  else if (k - 81) % 6 = 2 then (if j < 8 then -1 else 0)
  else if (k - 81) % 6 = 4 then (if j < 16 then -1 else 0)
  else 0
theorem mu0_3 : mu0 3 = fun j => if j < 8 then nI (2 * j) else 0 := by
  funext j
  unfold mu0
  rw [if_pos rfl]
theorem mu0_6 : mu0 6 = nI := by
  funext j
  unfold mu0
  rw [if_neg (by decide), if_pos rfl]
theorem mu0_lo {k : Nat} (h3 : k ≠ 3) (h6 : k ≠ 6) (h : k < 81) : mu0 k = fun _ => 0 := by
  funext j
  unfold mu0
  rw [if_neg h3, if_neg h6, if_pos h]
theorem mu0_C (c : Nat) : mu0 (81 + 6 * c) = fun j => if j = 2 then nI (2 * c) else 0 := by
  funext j
  unfold mu0
  rw [if_neg (by omega), if_neg (by omega), if_neg (by omega), if_pos (by omega), show (81 + 6 * c - 81) / 6 = c by omega]
theorem mu0_Ccm (c : Nat) : mu0 (82 + 6 * c) = fun _ => 0 := by
  funext j
  unfold mu0
  rw [if_neg (by omega), if_neg (by omega), if_neg (by omega), if_neg (by omega), if_neg (by omega), if_neg (by omega)]
theorem mu0_Csh (c : Nat) : mu0 (83 + 6 * c) = fun j => if j < 8 then -1 else 0 := by
  funext j
  unfold mu0
  rw [if_neg (by omega), if_neg (by omega), if_neg (by omega), if_neg (by omega), if_pos (by omega)]
theorem mu0_A (c : Nat) : mu0 (84 + 6 * c) = fun _ => 0 := by
  funext j
  unfold mu0
  rw [if_neg (by omega), if_neg (by omega), if_neg (by omega), if_neg (by omega), if_neg (by omega), if_neg (by omega)]
theorem mu0_Ahe (c : Nat) : mu0 (85 + 6 * c) = fun j => if j < 16 then -1 else 0 := by
  funext j
  unfold mu0
  rw [if_neg (by omega), if_neg (by omega), if_neg (by omega), if_neg (by omega), if_neg (by omega), if_pos (by omega)]
theorem mu0_Ato (c : Nat) : mu0 (86 + 6 * c) = fun _ => 0 := by
  funext j
  unfold mu0
  rw [if_neg (by omega), if_neg (by omega), if_neg (by omega), if_neg (by omega), if_neg (by omega), if_neg (by omega)]
def rq (i q a : Nat) : Value := if i < q then .ref a else .null
def cF (b o c : Nat) : Nat → Option Nat := fun i => if i < c then some (b + (o + 6 * i)) else none
theorem cF_0 (b o : Nat) : (fun _ => none) = cF b o 0 := by
  funext i
  unfold cF
  rw [if_neg (Nat.not_lt_zero _)]
theorem cF_up (b o c : Nat) : va_up (cF b o c) c (some (b + (o + 6 * c))) = cF b o (c + 1) := by
  funext i
  unfold cF va_up
  by_cases h : i = c
  · subst h
    rw [if_pos rfl, if_pos (Nat.lt_succ_self _)]
  · rw [if_neg h]
    dsimp only
    by_cases h2 : i < c
    · rw [if_pos h2, if_pos (by omega)]
    · rw [if_neg h2, if_neg (by omega)]
def LD (aC : Nat → ClassId) (b q c1 c2 : Nat) : fm_L := fun k r =>
  if k = 0 then .inr (0, [rq 0 q (b + 1), rq 1 q (b + 5), rq 2 q (b + 79), rq 3 q (b + 80), .int (r 4)])
  else if k = 79 then .inl (aC 3, 3, .inr (.inr (.inr (.inr (cF b 81 c1)))))
  else if k = 80 then .inl (aC 4, 3, .inr (.inr (.inr (.inr (cF b 84 c2)))))
  else LC aC b k r
section LDL
variable (aC : Nat → ClassId) (b q c1 c2 : Nat) (r : Nat → Int32)
theorem ld_0 : LD aC b q c1 c2 0 r = .inr (0, [rq 0 q (b + 1), rq 1 q (b + 5), rq 2 q (b + 79), rq 3 q (b + 80), .int (r 4)]) := by unfold LD; rw [if_pos rfl]
theorem ld_79 : LD aC b q c1 c2 79 r = .inl (aC 3, 3, .inr (.inr (.inr (.inr (cF b 81 c1))))) := by unfold LD; rw [if_neg (by decide), if_pos rfl]
theorem ld_80 : LD aC b q c1 c2 80 r = .inl (aC 4, 3, .inr (.inr (.inr (.inr (cF b 84 c2))))) := by unfold LD; rw [if_neg (by decide), if_neg (by decide), if_pos rfl]
theorem ld_n {k : Nat} (h0 : k ≠ 0) (h1 : k ≠ 79) (h2 : k ≠ 80) : LD aC b q c1 c2 k r = LC aC b k r := by unfold LD; rw [if_neg h0, if_neg h1, if_neg h2]
theorem fk_set {L L2 : fm_L} {b N k : Nat} {mu : fm_T} {e : va_E} (hk : k < N) (he : L2 k (mu k) = e) (hne : ∀ i, i < N → i ≠ k → L i (mu i) = L2 i (mu i)) : (fm_w L b N mu).set k (b + k, e) = fm_w L2 b N mu := by
  apply List.ext_getElem?
  intro i
  by_cases hi : i = k
  · subst hi
    rw [List.getElem?_set_self (by rw [fm_len]; exact hk), fm_at hk, he]
  · rw [List.getElem?_set_ne (Ne.symm hi)]
    by_cases hn : i < N
    · rw [fm_at hn, fm_at hn, hne i hn hi]
    · rw [List.getElem?_eq_none (by rw [fm_len]; omega), List.getElem?_eq_none (by rw [fm_len]; omega)]
theorem ld_q (q2 : Nat) {k : Nat} (h : k ≠ 0) : LD aC b q c1 c2 k r = LD aC b q2 c1 c2 k r := by unfold LD; rw [if_neg h, if_neg h]
theorem ld_c1 (d1 : Nat) {k : Nat} (h : k ≠ 79) : LD aC b q c1 c2 k r = LD aC b q d1 c2 k r := by
  unfold LD
  by_cases h0 : k = 0
  · rw [if_pos h0, if_pos h0]
  · rw [if_neg h0, if_neg h0, if_neg h, if_neg h]
theorem ld_c2 (d2 : Nat) {k : Nat} (h : k ≠ 80) : LD aC b q c1 c2 k r = LD aC b q c1 d2 k r := by
  unfold LD
  by_cases h0 : k = 0
  · rw [if_pos h0, if_pos h0]
  · rw [if_neg h0, if_neg h0]
    by_cases h1 : k = 79
    · rw [if_pos h1, if_pos h1]
    · rw [if_neg h1, if_neg h1, if_neg h, if_neg h]
end LDL
theorem fk_ext {D : va_G} {cl : List vw_C} {L : fm_L} {b N1 N2 : Nat} {mu : fm_T} {H : Heap} (hP : va_P D cl (fm_w L b N1 mu) H) (h : ∀ k, N1 ≤ k → k < N2 → va_at D cl (b + k, L k (mu k)) H) : va_P D cl (fm_w L b N2 mu) H := by
  intro k q hq
  obtain ⟨hk, rfl⟩ := fk_lt hq
  by_cases hkn : k < N1
  · exact hP k _ (fm_at hkn)
  · exact h k (by omega) hk
theorem arr_same {cA : ClassId} {n : Nat} {f g : Nat → Option Nat} (h : ∀ i, i < n → f i = g i) : vp_cell cA (n, .inr (.inr (.inr (.inr f)))) = vp_cell cA (n, .inr (.inr (.inr (.inr g)))) := by
  rw [vp_cell_q, vp_cell_q]
  unfold arrV
  congr 2
  funext i
  dsimp only
  rw [h i.val i.isLt]
theorem at_same {D : va_G} {cl : List vw_C} {a : Nat} {cA : ClassId} {n : Nat} {f g : Nat → Option Nat} {H : Heap} (h : ∀ i, i < n → f i = g i) (hP : va_at D cl (a, .inl (cA, n, .inr (.inr (.inr (.inr f))))) H) : va_at D cl (a, .inl (cA, n, .inr (.inr (.inr (.inr g))))) H := by
  have h1 : H[a]? = some (vp_cell cA (n, .inr (.inr (.inr (.inr f))))) := hP
  show H[a]? = some (vp_cell cA (n, .inr (.inr (.inr (.inr g)))))
  rw [h1, arr_same h]
theorem at_eq {D : va_G} {cl : List vw_C} {a a2 : Nat} {e e2 : va_E} {H : Heap} (ha : a = a2) (he : e = e2) (hP : va_at D cl (a, e) H) : va_at D cl (a2, e2) H := by
  subst ha
  subst he
  exact hP
/-- the network's cells, as the playfield's layout has them -/
theorem ln_lc {D : va_G} {cl : List vw_C} (aC : Nat → ClassId) (b : Nat) {H : Heap} (hB : va_P D cl (fm_w (LN aC (b + 5) 24) (b + 5) 74 z0) H) (k : Nat) (h1 : 5 ≤ k) (h2 : k < 79) : va_at D cl (b + k, LC aC b k (mu0 k)) H := by
  obtain ⟨i, rfl⟩ : ∃ i, k = 5 + i := ⟨k - 5, by omega⟩
  have h := hB i _ (fm_at (by omega))
  rcases (show i = 0 ∨ i = 1 ∨ (∃ q, q < 24 ∧ (i = 2 + 3 * q ∨ i = 2 + 3 * q + 1 ∨ i = 2 + 3 * q + 1 + 1)) by
    rcases Nat.lt_or_ge i 2 with z | z
    · omega
    · exact Or.inr (Or.inr ⟨(i - 2) / 3, by omega, by omega⟩)) with rfl | rfl | ⟨q, hq, rfl | rfl | rfl⟩
  · rw [ln_0] at h
    rw [lc_N, mu0_lo (by decide) (by decide) (by decide)]
    exact h
  · rw [ln_1] at h
    rw [lc_packets, mu0_6]
    refine at_same (fun i hi => ?_) h
    unfold pkF pn
    rw [if_pos hi, nI_clamp (by omega), Nat.mod_eq_of_lt hi]
    congr 1
    omega
  · rw [ln_P] at h
    rw [show 5 + (2 + 3 * q) = 7 + 3 * q by omega, lc_P aC b _ hq, mu0_lo (by omega) (by omega) (by omega)]
    refine at_eq (by omega) ?_ h
    rw [show b + 5 + (2 + 3 * q) + 1 = b + (8 + 3 * q) by omega, show b + (8 + 3 * q) + 1 = b + (9 + 3 * q) by omega]
  · rw [ln_P1] at h
    rw [show 5 + (2 + 3 * q + 1) = 8 + 3 * q by omega, lc_Ppl aC b _ hq, mu0_lo (by omega) (by omega) (by omega)]
    exact at_eq (by omega) rfl h
  · rw [ln_P2] at h
    rw [show 5 + (2 + 3 * q + 1 + 1) = 9 + 3 * q by omega, lc_Pcm aC b _ hq, mu0_lo (by omega) (by omega) (by omega)]
    exact at_eq (by omega) rfl h
/-- all made: the class's own layout -/
theorem ld_lc {D : va_G} {cl : List vw_C} (aC : Nat → ClassId) (b : Nat) {H : Heap} (hP : va_P D cl (fm_w (LD aC b 4 3 3) b 99 mu0) H) : va_P D cl (fm_w (LC aC b) b 99 mu0) H := by
  intro k q hq
  obtain ⟨hk, rfl⟩ := fk_lt hq
  have h := hP k _ (fm_at hk)
  by_cases h0 : k = 0
  · subst h0
    rw [ld_0] at h
    rw [lc_D]
    exact h
  · by_cases h1 : k = 79
    · subst h1
      rw [ld_79] at h
      rw [lc_clients]
      exact at_same (fun i hi => if_pos hi) h
    · by_cases h2 : k = 80
      · subst h2
        rw [ld_80] at h
        rw [lc_accounts]
        exact at_same (fun i hi => if_pos hi) h
      · rw [ld_n aC b 4 3 3 _ h0 h1 h2] at h
        exact h
