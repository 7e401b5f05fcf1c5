/-! counting -/
def cnt (f : Nat → Bool) : Nat → Nat
  | 0 => 0
  | m + 1 => cnt f m + (if f m = true then 1 else 0)
theorem cnt_cg {f g : Nat → Bool} : ∀ m, (∀ i, i < m → f i = g i) → cnt f m = cnt g m := by
  intro m
  induction m with
  | zero => exact fun _ => rfl
  | succ m ih =>
    intro h
    unfold cnt
    rw [ih (fun i hi => h i (by omega)), h m (by omega)]
theorem cnt_no {f : Nat → Bool} : ∀ m, (∀ i, i < m → f i = false) → cnt f m = 0 := by
  intro m
  induction m with
  | zero => exact fun _ => rfl
  | succ m ih =>
    intro h
    unfold cnt
    rw [ih (fun i hi => h i (by omega)), h m (by omega)]
    rfl
theorem cnt_split (f : Nat → Bool) (a : Nat) : ∀ m, cnt f (a + m) = cnt f a + cnt (fun i => f (a + i)) m := by
  intro m
  induction m with
  | zero => rfl
  | succ m ih =>
    show cnt f (a + m) + _ = cnt f a + (cnt (fun i => f (a + i)) m + _)
    rw [ih, Nat.add_assoc]
    rfl
theorem cnt_front (f : Nat → Bool) (m : Nat) : cnt f (m + 1) = (if f 0 = true then 1 else 0) + cnt (fun i => f (i + 1)) m := by
  rw [show m + 1 = 1 + m by omega, cnt_split f 1 m]
  have e : (fun i => f (1 + i)) = fun i => f (i + 1) := by
    funext i
    rw [Nat.add_comm]
  rw [e]
  show 0 + _ + _ = _
  rw [Nat.zero_add]
theorem cnt_rot (g : Nat → Bool) : ∀ d, cnt (fun i => g ((d + i) % 16)) 16 = cnt g 16 := by
  intro d
  induction d with
  | zero => exact cnt_cg 16 (fun i hi => by rw [Nat.zero_add, Nat.mod_eq_of_lt hi])
  | succ d ih =>
    have h1 := cnt_front (fun i => g ((d + i) % 16)) 16
    have h2 : cnt (fun i => g ((d + i) % 16)) (16 + 1) = cnt (fun i => g ((d + i) % 16)) 16 + (if g ((d + 16) % 16) = true then 1 else 0) := rfl
    have e : (fun i => g ((d + (i + 1)) % 16)) = fun i => g ((d + 1 + i) % 16) := by
      funext i
      rw [show d + (i + 1) = d + 1 + i by omega]
    rw [e, show (d + 0) % 16 = d % 16 from rfl] at h1
    rw [show (d + 16) % 16 = d % 16 by omega] at h2
    omega
theorem add_1n (s : Int32) (x : Nat) : s + 1 + nI x = s + nI (1 + x) := by
  rw [Int32.add_assoc]
  exact congrArg (s + ·) (nI_add 1 x)
theorem held_cnt (mu : fm_T) (ci : Nat) : ∀ (m n j : Nat) (sm : Int32), j + m = 16 → m < n → f_A_heldCommands_4 n mu ci sm j = sm + nI (cnt (fun i => decide (¬ mu (85 + 6 * ci) (j + i) = -1)) m) := by
  intro m
  induction m with
  | zero =>
    intro n j sm h1 h2
    obtain ⟨n, rfl⟩ : ∃ z, n = z + 1 := ⟨n - 1, by omega⟩
    rw [e_A_heldCommands_4, if_pos (show (16 : Int32) ≤ nI j from nI_le (a := 16) (by omega) (by omega))]
    exact (Int32.add_zero sm).symm
  | succ m ih =>
    intro n j sm h1 h2
    obtain ⟨n, rfl⟩ : ∃ z, n = z + 1 := ⟨n - 1, by omega⟩
    have e : (fun i => decide (¬ mu (85 + 6 * ci) (j + (i + 1)) = -1)) = fun i => decide (¬ mu (85 + 6 * ci) (j + 1 + i) = -1) := by
      funext i
      rw [show j + (i + 1) = j + 1 + i by omega]
    rw [e_A_heldCommands_4, if_neg (show ¬ (16 : Int32) ≤ nI j from nI_ge (b := 16) (by omega) (by decide)), cnt_front]
    rw [e, Nat.add_zero]
    by_cases h : mu (85 + 6 * ci) j = -1
    · rw [if_pos h, ih n (j + 1) sm (by omega) (by omega), if_neg (by simp [h]), Nat.zero_add]
    · rw [if_neg h, ih n (j + 1) _ (by omega) (by omega), if_pos (by simp [h]), add_1n]
def selM (nu : fm_T) (c : Nat) (wh hs : Int32) : Int32 := (if wh = 0 then nu 7 c else (if wh = 1 then f_M_seen nu (nI c) else (if wh = 2 then nu 4 (((3 * (nu 0 2)) + (nI c)).toNatClampNeg) else (if wh = 3 then hs else (if wh = 4 then nu 9 c else (if wh = 5 then nu 8 c else (-1)))))))
theorem count_cnt (nu : fm_T) {c I : Nat} (hc : c < 3) (wh : Int32) (hI : nu 7 c = nI I) (hb : I < 2 ^ 30) : ∀ (m n j : Nat) (hs : Int32), j + m = I + 1 → m < n → f_M_count_14 n nu (nI c) wh hs j = selM nu c wh (hs + nI (cnt (fun i => decide (¬ nu 6 (513 * c + (j + i)) = 0)) m)) := by
  intro m
  induction m with
  | zero =>
    intro n j hs h1 h2
    obtain ⟨n, rfl⟩ : ∃ z, n = z + 1 := ⟨n - 1, by omega⟩
    rw [e_M_count_14, nI_clamp (by omega), hI, if_pos (nI_lt (by omega) (by omega)), ← hI, show hs + nI (cnt (fun i => decide (¬ nu 6 (513 * c + (j + i)) = 0)) 0) = hs from Int32.add_zero hs]
    rfl
  | succ m ih =>
    intro n j hs h1 h2
    obtain ⟨n, rfl⟩ : ∃ z, n = z + 1 := ⟨n - 1, by omega⟩
    have e : (fun i => decide (¬ nu 6 (513 * c + (j + (i + 1))) = 0)) = fun i => decide (¬ nu 6 (513 * c + (j + 1 + i)) = 0) := by
      funext i
      rw [show j + (i + 1) = j + 1 + i by omega]
    rw [e_M_count_14, nI_clamp (by omega), hI, if_neg (nI_nlt (by omega) (by omega)), cnt_front]
    rw [e, Nat.add_zero]
    by_cases h : nu 6 (513 * c + j) = 0
    · rw [if_pos h, ih n (j + 1) hs (by omega) (by omega), if_neg (by simp [h]), Nat.zero_add]
    · rw [if_neg h, ih n (j + 1) _ (by omega) (by omega), if_pos (by simp [h]), add_1n]
theorem cnt_same {n : Nat} {mu nu : fm_T} {c : Nat} (hc : c < 3) (hr : RIc n nu c) (ha : AccR mu nu c) (hM : SafM nu) : cnt (fun i => decide (¬ mu (85 + 6 * c) (0 + i) = -1)) 16 = cnt (fun i => decide (¬ nu 6 (513 * c + (1 + i)) = 0)) (rI nu c) := by
  obtain ⟨r1, r2, r3, r4, r5, r6, r7, r8⟩ := hr
  have hmo := mono_D (c := c) (n := n) ⟨r1, r2, r3, r4, r5, r6, r7, r8⟩ (rT nu) (rW nu c) r2 (Nat.le_refl _)
  have hI := (n_I hM c).2
  have e0 : (fun i => decide (¬ mu (85 + 6 * c) (0 + i) = -1)) = fun i => decide (¬ mu (85 + 6 * c) i = -1) := by
    funext i
    rw [Nat.zero_add]
  rw [e0, ← cnt_rot _ (rD nu (rT nu) c + 1)]
  have e1 : cnt (fun i => decide (¬ mu (85 + 6 * c) ((rD nu (rT nu) c + 1 + i) % 16) = -1)) 16 = cnt (fun i => decide (rD nu (rT nu) c + 1 + i ≤ rI nu c ∧ ¬ nu 6 (513 * c + (rD nu (rT nu) c + 1 + i)) = 0)) 16 := by
    refine cnt_cg 16 (fun i hi => ?_)
    rw [ha.2.2.1 _ (by omega) (by omega)]
    unfold hld
    by_cases h : rD nu (rT nu) c + 1 + i ≤ rI nu c ∧ ¬ nu 6 (513 * c + (rD nu (rT nu) c + 1 + i)) = 0
    · rw [if_pos h, decide_eq_true h, decide_eq_true]
      obtain ⟨x, hx, ex⟩ := vp_in_of (r7 _ (by omega) h.1) (by decide)
      rw [ex]
      exact neg1_nI (by omega)
    · rw [if_neg h, decide_eq_false h, decide_eq_false]
      exact fun q => q rfl
  rw [e1, show 16 = (rI nu c - rD nu (rT nu) c) + (16 - (rI nu c - rD nu (rT nu) c)) by omega, cnt_split, cnt_no (16 - (rI nu c - rD nu (rT nu) c)) (fun i hi => decide_eq_false (fun q => by omega)), Nat.add_zero]
  rw [show rI nu c = rD nu (rT nu) c + (rI nu c - rD nu (rT nu) c) by omega, cnt_split]
  rw [show rD nu (rT nu) c + (rI nu c - rD nu (rT nu) c) - rD nu (rT nu) c = rI nu c - rD nu (rT nu) c by omega]
  rw [cnt_no (rD nu (rT nu) c) (fun i hi => decide_eq_false (fun q => by have := r8 (1 + i) (by omega) (by omega) q; omega)), Nat.zero_add]
  refine cnt_cg _ (fun i hi => ?_)
  rw [show 1 + (rD nu (rT nu) c + i) = rD nu (rT nu) c + 1 + i by omega]
  by_cases h : ¬ nu 6 (513 * c + (rD nu (rT nu) c + 1 + i)) = 0
  · rw [decide_eq_true h, decide_eq_true]
    exact ⟨by omega, h⟩
  · rw [decide_eq_false h, decide_eq_false]
    exact fun q => h q.2
theorem rel_count {n : Nat} {mu nu : fm_T} (h : Rel n mu nu) (cli wh : Int32) : f_D_count mu cli wh = f_M_count nu cli wh := by
  obtain ⟨⟨-, -, -, hrc, -⟩, ⟨-, -, -, -, -, -, hcl, hac⟩, hC, hM⟩ := h
  rw [e_D_count, e_M_count]
  by_cases h0 : f_D_isClient cli = 0
  · rw [if_pos h0, if_pos (show f_M_client cli = 0 from h0)]
  · rw [if_neg h0, if_neg (show ¬ f_M_client cli = 0 from h0)]
    obtain ⟨c, hc, rfl⟩ := vp_in_of (cl_in h0) (by decide)
    have hI := n_I hM c
    have hT := n_T hM
    have hW := n_W hM c
    obtain ⟨c1, c2, c3, c4, c5, c6⟩ := hcl c hc
    obtain ⟨a1, a2, a3, a4⟩ := hac c hc
    rw [count_cnt nu hc wh hI.1 (by omega) (rI nu c) 514 1 0 (by omega) (by omega), nI_clamp (by omega), c1, c3, a1, c2, a2, e_A_heldCommands, held_cnt mu c 16 17 0 0 (by decide) (by decide), cnt_same hc (hrc c hc) (hac c hc) hM]
    unfold selM
    rw [e_M_seen, nI_clamp (by omega), hW.1, lin3 (by omega), hT.1, lin3 (by omega)]
