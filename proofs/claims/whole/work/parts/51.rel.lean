/-! the relation between the class's table mu and the reference's table nu -/
abbrev tn (x : Int32) : Nat := x.toNatClampNeg
def rT (nu : fm_T) : Nat := tn (nu 0 2)
def rZ (nu : fm_T) : Nat := tn (nu 0 11)
def rI (nu : fm_T) (c : Nat) : Nat := tn (nu 7 c)
def rA (nu : fm_T) (c : Nat) : Nat := tn (nu 8 c)
def rW (nu : fm_T) (c : Nat) : Nat := tn (nu 9 c)
def rD (nu : fm_T) (t c : Nat) : Nat := tn (nu 4 (3 * t + c))
def pC (nu : fm_T) (i : Nat) : Nat := tn (nu 10 (5 * i))
def pT (nu : fm_T) (i : Nat) : Nat := tn (nu 10 (5 * i + 2))
def pM (nu : fm_T) (i : Nat) : Nat := tn (nu 10 (5 * i + 3))
def pO (nu : fm_T) (i : Nat) : Nat := tn (nu 10 (5 * i + 4))
/-- what the reference keeps of a client -/
def RIc (n : Nat) (nu : fm_T) (c : Nat) : Prop :=
  rI nu c ≤ n ∧ rW nu c ≤ rT nu ∧ rA nu c ≤ rT nu ∧ rD nu (rT nu) c ≤ rI nu c ∧ rI nu c ≤ rD nu (rW nu c) c + 12 ∧ (∀ t, t < rT nu → rD nu t c ≤ rD nu (t + 1) c) ∧
  (∀ k, 1 ≤ k → k ≤ rI nu c → vp_in (nu 5 (513 * c + k)) 5) ∧ (∀ k, 1 ≤ k → k ≤ 512 → ¬ nu 6 (513 * c + k) = 0 → rD nu (rT nu) c < k ∧ k ≤ rI nu c)
/-- what it keeps of a packet in the air -/
def RIp (nu : fm_T) (i : Nat) : Prop :=
  (nu 10 (5 * i + 1) = 0 ∧ pO nu i + pM nu i ≤ rI nu (pC nu i) ∧ pO nu i ≤ rD nu (rT nu) (pC nu i) ∧ pM nu i ≤ 4 ∧ pT nu i ≤ rT nu) ∨
  (nu 10 (5 * i + 1) = 1 ∧ 1 ≤ pT nu i ∧ pT nu i ≤ rT nu ∧ pM nu i ≤ rT nu ∧ pO nu i = rD nu (pT nu i) (pC nu i))
def RI (n : Nat) (nu : fm_T) : Prop :=
  rT nu ≤ n ∧ (∀ t e, t ≤ rT nu → e < 8 → vp_in (nu 3 (8 * t + e)) 256) ∧ (∀ e, 3 ≤ e → e < 8 → vp_in (nu 2 e) 4) ∧ (∀ c, c < 3 → RIc n nu c) ∧ (∀ i, i < rZ nu → RIp nu i)
/-- a packet of the class and the reference's -/
def PkR (mu nu : fm_T) (q i : Nat) : Prop :=
  mu (7 + 3 * q) 0 = nu 10 (5 * i) ∧ mu (7 + 3 * q) 1 = nu 10 (5 * i + 1) ∧ mu (7 + 3 * q) 2 = f_M_size nu (5 * i) ∧ mu (7 + 3 * q) 3 = nu 10 (5 * i + 2) ∧ mu (7 + 3 * q) 4 = nu 10 (5 * i + 4) ∧
  (nu 10 (5 * i + 1) = 0 → mu (7 + 3 * q) 7 = nu 10 (5 * i + 3) ∧ ∀ j, j < pM nu i → mu (9 + 3 * q) j = nu 5 (513 * pC nu i + (pO nu i + 1 + j))) ∧
  (nu 10 (5 * i + 1) = 1 → mu (7 + 3 * q) 5 = nu 10 (5 * i + 3) ∧ ∀ e, e < 8 → mu (8 + 3 * q) e = shw nu (pC nu i) e (pT nu i))
def CliR (mu nu : fm_T) (c : Nat) : Prop :=
  mu (81 + 6 * c) 3 = nu 7 c ∧ mu (81 + 6 * c) 5 = nu 9 c ∧ mu (81 + 6 * c) 4 = nu 4 (3 * rW nu c + c) ∧ mu (81 + 6 * c) 2 = nu 3 c ∧
  (∀ e, e < 8 → mu (83 + 6 * c) e = if rW nu c = 0 then -1 else shw nu c e (rW nu c)) ∧
  (∀ k, rD nu (rW nu c) c < k → k ≤ rI nu c → mu (82 + 6 * c) (k % 16) = nu 5 (513 * c + k))
/-- the command of number k, if it is held -/
def hld (nu : fm_T) (c k : Nat) : Int32 := if k ≤ rI nu c ∧ ¬ nu 6 (513 * c + k) = 0 then nu 5 (513 * c + k) else -1
def AccR (mu nu : fm_T) (c : Nat) : Prop :=
  mu (84 + 6 * c) 2 = nu 4 (3 * rT nu + c) ∧ mu (84 + 6 * c) 3 = nu 8 c ∧
  (∀ k, rD nu (rT nu) c < k → k ≤ rD nu (rT nu) c + 16 → mu (85 + 6 * c) (k % 16) = hld nu c k) ∧
  (∀ t, 1 ≤ t → t ≤ rT nu → rT nu < t + 8 → ∀ e, e < 8 → mu (86 + 6 * c) (t % 8 * 8 + e) = shw nu c e t)
def Inj (mu : fm_T) : Prop := ∀ i j, i < 24 → j < 24 → pn (mu 6 i) = pn (mu 6 j) → i = j
def CR (mu nu : fm_T) : Prop :=
  (mu 0 4 = nu 0 2 ∧ mu 5 1 = nu 0 11) ∧ (∀ i, i < 256 → mu 2 i = nu 1 i) ∧ (∀ e, e < 8 → mu 3 e = nu 3 (8 * rT nu + e)) ∧ (∀ e, 3 ≤ e → e < 8 → mu 4 e = nu 2 e) ∧
  Inj mu ∧ (∀ i, i < rZ nu → PkR mu nu (pn (mu 6 i)) i) ∧ (∀ c, c < 3 → CliR mu nu c) ∧ (∀ c, c < 3 → AccR mu nu c)
def Rel (n : Nat) (mu nu : fm_T) : Prop := RI n nu ∧ CR mu nu ∧ SafC mu ∧ SafM nu
/-! numbers out of the ranges -/
section NUM
variable {nu : fm_T}
theorem n_T (h : SafM nu) : nu 0 2 = nI (rT nu) ∧ rT nu < 513 := ⟨vp_e (smf_now h), vp_l (smf_now h)⟩
theorem n_Z (h : SafM nu) : nu 0 11 = nI (rZ nu) ∧ rZ nu < 25 := ⟨vp_e (smf_air h), vp_l (smf_air h)⟩
theorem n_I (h : SafM nu) (c : Nat) : nu 7 c = nI (rI nu c) ∧ rI nu c < 513 := ⟨vp_e (smf_iss h c), vp_l (smf_iss h c)⟩
theorem n_A (h : SafM nu) (c : Nat) : nu 8 c = nI (rA nu c) ∧ rA nu c < 513 := ⟨vp_e (smf_ack h c), vp_l (smf_ack h c)⟩
theorem n_W (h : SafM nu) (c : Nat) : nu 9 c = nI (rW nu c) ∧ rW nu c < 513 := ⟨vp_e (smf_new h c), vp_l (smf_new h c)⟩
theorem n_D (h : SafM nu) (t c : Nat) : nu 4 (3 * t + c) = nI (rD nu t c) ∧ rD nu t c < 513 := ⟨vp_e (smf_done h _), vp_l (smf_done h _)⟩
theorem n_pC (h : SafM nu) (i : Nat) : nu 10 (5 * i) = nI (pC nu i) ∧ pC nu i < 3 := ⟨vp_e (smf_a0 h (k5 i)), vp_l (smf_a0 h (k5 i))⟩
theorem n_pT (h : SafM nu) (i : Nat) : nu 10 (5 * i + 2) = nI (pT nu i) ∧ pT nu i < 513 := ⟨vp_e (smf_a2 h (k5 i)), vp_l (smf_a2 h (k5 i))⟩
theorem n_pM (h : SafM nu) (i : Nat) : nu 10 (5 * i + 3) = nI (pM nu i) ∧ pM nu i < 513 := ⟨vp_e (smf_a3 h (k5 i)), vp_l (smf_a3 h (k5 i))⟩
theorem n_pO (h : SafM nu) (i : Nat) : nu 10 (5 * i + 4) = nI (pO nu i) ∧ pO nu i < 513 := ⟨vp_e (smf_a4 h (k5 i)), vp_l (smf_a4 h (k5 i))⟩
theorem mono_D {n : Nat} {c : Nat} (h : RIc n nu c) : ∀ t s, s ≤ t → t ≤ rT nu → rD nu s c ≤ rD nu t c := by
  intro t
  induction t with
  | zero =>
    intro s h1 _
    rw [show s = 0 by omega]
    exact Nat.le_refl _
  | succ t ih =>
    intro s h1 h2
    rcases Nat.lt_or_ge s (t + 1) with z | z
    · exact Nat.le_trans (ih s (by omega) (by omega)) (h.2.2.2.2.2.1 t (by omega))
    · rw [show s = t + 1 by omega]
      exact Nat.le_refl _
theorem sees_cg {nu2 : fm_T} {t : Nat} (ht : t < 1000) (h : ∀ k, k < 8 → nu2 3 (8 * t + k) = nu 3 (8 * t + k)) {c e : Nat} (hc : c < 8) (he : e < 8) : f_M_sees nu2 (nI c) (nI e) (nI t) = f_M_sees nu (nI c) (nI e) (nI t) := by
  rw [e_M_sees, e_M_sees, lin8 (by omega), lin8 (by omega), h c hc, h e he]
theorem shw_cg {nu2 : fm_T} {t : Nat} (ht : t < 1000) (h : ∀ k, k < 8 → nu2 3 (8 * t + k) = nu 3 (8 * t + k)) {c e : Nat} (hc : c < 8) (he : e < 8) : shw nu2 c e t = shw nu c e t := by
  unfold shw
  rw [sees_cg ht h hc he, h e he]
theorem bits_cg {nu2 : fm_T} {t ba : Nat} (ht : t < 1000) (hb : ba < 1000) (h : ∀ k, k < 8 → nu2 3 (8 * t + k) = nu 3 (8 * t + k)) (h2 : ∀ k, k < 8 → nu2 3 (8 * ba + k) = nu 3 (8 * ba + k)) {c e : Nat} (hc : c < 8) (he : e < 8) : f_M_bits nu2 (nI c) (nI e) (nI t) (nI ba) = f_M_bits nu (nI c) (nI e) (nI t) (nI ba) := by
  rw [e_M_bits, e_M_bits, sees_cg ht h hc he, sees_cg hb h2 hc he, lin8 (by omega), lin8 (by omega), h e he, h2 e he]
theorem size46_cg {nu2 : fm_T} {c t ba a a2 : Nat} (hc : c < 8) (ht : t < 1000) (hb : ba < 1000) (h : ∀ k, k < 8 → nu2 3 (8 * t + k) = nu 3 (8 * t + k)) (h2 : ∀ k, k < 8 → nu2 3 (8 * ba + k) = nu 3 (8 * ba + k)) (c1 : nu 10 a = nI c) (c2 : nu2 10 a2 = nI c) (t1 : nu 10 (a + 2) = nI t) (t2 : nu2 10 (a2 + 2) = nI t) (b1 : nu 10 (a + 3) = nI ba) (b2 : nu2 10 (a2 + 3) = nI ba) : ∀ (n j : Nat) (sz : Int32), j ≤ 8 → f_M_size_46 n nu2 a2 sz j = f_M_size_46 n nu a sz j := by
  intro n
  induction n with
  | zero => exact fun _ _ _ => rfl
  | succ n ih =>
    intro j sz hj9
    rw [e_M_size_46, e_M_size_46]
    by_cases hj : 8 ≤ nI j
    · rw [if_pos hj, if_pos hj]
    · have hj8 : j < 8 := lp_lt rfl hj9 (by decide) hj
      rw [if_neg hj, if_neg hj, c1, c2, t1, t2, b1, b2, bits_cg ht hb h h2 hc hj8, ih _ _ (by omega)]
/-- the size of a packet stays, wherever it lies -/
theorem size_cg {nu2 : fm_T} {i i2 : Nat} (hS : SafM nu) (hp : RIp nu i) (hT : rT nu < 513) (h3 : nu 10 (5 * i + 1) = 1 → ∀ t, t ≤ rT nu → ∀ k, k < 8 → nu2 3 (8 * t + k) = nu 3 (8 * t + k)) (h10 : ∀ k, k < 5 → nu2 10 (5 * i2 + k) = nu 10 (5 * i + k)) : f_M_size nu2 (5 * i2) = f_M_size nu (5 * i) := by
  rw [e_M_size, e_M_size, h10 1 (by decide), h10 3 (by decide)]
  rcases hp with ⟨h0, -⟩ | ⟨h1, a1, a2, a3, -⟩
  · rw [if_pos h0, if_pos h0]
  · have hne : ¬ nu 10 (5 * i + 1) = 0 := by rw [h1]; decide
    have hg := size46_cg (nu := nu) (nu2 := nu2) (c := pC nu i) (t := pT nu i) (ba := pM nu i) (a := 5 * i) (a2 := 5 * i2) (by have := (n_pC hS i).2; omega) (by omega) (by omega) (h3 h1 _ a2) (h3 h1 _ a3) (n_pC hS i).1 ((h10 0 (by decide)).trans (n_pC hS i).1) (n_pT hS i).1 ((h10 2 (by decide)).trans (n_pT hS i).1) (n_pM hS i).1 ((h10 3 (by decide)).trans (n_pM hS i).1)
    rw [if_neg hne, if_neg hne, hg _ _ _ (by decide), hg _ _ _ (by decide)]
end NUM
