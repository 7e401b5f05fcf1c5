/-! the same small functions on both sides -/
theorem w4 (x : Nat) : x = x := rfl
theorem sub_abs {x y : Nat} (hx : x < 2 ^ 30) (hy : y < 2 ^ 30) : (if 0 ≤ nI x - nI y then nI x - nI y else 0 - (nI x - nI y)) = nI (x - y + (y - x)) := by
  rcases Nat.lt_or_ge x y with h | h
  · have h1 := pk_sneg hy h
    rw [if_neg (fun q => Int32.not_lt.mpr q h1), Int32.zero_sub, Int32.neg_sub, pk_sub (by omega), show x - y = 0 by omega, Nat.zero_add]
  · rw [pk_sub h, if_pos (nI_pos' (by omega)), show y - x = 0 by omega, Nat.add_zero]
theorem apart_n {x y : Nat} (hx : x < 2 ^ 30) (hy : y < 2 ^ 30) : f_M_apart (nI x) (nI y) = nI (x - y + (y - x)) := by
  rw [e_M_apart]
  rcases Nat.lt_or_ge x y with h | h
  · rw [if_neg (nI_ge h (by omega)), pk_sub (by omega), show x - y = 0 by omega, Nat.zero_add]
  · rw [if_pos (nI_le h (by omega)), pk_sub h, show y - x = 0 by omega, Nat.add_zero]
theorem rem16 {x : Nat} (h : x < 2 ^ 31) : nI x - nI x / 16 * 16 = nI (x % 16) := pk_rem (d := 16) h (by decide) (by decide)
theorem div16 {x : Nat} (h : x < 2 ^ 31) : nI x / 16 = nI (x / 16) := pk_div (d := 16) h (by decide) (by decide)
theorem div4 {x : Nat} (h : x < 2 ^ 31) : nI x / 4 = nI (x / 4) := pk_div (d := 4) h (by decide) (by decide)
theorem div64 {x : Nat} (h : x < 2 ^ 31) : nI x / 64 = nI (x / 64) := pk_div (d := 64) h (by decide) (by decide)
theorem lin_c {k a c : Nat} : nI k * nI a + nI c = nI (k * a + c) := by rw [pk_mul, nI_add]
theorem lin8 {a c : Nat} (h : 8 * a + c < 2 ^ 31) : ((8 * nI a) + nI c).toNatClampNeg = 8 * a + c := by
  rw [show (8 : Int32) = nI 8 from rfl, lin_c, nI_clamp h]
theorem lin3 {a c : Nat} (h : 3 * a + c < 2 ^ 31) : ((3 * nI a) + nI c).toNatClampNeg = 3 * a + c := by
  rw [show (3 : Int32) = nI 3 from rfl, lin_c, nI_clamp h]
/-- near: two places in blocks that touch -/
def near (x y : Nat) : Prop := x % 16 / 4 - y % 16 / 4 + (y % 16 / 4 - x % 16 / 4) ≤ 1 ∧ x / 64 - y / 64 + (y / 64 - x / 64) ≤ 1
theorem not1 {k : Nat} (h : k < 2 ^ 31) : (1 : Int32) < nI k ↔ 1 < k := nI_ltI (a := 1) (by decide) h
theorem seesC {mu : fm_T} {ca eb x y : Nat} (hx : mu 3 ca = nI x) (hy : mu 3 eb = nI y) (h1 : x < 256) (h2 : y < 256) : f_F_sees mu ca eb = 0 ↔ ¬ near x y := by
  rw [e_F_sees, e_F_sees_47, hx, hy, rem16 (by omega), rem16 (by omega), div4 (by omega), div4 (by omega), div16 (by omega), div16 (by omega), div4 (by omega), div4 (by omega), sub_abs (by omega) (by omega), sub_abs (by omega) (by omega), Nat.div_div_eq_div_mul, Nat.div_div_eq_div_mul]
  unfold near
  by_cases h3 : 1 < x % 16 / 4 - y % 16 / 4 + (y % 16 / 4 - x % 16 / 4)
  · rw [if_pos ((not1 (by omega)).mpr h3)]
    exact ⟨fun _ h => by omega, fun _ => rfl⟩
  · rw [if_neg (fun q => h3 ((not1 (by omega)).mp q))]
    by_cases h4 : 1 < x / (16 * 4) - y / (16 * 4) + (y / (16 * 4) - x / (16 * 4))
    · rw [if_pos ((not1 (by omega)).mpr h4)]
      exact ⟨fun _ h => by omega, fun _ => rfl⟩
    · rw [if_neg (fun q => h4 ((not1 (by omega)).mp q))]
      exact ⟨fun h => absurd h (by decide), fun h => absurd ⟨by omega, by omega⟩ h⟩
theorem seesM {nu : fm_T} {c e t x y : Nat} (hx : nu 3 (8 * t + c) = nI x) (hy : nu 3 (8 * t + e) = nI y) (h1 : x < 256) (h2 : y < 256) (hb : t < 1000) (hc : c < 8) (he : e < 8) : f_M_sees nu (nI c) (nI e) (nI t) = 0 ↔ ¬ near x y := by
  rw [e_M_sees, lin8 (by omega), lin8 (by omega), hx, hy, rem16 (by omega), rem16 (by omega), div4 (by omega), div4 (by omega), div64 (by omega), div64 (by omega), apart_n (by omega) (by omega), apart_n (by omega) (by omega)]
  unfold near
  by_cases h3 : 1 < x % 16 / 4 - y % 16 / 4 + (y % 16 / 4 - x % 16 / 4)
  · rw [if_pos ((not1 (by omega)).mpr h3)]
    exact ⟨fun _ h => by omega, fun _ => rfl⟩
  · rw [if_neg (fun q => h3 ((not1 (by omega)).mp q))]
    by_cases h4 : 1 < x / 64 - y / 64 + (y / 64 - x / 64)
    · rw [if_pos ((not1 (by omega)).mpr h4)]
      exact ⟨fun _ h => by omega, fun _ => rfl⟩
    · rw [if_neg (fun q => h4 ((not1 (by omega)).mp q))]
      exact ⟨fun h => absurd h (by decide), fun h => absurd ⟨by omega, by omega⟩ h⟩
/-! steps -/
theorem step48 {mu nu : fm_T} (hw : ∀ i, i < 256 → mu 2 i = nu 1 i) (fr X Y : Int32) : (if f_F_isFree mu X Y = 0 then fr else f_D_placeOf X Y) = f_M_stepFrom_48 nu fr X Y := by
  rw [e_M_stepFrom_48, e_F_isFree]
  by_cases h : f_D_isSquare X Y = 0
  · rw [if_pos h, if_pos rfl, if_pos (show f_M_square X Y = 0 from h)]
  · rw [if_neg h, if_neg (show ¬ f_M_square X Y = 0 from h), hw _ (vp_l (sq_in h))]
    by_cases h2 : nu 1 (f_D_placeOf X Y).toNatClampNeg = 0
    · rw [if_pos h2, if_neg (by decide), if_pos (show nu 1 (X + (16 * Y)).toNatClampNeg = 0 from h2)]
      rfl
    · rw [if_neg h2, if_pos rfl, if_neg (show ¬ nu 1 (X + (16 * Y)).toNatClampNeg = 0 from h2)]
theorem step_eq {mu nu : fm_T} (hw : ∀ i, i < 256 → mu 2 i = nu 1 i) (fr : Int32) {cmd : Int32} (hc : vp_in cmd 5) : f_F_after mu fr cmd = f_M_stepFrom nu fr cmd := by
  obtain ⟨j, hj, rfl⟩ := vp_in_of hc (by decide)
  rw [e_F_after, step48 hw, e_M_stepFrom]
  rcases (show j = 0 ∨ j = 1 ∨ j = 2 ∨ j = 3 ∨ j = 4 by omega) with rfl | rfl | rfl | rfl | rfl
  · rw [if_pos (by decide), e_M_stepFrom_23, if_neg (by decide), if_neg (by decide)]
    rfl
  · rw [if_neg (by decide), if_neg (by decide), e_M_stepFrom_23, if_pos (by decide)]
    rfl
  · rw [if_neg (by decide), if_pos (by decide), e_M_stepFrom_23, if_neg (by decide), if_neg (by decide)]
    rfl
  · rw [if_neg (by decide), if_neg (by decide), e_M_stepFrom_23, if_neg (by decide), if_pos (by decide)]
    rfl
  · rw [if_neg (by decide), if_neg (by decide), e_M_stepFrom_23, if_neg (by decide), if_neg (by decide)]
    rfl
theorem step_in48 {nu : fm_T} {fr X Y : Int32} (h : vp_in fr 256) : vp_in (f_M_stepFrom_48 nu fr X Y) 256 := by
  rw [e_M_stepFrom_48]
  split
  · exact h
  · rename_i h1
    split
    · exact ms_in h1
    · exact h
theorem step_in {nu : fm_T} {fr dd : Int32} (h : vp_in fr 256) : vp_in (f_M_stepFrom nu fr dd) 256 := by
  have h2 : ∀ zz, vp_in (f_M_stepFrom_23 nu fr dd zz) 256 := by
    intro zz
    rw [e_M_stepFrom_23]
    split
    · exact step_in48 h
    · split
      · exact step_in48 h
      · exact step_in48 h
  rw [e_M_stepFrom]
  split
  · exact h2 _
  · split
    · exact h2 _
    · exact h2 _
theorem step_nu {nu nu2 : fm_T} (h : ∀ i, nu2 1 i = nu 1 i) (fr dd : Int32) : f_M_stepFrom nu2 fr dd = f_M_stepFrom nu fr dd := by
  have h48 : ∀ X Y, f_M_stepFrom_48 nu2 fr X Y = f_M_stepFrom_48 nu fr X Y := by
    intro X Y
    rw [e_M_stepFrom_48, e_M_stepFrom_48, h]
  have h23 : ∀ zz, f_M_stepFrom_23 nu2 fr dd zz = f_M_stepFrom_23 nu fr dd zz := by
    intro zz
    rw [e_M_stepFrom_23, e_M_stepFrom_23, h48, h48, h48]
  rw [e_M_stepFrom, e_M_stepFrom, h23, h23, h23]
/-! what a snapshot of tick t tells client c of entity e -/
def shw (nu : fm_T) (c e t : Nat) : Int32 := if f_M_sees nu (nI c) (nI e) (nI t) = 0 then -1 else nu 3 (8 * t + e)
theorem neg1_nI {x : Nat} (h : x < 2 ^ 31) : ¬ nI x = -1 := by
  intro q
  have h1 := nI_toInt h
  rw [q] at h1
  have h2 : (-1 : Int32).toInt = -1 := rfl
  rw [h2] at h1
  omega
theorem dist_n {x y : Nat} (h1 : x < 256) (h2 : y < 256) : f_D_distance (nI x) (nI y) = nI ((x % 16 - y % 16 + (y % 16 - x % 16)) + (x / 16 - y / 16 + (y / 16 - x / 16))) := by
  rw [e_D_distance, rem16 (by omega), rem16 (by omega), div16 (by omega), div16 (by omega), sub_abs (by omega) (by omega), sub_abs (by omega) (by omega), nI_add]
theorem bits_eq {nu : fm_T} {c e t ba : Nat} (ht : t < 1000) (hba : ba < 1000) (hc : c < 8) (he : e < 8) (hs : ∀ s k, (s = t ∨ s = ba) → k < 8 → vp_in (nu 3 (8 * s + k)) 256) : f_A_entitySize (if ba = 0 then -1 else shw nu c e ba) (shw nu c e t) = f_M_bits nu (nI c) (nI e) (nI t) (nI ba) := by
  have hval : ∀ s, (s = t ∨ s = ba) → ¬ nu 3 (8 * s + e) = -1 := fun s h q => by
    obtain ⟨x, hx, e1⟩ := vp_in_of (hs s e h he) (by decide)
    rw [e1] at q
    exact neg1_nI (by omega) q
  rw [e_A_entitySize, e_M_bits]
  have hcase : ∀ (w : Int32), w = -1 → (if w = -1 then (if shw nu c e t = -1 then (1 : Int32) else 9) else (if shw nu c e t = -1 then 3 else (if shw nu c e t = w then 1 else (if f_D_distance w (shw nu c e t) = 1 then 4 else 11)))) = (if f_M_sees nu (nI c) (nI e) (nI t) = 0 then 1 else 9) := by
    intro w hw
    rw [if_pos hw]
    unfold shw
    by_cases h : f_M_sees nu (nI c) (nI e) (nI t) = 0
    · rw [if_pos h, if_pos rfl, if_pos h]
    · rw [if_neg h, if_neg (hval t (Or.inl rfl)), if_neg h]
  by_cases h0 : ba = 0
  · subst h0
    rw [if_pos rfl, if_pos (show nI 0 = 0 from rfl)]
    exact hcase (-1) rfl
  · rw [if_neg h0, if_neg (nI_ne0 (by omega) (by omega))]
    by_cases h1 : f_M_sees nu (nI c) (nI e) (nI ba) = 0
    · rw [if_pos h1]
      exact hcase _ (if_pos h1)
    · rw [if_neg h1]
      have e1 : shw nu c e ba = nu 3 (8 * ba + e) := if_neg h1
      rw [e1, if_neg (hval ba (Or.inr rfl))]
      unfold shw
      by_cases h2 : f_M_sees nu (nI c) (nI e) (nI t) = 0
      · rw [if_pos h2, if_pos h2, if_pos rfl]
      · rw [if_neg h2, if_neg h2, if_neg (hval t (Or.inl rfl)), lin8 (by omega), lin8 (by omega)]
        obtain ⟨x, hx, ex⟩ := vp_in_of (hs ba e (Or.inr rfl) he) (by decide)
        obtain ⟨y, hy, ey⟩ := vp_in_of (hs t e (Or.inl rfl) he) (by decide)
        rw [ex, ey, dist_n hx hy, rem16 (by omega), rem16 (by omega), div16 (by omega), div16 (by omega), apart_n (by omega) (by omega), apart_n (by omega) (by omega), nI_add]
        by_cases h3 : x = y
        · subst h3
          rw [if_pos rfl, show x % 16 - x % 16 + (x % 16 - x % 16) + (x / 16 - x / 16 + (x / 16 - x / 16)) = 0 by omega, if_pos (show nI 0 = 0 from rfl)]
        · rw [if_neg (fun q => h3 ((nI_eq (by omega) (by omega)).mp q).symm), if_neg (nI_ne0 (by omega) (by omega))]
