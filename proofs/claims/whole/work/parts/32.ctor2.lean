/-! the network's constructor: its cells lie side by side from h0 on; the layout tells how many packets are made -/
abbrev z0 : fm_T := fun _ _ => 0
theorem fk_nil {D : va_G} {cl : List vw_C} {L : fm_L} {b : Nat} {mu : fm_T} {H : Heap} : va_P D cl (fm_w L b 0 mu) H := fun k q hq => by cases hq
theorem fk_lt {L : fm_L} {b N : Nat} {mu : fm_T} {k : Nat} {q : Nat × va_E} (hq : (fm_w L b N mu)[k]? = some q) : k < N ∧ q = (b + k, L k (mu k)) := by
  have hk : k < N := by
    have h := (List.getElem?_eq_some_iff.mp hq).1
    rw [fm_len] at h
    exact h
  rw [fm_at hk] at hq
  cases hq
  exact ⟨hk, rfl⟩
theorem fk_snoc {D : va_G} {cl : List vw_C} {L : fm_L} {b N : Nat} {mu : fm_T} {H : Heap} (hP : va_P D cl (fm_w L b N mu) H) (h : va_at D cl (b + N, L N (mu N)) H) : va_P D cl (fm_w L b (N + 1) mu) H := by
  intro k q hq
  obtain ⟨hk, rfl⟩ := fk_lt hq
  by_cases hkn : k < N
  · exact hP k _ (fm_at hkn)
  · rw [show k = N by omega]
    exact h
theorem fk_kept {D : va_G} {cl : List vw_C} {L : fm_L} {b N : Nat} {mu : fm_T} {H H1 : Heap} (hP : va_P D cl (fm_w L b N mu) H) (hk : ∀ q : Nat, q < b + N → H1[q]? = H[q]?) : va_P D cl (fm_w L b N mu) H1 :=
  hP.kept (fun k q hq => by
    obtain ⟨h, rfl⟩ := fk_lt hq
    exact hk (b + k) (by omega))
theorem fk_at {D : va_G} {cl : List vw_C} {L : fm_L} {b N : Nat} {mu : fm_T} {H : Heap} (hP : va_P D cl (fm_w L b N mu) H) {k : Nat} (hk : k < N) {e : va_E} (he : L k (mu k) = e) : va_at D cl (b + k, e) H := by
  rw [← he]
  exact hP k _ (fm_at hk)
theorem kA_f {b N : Nat} : ∀ q, fm_A b N q → kA b (b + 1) q := fun q h => by
  rcases Nat.lt_or_ge b q with z | z
  · exact Or.inr z
  · exact Or.inl (by have := h.1; omega)
def pkF (h0 j : Nat) : Nat → Option Nat := fun i => if i < j then some (h0 + (2 + 3 * i)) else none
theorem pkF_0 (h0 : Nat) : (fun _ => none) = pkF h0 0 := by
  funext i
  unfold pkF
  rw [if_neg (Nat.not_lt_zero _)]
theorem pkF_up (h0 j : Nat) : va_up (pkF h0 j) j (some (h0 + (2 + 3 * j))) = pkF h0 (j + 1) := by
  funext i
  unfold pkF va_up
  by_cases h : i = j
  · subst h
    rw [if_pos rfl, if_pos (Nat.lt_succ_self _)]
  · rw [if_neg h]
    dsimp only
    by_cases h2 : i < j
    · rw [if_pos h2, if_pos (by omega)]
    · rw [if_neg h2, if_neg (by omega)]
def lnP (aC : Nat → ClassId) (a q : Nat) : va_E := match q with
  | 0 => .inr (3, [.int 0, .int 0, .int 0, .int 0, .int 0, .int 0, .ref (a + 1), .int 0, .ref (a + 1 + 1)])
  | 1 => .inl (aC 0, 8, .inl (fun _ => 0))
  | _ => .inl (aC 0, 4, .inl (fun _ => 0))
def LN (aC : Nat → ClassId) (h0 j : Nat) : fm_L := fun k _ =>
  if k = 0 then .inr (2, [.ref (h0 + 1), .int 0])
  else if k = 1 then .inl (aC 2, 24, .inr (.inr (.inr (.inr (pkF h0 j)))))
  else lnP aC (h0 + k) ((k - 2) % 3)
section LNL
variable (aC : Nat → ClassId) (h0 j : Nat) (r : Nat → Int32)
theorem ln_0 : LN aC h0 j 0 r = .inr (2, [.ref (h0 + 1), .int 0]) := by unfold LN; rw [if_pos rfl]
theorem ln_1 : LN aC h0 j 1 r = .inl (aC 2, 24, .inr (.inr (.inr (.inr (pkF h0 j))))) := by unfold LN; rw [if_neg (by decide), if_pos rfl]
theorem ln_P (i : Nat) : LN aC h0 j (2 + 3 * i) r = .inr (3, [.int 0, .int 0, .int 0, .int 0, .int 0, .int 0, .ref (h0 + (2 + 3 * i) + 1), .int 0, .ref (h0 + (2 + 3 * i) + 1 + 1)]) := by
  unfold LN
  rw [if_neg (by omega), if_neg (by omega), show (2 + 3 * i - 2) % 3 = 0 by omega]
  rfl
theorem ln_P1 (i : Nat) : LN aC h0 j (2 + 3 * i + 1) r = .inl (aC 0, 8, .inl (fun _ => 0)) := by
  unfold LN
  rw [if_neg (by omega), if_neg (by omega), show (2 + 3 * i + 1 - 2) % 3 = 1 by omega]
  rfl
theorem ln_P2 (i : Nat) : LN aC h0 j (2 + 3 * i + 1 + 1) r = .inl (aC 0, 4, .inl (fun _ => 0)) := by
  unfold LN
  rw [if_neg (by omega), if_neg (by omega), show (2 + 3 * i + 1 + 1 - 2) % 3 = 2 by omega]
  rfl
theorem ln_ne (j2 : Nat) {k : Nat} (h : k ≠ 1) : LN aC h0 j k r = LN aC h0 j2 k r := by
  unfold LN
  by_cases h0 : k = 0
  · rw [if_pos h0, if_pos h0]
  · rw [if_neg h0, if_neg h0, if_neg h, if_neg h]
theorem ln_set {N : Nat} (hN : 2 ≤ N) : (fm_w (LN aC h0 j) h0 N z0).set 1 (h0 + 1, .inl (aC 2, 24, .inr (.inr (.inr (.inr (pkF h0 (j + 1))))))) = fm_w (LN aC h0 (j + 1)) h0 N z0 := by
  apply List.ext_getElem?
  intro i
  by_cases hi : i = 1
  · subst hi
    rw [List.getElem?_set_self (by rw [fm_len]; omega), fm_at (by omega), ln_1]
  · rw [List.getElem?_set_ne (Ne.symm hi)]
    by_cases hn : i < N
    · rw [fm_at hn, fm_at hn, ln_ne aC h0 j _ (j + 1) hi]
    · rw [List.getElem?_eq_none (by rw [fm_len]; omega), List.getElem?_eq_none (by rw [fm_len]; omega)]
end LNL
set_option maxHeartbeats 4000000 in
set_option maxRecDepth 100000 in
theorem kl_N_init (l : Launch) (dC : Nat → ClassId) (dI : Nat → Nat → Nat) (aC : Nat → ClassId) (h0 : Nat) {p : Program} {e : Env} {s : State} {m : MethodId} {args : Array Value} {below : List Frame} {meth : Method} {cd : Code} (hc : cx (dC, dI) (tysx aC) XI w_N_init b_N_init R_N 2 none p s m args meth cd) (hsz : s.heap.size = h0 + 1) : ∀ (n j : Nat) (H : Heap) (locs : List Loc) (ls : Array Slot), j ≤ 24 → 24 < j + n → va_P (dC, dI) clsx (fm_w (LN aC h0 j) h0 (2 + 3 * j) z0) H → va_S (kA h0 (h0 + 1)) s.heap H locs → lv_has ls 2 [(0, .ref h0), (1, .int (nI j))] → W p l e { frames := 2, cells := 73, slots := 528, locals := 60 } s m args below meth cd H locs (1 + 3 * j) (24 + 21 * j) (MQ below (va_Qv (fun _ : Unit => True) (fun _ t => va_P (dC, dI) clsx (fm_w (LN aC h0 24) h0 74 z0) t.heap) (kA h0 (h0 + 1))) args s 73 528 (kA h0 (h0 + 1))) (F0 m 15 ls []) := by
  obtain ⟨hx, hb, hr, hml, hown, hts, hlocks, hK, hX⟩ := hc
  have hg : ∀ w ∈ gtbl, w.before args s = true := fun w h => hts w (List.mem_cons_of_mem _ h)
  intro n
  induction n with
  | zero =>
    intro j H locs ls hj hn
    exfalso
    omega
  | succ n ih =>
    intro j H locs ls hj hn hP hS hl
    refine lv_iload_n hx hb d_N_init_15 rfl (lv_at hl 1 rfl) ?_
    refine lv_bipush (v := 24) hx hb d_N_init_16 (by decide) ?_
    refine lv_icmp_ge (tgt := 40) hx hb d_N_init_18 rfl (fun h => ?_) (fun h => ?_)
    · have hj24 : j = 24 := by
        rcases Nat.lt_or_ge j 24 with z | z
        · exact absurd h (nI_ge z (by decide))
        · omega
      subst hj24
      exact W.vret hx hb hr (fun t ht hW => ⟨⟨(), rfl, trivial, by show va_P _ _ _ t.heap; rw [ht]; exact hP⟩, hS.F ht⟩) hS.2.2 d_N_init_40 hlocks
    have hj8 : j < 24 := lp_lt rfl hj (by decide) h
    refine lv_aload_n hx hb d_N_init_21 rfl (lv_at hl 0 rfl) ?_
    refine va_get (D := (dC, dI)) (ci := 2) (C := R_N) (T := T_N) (N := 2) hx hb hg uw_N hown hK hP 0 (fm_is (k := 0) (by omega) (ln_0 aC h0 j _)) rfl 0 (by decide) (hg _ fl_N_11) (fun _ h9 => h9) rfl d_N_init_22 ?_
    refine lv_iload_n hx hb d_N_init_25 rfl (lv_at hl 1 rfl) ?_
    have hlo : h0 + (2 + 3 * j) ≤ H.size := by
      have h9 := (hP (1 + 3 * j) _ (fm_at (by omega))).lt
      have h9 : h0 + (1 + 3 * j) < H.size := h9
      omega
    refine ki_new (ci := 3) (fs := [.int 0, .int 0, .int 0, .int 0, .int 0, .int 0, .null, .int 0, .null]) (C := R_P) (T := T_P) (N := 9) (h := h0 + (2 + 3 * j)) hx hb hg uw_P ty_P tk_P hown (hg _ cl_N_9) (hg _ is_P) (hg _ in_P) hK hS hlo (by omega) rfl (fun k hk => by rcases (show k = 0 ∨ k = 1 ∨ k = 2 ∨ k = 3 ∨ k = 4 ∨ k = 5 ∨ k = 6 ∨ k = 7 ∨ k = 8 by omega) with rfl | rfl | rfl | rfl | rfl | rfl | rfl | rfl | rfl <;> rfl) (by show _ ≤ 73; omega) (by show _ ≤ 528; omega) d_N_init_26 (fun H1 hPn o1 z1 hS1 => ?_)
    have hP1 := fk_kept hP (fun q hq => o1 q (by omega))
    refine lv_dup hx hb d_N_init_29 rfl ?_
    refine va_callv (va_runIN (As := []) (rest := [.ref (h0 + (2 + 3 * j)), .int (nI j), .ref (h0 + 1)]) ⟨hx, hb, hml, hown, hts⟩ (c_P_init l dC dI aC (h0 + (2 + 3 * j)) (h0 + (2 + 3 * j) + 1)) (cn_I (fun w h => List.mem_cons_of_mem _ h) hts ki_P_init hX.1.2 ⟨Nat.le_of_ble_eq_true rfl, Nat.le_of_ble_eq_true rfl⟩ rfl rfl) ⟨ci_bl, fun U hU hW => ⟨rfl, by rw [hU]; exact z1, by rw [hU]; exact hPn, va_K.moved hW.alike hK, XI_mv hX hW⟩⟩ rfl rfl hl.1 rfl (lv_room (Nat.le_of_ble_eq_true rfl)) d_N_init_30 ⟨by show _ ≤ 73; omega, by show _ ≤ 528; omega⟩) hS1 (fun q h1 h2 => Or.inr (by rcases h2 with h2 | h2 <;> omega)) (fun q h2 => Or.inr (by rcases h2 with h2 | h2 <;> omega)) (fun u t H2 locs2 ht hvm hw hB hz hk hS2 => ?_)
    rw [ht] at hB
    have hP2 := fk_kept hP1 (fun q hq => hk q (by omega) (fun z => by rcases z with z | z <;> omega))
    have hP3 := fk_snoc (fk_snoc (fk_snoc hP2 (by rw [ln_P]; exact hB 0 _ rfl)) (by rw [ln_P1]; exact hB 1 _ rfl)) (by rw [ln_P2]; exact hB 2 _ rfl)
    refine va_astq (D := (dC, dI)) (r := (R_P, T_P, 9)) hx hb hK hP3 (fm_D kA_f) hS2 1 2 (2 + 3 * j) 3 (fm_is (k := 1) (by omega) (ln_1 aC h0 j _)) rfl (fm_is (k := 2 + 3 * j) (by omega) (ln_P aC h0 j _ j)) rfl (vp_in_nI hj8 (by decide)) d_N_init_33 (fun H3 locs3 hP4 hD4 hS3 => ?_)
    rw [nI_clamp (by omega), pkF_up, ln_set aC h0 j (by omega)] at hP4
    refine lv_iinc (k := 1) (v := nI (j + 1)) (lv' := [(1, .int (nI (j + 1))), (0, .ref h0)]) hx hb d_N_init_34 hl rfl (nI_1 _) (by decide) rfl (fun ls hl => ?_)
    refine lv_goto (tgt := 15) hx hb d_N_init_37 rfl ?_
    refine W.widen (k := 1 + 3 * (j + 1)) (n := 24 + 21 * (j + 1)) (by omega) (by omega) ?_
    exact ih (j + 1) _ _ ls (by omega) (by omega) hP4 hS3 (lv_sub hl [1, 0] rfl)
set_option maxHeartbeats 4000000 in
set_option maxRecDepth 100000 in
theorem c_N_init (l : Launch) (dC : Nat → ClassId) (dI : Nat → Nat → Nat) (aC : Nat → ClassId) (h0 : Nat) : Met l y_N_init w_N_init { frames := 2, cells := 73, slots := 528, locals := 60 } (va_Pc [.ref h0] (fun U => U.heap.size = h0 + 1 ∧ va_P (dC, dI) clsx [(h0, .inr (2, [.null, .int 0]))] U.heap ∧ va_K (dC, dI) clsx (tysx aC) U ∧ XI U)) (va_Qv (fun _ : Unit => True) (fun _ t => va_P (dC, dI) clsx (fm_w (LN aC h0 24) h0 74 z0) t.heap) (kA h0 (h0 + 1))) 73 528 (kA h0 (h0 + 1)) := by
  refine Met.ofW (cc := b_N_init) (maxL := 2) (ret := none) (by decide) rfl ?_
  intro p e s m args below meth cd s₁ B hml hv
  obtain ⟨rfl, hsz, hP, hK, hX⟩ := hv
  have hx := B.exec
  have hb := B.bytes
  have hr := B.returns
  have hts := atoms_spec (ws := w_N_init) B.pre
  have hg : ∀ w ∈ gtbl, w.before _ s = true := fun w h => hts w (List.mem_cons_of_mem _ h)
  have hown : s.vm.findClass R_N = some m.cls := findClass_of_methodNamed B.named
  have hlocks := B.notSynchronized
  have hin : meth.name = "<init>" := (name_of_methodNamed B.named B.method).1
  have hS : va_S (kA h0 (h0 + 1)) s.heap s.heap [] := va_S.rf
  have hD : va_D (kA h0 (h0 + 1)) [(h0, .inr (2, [.null, .int 0]))] := kA_1
  have hl := lv_entry ([.ref h0]) (n := 2) (Nat.le_of_ble_eq_true rfl)
  rw [lg_entry_eq]
  generalize (lg_sl ([.ref h0]) ++ List.replicate (2 - (lg_sl ([.ref h0])).length) Slot.unset).toArray = ls at hl ⊢
  have hl : lv_has ls 2 [(0, .ref h0)] := hl
  refine lv_aload_n hx hb d_N_init_0 rfl (lv_at hl 0 rfl) ?_
  refine W.objInit hx hb hown (hg _ ml_N_3) (hg _ im_Object_init) (hg _ co_Object_init) rfl (by rw [hml]; exact hl.1) rfl d_N_init_1 (Nat.le_of_ble_eq_true rfl) (Nat.le_of_ble_eq_true rfl) ?_
  refine W.eq (g2 := F0 m 4 ls []) rfl ?_
  refine lv_aload_n hx hb d_N_init_4 rfl (lv_at hl 0 rfl) ?_
  refine lv_bipush (v := 24) hx hb d_N_init_5 (by decide) ?_
  obtain ⟨kA9, comp, g1, g2, g3, g4⟩ := (hK.2 2 _ rfl).2
  refine ki_anew (N' := 24) (h := h0 + 1) hx hb hown (hg _ cl_N_9) (va_AO.use hX.2.1) g4 hP hD hS (by omega) (by omega) (Or.inr (Nat.le_refl _)) (by decide) (by decide) (by decide) (Nat.le_of_ble_eq_true rfl) (Nat.le_of_ble_eq_true rfl) d_N_init_7 (fun H hP hD hS => ?_)
  refine va_putF (D := (dC, dI)) (ci := 2) (v := .ref (h0 + 1)) (ty := .array (.object "DeltaPlayfield$Packet")) (C := R_N) (T := T_N) (N := 2) hx hb hg uw_N ty_N tk_N nm_N hown hK hP hD hS 0 rfl rfl 0 (by decide) (hg _ fl_N_11) (fun _ h9 => h9) rfl hin rfl (by decide +kernel) rfl rfl (Nat.le_of_ble_eq_true rfl) d_N_init_10 (fun H locs hP hD hS => ?_)
  rw [pkF_0 h0] at hP
  have hP1 : va_P (dC, dI) clsx (fm_w (LN aC h0 0) h0 2 z0) H := fk_snoc (fk_snoc fk_nil (by rw [ln_0]; exact hP 0 _ rfl)) (by rw [ln_1]; exact hP 1 _ rfl)
  refine lv_iconst (v := 0) hx hb d_N_init_13 (by decide) ?_
  refine lv_istore_n (lv' := [(1, .int (nI 0)), (0, .ref h0)]) hx hb d_N_init_14 rfl hl (by decide) rfl (fun ls hl => ?_)
  exact kl_N_init l dC dI aC h0 ⟨hx, hb, hr, hml, hown, hts, hlocks, hK, hX⟩ hsz 25 0 _ _ ls (by decide) (by decide) hP1 hS (lv_sub hl [1, 0] rfl)
