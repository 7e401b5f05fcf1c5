/-! printed by wip/whole/gen/ctor.py: constructors of one object and its arrays -/
theorem fill_0 (v : Nat → Int32) : (fun i => if i < 0 then v i else (0 : Int32)) = fun _ => 0 := by
  funext i
  rw [if_neg (Nat.not_lt_zero _)]
theorem fill_ha (cA : ClassId) (n : Nat) (v : Nat → Int32) : vp_cell cA (n, .inl (fun i => if i < 0 then v i else 0)) = arrV cA n (fun _ => .int 0) := by
  rw [fill_0]
  rfl
theorem fill_hb (cA : ClassId) (n : Nat) : vp_cell cA (n, .inl (fun _ => 0)) = arrV cA n (fun _ => .int 0) := rfl
theorem fl_e (j : Nat) : f_D_placeOf (2 * nI j) 0 = nI (2 * j) := by
  rw [e_D_placeOf, show (2 : Int32) = nI 2 from rfl, pk_mul, show (16 : Int32) * 0 = 0 from rfl]
  exact Int32.add_zero _
theorem fl_m (j : Nat) : 2 * nI j = nI (2 * j) := pk_mul 2 j
set_option maxHeartbeats 4000000 in
set_option maxRecDepth 100000 in
theorem c_P_init (l : Launch) (dC : Nat → ClassId) (dI : Nat → Nat → Nat) (aC : Nat → ClassId) (h0 sz : Nat) : Met l y_P_init w_P_init { frames := 1, cells := 2, slots := 12, locals := 24 } (va_Pc [.ref h0] (fun U => U.heap.size = sz ∧ va_P (dC, dI) clsx [(h0, .inr (3, [.int 0, .int 0, .int 0, .int 0, .int 0, .int 0, .null, .int 0, .null]))] U.heap ∧ va_K (dC, dI) clsx (tysx aC) U ∧ XI U)) (va_Qv (fun _ : Unit => True) (fun _ t => va_P (dC, dI) clsx [(h0, .inr (3, [.int 0, .int 0, .int 0, .int 0, .int 0, .int 0, .ref sz, .int 0, .ref (sz + 1)])), (sz, .inl (aC 0, 8, .inl (fun _ => 0))), (sz + 1, .inl (aC 0, 4, .inl (fun _ => 0)))] t.heap) (kA h0 sz)) 2 12 (kA h0 sz) := by
  refine Met.ofW (cc := b_P_init) (maxL := 1) (ret := none) (by decide) rfl ?_
  intro p e s m args below meth cd s₁ B hml hv
  obtain ⟨rfl, hsz, hP, hK, hX⟩ := hv
  have hx := B.exec
  have hb := B.bytes
  have hr := B.returns
  have hts := atoms_spec (ws := w_P_init) B.pre
  have hg : ∀ w ∈ gtbl, w.before _ s = true := fun w h => hts w (List.mem_cons_of_mem _ h)
  have hown : s.vm.findClass R_P = some m.cls := findClass_of_methodNamed B.named
  have hlocks := B.notSynchronized
  have hin : meth.name = "<init>" := (name_of_methodNamed B.named B.method).1
  have hS : va_S (kA h0 sz) s.heap s.heap [] := va_S.rf
  have hD : va_D (kA h0 sz) [(h0, .inr (3, [.int 0, .int 0, .int 0, .int 0, .int 0, .int 0, .null, .int 0, .null]))] := kA_1
  have hl := lv_entry ([.ref h0]) (n := 1) (Nat.le_of_ble_eq_true rfl)
  rw [lg_entry_eq]
  generalize (lg_sl ([.ref h0]) ++ List.replicate (1 - (lg_sl ([.ref h0])).length) Slot.unset).toArray = ls at hl ⊢
  have hl : lv_has ls 1 [(0, .ref h0)] := hl
  refine lv_aload_n hx hb d_P_init_0 rfl (lv_at hl 0 rfl) ?_
  refine W.objInit hx hb hown (hg _ ml_P_3) (hg _ im_Object_init) (hg _ co_Object_init) rfl (by rw [hml]; exact hl.1) rfl d_P_init_1 (Nat.le_of_ble_eq_true rfl) (Nat.le_of_ble_eq_true rfl) ?_
  refine W.eq (g2 := F0 m 4 ls []) rfl ?_
  refine lv_aload_n hx hb d_P_init_4 rfl (lv_at hl 0 rfl) ?_
  refine lv_bipush (v := 8) hx hb d_P_init_5 (by decide) ?_
  refine ki_newa (atype := .int) (cA := aC 0) (a0 := (8, .inl (fun _ => 0))) (N' := 8) (h := sz) hx hb (hg _ ac_int) (hK.2 0 _ rfl).2 hP hD hS (by omega) (by omega) (Or.inr (by omega)) (fill_hb (aC 0) 8) (by decide) (by decide) (by decide) (Nat.le_of_ble_eq_true rfl) (Nat.le_of_ble_eq_true rfl) d_P_init_7 (fun H hP hD hS => ?_)
  have hP : va_P (dC, dI) clsx [(h0, .inr (3, [.int 0, .int 0, .int 0, .int 0, .int 0, .int 0, .null, .int 0, .null])), (sz, .inl (aC 0, 8, .inl (fun _ => 0)))] H := hP
  have hD : va_D (kA h0 sz) [(h0, .inr (3, [.int 0, .int 0, .int 0, .int 0, .int 0, .int 0, .null, .int 0, .null])), (sz, .inl (aC 0, 8, .inl (fun _ => 0)))] := hD
  refine va_putF (D := (dC, dI)) (ci := 3) (v := .ref sz) (ty := .array .int) (C := R_P) (T := T_P) (N := 9) hx hb hg uw_P ty_P tk_P nm_P hown hK hP hD hS 0 rfl rfl 6 (by decide) (hg _ fl_P_9) (fun _ h9 => h9) rfl hin rfl (by decide +kernel) rfl rfl (Nat.le_of_ble_eq_true rfl) d_P_init_9 (fun H locs hP hD hS => ?_)
  have hP : va_P (dC, dI) clsx [(h0, .inr (3, [.int 0, .int 0, .int 0, .int 0, .int 0, .int 0, .ref sz, .int 0, .null])), (sz, .inl (aC 0, 8, .inl (fun _ => 0)))] H := hP
  have hD : va_D (kA h0 sz) [(h0, .inr (3, [.int 0, .int 0, .int 0, .int 0, .int 0, .int 0, .ref sz, .int 0, .null])), (sz, .inl (aC 0, 8, .inl (fun _ => 0)))] := hD
  refine lv_aload_n hx hb d_P_init_12 rfl (lv_at hl 0 rfl) ?_
  refine lv_iconst (v := 4) hx hb d_P_init_13 (by decide) ?_
  refine ki_newa (atype := .int) (cA := aC 0) (a0 := (4, .inl (fun _ => 0))) (N' := 4) (h := sz + 1) hx hb (hg _ ac_int) (hK.2 0 _ rfl).2 hP hD hS (Nat.succ_le_of_lt (hP 1 _ rfl).lt) (by omega) (Or.inr (by omega)) (fill_hb (aC 0) 4) (by decide) (by decide) (by decide) (Nat.le_of_ble_eq_true rfl) (Nat.le_of_ble_eq_true rfl) d_P_init_14 (fun H hP hD hS => ?_)
  have hP : va_P (dC, dI) clsx [(h0, .inr (3, [.int 0, .int 0, .int 0, .int 0, .int 0, .int 0, .ref sz, .int 0, .null])), (sz, .inl (aC 0, 8, .inl (fun _ => 0))), (sz + 1, .inl (aC 0, 4, .inl (fun _ => 0)))] H := hP
  have hD : va_D (kA h0 sz) [(h0, .inr (3, [.int 0, .int 0, .int 0, .int 0, .int 0, .int 0, .ref sz, .int 0, .null])), (sz, .inl (aC 0, 8, .inl (fun _ => 0))), (sz + 1, .inl (aC 0, 4, .inl (fun _ => 0)))] := hD
  refine va_putF (D := (dC, dI)) (ci := 3) (v := .ref (sz + 1)) (ty := .array .int) (C := R_P) (T := T_P) (N := 9) hx hb hg uw_P ty_P tk_P nm_P hown hK hP hD hS 0 rfl rfl 8 (by decide) (hg _ fl_P_15) (fun _ h9 => h9) rfl hin rfl (by decide +kernel) rfl rfl (Nat.le_of_ble_eq_true rfl) d_P_init_16 (fun H locs hP hD hS => ?_)
  have hP : va_P (dC, dI) clsx [(h0, .inr (3, [.int 0, .int 0, .int 0, .int 0, .int 0, .int 0, .ref sz, .int 0, .ref (sz + 1)])), (sz, .inl (aC 0, 8, .inl (fun _ => 0))), (sz + 1, .inl (aC 0, 4, .inl (fun _ => 0)))] H := hP
  have hD : va_D (kA h0 sz) [(h0, .inr (3, [.int 0, .int 0, .int 0, .int 0, .int 0, .int 0, .ref sz, .int 0, .ref (sz + 1)])), (sz, .inl (aC 0, 8, .inl (fun _ => 0))), (sz + 1, .inl (aC 0, 4, .inl (fun _ => 0)))] := hD
  exact W.vret hx hb hr (fun t ht hW => ⟨⟨(), rfl, trivial, by show va_P _ _ _ t.heap; rw [ht]; exact hP⟩, hS.F ht⟩) hS.2.2 d_P_init_19 hlocks
set_option maxHeartbeats 4000000 in
set_option maxRecDepth 100000 in
theorem kl_C_init (l : Launch) (dC : Nat → ClassId) (dI : Nat → Nat → Nat) (aC : Nat → ClassId) (h0 sz : Nat) (st0 : Int32) {p : Program} {e : Env} {s : State} {m : MethodId} {args : Array Value} {below : List Frame} {meth : Method} {cd : Code} (hc : cx (dC, dI) (tysx aC) XI w_C_init b_C_init R_C 3 none p s m args meth cd) (hsz : s.heap.size = sz) : ∀ (n j : Nat) (H : Heap) (locs : List Loc) (ls : Array Slot), j ≤ 8 → 8 < j + n → va_P (dC, dI) clsx [(h0, .inr (4, [.ref sz, .ref (sz + 1), .int st0, .int 0, .int 0, .int 0])), (sz, .inl (aC 0, 16, .inl (fun _ => 0))), (sz + 1, .inl (aC 0, 8, .inl (fun i => if i < j then -1 else 0)))] H → va_D (kA h0 sz) [(h0, .inr (4, [.ref sz, .ref (sz + 1), .int st0, .int 0, .int 0, .int 0])), (sz, .inl (aC 0, 16, .inl (fun _ => 0))), (sz + 1, .inl (aC 0, 8, .inl (fun i => if i < j then -1 else 0)))] → va_S (kA h0 sz) s.heap H locs → lv_has ls 3 [(0, .ref h0), (2, .int (nI j))] → W p l e { frames := 1, cells := 2, slots := 24, locals := 24 } s m args below meth cd H locs 2 24 (MQ below (va_Qv (fun _ : Unit => True) (fun _ t => va_P (dC, dI) clsx [(h0, .inr (4, [.ref sz, .ref (sz + 1), .int st0, .int 0, .int 0, .int 0])), (sz, .inl (aC 0, 16, .inl (fun _ => 0))), (sz + 1, .inl (aC 0, 8, .inl (fun i => if i < 8 then -1 else 0)))] t.heap) (kA h0 sz)) args s 2 24 (kA h0 sz)) (F0 m 27 ls []) := by
  obtain ⟨hx, hb, hr, hml, hown, hts, hlocks, hK, hX⟩ := hc
  have hg : ∀ w ∈ gtbl, w.before args s = true := fun w h => hts w (List.mem_cons_of_mem _ h)
  intro n
  induction n with
  | zero =>
    intro j H locs ls hj hn
    exfalso
    omega
  | succ n ih =>
    intro j H locs ls hj hn hP hD hS hl
    refine lv_iload_n hx hb d_C_init_27 rfl (lv_at hl 1 rfl) ?_
    refine lv_bipush (v := 8) hx hb d_C_init_28 (by decide) ?_
    refine lv_icmp_ge (tgt := 46) hx hb d_C_init_30 rfl (fun h => ?_) (fun h => ?_)
    · have hj : j = 8 := by rcases Nat.lt_or_ge j 8 with z | z; exact absurd h (nI_ge z (by decide)); omega
      subst hj
      exact W.vret hx hb hr (fun t ht hW => ⟨⟨(), rfl, trivial, by show va_P _ _ _ t.heap; rw [ht]; exact hP⟩, hS.F ht⟩) hS.2.2 d_C_init_46 hlocks
    have hj8 : j < 8 := lp_lt rfl hj (by decide) h
    refine lv_aload_n hx hb d_C_init_33 rfl (lv_at hl 0 rfl) ?_
    refine va_get (D := (dC, dI)) (ci := 4) (C := R_C) (T := T_C) (N := 6) hx hb hg uw_C hown hK hP 0 rfl rfl 1 (by decide) (hg _ fl_C_15) (fun _ h9 => h9) rfl d_C_init_34 ?_
    refine lv_iload_n hx hb d_C_init_37 rfl (lv_at hl 1 rfl) ?_
    refine lv_iconst (v := (-1)) hx hb d_C_init_38 (by decide) ?_
    refine va_iast hx hb hK hP hD hS 2 0 rfl rfl (vp_in_nI (N := 8) (by omega) (by decide)) d_C_init_39 (fun H locs hP hD hS => ?_)
    rw [nI_clamp (by omega)] at hP hD
    have e9 := fill_up (fun i => -1) 0 j
    rw [e9] at hP hD
    refine lv_iinc (k := 1) (v := nI (j + 1)) (lv' := [(2, .int (nI (j + 1))), (0, .ref h0)]) hx hb d_C_init_40 hl rfl (nI_1 _) (by decide) rfl (fun ls hl => ?_)
    refine lv_goto (tgt := 27) hx hb d_C_init_43 rfl ?_
    exact ih (j + 1) _ _ ls (by omega) (by omega) hP hD hS (lv_sub hl [1, 0] rfl)
set_option maxHeartbeats 4000000 in
set_option maxRecDepth 100000 in
theorem c_C_init (l : Launch) (dC : Nat → ClassId) (dI : Nat → Nat → Nat) (aC : Nat → ClassId) (h0 sz : Nat) (st0 : Int32) : Met l y_C_init w_C_init { frames := 1, cells := 2, slots := 24, locals := 24 } (va_Pc [.ref h0, .int st0] (fun U => U.heap.size = sz ∧ va_P (dC, dI) clsx [(h0, .inr (4, [.null, .null, .int 0, .int 0, .int 0, .int 0]))] U.heap ∧ va_K (dC, dI) clsx (tysx aC) U ∧ XI U)) (va_Qv (fun _ : Unit => True) (fun _ t => va_P (dC, dI) clsx [(h0, .inr (4, [.ref sz, .ref (sz + 1), .int st0, .int 0, .int 0, .int 0])), (sz, .inl (aC 0, 16, .inl (fun _ => 0))), (sz + 1, .inl (aC 0, 8, .inl (fun i => if i < 8 then -1 else 0)))] t.heap) (kA h0 sz)) 2 24 (kA h0 sz) := by
  refine Met.ofW (cc := b_C_init) (maxL := 3) (ret := none) (by decide) rfl ?_
  intro p e s m args below meth cd s₁ B hml hv
  obtain ⟨rfl, hsz, hP, hK, hX⟩ := hv
  have hx := B.exec
  have hb := B.bytes
  have hr := B.returns
  have hts := atoms_spec (ws := w_C_init) B.pre
  have hg : ∀ w ∈ gtbl, w.before _ s = true := fun w h => hts w (List.mem_cons_of_mem _ h)
  have hown : s.vm.findClass R_C = some m.cls := findClass_of_methodNamed B.named
  have hlocks := B.notSynchronized
  have hin : meth.name = "<init>" := (name_of_methodNamed B.named B.method).1
  have hS : va_S (kA h0 sz) s.heap s.heap [] := va_S.rf
  have hD : va_D (kA h0 sz) [(h0, .inr (4, [.null, .null, .int 0, .int 0, .int 0, .int 0]))] := kA_1
  have hl := lv_entry ([.ref h0, .int st0]) (n := 3) (Nat.le_of_ble_eq_true rfl)
  rw [lg_entry_eq]
  generalize (lg_sl ([.ref h0, .int st0]) ++ List.replicate (3 - (lg_sl ([.ref h0, .int st0])).length) Slot.unset).toArray = ls at hl ⊢
  have hl : lv_has ls 3 [(0, .ref h0), (1, .int st0)] := hl
  refine lv_aload_n hx hb d_C_init_0 rfl (lv_at hl 0 rfl) ?_
  refine W.objInit hx hb hown (hg _ ml_C_3) (hg _ im_Object_init) (hg _ co_Object_init) rfl (by rw [hml]; exact hl.1) rfl d_C_init_1 (Nat.le_of_ble_eq_true rfl) (Nat.le_of_ble_eq_true rfl) ?_
  refine W.eq (g2 := F0 m 4 ls []) rfl ?_
  refine lv_aload_n hx hb d_C_init_4 rfl (lv_at hl 0 rfl) ?_
  refine lv_bipush (v := 16) hx hb d_C_init_5 (by decide) ?_
  refine ki_newa (atype := .int) (cA := aC 0) (a0 := (16, .inl (fun _ => 0))) (N' := 16) (h := sz) hx hb (hg _ ac_int) (hK.2 0 _ rfl).2 hP hD hS (by omega) (by omega) (Or.inr (by omega)) (fill_hb (aC 0) 16) (by decide) (by decide) (by decide) (Nat.le_of_ble_eq_true rfl) (Nat.le_of_ble_eq_true rfl) d_C_init_7 (fun H hP hD hS => ?_)
  have hP : va_P (dC, dI) clsx [(h0, .inr (4, [.null, .null, .int 0, .int 0, .int 0, .int 0])), (sz, .inl (aC 0, 16, .inl (fun _ => 0)))] H := hP
  have hD : va_D (kA h0 sz) [(h0, .inr (4, [.null, .null, .int 0, .int 0, .int 0, .int 0])), (sz, .inl (aC 0, 16, .inl (fun _ => 0)))] := hD
  refine va_putF (D := (dC, dI)) (ci := 4) (v := .ref sz) (ty := .array .int) (C := R_C) (T := T_C) (N := 6) hx hb hg uw_C ty_C tk_C nm_C hown hK hP hD hS 0 rfl rfl 0 (by decide) (hg _ fl_C_9) (fun _ h9 => h9) rfl hin rfl (by decide +kernel) rfl rfl (Nat.le_of_ble_eq_true rfl) d_C_init_9 (fun H locs hP hD hS => ?_)
  have hP : va_P (dC, dI) clsx [(h0, .inr (4, [.ref sz, .null, .int 0, .int 0, .int 0, .int 0])), (sz, .inl (aC 0, 16, .inl (fun _ => 0)))] H := hP
  have hD : va_D (kA h0 sz) [(h0, .inr (4, [.ref sz, .null, .int 0, .int 0, .int 0, .int 0])), (sz, .inl (aC 0, 16, .inl (fun _ => 0)))] := hD
  refine lv_aload_n hx hb d_C_init_12 rfl (lv_at hl 0 rfl) ?_
  refine lv_bipush (v := 8) hx hb d_C_init_13 (by decide) ?_
  refine ki_newa (atype := .int) (cA := aC 0) (a0 := (8, .inl (fun i => if i < 0 then -1 else 0))) (N' := 8) (h := sz + 1) hx hb (hg _ ac_int) (hK.2 0 _ rfl).2 hP hD hS (Nat.succ_le_of_lt (hP 1 _ rfl).lt) (by omega) (Or.inr (by omega)) (fill_ha (aC 0) 8 (fun i => -1)) (by decide) (by decide) (by decide) (Nat.le_of_ble_eq_true rfl) (Nat.le_of_ble_eq_true rfl) d_C_init_15 (fun H hP hD hS => ?_)
  have hP : va_P (dC, dI) clsx [(h0, .inr (4, [.ref sz, .null, .int 0, .int 0, .int 0, .int 0])), (sz, .inl (aC 0, 16, .inl (fun _ => 0))), (sz + 1, .inl (aC 0, 8, .inl (fun i => if i < 0 then -1 else 0)))] H := hP
  have hD : va_D (kA h0 sz) [(h0, .inr (4, [.ref sz, .null, .int 0, .int 0, .int 0, .int 0])), (sz, .inl (aC 0, 16, .inl (fun _ => 0))), (sz + 1, .inl (aC 0, 8, .inl (fun i => if i < 0 then -1 else 0)))] := hD
  refine va_putF (D := (dC, dI)) (ci := 4) (v := .ref (sz + 1)) (ty := .array .int) (C := R_C) (T := T_C) (N := 6) hx hb hg uw_C ty_C tk_C nm_C hown hK hP hD hS 0 rfl rfl 1 (by decide) (hg _ fl_C_15) (fun _ h9 => h9) rfl hin rfl (by decide +kernel) rfl rfl (Nat.le_of_ble_eq_true rfl) d_C_init_17 (fun H locs hP hD hS => ?_)
  have hP : va_P (dC, dI) clsx [(h0, .inr (4, [.ref sz, .ref (sz + 1), .int 0, .int 0, .int 0, .int 0])), (sz, .inl (aC 0, 16, .inl (fun _ => 0))), (sz + 1, .inl (aC 0, 8, .inl (fun i => if i < 0 then -1 else 0)))] H := hP
  have hD : va_D (kA h0 sz) [(h0, .inr (4, [.ref sz, .ref (sz + 1), .int 0, .int 0, .int 0, .int 0])), (sz, .inl (aC 0, 16, .inl (fun _ => 0))), (sz + 1, .inl (aC 0, 8, .inl (fun i => if i < 0 then -1 else 0)))] := hD
  refine lv_aload_n hx hb d_C_init_20 rfl (lv_at hl 0 rfl) ?_
  refine lv_iload_n hx hb d_C_init_21 rfl (lv_at hl 1 rfl) ?_
  refine va_put (D := (dC, dI)) (ci := 4) (v := .int st0) (ty := .int) (C := R_C) (T := T_C) (N := 6) hx hb hg uw_C ty_C tk_C nm_C hown hK hP hD hS 0 rfl rfl 2 (by decide) (hg _ fl_C_18) (fun _ h9 => h9) rfl (by decide +kernel) rfl rfl (Nat.le_of_ble_eq_true rfl) d_C_init_22 (fun H locs hP hD hS => ?_)
  have hP : va_P (dC, dI) clsx [(h0, .inr (4, [.ref sz, .ref (sz + 1), .int st0, .int 0, .int 0, .int 0])), (sz, .inl (aC 0, 16, .inl (fun _ => 0))), (sz + 1, .inl (aC 0, 8, .inl (fun i => if i < 0 then -1 else 0)))] H := hP
  have hD : va_D (kA h0 sz) [(h0, .inr (4, [.ref sz, .ref (sz + 1), .int st0, .int 0, .int 0, .int 0])), (sz, .inl (aC 0, 16, .inl (fun _ => 0))), (sz + 1, .inl (aC 0, 8, .inl (fun i => if i < 0 then -1 else 0)))] := hD
  refine lv_iconst (v := 0) hx hb d_C_init_25 (by decide) ?_
  refine lv_istore_n (lv' := [(2, .int (nI 0)), (0, .ref h0), (1, .int st0)]) hx hb d_C_init_26 rfl hl (by decide) rfl (fun ls hl => ?_)
  exact kl_C_init l dC dI aC h0 sz st0 ⟨hx, hb, hr, hml, hown, hts, hlocks, hK, hX⟩ hsz 9 0 _ _ ls (by decide) (by decide) hP hD hS (lv_sub hl [1, 0] rfl)
set_option maxHeartbeats 4000000 in
set_option maxRecDepth 100000 in
theorem kl_A_init (l : Launch) (dC : Nat → ClassId) (dI : Nat → Nat → Nat) (aC : Nat → ClassId) (h0 sz : Nat) {p : Program} {e : Env} {s : State} {m : MethodId} {args : Array Value} {below : List Frame} {meth : Method} {cd : Code} (hc : cx (dC, dI) (tysx aC) XI w_A_init b_A_init R_A 2 none p s m args meth cd) (hsz : s.heap.size = sz) : ∀ (n j : Nat) (H : Heap) (locs : List Loc) (ls : Array Slot), j ≤ 16 → 16 < j + n → va_P (dC, dI) clsx [(h0, .inr (5, [.ref sz, .ref (sz + 1), .int 0, .int 0])), (sz, .inl (aC 0, 16, .inl (fun i => if i < j then -1 else 0))), (sz + 1, .inl (aC 0, 64, .inl (fun _ => 0)))] H → va_D (kA h0 sz) [(h0, .inr (5, [.ref sz, .ref (sz + 1), .int 0, .int 0])), (sz, .inl (aC 0, 16, .inl (fun i => if i < j then -1 else 0))), (sz + 1, .inl (aC 0, 64, .inl (fun _ => 0)))] → va_S (kA h0 sz) s.heap H locs → lv_has ls 2 [(0, .ref h0), (1, .int (nI j))] → W p l e { frames := 1, cells := 2, slots := 80, locals := 24 } s m args below meth cd H locs 2 80 (MQ below (va_Qv (fun _ : Unit => True) (fun _ t => va_P (dC, dI) clsx [(h0, .inr (5, [.ref sz, .ref (sz + 1), .int 0, .int 0])), (sz, .inl (aC 0, 16, .inl (fun i => if i < 16 then -1 else 0))), (sz + 1, .inl (aC 0, 64, .inl (fun _ => 0)))] t.heap) (kA h0 sz)) args s 2 80 (kA h0 sz)) (F0 m 22 ls []) := by
  obtain ⟨hx, hb, hr, hml, hown, hts, hlocks, hK, hX⟩ := hc
  have hg : ∀ w ∈ gtbl, w.before args s = true := fun w h => hts w (List.mem_cons_of_mem _ h)
  intro n
  induction n with
  | zero =>
    intro j H locs ls hj hn
    exfalso
    omega
  | succ n ih =>
    intro j H locs ls hj hn hP hD hS hl
    refine lv_iload_n hx hb d_A_init_22 rfl (lv_at hl 1 rfl) ?_
    refine lv_bipush (v := 16) hx hb d_A_init_23 (by decide) ?_
    refine lv_icmp_ge (tgt := 41) hx hb d_A_init_25 rfl (fun h => ?_) (fun h => ?_)
    · have hj : j = 16 := by rcases Nat.lt_or_ge j 16 with z | z; exact absurd h (nI_ge z (by decide)); omega
      subst hj
      exact W.vret hx hb hr (fun t ht hW => ⟨⟨(), rfl, trivial, by show va_P _ _ _ t.heap; rw [ht]; exact hP⟩, hS.F ht⟩) hS.2.2 d_A_init_41 hlocks
    have hj8 : j < 16 := lp_lt rfl hj (by decide) h
    refine lv_aload_n hx hb d_A_init_28 rfl (lv_at hl 0 rfl) ?_
    refine va_get (D := (dC, dI)) (ci := 5) (C := R_A) (T := T_A) (N := 4) hx hb hg uw_A hown hK hP 0 rfl rfl 0 (by decide) (hg _ fl_A_9) (fun _ h9 => h9) rfl d_A_init_29 ?_
    refine lv_iload_n hx hb d_A_init_32 rfl (lv_at hl 1 rfl) ?_
    refine lv_iconst (v := (-1)) hx hb d_A_init_33 (by decide) ?_
    refine va_iast hx hb hK hP hD hS 1 0 rfl rfl (vp_in_nI (N := 16) (by omega) (by decide)) d_A_init_34 (fun H locs hP hD hS => ?_)
    rw [nI_clamp (by omega)] at hP hD
    have e9 := fill_up (fun i => -1) 0 j
    rw [e9] at hP hD
    refine lv_iinc (k := 1) (v := nI (j + 1)) (lv' := [(1, .int (nI (j + 1))), (0, .ref h0)]) hx hb d_A_init_35 hl rfl (nI_1 _) (by decide) rfl (fun ls hl => ?_)
    refine lv_goto (tgt := 22) hx hb d_A_init_38 rfl ?_
    exact ih (j + 1) _ _ ls (by omega) (by omega) hP hD hS (lv_sub hl [1, 0] rfl)
set_option maxHeartbeats 4000000 in
set_option maxRecDepth 100000 in
theorem c_A_init (l : Launch) (dC : Nat → ClassId) (dI : Nat → Nat → Nat) (aC : Nat → ClassId) (h0 sz : Nat) : Met l y_A_init w_A_init { frames := 1, cells := 2, slots := 80, locals := 24 } (va_Pc [.ref h0] (fun U => U.heap.size = sz ∧ va_P (dC, dI) clsx [(h0, .inr (5, [.null, .null, .int 0, .int 0]))] U.heap ∧ va_K (dC, dI) clsx (tysx aC) U ∧ XI U)) (va_Qv (fun _ : Unit => True) (fun _ t => va_P (dC, dI) clsx [(h0, .inr (5, [.ref sz, .ref (sz + 1), .int 0, .int 0])), (sz, .inl (aC 0, 16, .inl (fun i => if i < 16 then -1 else 0))), (sz + 1, .inl (aC 0, 64, .inl (fun _ => 0)))] t.heap) (kA h0 sz)) 2 80 (kA h0 sz) := by
  refine Met.ofW (cc := b_A_init) (maxL := 2) (ret := none) (by decide) rfl ?_
  intro p e s m args below meth cd s₁ B hml hv
  obtain ⟨rfl, hsz, hP, hK, hX⟩ := hv
  have hx := B.exec
  have hb := B.bytes
  have hr := B.returns
  have hts := atoms_spec (ws := w_A_init) B.pre
  have hg : ∀ w ∈ gtbl, w.before _ s = true := fun w h => hts w (List.mem_cons_of_mem _ h)
  have hown : s.vm.findClass R_A = some m.cls := findClass_of_methodNamed B.named
  have hlocks := B.notSynchronized
  have hin : meth.name = "<init>" := (name_of_methodNamed B.named B.method).1
  have hS : va_S (kA h0 sz) s.heap s.heap [] := va_S.rf
  have hD : va_D (kA h0 sz) [(h0, .inr (5, [.null, .null, .int 0, .int 0]))] := kA_1
  have hl := lv_entry ([.ref h0]) (n := 2) (Nat.le_of_ble_eq_true rfl)
  rw [lg_entry_eq]
  generalize (lg_sl ([.ref h0]) ++ List.replicate (2 - (lg_sl ([.ref h0])).length) Slot.unset).toArray = ls at hl ⊢
  have hl : lv_has ls 2 [(0, .ref h0)] := hl
  refine lv_aload_n hx hb d_A_init_0 rfl (lv_at hl 0 rfl) ?_
  refine W.objInit hx hb hown (hg _ ml_A_3) (hg _ im_Object_init) (hg _ co_Object_init) rfl (by rw [hml]; exact hl.1) rfl d_A_init_1 (Nat.le_of_ble_eq_true rfl) (Nat.le_of_ble_eq_true rfl) ?_
  refine W.eq (g2 := F0 m 4 ls []) rfl ?_
  refine lv_aload_n hx hb d_A_init_4 rfl (lv_at hl 0 rfl) ?_
  refine lv_bipush (v := 16) hx hb d_A_init_5 (by decide) ?_
  refine ki_newa (atype := .int) (cA := aC 0) (a0 := (16, .inl (fun i => if i < 0 then -1 else 0))) (N' := 16) (h := sz) hx hb (hg _ ac_int) (hK.2 0 _ rfl).2 hP hD hS (by omega) (by omega) (Or.inr (by omega)) (fill_ha (aC 0) 16 (fun i => -1)) (by decide) (by decide) (by decide) (Nat.le_of_ble_eq_true rfl) (Nat.le_of_ble_eq_true rfl) d_A_init_7 (fun H hP hD hS => ?_)
  have hP : va_P (dC, dI) clsx [(h0, .inr (5, [.null, .null, .int 0, .int 0])), (sz, .inl (aC 0, 16, .inl (fun i => if i < 0 then -1 else 0)))] H := hP
  have hD : va_D (kA h0 sz) [(h0, .inr (5, [.null, .null, .int 0, .int 0])), (sz, .inl (aC 0, 16, .inl (fun i => if i < 0 then -1 else 0)))] := hD
  refine va_putF (D := (dC, dI)) (ci := 5) (v := .ref sz) (ty := .array .int) (C := R_A) (T := T_A) (N := 4) hx hb hg uw_A ty_A tk_A nm_A hown hK hP hD hS 0 rfl rfl 0 (by decide) (hg _ fl_A_9) (fun _ h9 => h9) rfl hin rfl (by decide +kernel) rfl rfl (Nat.le_of_ble_eq_true rfl) d_A_init_9 (fun H locs hP hD hS => ?_)
  have hP : va_P (dC, dI) clsx [(h0, .inr (5, [.ref sz, .null, .int 0, .int 0])), (sz, .inl (aC 0, 16, .inl (fun i => if i < 0 then -1 else 0)))] H := hP
  have hD : va_D (kA h0 sz) [(h0, .inr (5, [.ref sz, .null, .int 0, .int 0])), (sz, .inl (aC 0, 16, .inl (fun i => if i < 0 then -1 else 0)))] := hD
  refine lv_aload_n hx hb d_A_init_12 rfl (lv_at hl 0 rfl) ?_
  refine lv_bipush (v := 64) hx hb d_A_init_13 (by decide) ?_
  refine ki_newa (atype := .int) (cA := aC 0) (a0 := (64, .inl (fun _ => 0))) (N' := 64) (h := sz + 1) hx hb (hg _ ac_int) (hK.2 0 _ rfl).2 hP hD hS (Nat.succ_le_of_lt (hP 1 _ rfl).lt) (by omega) (Or.inr (by omega)) (fill_hb (aC 0) 64) (by decide) (by decide) (by decide) (Nat.le_of_ble_eq_true rfl) (Nat.le_of_ble_eq_true rfl) d_A_init_15 (fun H hP hD hS => ?_)
  have hP : va_P (dC, dI) clsx [(h0, .inr (5, [.ref sz, .null, .int 0, .int 0])), (sz, .inl (aC 0, 16, .inl (fun i => if i < 0 then -1 else 0))), (sz + 1, .inl (aC 0, 64, .inl (fun _ => 0)))] H := hP
  have hD : va_D (kA h0 sz) [(h0, .inr (5, [.ref sz, .null, .int 0, .int 0])), (sz, .inl (aC 0, 16, .inl (fun i => if i < 0 then -1 else 0))), (sz + 1, .inl (aC 0, 64, .inl (fun _ => 0)))] := hD
  refine va_putF (D := (dC, dI)) (ci := 5) (v := .ref (sz + 1)) (ty := .array .int) (C := R_A) (T := T_A) (N := 4) hx hb hg uw_A ty_A tk_A nm_A hown hK hP hD hS 0 rfl rfl 1 (by decide) (hg _ fl_A_15) (fun _ h9 => h9) rfl hin rfl (by decide +kernel) rfl rfl (Nat.le_of_ble_eq_true rfl) d_A_init_17 (fun H locs hP hD hS => ?_)
  have hP : va_P (dC, dI) clsx [(h0, .inr (5, [.ref sz, .ref (sz + 1), .int 0, .int 0])), (sz, .inl (aC 0, 16, .inl (fun i => if i < 0 then -1 else 0))), (sz + 1, .inl (aC 0, 64, .inl (fun _ => 0)))] H := hP
  have hD : va_D (kA h0 sz) [(h0, .inr (5, [.ref sz, .ref (sz + 1), .int 0, .int 0])), (sz, .inl (aC 0, 16, .inl (fun i => if i < 0 then -1 else 0))), (sz + 1, .inl (aC 0, 64, .inl (fun _ => 0)))] := hD
  refine lv_iconst (v := 0) hx hb d_A_init_20 (by decide) ?_
  refine lv_istore_n (lv' := [(1, .int (nI 0)), (0, .ref h0)]) hx hb d_A_init_21 rfl hl (by decide) rfl (fun ls hl => ?_)
  exact kl_A_init l dC dI aC h0 sz  ⟨hx, hb, hr, hml, hown, hts, hlocks, hK, hX⟩ hsz 17 0 _ _ ls (by decide) (by decide) hP hD hS (lv_sub hl [1, 0] rfl)
set_option maxHeartbeats 4000000 in
set_option maxRecDepth 100000 in
theorem kl_F_init (l : Launch) (dC : Nat → ClassId) (dI : Nat → Nat → Nat) (aC : Nat → ClassId) (h0 sz : Nat) {p : Program} {e : Env} {s : State} {m : MethodId} {args : Array Value} {below : List Frame} {meth : Method} {cd : Code} (hc : cx (dC, dI) (tysx aC) XI w_F_init b_F_init R_F 2 none p s m args meth cd) (hsz : s.heap.size = sz) : ∀ (n j : Nat) (H : Heap) (locs : List Loc) (ls : Array Slot), j ≤ 8 → 8 < j + n → va_P (dC, dI) clsx [(h0, .inr (1, [.ref sz, .ref (sz + 1), .ref (sz + 2)])), (sz, .inl (aC 1, 256, .inl (fun _ => 0))), (sz + 1, .inl (aC 0, 8, .inl (fun i => if i < j then nI (2 * i) else 0))), (sz + 2, .inl (aC 0, 8, .inl (fun _ => 0)))] H → va_D (kA h0 sz) [(h0, .inr (1, [.ref sz, .ref (sz + 1), .ref (sz + 2)])), (sz, .inl (aC 1, 256, .inl (fun _ => 0))), (sz + 1, .inl (aC 0, 8, .inl (fun i => if i < j then nI (2 * i) else 0))), (sz + 2, .inl (aC 0, 8, .inl (fun _ => 0)))] → va_S (kA h0 sz) s.heap H locs → lv_has ls 2 [(0, .ref h0), (1, .int (nI j))] → W p l e { frames := 1, cells := 3, slots := 272, locals := 40 } s m args below meth cd H locs 3 272 (MQ below (va_Qv (fun _ : Unit => True) (fun _ t => va_P (dC, dI) clsx [(h0, .inr (1, [.ref sz, .ref (sz + 1), .ref (sz + 2)])), (sz, .inl (aC 1, 256, .inl (fun _ => 0))), (sz + 1, .inl (aC 0, 8, .inl (fun i => if i < 8 then nI (2 * i) else 0))), (sz + 2, .inl (aC 0, 8, .inl (fun _ => 0)))] t.heap) (kA h0 sz)) args s 3 272 (kA h0 sz)) (F0 m 31 ls []) := by
  obtain ⟨hx, hb, hr, hml, hown, hts, hlocks, hK, hX⟩ := hc
  have hg : ∀ w ∈ gtbl, w.before args s = true := fun w h => hts w (List.mem_cons_of_mem _ h)
  intro n
  induction n with
  | zero =>
    intro j H locs ls hj hn
    exfalso
    omega
  | succ n ih =>
    intro j H locs ls hj hn hP hD hS hl
    refine lv_iload_n hx hb d_F_init_31 rfl (lv_at hl 1 rfl) ?_
    refine lv_bipush (v := 8) hx hb d_F_init_32 (by decide) ?_
    refine lv_icmp_ge (tgt := 56) hx hb d_F_init_34 rfl (fun h => ?_) (fun h => ?_)
    · have hj : j = 8 := by rcases Nat.lt_or_ge j 8 with z | z; exact absurd h (nI_ge z (by decide)); omega
      subst hj
      exact W.vret hx hb hr (fun t ht hW => ⟨⟨(), rfl, trivial, by show va_P _ _ _ t.heap; rw [ht]; exact hP⟩, hS.F ht⟩) hS.2.2 d_F_init_56 hlocks
    have hj8 : j < 8 := lp_lt rfl hj (by decide) h
    refine lv_aload_n hx hb d_F_init_37 rfl (lv_at hl 0 rfl) ?_
    refine va_get (D := (dC, dI)) (ci := 1) (C := R_F) (T := T_F) (N := 3) hx hb hg uw_F hown hK hP 0 rfl rfl 1 (by decide) (hg _ fl_F_15) (fun _ h9 => h9) rfl d_F_init_38 ?_
    refine lv_iload_n hx hb d_F_init_41 rfl (lv_at hl 1 rfl) ?_
    refine lv_iconst (v := 2) hx hb d_F_init_42 (by decide) ?_
    refine lv_iload_n hx hb d_F_init_43 rfl (lv_at hl 1 rfl) ?_
    refine lv_imul hx hb d_F_init_44 ?_
    refine lv_iconst (v := 0) hx hb d_F_init_45 (by decide) ?_
    refine ro_call (va_runSN (As := [.int (2 * (nI j)), .int 0]) (rest := [.int (nI j), .ref (sz + 1)]) ⟨hx, hb, hml, hown, hts⟩ (c0_D_placeOf l (2 * (nI j)) 0) (cn_S (fun w h => List.mem_cons_of_mem _ h) hts ks_D_placeOf hX.1.1 ⟨Nat.le_of_ble_eq_true rfl, Nat.le_of_ble_eq_true rfl⟩ rfl rfl) ⟨fun _ _ _ _ q => q, fun _ _ _ => ⟨rfl, trivial⟩⟩ rfl rfl hl.1 rfl (lv_room (Nat.le_of_ble_eq_true rfl)) d_F_init_46 ⟨Nat.le_refl _, Nat.le_refl _⟩) ?_
    refine va_iast hx hb hK hP hD hS 2 0 rfl rfl (vp_in_nI (N := 8) (by omega) (by decide)) d_F_init_49 (fun H locs hP hD hS => ?_)
    rw [nI_clamp (by omega)] at hP hD
    have e9 := fill_up (fun i => nI (2 * i)) 0 j
    have e8 : (f_D_placeOf (2 * (nI j)) 0) = nI (2 * j) := fl_e j
    rw [e8, e9] at hP hD
    refine lv_iinc (k := 1) (v := nI (j + 1)) (lv' := [(1, .int (nI (j + 1))), (0, .ref h0)]) hx hb d_F_init_50 hl rfl (nI_1 _) (by decide) rfl (fun ls hl => ?_)
    refine lv_goto (tgt := 31) hx hb d_F_init_53 rfl ?_
    exact ih (j + 1) _ _ ls (by omega) (by omega) hP hD hS (lv_sub hl [1, 0] rfl)
set_option maxHeartbeats 4000000 in
set_option maxRecDepth 100000 in
theorem c_F_init (l : Launch) (dC : Nat → ClassId) (dI : Nat → Nat → Nat) (aC : Nat → ClassId) (h0 sz : Nat) : Met l y_F_init w_F_init { frames := 1, cells := 3, slots := 272, locals := 40 } (va_Pc [.ref h0] (fun U => U.heap.size = sz ∧ va_P (dC, dI) clsx [(h0, .inr (1, [.null, .null, .null]))] U.heap ∧ va_K (dC, dI) clsx (tysx aC) U ∧ XI U)) (va_Qv (fun _ : Unit => True) (fun _ t => va_P (dC, dI) clsx [(h0, .inr (1, [.ref sz, .ref (sz + 1), .ref (sz + 2)])), (sz, .inl (aC 1, 256, .inl (fun _ => 0))), (sz + 1, .inl (aC 0, 8, .inl (fun i => if i < 8 then nI (2 * i) else 0))), (sz + 2, .inl (aC 0, 8, .inl (fun _ => 0)))] t.heap) (kA h0 sz)) 3 272 (kA h0 sz) := by
  refine Met.ofW (cc := b_F_init) (maxL := 2) (ret := none) (by decide) rfl ?_
  intro p e s m args below meth cd s₁ B hml hv
  obtain ⟨rfl, hsz, hP, hK, hX⟩ := hv
  have hx := B.exec
  have hb := B.bytes
  have hr := B.returns
  have hts := atoms_spec (ws := w_F_init) B.pre
  have hg : ∀ w ∈ gtbl, w.before _ s = true := fun w h => hts w (List.mem_cons_of_mem _ h)
  have hown : s.vm.findClass R_F = some m.cls := findClass_of_methodNamed B.named
  have hlocks := B.notSynchronized
  have hin : meth.name = "<init>" := (name_of_methodNamed B.named B.method).1
  have hS : va_S (kA h0 sz) s.heap s.heap [] := va_S.rf
  have hD : va_D (kA h0 sz) [(h0, .inr (1, [.null, .null, .null]))] := kA_1
  have hl := lv_entry ([.ref h0]) (n := 2) (Nat.le_of_ble_eq_true rfl)
  rw [lg_entry_eq]
  generalize (lg_sl ([.ref h0]) ++ List.replicate (2 - (lg_sl ([.ref h0])).length) Slot.unset).toArray = ls at hl ⊢
  have hl : lv_has ls 2 [(0, .ref h0)] := hl
  refine lv_aload_n hx hb d_F_init_0 rfl (lv_at hl 0 rfl) ?_
  refine W.objInit hx hb hown (hg _ ml_F_3) (hg _ im_Object_init) (hg _ co_Object_init) rfl (by rw [hml]; exact hl.1) rfl d_F_init_1 (Nat.le_of_ble_eq_true rfl) (Nat.le_of_ble_eq_true rfl) ?_
  refine W.eq (g2 := F0 m 4 ls []) rfl ?_
  refine lv_aload_n hx hb d_F_init_4 rfl (lv_at hl 0 rfl) ?_
  refine lv_sipush (v := 256) hx hb d_F_init_5 (by decide) ?_
  refine ki_newa (atype := .boolean) (cA := aC 1) (a0 := (256, .inl (fun _ => 0))) (N' := 256) (h := sz) hx hb (hg _ ac_boolean) (hK.2 1 _ rfl).2 hP hD hS (by omega) (by omega) (Or.inr (by omega)) (fill_hb (aC 1) 256) (by decide) (by decide) (by decide) (Nat.le_of_ble_eq_true rfl) (Nat.le_of_ble_eq_true rfl) d_F_init_8 (fun H hP hD hS => ?_)
  have hP : va_P (dC, dI) clsx [(h0, .inr (1, [.null, .null, .null])), (sz, .inl (aC 1, 256, .inl (fun _ => 0)))] H := hP
  have hD : va_D (kA h0 sz) [(h0, .inr (1, [.null, .null, .null])), (sz, .inl (aC 1, 256, .inl (fun _ => 0)))] := hD
  refine va_putF (D := (dC, dI)) (ci := 1) (v := .ref sz) (ty := .array .boolean) (C := R_F) (T := T_F) (N := 3) hx hb hg uw_F ty_F tk_F nm_F hown hK hP hD hS 0 rfl rfl 0 (by decide) (hg _ fl_F_9) (fun _ h9 => h9) rfl hin rfl (by decide +kernel) rfl rfl (Nat.le_of_ble_eq_true rfl) d_F_init_10 (fun H locs hP hD hS => ?_)
  have hP : va_P (dC, dI) clsx [(h0, .inr (1, [.ref sz, .null, .null])), (sz, .inl (aC 1, 256, .inl (fun _ => 0)))] H := hP
  have hD : va_D (kA h0 sz) [(h0, .inr (1, [.ref sz, .null, .null])), (sz, .inl (aC 1, 256, .inl (fun _ => 0)))] := hD
  refine lv_aload_n hx hb d_F_init_13 rfl (lv_at hl 0 rfl) ?_
  refine lv_bipush (v := 8) hx hb d_F_init_14 (by decide) ?_
  refine ki_newa (atype := .int) (cA := aC 0) (a0 := (8, .inl (fun i => if i < 0 then nI (2 * i) else 0))) (N' := 8) (h := sz + 1) hx hb (hg _ ac_int) (hK.2 0 _ rfl).2 hP hD hS (Nat.succ_le_of_lt (hP 1 _ rfl).lt) (by omega) (Or.inr (by omega)) (fill_ha (aC 0) 8 (fun i => nI (2 * i))) (by decide) (by decide) (by decide) (Nat.le_of_ble_eq_true rfl) (Nat.le_of_ble_eq_true rfl) d_F_init_16 (fun H hP hD hS => ?_)
  have hP : va_P (dC, dI) clsx [(h0, .inr (1, [.ref sz, .null, .null])), (sz, .inl (aC 1, 256, .inl (fun _ => 0))), (sz + 1, .inl (aC 0, 8, .inl (fun i => if i < 0 then nI (2 * i) else 0)))] H := hP
  have hD : va_D (kA h0 sz) [(h0, .inr (1, [.ref sz, .null, .null])), (sz, .inl (aC 1, 256, .inl (fun _ => 0))), (sz + 1, .inl (aC 0, 8, .inl (fun i => if i < 0 then nI (2 * i) else 0)))] := hD
  refine va_putF (D := (dC, dI)) (ci := 1) (v := .ref (sz + 1)) (ty := .array .int) (C := R_F) (T := T_F) (N := 3) hx hb hg uw_F ty_F tk_F nm_F hown hK hP hD hS 0 rfl rfl 1 (by decide) (hg _ fl_F_15) (fun _ h9 => h9) rfl hin rfl (by decide +kernel) rfl rfl (Nat.le_of_ble_eq_true rfl) d_F_init_18 (fun H locs hP hD hS => ?_)
  have hP : va_P (dC, dI) clsx [(h0, .inr (1, [.ref sz, .ref (sz + 1), .null])), (sz, .inl (aC 1, 256, .inl (fun _ => 0))), (sz + 1, .inl (aC 0, 8, .inl (fun i => if i < 0 then nI (2 * i) else 0)))] H := hP
  have hD : va_D (kA h0 sz) [(h0, .inr (1, [.ref sz, .ref (sz + 1), .null])), (sz, .inl (aC 1, 256, .inl (fun _ => 0))), (sz + 1, .inl (aC 0, 8, .inl (fun i => if i < 0 then nI (2 * i) else 0)))] := hD
  refine lv_aload_n hx hb d_F_init_21 rfl (lv_at hl 0 rfl) ?_
  refine lv_bipush (v := 8) hx hb d_F_init_22 (by decide) ?_
  refine ki_newa (atype := .int) (cA := aC 0) (a0 := (8, .inl (fun _ => 0))) (N' := 8) (h := sz + 2) hx hb (hg _ ac_int) (hK.2 0 _ rfl).2 hP hD hS (Nat.succ_le_of_lt (hP 2 _ rfl).lt) (by omega) (Or.inr (by omega)) (fill_hb (aC 0) 8) (by decide) (by decide) (by decide) (Nat.le_of_ble_eq_true rfl) (Nat.le_of_ble_eq_true rfl) d_F_init_24 (fun H hP hD hS => ?_)
  have hP : va_P (dC, dI) clsx [(h0, .inr (1, [.ref sz, .ref (sz + 1), .null])), (sz, .inl (aC 1, 256, .inl (fun _ => 0))), (sz + 1, .inl (aC 0, 8, .inl (fun i => if i < 0 then nI (2 * i) else 0))), (sz + 2, .inl (aC 0, 8, .inl (fun _ => 0)))] H := hP
  have hD : va_D (kA h0 sz) [(h0, .inr (1, [.ref sz, .ref (sz + 1), .null])), (sz, .inl (aC 1, 256, .inl (fun _ => 0))), (sz + 1, .inl (aC 0, 8, .inl (fun i => if i < 0 then nI (2 * i) else 0))), (sz + 2, .inl (aC 0, 8, .inl (fun _ => 0)))] := hD
  refine va_putF (D := (dC, dI)) (ci := 1) (v := .ref (sz + 2)) (ty := .array .int) (C := R_F) (T := T_F) (N := 3) hx hb hg uw_F ty_F tk_F nm_F hown hK hP hD hS 0 rfl rfl 2 (by decide) (hg _ fl_F_19) (fun _ h9 => h9) rfl hin rfl (by decide +kernel) rfl rfl (Nat.le_of_ble_eq_true rfl) d_F_init_26 (fun H locs hP hD hS => ?_)
  have hP : va_P (dC, dI) clsx [(h0, .inr (1, [.ref sz, .ref (sz + 1), .ref (sz + 2)])), (sz, .inl (aC 1, 256, .inl (fun _ => 0))), (sz + 1, .inl (aC 0, 8, .inl (fun i => if i < 0 then nI (2 * i) else 0))), (sz + 2, .inl (aC 0, 8, .inl (fun _ => 0)))] H := hP
  have hD : va_D (kA h0 sz) [(h0, .inr (1, [.ref sz, .ref (sz + 1), .ref (sz + 2)])), (sz, .inl (aC 1, 256, .inl (fun _ => 0))), (sz + 1, .inl (aC 0, 8, .inl (fun i => if i < 0 then nI (2 * i) else 0))), (sz + 2, .inl (aC 0, 8, .inl (fun _ => 0)))] := hD
  refine lv_iconst (v := 0) hx hb d_F_init_29 (by decide) ?_
  refine lv_istore_n (lv' := [(1, .int (nI 0)), (0, .ref h0)]) hx hb d_F_init_30 rfl hl (by decide) rfl (fun ls hl => ?_)
  exact kl_F_init l dC dI aC h0 sz  ⟨hx, hb, hr, hml, hown, hts, hlocks, hK, hX⟩ hsz 9 0 _ _ ls (by decide) (by decide) hP hD hS (lv_sub hl [1, 0] rfl)
