/-! printed by wip/whole/gen: D_tick -/
def f_D_tick_37 : Nat → fm_T → Nat → Int32 × fm_T
  | 0, mu, _ => (0, mu)
  | n + 1, mu, j => (if 3 ≤ (nI j) then (mu 0 4, mu) else (f_D_tick_37 n (f_D_sendSnapshot mu j) (j + 1)))
theorem e_D_tick_37 (n : Nat) (mu : fm_T) (j : Nat) : f_D_tick_37 (n + 1) mu j = (if 3 ≤ (nI j) then (mu 0 4, mu) else (f_D_tick_37 n (f_D_sendSnapshot mu j) (j + 1))) := rfl
set_option maxHeartbeats 4000000 in
set_option maxRecDepth 100000 in
theorem k_D_tick_37 (l : Launch) (dC : Nat → ClassId) (dI : Nat → Nat → Nat) (aC : Nat → ClassId) (b : Nat) {p : Program} {e : Env} {s : State} {m : MethodId} {args : Array Value} {below : List Frame} {meth : Method} {cd : Code} (hc : cx (dC, dI) (tysx aC) (XC b) w_D_tick b_D_tick R_D 2 (some .int) p s m args meth cd) : ∀ (n : Nat) (mu : fm_T) (j : Nat) (hj : j ≤ 3) (hn : 3 < j + n) (hI : SafC mu) (H : Heap) (locs : List Loc) (ls : Array Slot) (F : Int32 × fm_T) (hP : va_P (dC, dI) clsx (fm_w (LC aC b) b 99 mu) H) (hS : va_S (fm_A b 99) s.heap H locs) (hl : lv_has ls 2 [(0, .ref (b + 0)), (1, .int (nI j))]) (hf : F = f_D_tick_37 n mu j), W p l e { frames := 6, cells := 0, slots := 0, locals := 136 } s m args below meth cd H locs 0 0 (MQ below (va_Qi (fun r u => r = F.1 ∧ u = F.2) (fm_B (dC, dI) clsx (tysx aC) (LC aC b) b 99) (fm_A b 99)) args s 0 0 (fm_A b 99)) (F0 m 37 ls []) := by
  obtain ⟨hx, hb, hr, hml, hown, hts, hlocks, hK, hX⟩ := hc
  have hg : ∀ w ∈ gtbl, w.before args s = true := fun w h => hts w (List.mem_cons_of_mem _ h)
  intro n
  induction n with
  | zero =>
    intro mu j hj hn hI H locs ls F hP hS hl hf
    exfalso
    omega
  | succ n ih =>
    intro mu j hj hn hI H locs ls F hP hS hl hf
    have hf := hf.trans (e_D_tick_37 n mu j)
    refine lv_iload_n hx hb d_D_tick_37 rfl (lv_at hl 1 rfl) ?_
    refine lv_iconst (v := 3) hx hb d_D_tick_38 (by decide) ?_
    refine lv_icmp_ge (tgt := 53) hx hb d_D_tick_39 rfl (fun h39 => ?_) (fun h39 => ?_)
    · have hf := hf.trans (if_pos h39)
      refine lv_aload_n hx hb d_D_tick_53 rfl (lv_at hl 0 rfl) ?_
      refine fm_get (C := R_D) (T := T_D) (n := 5) (ci := 0) hx hb hg uw_D hown hK hP (0) (by decide) (lc_D aC b _) rfl 4 (by decide) (hg _ fl_D_43) (fun _ h9 => h9) rfl d_D_tick_54 ?_
      exact rw_iret hx hb hr hlocks hK hP hS hf d_D_tick_57
    · have hf := hf.trans (if_neg h39)
      have hj3 : j < 3 := lp_lt rfl hj (by decide) h39
      refine lv_aload_n hx hb d_D_tick_42 rfl (lv_at hl 0 rfl) ?_
      refine lv_iload_n hx hb d_D_tick_43 rfl (lv_at hl 1 rfl) ?_
      refine fm_callv (va_runV (As := [.int (nI j)]) (rest := []) ⟨hx, hb, hml, hown, hts⟩ (c_D_sendSnapshot l dC dI aC b mu j hj3 hI) (cw_V (fun w h => List.mem_cons_of_mem _ h) hts kv_D_sendSnapshot ml_D_113 ⟨Nat.le_of_ble_eq_true rfl, Nat.le_of_ble_eq_true rfl⟩ rfl rfl) (fm_preV XC_bl (XC_mv hX hS) hK hP (0) (by decide) (lc_D aC b _) rfl) rfl rfl hl.1 rfl (lv_room (Nat.le_of_ble_eq_true rfl)) d_D_tick_44 ⟨Nat.zero_le _, Nat.zero_le _⟩) hS (fun _ h => h) (fun u H locs hp hP hS => ?_)
      subst hp
      refine lv_iinc (k := 1) (v := (nI (j + 1))) (lv' := [(1, .int (nI (j + 1))), (0, .ref (b + 0))]) hx hb d_D_tick_47 hl rfl (nI_1 _) (by decide) rfl (fun ls hl => ?_)
      refine lv_goto (tgt := 37) hx hb d_D_tick_50 rfl ?_
      exact ih (f_D_sendSnapshot mu j) (j + 1) (by omega) (by omega) (saf_send hI hj3) _ _ ls _ hP hS (lv_sub hl [1, 0] rfl) hf
def f_D_tick_12 : Nat → fm_T → Nat → Int32 × fm_T
  | 0, mu, _ => (0, mu)
  | n + 1, mu, j => (if 3 ≤ (nI j) then (f_D_tick_37 4 (f_F_moveDrifters mu) 0) else (f_D_tick_12 n (f_D_doNextCommand mu j) (j + 1)))
theorem e_D_tick_12 (n : Nat) (mu : fm_T) (j : Nat) : f_D_tick_12 (n + 1) mu j = (if 3 ≤ (nI j) then (f_D_tick_37 4 (f_F_moveDrifters mu) 0) else (f_D_tick_12 n (f_D_doNextCommand mu j) (j + 1))) := rfl
set_option maxHeartbeats 4000000 in
set_option maxRecDepth 100000 in
theorem k_D_tick_12 (l : Launch) (dC : Nat → ClassId) (dI : Nat → Nat → Nat) (aC : Nat → ClassId) (b : Nat) {p : Program} {e : Env} {s : State} {m : MethodId} {args : Array Value} {below : List Frame} {meth : Method} {cd : Code} (hc : cx (dC, dI) (tysx aC) (XC b) w_D_tick b_D_tick R_D 2 (some .int) p s m args meth cd) : ∀ (n : Nat) (mu : fm_T) (j : Nat) (hj : j ≤ 3) (hn : 3 < j + n) (hI : SafC mu) (H : Heap) (locs : List Loc) (ls : Array Slot) (F : Int32 × fm_T) (hP : va_P (dC, dI) clsx (fm_w (LC aC b) b 99 mu) H) (hS : va_S (fm_A b 99) s.heap H locs) (hl : lv_has ls 2 [(0, .ref (b + 0)), (1, .int (nI j))]) (hf : F = f_D_tick_12 n mu j), W p l e { frames := 6, cells := 0, slots := 0, locals := 136 } s m args below meth cd H locs 0 0 (MQ below (va_Qi (fun r u => r = F.1 ∧ u = F.2) (fm_B (dC, dI) clsx (tysx aC) (LC aC b) b 99) (fm_A b 99)) args s 0 0 (fm_A b 99)) (F0 m 12 ls []) := by
  obtain ⟨hx, hb, hr, hml, hown, hts, hlocks, hK, hX⟩ := hc
  have hg : ∀ w ∈ gtbl, w.before args s = true := fun w h => hts w (List.mem_cons_of_mem _ h)
  intro n
  induction n with
  | zero =>
    intro mu j hj hn hI H locs ls F hP hS hl hf
    exfalso
    omega
  | succ n ih =>
    intro mu j hj hn hI H locs ls F hP hS hl hf
    have hf := hf.trans (e_D_tick_12 n mu j)
    refine lv_iload_n hx hb d_D_tick_12 rfl (lv_at hl 1 rfl) ?_
    refine lv_iconst (v := 3) hx hb d_D_tick_13 (by decide) ?_
    refine lv_icmp_ge (tgt := 28) hx hb d_D_tick_14 rfl (fun h14 => ?_) (fun h14 => ?_)
    · have hf := hf.trans (if_pos h14)
      refine lv_aload_n hx hb d_D_tick_28 rfl (lv_at hl 0 rfl) ?_
      refine fm_get (C := R_D) (T := T_D) (n := 5) (ci := 0) hx hb hg uw_D hown hK hP (0) (by decide) (lc_D aC b _) rfl 0 (by decide) (hg _ fl_D_10) (fun _ h9 => h9) rfl d_D_tick_29 ?_
      refine fm_callv (va_runV (As := []) (rest := []) ⟨hx, hb, hml, hown, hts⟩ (c_F_moveDrifters l dC dI aC b mu hI) (cw_V (fun w h => List.mem_cons_of_mem _ h) hts kv_F_moveDrifters ml_D_110 ⟨Nat.le_of_ble_eq_true rfl, Nat.le_of_ble_eq_true rfl⟩ rfl rfl) (fm_preV XC_bl (XC_mv hX hS) hK hP (1) (by decide) (lc_F aC b _) rfl) rfl rfl hl.1 rfl (lv_room (Nat.le_of_ble_eq_true rfl)) d_D_tick_32 ⟨Nat.zero_le _, Nat.zero_le _⟩) hS (fun _ h => h) (fun u H locs hp hP hS => ?_)
      subst hp
      refine lv_iconst (v := 0) hx hb d_D_tick_35 (by decide) ?_
      refine lv_istore_n (lv' := [(1, .int 0), (0, .ref (b + 0))]) hx hb d_D_tick_36 rfl hl (by decide) rfl (fun ls hl => ?_)
      exact k_D_tick_37 l dC dI aC b ⟨hx, hb, hr, hml, hown, hts, hlocks, hK, hX⟩ 4 (f_F_moveDrifters mu) 0 (by decide) (by decide) (saf_move hI) _ _ ls _ hP hS (lv_sub hl [1, 0] rfl) hf
    · have hf := hf.trans (if_neg h14)
      have hj3 : j < 3 := lp_lt rfl hj (by decide) h14
      refine lv_aload_n hx hb d_D_tick_17 rfl (lv_at hl 0 rfl) ?_
      refine lv_iload_n hx hb d_D_tick_18 rfl (lv_at hl 1 rfl) ?_
      refine fm_callv (va_runV (As := [.int (nI j)]) (rest := []) ⟨hx, hb, hml, hown, hts⟩ (c_D_doNextCommand l dC dI aC b mu j hj3 hI) (cw_V (fun w h => List.mem_cons_of_mem _ h) hts kv_D_doNextCommand ml_D_107 ⟨Nat.le_of_ble_eq_true rfl, Nat.le_of_ble_eq_true rfl⟩ rfl rfl) (fm_preV XC_bl (XC_mv hX hS) hK hP (0) (by decide) (lc_D aC b _) rfl) rfl rfl hl.1 rfl (lv_room (Nat.le_of_ble_eq_true rfl)) d_D_tick_19 ⟨Nat.zero_le _, Nat.zero_le _⟩) hS (fun _ h => h) (fun u H locs hp hP hS => ?_)
      subst hp
      refine lv_iinc (k := 1) (v := (nI (j + 1))) (lv' := [(1, .int (nI (j + 1))), (0, .ref (b + 0))]) hx hb d_D_tick_22 hl rfl (nI_1 _) (by decide) rfl (fun ls hl => ?_)
      refine lv_goto (tgt := 12) hx hb d_D_tick_25 rfl ?_
      exact ih (f_D_doNextCommand mu j) (j + 1) (by omega) (by omega) (saf_doNext hI hj3) _ _ ls _ hP hS (lv_sub hl [1, 0] rfl) hf
def f_D_tick (mu : fm_T) : Int32 × fm_T := (f_D_tick_12 4 (fm_up mu 0 4 ((mu 0 4) + 1)) 0)
theorem e_D_tick (mu : fm_T) : f_D_tick mu = (f_D_tick_12 4 (fm_up mu 0 4 ((mu 0 4) + 1)) 0) := rfl
set_option maxHeartbeats 4000000 in
set_option maxRecDepth 100000 in
theorem k_D_tick (l : Launch) (dC : Nat → ClassId) (dI : Nat → Nat → Nat) (aC : Nat → ClassId) (b : Nat) {p : Program} {e : Env} {s : State} {m : MethodId} {args : Array Value} {below : List Frame} {meth : Method} {cd : Code} (hc : cx (dC, dI) (tysx aC) (XC b) w_D_tick b_D_tick R_D 2 (some .int) p s m args meth cd) (mu : fm_T)  (hI : SafC mu) (H : Heap) (locs : List Loc) (ls : Array Slot) (F : Int32 × fm_T) (hP : va_P (dC, dI) clsx (fm_w (LC aC b) b 99 mu) H) (hS : va_S (fm_A b 99) s.heap H locs) (hl : lv_has ls 2 [(0, .ref (b + 0))]) (hf : F = f_D_tick mu) : W p l e { frames := 6, cells := 0, slots := 0, locals := 136 } s m args below meth cd H locs 0 0 (MQ below (va_Qi (fun r u => r = F.1 ∧ u = F.2) (fm_B (dC, dI) clsx (tysx aC) (LC aC b) b 99) (fm_A b 99)) args s 0 0 (fm_A b 99)) (F0 m 0 ls []) := by
  obtain ⟨hx, hb, hr, hml, hown, hts, hlocks, hK, hX⟩ := hc
  have hg : ∀ w ∈ gtbl, w.before args s = true := fun w h => hts w (List.mem_cons_of_mem _ h)
  have hf := hf.trans (e_D_tick mu)
  refine lv_aload_n hx hb d_D_tick_0 rfl (lv_at hl 0 rfl) ?_
  refine lv_dup hx hb d_D_tick_1 rfl ?_
  refine fm_get (C := R_D) (T := T_D) (n := 5) (ci := 0) hx hb hg uw_D hown hK hP (0) (by decide) (lc_D aC b _) rfl 4 (by decide) (hg _ fl_D_43) (fun _ h9 => h9) rfl d_D_tick_2 ?_
  refine lv_iconst (v := 1) hx hb d_D_tick_5 (by decide) ?_
  refine lv_iadd hx hb d_D_tick_6 ?_
  refine fm_put (v := .int ((mu 0 4) + 1)) (x := ((mu 0 4) + 1)) (ty := .int) (C := R_D) (T := T_D) (n := 5) (ci := 0) hx hb hg uw_D ty_D tk_D nm_D hown hK (fun _ h => h) hP hS (0) (by decide) (lc_D aC b _) rfl 4 (by decide) (hg _ fl_D_43) (fun _ h9 => h9) rfl (by decide +kernel) rfl rfl (Nat.le_of_ble_eq_true rfl) (lc_D aC b _) d_D_tick_7 (fun H locs hP hS => ?_)
  refine lv_iconst (v := 0) hx hb d_D_tick_10 (by decide) ?_
  refine lv_istore_n (lv' := [(1, .int 0), (0, .ref (b + 0))]) hx hb d_D_tick_11 rfl hl (by decide) rfl (fun ls hl => ?_)
  exact k_D_tick_12 l dC dI aC b ⟨hx, hb, hr, hml, hown, hts, hlocks, hK, hX⟩ 4 (fm_up mu 0 4 ((mu 0 4) + 1)) 0 (by decide) (by decide) (saf_up hI (ok_0 _ _)) _ _ ls _ hP hS (lv_sub hl [1, 0] rfl) hf
set_option maxHeartbeats 4000000 in
set_option maxRecDepth 100000 in
theorem c_D_tick (l : Launch) (dC : Nat → ClassId) (dI : Nat → Nat → Nat) (aC : Nat → ClassId) (b : Nat) (mu : fm_T)  (hI : SafC mu) : Met l y_D_tick w_D_tick { frames := 6, cells := 0, slots := 0, locals := 136 } (va_Pc [.ref (b + 0)] (fm_C (dC, dI) clsx (tysx aC) (LC aC b) b 99 (XC b) mu)) (va_Qi (fun r u => r = (f_D_tick mu).1 ∧ u = (f_D_tick mu).2) (fm_B (dC, dI) clsx (tysx aC) (LC aC b) b 99) (fm_A b 99)) 0 0 (fm_A b 99) := by
  refine Met.ofW (cc := b_D_tick) (maxL := 2) (ret := (some .int)) (by decide) rfl ?_
  intro p e s m args below meth cd s₁ B hml hv
  obtain ⟨rfl, hP, hK, hX⟩ := hv
  have hl := lv_entry ([.ref (b + 0)]) (n := 2) (Nat.le_of_ble_eq_true rfl)
  rw [lg_entry_eq]
  generalize (lg_sl ([.ref (b + 0)]) ++ List.replicate (2 - (lg_sl ([.ref (b + 0)])).length) Slot.unset).toArray = ls at hl ⊢
  exact k_D_tick l dC dI aC b ⟨B.exec, B.bytes, B.returns, hml, findClass_of_methodNamed B.named, atoms_spec (ws := w_D_tick) B.pre, B.notSynchronized, hK, hX⟩ mu hI _ _ ls _ hP va_S.rf hl rfl
