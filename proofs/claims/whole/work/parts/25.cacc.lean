/-! printed by wip/whole/gen: A_heldCommands A_takeNextCommand A_readReport A_remember A_baseAt A_snapshotSize A_writeSnapshot -/
def f_A_heldCommands_4 : Nat → fm_T → Nat → Int32 → Nat → Int32
  | 0, _, _, _, _ => 0
  | n + 1, mu, ci, sm, j => (if 16 ≤ (nI j) then sm else (if (mu (85 + 6 * ci) j) = (-1) then (f_A_heldCommands_4 n mu ci sm (j + 1)) else (f_A_heldCommands_4 n mu ci (sm + 1) (j + 1))))
theorem e_A_heldCommands_4 (n : Nat) (mu : fm_T) (ci : Nat) (sm : Int32) (j : Nat) : f_A_heldCommands_4 (n + 1) mu ci sm j = (if 16 ≤ (nI j) then sm else (if (mu (85 + 6 * ci) j) = (-1) then (f_A_heldCommands_4 n mu ci sm (j + 1)) else (f_A_heldCommands_4 n mu ci (sm + 1) (j + 1)))) := rfl
set_option maxHeartbeats 4000000 in
set_option maxRecDepth 100000 in
theorem k_A_heldCommands_4 (l : Launch) (dC : Nat → ClassId) (dI : Nat → Nat → Nat) (aC : Nat → ClassId) (b : Nat) {p : Program} {e : Env} {s : State} {m : MethodId} {args : Array Value} {below : List Frame} {meth : Method} {cd : Code} (hc : cx (dC, dI) (tysx aC) (XC b) w_A_heldCommands b_A_heldCommands R_A 3 (some .int) p s m args meth cd) : ∀ (n : Nat) (mu : fm_T) (ci : Nat) (sm : Int32) (j : Nat) (hci : ci < 3) (hj : j ≤ 16) (hn : 16 < j + n) (ls : Array Slot) (F : Int32) (hP : va_P (dC, dI) clsx (fm_w (LC aC b) b 99 mu) s.heap) (hl : lv_has ls 3 [(0, .ref (b + (84 + 6 * ci))), (1, .int sm), (2, .int (nI j))]) (hf : F = f_A_heldCommands_4 n mu ci sm j), W p l e { frames := 0, cells := 0, slots := 0, locals := 0 } s m args below meth cd s.heap [] 0 0 (MQ below (QcRead F) args s 0 0 (fun _ => False)) (F0 m 4 ls []) := by
  obtain ⟨hx, hb, hr, hml, hown, hts, hlocks, hK, hX⟩ := hc
  have hg : ∀ w ∈ gtbl, w.before args s = true := fun w h => hts w (List.mem_cons_of_mem _ h)
  have hS : va_S (fm_A b 99) s.heap s.heap [] := va_S.rf
  intro n
  induction n with
  | zero =>
    intro mu ci sm j hci hj hn ls F hP hl hf
    exfalso
    omega
  | succ n ih =>
    intro mu ci sm j hci hj hn ls F hP hl hf
    have hf := hf.trans (e_A_heldCommands_4 n mu ci sm j)
    refine lv_iload_n hx hb d_A_heldCommands_4 rfl (lv_at hl 2 rfl) ?_
    refine lv_bipush (v := 16) hx hb d_A_heldCommands_5 (by decide) ?_
    refine lv_icmp_ge (tgt := 29) hx hb d_A_heldCommands_7 rfl (fun h7 => ?_) (fun h7 => ?_)
    · have hf := hf.trans (if_pos h7)
      refine lv_iload_n hx hb d_A_heldCommands_29 rfl (lv_at hl 1 rfl) ?_
      exact ro_iret hx hb hr hlocks hf d_A_heldCommands_30
    · have hf := hf.trans (if_neg h7)
      have hj8 : j < 16 := lp_lt rfl hj (by decide) h7
      refine lv_aload_n hx hb d_A_heldCommands_10 rfl (lv_at hl 0 rfl) ?_
      refine fm_get (C := R_A) (T := T_A) (n := 4) (ci := 5) hx hb hg uw_A hown hK hP (84 + 6 * ci) (lc_ltA hci) (lc_A aC b _ hci) rfl 0 (by decide) (hg _ fl_A_9) (fun _ h9 => h9) rfl d_A_heldCommands_11 ?_
      refine lv_iload_n hx hb d_A_heldCommands_14 rfl (lv_at hl 2 rfl) ?_
      refine fm_iald hx hb hK hP (85 + 6 * ci) (lc_ltAhe hci) 0 (lc_Ahe aC b _ hci) rfl j rfl (by omega) (by decide) d_A_heldCommands_15 ?_
      refine lv_iconst (v := (-1)) hx hb d_A_heldCommands_16 (by decide) ?_
      refine lv_icmp_eq (tgt := 23) hx hb d_A_heldCommands_17 rfl (fun h17 => ?_) (fun h17 => ?_)
      · have hf := hf.trans (if_pos h17)
        refine lv_iinc (k := 2) (v := (nI (j + 1))) (lv' := [(2, .int (nI (j + 1))), (0, .ref (b + (84 + 6 * ci))), (1, .int sm)]) hx hb d_A_heldCommands_23 hl rfl (nI_1 _) (by decide) rfl (fun ls hl => ?_)
        refine lv_goto (tgt := 4) hx hb d_A_heldCommands_26 rfl ?_
        exact ih mu ci sm (j + 1) hci (by omega) (by omega)  ls _ hP  (lv_sub hl [1, 2, 0] rfl) hf
      · have hf := hf.trans (if_neg h17)
        refine lv_iinc (k := 1) (v := (sm + 1)) (lv' := [(1, .int (sm + 1)), (0, .ref (b + (84 + 6 * ci))), (2, .int (nI j))]) hx hb d_A_heldCommands_20 hl rfl rfl (by decide) rfl (fun ls hl => ?_)
        refine lv_iinc (k := 2) (v := (nI (j + 1))) (lv' := [(2, .int (nI (j + 1))), (1, .int (sm + 1)), (0, .ref (b + (84 + 6 * ci)))]) hx hb d_A_heldCommands_23 hl rfl (nI_1 _) (by decide) rfl (fun ls hl => ?_)
        refine lv_goto (tgt := 4) hx hb d_A_heldCommands_26 rfl ?_
        exact ih mu ci (sm + 1) (j + 1) hci (by omega) (by omega)  ls _ hP  (lv_sub hl [2, 1, 0] rfl) hf
def f_A_heldCommands (mu : fm_T) (ci : Nat) : Int32 := (f_A_heldCommands_4 17 mu ci 0 0)
theorem e_A_heldCommands (mu : fm_T) (ci : Nat) : f_A_heldCommands mu ci = (f_A_heldCommands_4 17 mu ci 0 0) := rfl
set_option maxHeartbeats 4000000 in
set_option maxRecDepth 100000 in
theorem k_A_heldCommands (l : Launch) (dC : Nat → ClassId) (dI : Nat → Nat → Nat) (aC : Nat → ClassId) (b : Nat) {p : Program} {e : Env} {s : State} {m : MethodId} {args : Array Value} {below : List Frame} {meth : Method} {cd : Code} (hc : cx (dC, dI) (tysx aC) (XC b) w_A_heldCommands b_A_heldCommands R_A 3 (some .int) p s m args meth cd) (mu : fm_T) (ci : Nat) (hci : ci < 3) (ls : Array Slot) (F : Int32) (hP : va_P (dC, dI) clsx (fm_w (LC aC b) b 99 mu) s.heap) (hl : lv_has ls 3 [(0, .ref (b + (84 + 6 * ci)))]) (hf : F = f_A_heldCommands mu ci) : W p l e { frames := 0, cells := 0, slots := 0, locals := 0 } s m args below meth cd s.heap [] 0 0 (MQ below (QcRead F) args s 0 0 (fun _ => False)) (F0 m 0 ls []) := by
  obtain ⟨hx, hb, hr, hml, hown, hts, hlocks, hK, hX⟩ := hc
  have hg : ∀ w ∈ gtbl, w.before args s = true := fun w h => hts w (List.mem_cons_of_mem _ h)
  have hS : va_S (fm_A b 99) s.heap s.heap [] := va_S.rf
  have hf := hf.trans (e_A_heldCommands mu ci)
  refine lv_iconst (v := 0) hx hb d_A_heldCommands_0 (by decide) ?_
  refine lv_istore_n (lv' := [(1, .int 0), (0, .ref (b + (84 + 6 * ci)))]) hx hb d_A_heldCommands_1 rfl hl (by decide) rfl (fun ls hl => ?_)
  refine lv_iconst (v := 0) hx hb d_A_heldCommands_2 (by decide) ?_
  refine lv_istore_n (lv' := [(2, .int 0), (1, .int 0), (0, .ref (b + (84 + 6 * ci)))]) hx hb d_A_heldCommands_3 rfl hl (by decide) rfl (fun ls hl => ?_)
  exact k_A_heldCommands_4 l dC dI aC b ⟨hx, hb, hr, hml, hown, hts, hlocks, hK, hX⟩ 17 mu ci 0 0 hci (by decide) (by decide)  ls _ hP  (lv_sub hl [2, 1, 0] rfl) hf
set_option maxHeartbeats 4000000 in
set_option maxRecDepth 100000 in
theorem c_A_heldCommands (l : Launch) (dC : Nat → ClassId) (dI : Nat → Nat → Nat) (aC : Nat → ClassId) (b : Nat) (mu : fm_T) (ci : Nat) (hci : ci < 3) : Met l y_A_heldCommands w_A_heldCommands { frames := 0, cells := 0, slots := 0, locals := 0 } (va_Pc [.ref (b + (84 + 6 * ci))] (fm_C (dC, dI) clsx (tysx aC) (LC aC b) b 99 (XC b) mu)) (QcRead (f_A_heldCommands mu ci)) 0 0 (fun _ => False) := by
  refine Met.ofW (cc := b_A_heldCommands) (maxL := 3) (ret := (some .int)) (by decide) rfl ?_
  intro p e s m args below meth cd s₁ B hml hv
  obtain ⟨rfl, hP, hK, hX⟩ := hv
  have hl := lv_entry ([.ref (b + (84 + 6 * ci))]) (n := 3) (Nat.le_of_ble_eq_true rfl)
  rw [lg_entry_eq]
  generalize (lg_sl ([.ref (b + (84 + 6 * ci))]) ++ List.replicate (3 - (lg_sl ([.ref (b + (84 + 6 * ci))])).length) Slot.unset).toArray = ls at hl ⊢
  exact k_A_heldCommands l dC dI aC b ⟨B.exec, B.bytes, B.returns, hml, findClass_of_methodNamed B.named, atoms_spec (ws := w_A_heldCommands) B.pre, B.notSynchronized, hK, hX⟩ mu ci hci ls _ hP hl rfl
def f_A_takeNextCommand (mu : fm_T) (ci : Nat) : Int32 × fm_T := (if (mu (85 + 6 * ci) ((((mu (84 + 6 * ci) 2) + 1) &&& 15).toNatClampNeg)) = (-1) then (mu (85 + 6 * ci) ((((mu (84 + 6 * ci) 2) + 1) &&& 15).toNatClampNeg), mu) else (mu (85 + 6 * ci) ((((mu (84 + 6 * ci) 2) + 1) &&& 15).toNatClampNeg), fm_up (fm_up mu (85 + 6 * ci) ((((mu (84 + 6 * ci) 2) + 1) &&& 15).toNatClampNeg) (-1)) (84 + 6 * ci) 2 (((fm_up mu (85 + 6 * ci) ((((mu (84 + 6 * ci) 2) + 1) &&& 15).toNatClampNeg) (-1)) (84 + 6 * ci) 2) + 1)))
theorem e_A_takeNextCommand (mu : fm_T) (ci : Nat) : f_A_takeNextCommand mu ci = (if (mu (85 + 6 * ci) ((((mu (84 + 6 * ci) 2) + 1) &&& 15).toNatClampNeg)) = (-1) then (mu (85 + 6 * ci) ((((mu (84 + 6 * ci) 2) + 1) &&& 15).toNatClampNeg), mu) else (mu (85 + 6 * ci) ((((mu (84 + 6 * ci) 2) + 1) &&& 15).toNatClampNeg), fm_up (fm_up mu (85 + 6 * ci) ((((mu (84 + 6 * ci) 2) + 1) &&& 15).toNatClampNeg) (-1)) (84 + 6 * ci) 2 (((fm_up mu (85 + 6 * ci) ((((mu (84 + 6 * ci) 2) + 1) &&& 15).toNatClampNeg) (-1)) (84 + 6 * ci) 2) + 1))) := rfl
set_option maxHeartbeats 4000000 in
set_option maxRecDepth 100000 in
theorem k_A_takeNextCommand (l : Launch) (dC : Nat → ClassId) (dI : Nat → Nat → Nat) (aC : Nat → ClassId) (b : Nat) {p : Program} {e : Env} {s : State} {m : MethodId} {args : Array Value} {below : List Frame} {meth : Method} {cd : Code} (hc : cx (dC, dI) (tysx aC) (XC b) w_A_takeNextCommand b_A_takeNextCommand R_A 3 (some .int) p s m args meth cd) (mu : fm_T) (ci : Nat) (hci : ci < 3) (H : Heap) (locs : List Loc) (ls : Array Slot) (F : Int32 × fm_T) (hP : va_P (dC, dI) clsx (fm_w (LC aC b) b 99 mu) H) (hS : va_S (fm_A b 99) s.heap H locs) (hl : lv_has ls 3 [(0, .ref (b + (84 + 6 * ci)))]) (hf : F = f_A_takeNextCommand mu ci) : W p l e { frames := 0, cells := 0, slots := 0, locals := 0 } s m args below meth cd H locs 0 0 (MQ below (va_Qi (fun r u => r = F.1 ∧ u = F.2) (fm_B (dC, dI) clsx (tysx aC) (LC aC b) b 99) (fm_A b 99)) args s 0 0 (fm_A b 99)) (F0 m 0 ls []) := by
  obtain ⟨hx, hb, hr, hml, hown, hts, hlocks, hK, hX⟩ := hc
  have hg : ∀ w ∈ gtbl, w.before args s = true := fun w h => hts w (List.mem_cons_of_mem _ h)
  have hf := hf.trans (e_A_takeNextCommand mu ci)
  refine lv_aload_n hx hb d_A_takeNextCommand_0 rfl (lv_at hl 0 rfl) ?_
  refine fm_get (C := R_A) (T := T_A) (n := 4) (ci := 5) hx hb hg uw_A hown hK hP (84 + 6 * ci) (lc_ltA hci) (lc_A aC b _ hci) rfl 2 (by decide) (hg _ fl_A_18) (fun _ h9 => h9) rfl d_A_takeNextCommand_1 ?_
  refine lv_iconst (v := 1) hx hb d_A_takeNextCommand_4 (by decide) ?_
  refine lv_iadd hx hb d_A_takeNextCommand_5 ?_
  refine lv_bipush (v := 15) hx hb d_A_takeNextCommand_6 (by decide) ?_
  refine lv_iand hx hb d_A_takeNextCommand_8 ?_
  refine lv_istore_n (lv' := [(1, .int (((mu (84 + 6 * ci) 2) + 1) &&& 15)), (0, .ref (b + (84 + 6 * ci)))]) hx hb d_A_takeNextCommand_9 rfl hl (by decide) rfl (fun ls hl => ?_)
  refine lv_aload_n hx hb d_A_takeNextCommand_10 rfl (lv_at hl 1 rfl) ?_
  refine fm_get (C := R_A) (T := T_A) (n := 4) (ci := 5) hx hb hg uw_A hown hK hP (84 + 6 * ci) (lc_ltA hci) (lc_A aC b _ hci) rfl 0 (by decide) (hg _ fl_A_9) (fun _ h9 => h9) rfl d_A_takeNextCommand_11 ?_
  refine lv_iload_n hx hb d_A_takeNextCommand_14 rfl (lv_at hl 0 rfl) ?_
  refine fm_iald hx hb hK hP (85 + 6 * ci) (lc_ltAhe hci) 0 (lc_Ahe aC b _ hci) rfl ((((mu (84 + 6 * ci) 2) + 1) &&& 15).toNatClampNeg) (vp_e (n := 16) (pk_andIn _ 4 (by decide) (by decide))) (vp_l (n := 16) (pk_andIn _ 4 (by decide) (by decide))) (by decide) d_A_takeNextCommand_15 ?_
  refine lv_istore_n (lv' := [(2, .int (mu (85 + 6 * ci) ((((mu (84 + 6 * ci) 2) + 1) &&& 15).toNatClampNeg))), (1, .int (((mu (84 + 6 * ci) 2) + 1) &&& 15)), (0, .ref (b + (84 + 6 * ci)))]) hx hb d_A_takeNextCommand_16 rfl hl (by decide) rfl (fun ls hl => ?_)
  refine lv_iload_n hx hb d_A_takeNextCommand_17 rfl (lv_at hl 0 rfl) ?_
  refine lv_iconst (v := (-1)) hx hb d_A_takeNextCommand_18 (by decide) ?_
  refine lv_icmp_eq (tgt := 39) hx hb d_A_takeNextCommand_19 rfl (fun h19 => ?_) (fun h19 => ?_)
  · have hf := hf.trans (if_pos h19)
    refine lv_iload_n hx hb d_A_takeNextCommand_39 rfl (lv_at hl 0 rfl) ?_
    exact rw_iret hx hb hr hlocks hK hP hS hf d_A_takeNextCommand_40
  · have hf := hf.trans (if_neg h19)
    refine lv_aload_n hx hb d_A_takeNextCommand_22 rfl (lv_at hl 2 rfl) ?_
    refine fm_get (C := R_A) (T := T_A) (n := 4) (ci := 5) hx hb hg uw_A hown hK hP (84 + 6 * ci) (lc_ltA hci) (lc_A aC b _ hci) rfl 0 (by decide) (hg _ fl_A_9) (fun _ h9 => h9) rfl d_A_takeNextCommand_23 ?_
    refine lv_iload_n hx hb d_A_takeNextCommand_26 rfl (lv_at hl 1 rfl) ?_
    refine lv_iconst (v := (-1)) hx hb d_A_takeNextCommand_27 (by decide) ?_
    refine fm_iast hx hb hK (fun _ h => h) hP hS (85 + 6 * ci) (lc_ltAhe hci) 0 (lc_Ahe aC b _ hci) rfl ((((mu (84 + 6 * ci) 2) + 1) &&& 15).toNatClampNeg) (vp_e (n := 16) (pk_andIn _ 4 (by decide) (by decide))) (vp_l (n := 16) (pk_andIn _ 4 (by decide) (by decide))) (by decide) (lc_Ahe aC b _ hci) d_A_takeNextCommand_28 (fun H locs hP hS => ?_)
    refine lv_aload_n hx hb d_A_takeNextCommand_29 rfl (lv_at hl 2 rfl) ?_
    refine lv_dup hx hb d_A_takeNextCommand_30 rfl ?_
    refine fm_get (C := R_A) (T := T_A) (n := 4) (ci := 5) hx hb hg uw_A hown hK hP (84 + 6 * ci) (lc_ltA hci) (lc_A aC b _ hci) rfl 2 (by decide) (hg _ fl_A_18) (fun _ h9 => h9) rfl d_A_takeNextCommand_31 ?_
    refine lv_iconst (v := 1) hx hb d_A_takeNextCommand_34 (by decide) ?_
    refine lv_iadd hx hb d_A_takeNextCommand_35 ?_
    refine fm_put (v := .int (((fm_up mu (85 + 6 * ci) ((((mu (84 + 6 * ci) 2) + 1) &&& 15).toNatClampNeg) (-1)) (84 + 6 * ci) 2) + 1)) (x := (((fm_up mu (85 + 6 * ci) ((((mu (84 + 6 * ci) 2) + 1) &&& 15).toNatClampNeg) (-1)) (84 + 6 * ci) 2) + 1)) (ty := .int) (C := R_A) (T := T_A) (n := 4) (ci := 5) hx hb hg uw_A ty_A tk_A nm_A hown hK (fun _ h => h) hP hS (84 + 6 * ci) (lc_ltA hci) (lc_A aC b _ hci) rfl 2 (by decide) (hg _ fl_A_18) (fun _ h9 => h9) rfl (by decide +kernel) rfl rfl (Nat.le_of_ble_eq_true rfl) (lc_A aC b _ hci) d_A_takeNextCommand_36 (fun H locs hP hS => ?_)
    refine lv_iload_n hx hb d_A_takeNextCommand_39 rfl (lv_at hl 0 rfl) ?_
    exact rw_iret hx hb hr hlocks hK hP hS hf d_A_takeNextCommand_40
set_option maxHeartbeats 4000000 in
set_option maxRecDepth 100000 in
theorem c_A_takeNextCommand (l : Launch) (dC : Nat → ClassId) (dI : Nat → Nat → Nat) (aC : Nat → ClassId) (b : Nat) (mu : fm_T) (ci : Nat) (hci : ci < 3) : Met l y_A_takeNextCommand w_A_takeNextCommand { frames := 0, cells := 0, slots := 0, locals := 0 } (va_Pc [.ref (b + (84 + 6 * ci))] (fm_C (dC, dI) clsx (tysx aC) (LC aC b) b 99 (XC b) mu)) (va_Qi (fun r u => r = (f_A_takeNextCommand mu ci).1 ∧ u = (f_A_takeNextCommand mu ci).2) (fm_B (dC, dI) clsx (tysx aC) (LC aC b) b 99) (fm_A b 99)) 0 0 (fm_A b 99) := by
  refine Met.ofW (cc := b_A_takeNextCommand) (maxL := 3) (ret := (some .int)) (by decide) rfl ?_
  intro p e s m args below meth cd s₁ B hml hv
  obtain ⟨rfl, hP, hK, hX⟩ := hv
  have hl := lv_entry ([.ref (b + (84 + 6 * ci))]) (n := 3) (Nat.le_of_ble_eq_true rfl)
  rw [lg_entry_eq]
  generalize (lg_sl ([.ref (b + (84 + 6 * ci))]) ++ List.replicate (3 - (lg_sl ([.ref (b + (84 + 6 * ci))])).length) Slot.unset).toArray = ls at hl ⊢
  exact k_A_takeNextCommand l dC dI aC b ⟨B.exec, B.bytes, B.returns, hml, findClass_of_methodNamed B.named, atoms_spec (ws := w_A_takeNextCommand) B.pre, B.notSynchronized, hK, hX⟩ mu ci hci _ _ ls _ hP va_S.rf hl rfl
def f_A_readReport_17 : Nat → fm_T → Nat → Nat → Nat → fm_T
  | 0, mu, _, _, _ => mu
  | n + 1, mu, ci, pi, j => (if 4 ≤ (nI j) then mu else (if (mu (7 + 3 * pi) 7) ≤ (nI j) then (f_A_readReport_17 n mu ci pi (j + 1)) else (if (((mu (7 + 3 * pi) 4) + 1) + (nI j)) ≤ (mu (84 + 6 * ci) 2) then (f_A_readReport_17 n mu ci pi (j + 1)) else (f_A_readReport_17 n (fm_up mu (85 + 6 * ci) (((((mu (7 + 3 * pi) 4) + 1) + (nI j)) &&& 15).toNatClampNeg) (mu (9 + 3 * pi) j)) ci pi (j + 1)))))
theorem e_A_readReport_17 (n : Nat) (mu : fm_T) (ci : Nat) (pi : Nat) (j : Nat) : f_A_readReport_17 (n + 1) mu ci pi j = (if 4 ≤ (nI j) then mu else (if (mu (7 + 3 * pi) 7) ≤ (nI j) then (f_A_readReport_17 n mu ci pi (j + 1)) else (if (((mu (7 + 3 * pi) 4) + 1) + (nI j)) ≤ (mu (84 + 6 * ci) 2) then (f_A_readReport_17 n mu ci pi (j + 1)) else (f_A_readReport_17 n (fm_up mu (85 + 6 * ci) (((((mu (7 + 3 * pi) 4) + 1) + (nI j)) &&& 15).toNatClampNeg) (mu (9 + 3 * pi) j)) ci pi (j + 1))))) := rfl
set_option maxHeartbeats 4000000 in
set_option maxRecDepth 100000 in
theorem k_A_readReport_17 (l : Launch) (dC : Nat → ClassId) (dI : Nat → Nat → Nat) (aC : Nat → ClassId) (b : Nat) {p : Program} {e : Env} {s : State} {m : MethodId} {args : Array Value} {below : List Frame} {meth : Method} {cd : Code} (hc : cx (dC, dI) (tysx aC) (XC b) w_A_readReport b_A_readReport R_A 4 none p s m args meth cd) : ∀ (n : Nat) (mu : fm_T) (ci : Nat) (pi : Nat) (j : Nat) (hci : ci < 3) (hpi : pi < 24) (hj : j ≤ 4) (hn : 4 < j + n) (H : Heap) (locs : List Loc) (ls : Array Slot) (F : fm_T) (hP : va_P (dC, dI) clsx (fm_w (LC aC b) b 99 mu) H) (hS : va_S (fm_A b 99) s.heap H locs) (hl : lv_has ls 4 [(0, .ref (b + (84 + 6 * ci))), (1, .ref (b + (7 + 3 * pi))), (2, .int (nI j))]) (hf : F = f_A_readReport_17 n mu ci pi j), W p l e { frames := 1, cells := 0, slots := 0, locals := 24 } s m args below meth cd H locs 0 0 (MQ below (va_Qv (fun u => u = F) (fm_B (dC, dI) clsx (tysx aC) (LC aC b) b 99) (fm_A b 99)) args s 0 0 (fm_A b 99)) (F0 m 17 ls []) := by
  obtain ⟨hx, hb, hr, hml, hown, hts, hlocks, hK, hX⟩ := hc
  have hg : ∀ w ∈ gtbl, w.before args s = true := fun w h => hts w (List.mem_cons_of_mem _ h)
  intro n
  induction n with
  | zero =>
    intro mu ci pi j hci hpi hj hn H locs ls F hP hS hl hf
    exfalso
    omega
  | succ n ih =>
    intro mu ci pi j hci hpi hj hn H locs ls F hP hS hl hf
    have hf := hf.trans (e_A_readReport_17 n mu ci pi j)
    refine lv_iload_n hx hb d_A_readReport_17 rfl (lv_at hl 2 rfl) ?_
    refine lv_iconst (v := 4) hx hb d_A_readReport_18 (by decide) ?_
    refine lv_icmp_ge (tgt := 68) hx hb d_A_readReport_19 rfl (fun h19 => ?_) (fun h19 => ?_)
    · have hf := hf.trans (if_pos h19)
      exact rw_vret hx hb hr hlocks hK hP hS hf d_A_readReport_68
    · have hf := hf.trans (if_neg h19)
      have hj8 : j < 4 := lp_lt rfl hj (by decide) h19
      refine lv_aload_n hx hb d_A_readReport_22 rfl (lv_at hl 1 rfl) ?_
      refine fm_get (C := R_P) (T := T_P) (n := 9) (ci := 3) hx hb hg uw_P hown hK hP (7 + 3 * pi) (lc_ltP hpi) (lc_P aC b _ hpi) rfl 4 (by decide) (hg _ fl_A_36) (fun _ h9 => h9) rfl d_A_readReport_23 ?_
      refine lv_iconst (v := 1) hx hb d_A_readReport_26 (by decide) ?_
      refine lv_iadd hx hb d_A_readReport_27 ?_
      refine lv_iload_n hx hb d_A_readReport_28 rfl (lv_at hl 2 rfl) ?_
      refine lv_iadd hx hb d_A_readReport_29 ?_
      refine lv_istore_n (lv' := [(3, .int (((mu (7 + 3 * pi) 4) + 1) + (nI j))), (0, .ref (b + (84 + 6 * ci))), (1, .ref (b + (7 + 3 * pi))), (2, .int (nI j))]) hx hb d_A_readReport_30 rfl hl (by decide) rfl (fun ls hl => ?_)
      refine lv_iload_n hx hb d_A_readReport_31 rfl (lv_at hl 3 rfl) ?_
      refine lv_aload_n hx hb d_A_readReport_32 rfl (lv_at hl 2 rfl) ?_
      refine fm_get (C := R_P) (T := T_P) (n := 9) (ci := 3) hx hb hg uw_P hown hK hP (7 + 3 * pi) (lc_ltP hpi) (lc_P aC b _ hpi) rfl 7 (by decide) (hg _ fl_A_37) (fun _ h9 => h9) rfl d_A_readReport_33 ?_
      refine lv_icmp_ge (tgt := 62) hx hb d_A_readReport_36 rfl (fun h36 => ?_) (fun h36 => ?_)
      · have hf := hf.trans (if_pos h36)
        refine lv_iinc (k := 3) (v := (nI (j + 1))) (lv' := [(2, .int (nI (j + 1))), (3, .int (((mu (7 + 3 * pi) 4) + 1) + (nI j))), (0, .ref (b + (84 + 6 * ci))), (1, .ref (b + (7 + 3 * pi)))]) hx hb d_A_readReport_62 hl rfl (nI_1 _) (by decide) rfl (fun ls hl => ?_)
        refine lv_goto (tgt := 17) hx hb d_A_readReport_65 rfl ?_
        exact ih mu ci pi (j + 1) hci hpi (by omega) (by omega) _ _ ls _ hP hS (lv_sub hl [2, 3, 0] rfl) hf
      · have hf := hf.trans (if_neg h36)
        refine lv_iload_n hx hb d_A_readReport_39 rfl (lv_at hl 0 rfl) ?_
        refine lv_aload_n hx hb d_A_readReport_40 rfl (lv_at hl 1 rfl) ?_
        refine fm_get (C := R_A) (T := T_A) (n := 4) (ci := 5) hx hb hg uw_A hown hK hP (84 + 6 * ci) (lc_ltA hci) (lc_A aC b _ hci) rfl 2 (by decide) (hg _ fl_A_18) (fun _ h9 => h9) rfl d_A_readReport_41 ?_
        refine lv_icmp_le (tgt := 62) hx hb d_A_readReport_44 rfl (fun h44 => ?_) (fun h44 => ?_)
        · have hf := hf.trans (if_pos h44)
          refine lv_iinc (k := 3) (v := (nI (j + 1))) (lv' := [(2, .int (nI (j + 1))), (3, .int (((mu (7 + 3 * pi) 4) + 1) + (nI j))), (0, .ref (b + (84 + 6 * ci))), (1, .ref (b + (7 + 3 * pi)))]) hx hb d_A_readReport_62 hl rfl (nI_1 _) (by decide) rfl (fun ls hl => ?_)
          refine lv_goto (tgt := 17) hx hb d_A_readReport_65 rfl ?_
          exact ih mu ci pi (j + 1) hci hpi (by omega) (by omega) _ _ ls _ hP hS (lv_sub hl [2, 3, 0] rfl) hf
        · have hf := hf.trans (if_neg h44)
          refine lv_aload_n hx hb d_A_readReport_47 rfl (lv_at hl 1 rfl) ?_
          refine fm_get (C := R_A) (T := T_A) (n := 4) (ci := 5) hx hb hg uw_A hown hK hP (84 + 6 * ci) (lc_ltA hci) (lc_A aC b _ hci) rfl 0 (by decide) (hg _ fl_A_9) (fun _ h9 => h9) rfl d_A_readReport_48 ?_
          refine lv_iload_n hx hb d_A_readReport_51 rfl (lv_at hl 0 rfl) ?_
          refine lv_bipush (v := 15) hx hb d_A_readReport_52 (by decide) ?_
          refine lv_iand hx hb d_A_readReport_54 ?_
          refine lv_aload_n hx hb d_A_readReport_55 rfl (lv_at hl 2 rfl) ?_
          refine fm_get (C := R_P) (T := T_P) (n := 9) (ci := 3) hx hb hg uw_P hown hK hP (7 + 3 * pi) (lc_ltP hpi) (lc_P aC b _ hpi) rfl 8 (by decide) (hg _ fl_A_40) (fun _ h9 => h9) rfl d_A_readReport_56 ?_
          refine lv_iload_n hx hb d_A_readReport_59 rfl (lv_at hl 3 rfl) ?_
          refine fm_iald hx hb hK hP (9 + 3 * pi) (lc_ltPcm hpi) 0 (lc_Pcm aC b _ hpi) rfl j rfl (by omega) (by decide) d_A_readReport_60 ?_
          refine fm_iast hx hb hK (fun _ h => h) hP hS (85 + 6 * ci) (lc_ltAhe hci) 0 (lc_Ahe aC b _ hci) rfl (((((mu (7 + 3 * pi) 4) + 1) + (nI j)) &&& 15).toNatClampNeg) (vp_e (n := 16) (pk_andIn _ 4 (by decide) (by decide))) (vp_l (n := 16) (pk_andIn _ 4 (by decide) (by decide))) (by decide) (lc_Ahe aC b _ hci) d_A_readReport_61 (fun H locs hP hS => ?_)
          refine lv_iinc (k := 3) (v := (nI (j + 1))) (lv' := [(2, .int (nI (j + 1))), (3, .int (((mu (7 + 3 * pi) 4) + 1) + (nI j))), (0, .ref (b + (84 + 6 * ci))), (1, .ref (b + (7 + 3 * pi)))]) hx hb d_A_readReport_62 hl rfl (nI_1 _) (by decide) rfl (fun ls hl => ?_)
          refine lv_goto (tgt := 17) hx hb d_A_readReport_65 rfl ?_
          exact ih (fm_up mu (85 + 6 * ci) (((((mu (7 + 3 * pi) 4) + 1) + (nI j)) &&& 15).toNatClampNeg) (mu (9 + 3 * pi) j)) ci pi (j + 1) hci hpi (by omega) (by omega) _ _ ls _ hP hS (lv_sub hl [2, 3, 0] rfl) hf
def f_A_readReport (mu : fm_T) (ci : Nat) (pi : Nat) : fm_T := (f_A_readReport_17 5 (fm_up mu (84 + 6 * ci) 3 (if (mu (84 + 6 * ci) 3) < (mu (7 + 3 * pi) 3) then (mu (7 + 3 * pi) 3) else (mu (84 + 6 * ci) 3))) ci pi 0)
theorem e_A_readReport (mu : fm_T) (ci : Nat) (pi : Nat) : f_A_readReport mu ci pi = (f_A_readReport_17 5 (fm_up mu (84 + 6 * ci) 3 (if (mu (84 + 6 * ci) 3) < (mu (7 + 3 * pi) 3) then (mu (7 + 3 * pi) 3) else (mu (84 + 6 * ci) 3))) ci pi 0) := rfl
set_option maxHeartbeats 4000000 in
set_option maxRecDepth 100000 in
theorem k_A_readReport (l : Launch) (dC : Nat → ClassId) (dI : Nat → Nat → Nat) (aC : Nat → ClassId) (b : Nat) {p : Program} {e : Env} {s : State} {m : MethodId} {args : Array Value} {below : List Frame} {meth : Method} {cd : Code} (hc : cx (dC, dI) (tysx aC) (XC b) w_A_readReport b_A_readReport R_A 4 none p s m args meth cd) (mu : fm_T) (ci : Nat) (pi : Nat) (hci : ci < 3) (hpi : pi < 24) (H : Heap) (locs : List Loc) (ls : Array Slot) (F : fm_T) (hP : va_P (dC, dI) clsx (fm_w (LC aC b) b 99 mu) H) (hS : va_S (fm_A b 99) s.heap H locs) (hl : lv_has ls 4 [(0, .ref (b + (84 + 6 * ci))), (1, .ref (b + (7 + 3 * pi)))]) (hf : F = f_A_readReport mu ci pi) : W p l e { frames := 1, cells := 0, slots := 0, locals := 24 } s m args below meth cd H locs 0 0 (MQ below (va_Qv (fun u => u = F) (fm_B (dC, dI) clsx (tysx aC) (LC aC b) b 99) (fm_A b 99)) args s 0 0 (fm_A b 99)) (F0 m 0 ls []) := by
  obtain ⟨hx, hb, hr, hml, hown, hts, hlocks, hK, hX⟩ := hc
  have hg : ∀ w ∈ gtbl, w.before args s = true := fun w h => hts w (List.mem_cons_of_mem _ h)
  have hf := hf.trans (e_A_readReport mu ci pi)
  refine lv_aload_n hx hb d_A_readReport_0 rfl (lv_at hl 0 rfl) ?_
  refine lv_aload_n hx hb d_A_readReport_1 rfl (lv_at hl 0 rfl) ?_
  refine fm_get (C := R_A) (T := T_A) (n := 4) (ci := 5) hx hb hg uw_A hown hK hP (84 + 6 * ci) (lc_ltA hci) (lc_A aC b _ hci) rfl 3 (by decide) (hg _ fl_A_22) (fun _ h9 => h9) rfl d_A_readReport_2 ?_
  refine lv_aload_n hx hb d_A_readReport_5 rfl (lv_at hl 1 rfl) ?_
  refine fm_get (C := R_P) (T := T_P) (n := 9) (ci := 3) hx hb hg uw_P hown hK hP (7 + 3 * pi) (lc_ltP hpi) (lc_P aC b _ hpi) rfl 3 (by decide) (hg _ fl_A_25) (fun _ h9 => h9) rfl d_A_readReport_6 ?_
  refine va_mmax hx hb (by rw [hml]; exact hl.1.symm) hown (hg _ ml_A_30) (hg _ st_Math_max) (hg _ in_Math) (hg _ co_Math_max) (Nat.le_of_ble_eq_true rfl) (Nat.le_of_ble_eq_true rfl) (Nat.zero_le _) (Nat.zero_le _) d_A_readReport_9 ?_
  refine fm_put (v := .int (if (mu (84 + 6 * ci) 3) < (mu (7 + 3 * pi) 3) then (mu (7 + 3 * pi) 3) else (mu (84 + 6 * ci) 3))) (x := (if (mu (84 + 6 * ci) 3) < (mu (7 + 3 * pi) 3) then (mu (7 + 3 * pi) 3) else (mu (84 + 6 * ci) 3))) (ty := .int) (C := R_A) (T := T_A) (n := 4) (ci := 5) hx hb hg uw_A ty_A tk_A nm_A hown hK (fun _ h => h) hP hS (84 + 6 * ci) (lc_ltA hci) (lc_A aC b _ hci) rfl 3 (by decide) (hg _ fl_A_22) (fun _ h9 => h9) rfl (by decide +kernel) rfl rfl (Nat.le_of_ble_eq_true rfl) (lc_A aC b _ hci) d_A_readReport_12 (fun H locs hP hS => ?_)
  refine lv_iconst (v := 0) hx hb d_A_readReport_15 (by decide) ?_
  refine lv_istore_n (lv' := [(2, .int 0), (0, .ref (b + (84 + 6 * ci))), (1, .ref (b + (7 + 3 * pi)))]) hx hb d_A_readReport_16 rfl hl (by decide) rfl (fun ls hl => ?_)
  exact k_A_readReport_17 l dC dI aC b ⟨hx, hb, hr, hml, hown, hts, hlocks, hK, hX⟩ 5 (fm_up mu (84 + 6 * ci) 3 (if (mu (84 + 6 * ci) 3) < (mu (7 + 3 * pi) 3) then (mu (7 + 3 * pi) 3) else (mu (84 + 6 * ci) 3))) ci pi 0 hci hpi (by decide) (by decide) _ _ ls _ hP hS (lv_sub hl [1, 2, 0] rfl) hf
set_option maxHeartbeats 4000000 in
set_option maxRecDepth 100000 in
theorem c_A_readReport (l : Launch) (dC : Nat → ClassId) (dI : Nat → Nat → Nat) (aC : Nat → ClassId) (b : Nat) (mu : fm_T) (ci : Nat) (pi : Nat) (hci : ci < 3) (hpi : pi < 24) : Met l y_A_readReport w_A_readReport { frames := 1, cells := 0, slots := 0, locals := 24 } (va_Pc [.ref (b + (84 + 6 * ci)), .ref (b + (7 + 3 * pi))] (fm_C (dC, dI) clsx (tysx aC) (LC aC b) b 99 (XC b) mu)) (va_Qv (fun u => u = (f_A_readReport mu ci pi)) (fm_B (dC, dI) clsx (tysx aC) (LC aC b) b 99) (fm_A b 99)) 0 0 (fm_A b 99) := by
  refine Met.ofW (cc := b_A_readReport) (maxL := 4) (ret := none) (by decide) rfl ?_
  intro p e s m args below meth cd s₁ B hml hv
  obtain ⟨rfl, hP, hK, hX⟩ := hv
  have hl := lv_entry ([.ref (b + (84 + 6 * ci)), .ref (b + (7 + 3 * pi))]) (n := 4) (Nat.le_of_ble_eq_true rfl)
  rw [lg_entry_eq]
  generalize (lg_sl ([.ref (b + (84 + 6 * ci)), .ref (b + (7 + 3 * pi))]) ++ List.replicate (4 - (lg_sl ([.ref (b + (84 + 6 * ci)), .ref (b + (7 + 3 * pi))])).length) Slot.unset).toArray = ls at hl ⊢
  exact k_A_readReport l dC dI aC b ⟨B.exec, B.bytes, B.returns, hml, findClass_of_methodNamed B.named, atoms_spec (ws := w_A_readReport) B.pre, B.notSynchronized, hK, hX⟩ mu ci pi hci hpi _ _ ls _ hP va_S.rf hl rfl
def f_A_remember_9 : Nat → fm_T → Nat → Nat → Int32 → Nat → fm_T
  | 0, mu, _, _, _, _ => mu
  | n + 1, mu, ci, cn, row, j => (if 8 ≤ (nI j) then mu else (if (f_F_sees mu cn j) = 0 then (f_A_remember_9 n (fm_up mu (86 + 6 * ci) ((row + (nI j)).toNatClampNeg) (-1)) ci cn row (j + 1)) else (f_A_remember_9 n (fm_up mu (86 + 6 * ci) ((row + (nI j)).toNatClampNeg) (mu 3 j)) ci cn row (j + 1))))
theorem e_A_remember_9 (n : Nat) (mu : fm_T) (ci : Nat) (cn : Nat) (row : Int32) (j : Nat) : f_A_remember_9 (n + 1) mu ci cn row j = (if 8 ≤ (nI j) then mu else (if (f_F_sees mu cn j) = 0 then (f_A_remember_9 n (fm_up mu (86 + 6 * ci) ((row + (nI j)).toNatClampNeg) (-1)) ci cn row (j + 1)) else (f_A_remember_9 n (fm_up mu (86 + 6 * ci) ((row + (nI j)).toNatClampNeg) (mu 3 j)) ci cn row (j + 1)))) := rfl
set_option maxHeartbeats 4000000 in
set_option maxRecDepth 100000 in
theorem k_A_remember_9 (l : Launch) (dC : Nat → ClassId) (dI : Nat → Nat → Nat) (aC : Nat → ClassId) (b : Nat) {p : Program} {e : Env} {s : State} {m : MethodId} {args : Array Value} {below : List Frame} {meth : Method} {cd : Code} (hc : cx (dC, dI) (tysx aC) (XC b) w_A_remember b_A_remember R_A 6 none p s m args meth cd) : ∀ (n : Nat) (mu : fm_T) (ci : Nat) (cn : Nat) (row : Int32) (j : Nat) (hci : ci < 3) (hj : j ≤ 8) (hn : 8 < j + n) (hcn : cn < 8) (hrow : ∀ j, j < 8 → vp_in (row + nI j) 64) (H : Heap) (locs : List Loc) (ls : Array Slot) (F : fm_T) (hP : va_P (dC, dI) clsx (fm_w (LC aC b) b 99 mu) H) (hS : va_S (fm_A b 99) s.heap H locs) (hl : lv_has ls 6 [(0, .ref (b + (84 + 6 * ci))), (2, .ref (b + 1)), (3, .int (nI cn)), (4, .int row), (5, .int (nI j))]) (hf : F = f_A_remember_9 n mu ci cn row j), W p l e { frames := 2, cells := 0, slots := 0, locals := 50 } s m args below meth cd H locs 0 0 (MQ below (va_Qv (fun u => u = F) (fm_B (dC, dI) clsx (tysx aC) (LC aC b) b 99) (fm_A b 99)) args s 0 0 (fm_A b 99)) (F0 m 9 ls []) := by
  obtain ⟨hx, hb, hr, hml, hown, hts, hlocks, hK, hX⟩ := hc
  have hg : ∀ w ∈ gtbl, w.before args s = true := fun w h => hts w (List.mem_cons_of_mem _ h)
  intro n
  induction n with
  | zero =>
    intro mu ci cn row j hci hj hn hcn hrow H locs ls F hP hS hl hf
    exfalso
    omega
  | succ n ih =>
    intro mu ci cn row j hci hj hn hcn hrow H locs ls F hP hS hl hf
    have hf := hf.trans (e_A_remember_9 n mu ci cn row j)
    refine lv_iload hx hb d_A_remember_9 (lv_at hl 4 rfl) ?_
    refine lv_bipush (v := 8) hx hb d_A_remember_11 (by decide) ?_
    refine lv_icmp_ge (tgt := 53) hx hb d_A_remember_13 rfl (fun h13 => ?_) (fun h13 => ?_)
    · have hf := hf.trans (if_pos h13)
      exact rw_vret hx hb hr hlocks hK hP hS hf d_A_remember_53
    · have hf := hf.trans (if_neg h13)
      have hj8 : j < 8 := lp_lt rfl hj (by decide) h13
      refine lv_aload_n hx hb d_A_remember_16 rfl (lv_at hl 0 rfl) ?_
      refine fm_get (C := R_A) (T := T_A) (n := 4) (ci := 5) hx hb hg uw_A hown hK hP (84 + 6 * ci) (lc_ltA hci) (lc_A aC b _ hci) rfl 1 (by decide) (hg _ fl_A_15) (fun _ h9 => h9) rfl d_A_remember_17 ?_
      refine lv_iload hx hb d_A_remember_20 (lv_at hl 3 rfl) ?_
      refine lv_iload hx hb d_A_remember_22 (lv_at hl 4 rfl) ?_
      refine lv_iadd hx hb d_A_remember_24 ?_
      refine lv_aload_n hx hb d_A_remember_25 rfl (lv_at hl 1 rfl) ?_
      refine lv_iload_n hx hb d_A_remember_26 rfl (lv_at hl 2 rfl) ?_
      refine lv_iload hx hb d_A_remember_27 (lv_at hl 4 rfl) ?_
      refine ro_call (va_runV (As := [.int (nI cn), .int (nI j)]) (rest := [.int (row + (nI j)), .ref (b + (86 + 6 * ci))]) ⟨hx, hb, hml, hown, hts⟩ (c_F_sees l dC dI aC b mu cn j hcn hj8) (cw_V (fun w h => List.mem_cons_of_mem _ h) hts kv_F_sees ml_A_47 ⟨Nat.le_of_ble_eq_true rfl, Nat.le_of_ble_eq_true rfl⟩ rfl rfl) (fm_preV XC_bl (XC_mv hX hS) hK hP (1) (by decide) (lc_F aC b _) rfl) rfl rfl hl.1 rfl (lv_room (Nat.le_of_ble_eq_true rfl)) d_A_remember_29 ⟨Nat.zero_le _, Nat.zero_le _⟩) ?_
      refine lv_if_eq (tgt := 45) hx hb d_A_remember_32 rfl (fun h32 => ?_) (fun h32 => ?_)
      · have hf := hf.trans (if_pos h32)
        refine lv_iconst (v := (-1)) hx hb d_A_remember_45 (by decide) ?_
        refine fm_iast hx hb hK (fun _ h => h) hP hS (86 + 6 * ci) (lc_ltAto hci) 0 (lc_Ato aC b _ hci) rfl ((row + (nI j)).toNatClampNeg) (vp_e (n := 64) (hrow j hj8)) (vp_l (n := 64) (hrow j hj8)) (by decide) (lc_Ato aC b _ hci) d_A_remember_46 (fun H locs hP hS => ?_)
        refine lv_iinc (k := 4) (v := (nI (j + 1))) (lv' := [(5, .int (nI (j + 1))), (0, .ref (b + (84 + 6 * ci))), (2, .ref (b + 1)), (3, .int (nI cn)), (4, .int row)]) hx hb d_A_remember_47 hl rfl (nI_1 _) (by decide) rfl (fun ls hl => ?_)
        refine lv_goto (tgt := 9) hx hb d_A_remember_50 rfl ?_
        exact ih (fm_up mu (86 + 6 * ci) ((row + (nI j)).toNatClampNeg) (-1)) ci cn row (j + 1) hci (by omega) (by omega) hcn hrow _ _ ls _ hP hS (lv_sub hl [1, 2, 3, 4, 0] rfl) hf
      · have hf := hf.trans (if_neg h32)
        refine lv_aload_n hx hb d_A_remember_35 rfl (lv_at hl 1 rfl) ?_
        refine fm_get (C := R_F) (T := T_F) (n := 3) (ci := 1) hx hb hg uw_F hown hK hP (1) (by decide) (lc_F aC b _) rfl 1 (by decide) (hg _ fl_A_53) (fun _ h9 => h9) rfl d_A_remember_36 ?_
        refine lv_iload hx hb d_A_remember_39 (lv_at hl 4 rfl) ?_
        refine fm_iald hx hb hK hP (3) (by decide) 0 (lc_places aC b _) rfl j rfl (by omega) (by decide) d_A_remember_41 ?_
        refine lv_goto (tgt := 46) hx hb d_A_remember_42 rfl ?_
        refine fm_iast hx hb hK (fun _ h => h) hP hS (86 + 6 * ci) (lc_ltAto hci) 0 (lc_Ato aC b _ hci) rfl ((row + (nI j)).toNatClampNeg) (vp_e (n := 64) (hrow j hj8)) (vp_l (n := 64) (hrow j hj8)) (by decide) (lc_Ato aC b _ hci) d_A_remember_46 (fun H locs hP hS => ?_)
        refine lv_iinc (k := 4) (v := (nI (j + 1))) (lv' := [(5, .int (nI (j + 1))), (0, .ref (b + (84 + 6 * ci))), (2, .ref (b + 1)), (3, .int (nI cn)), (4, .int row)]) hx hb d_A_remember_47 hl rfl (nI_1 _) (by decide) rfl (fun ls hl => ?_)
        refine lv_goto (tgt := 9) hx hb d_A_remember_50 rfl ?_
        exact ih (fm_up mu (86 + 6 * ci) ((row + (nI j)).toNatClampNeg) (mu 3 j)) ci cn row (j + 1) hci (by omega) (by omega) hcn hrow _ _ ls _ hP hS (lv_sub hl [1, 2, 3, 4, 0] rfl) hf
def f_A_remember (mu : fm_T) (ci : Nat) (tk : Int32) (cn : Nat) : fm_T := (f_A_remember_9 9 mu ci cn (f_A_rowOf tk) 0)
theorem e_A_remember (mu : fm_T) (ci : Nat) (tk : Int32) (cn : Nat) : f_A_remember mu ci tk cn = (f_A_remember_9 9 mu ci cn (f_A_rowOf tk) 0) := rfl
set_option maxHeartbeats 4000000 in
set_option maxRecDepth 100000 in
theorem k_A_remember (l : Launch) (dC : Nat → ClassId) (dI : Nat → Nat → Nat) (aC : Nat → ClassId) (b : Nat) {p : Program} {e : Env} {s : State} {m : MethodId} {args : Array Value} {below : List Frame} {meth : Method} {cd : Code} (hc : cx (dC, dI) (tysx aC) (XC b) w_A_remember b_A_remember R_A 6 none p s m args meth cd) (mu : fm_T) (ci : Nat) (tk : Int32) (cn : Nat) (hci : ci < 3) (hcn : cn < 8) (H : Heap) (locs : List Loc) (ls : Array Slot) (F : fm_T) (hP : va_P (dC, dI) clsx (fm_w (LC aC b) b 99 mu) H) (hS : va_S (fm_A b 99) s.heap H locs) (hl : lv_has ls 6 [(0, .ref (b + (84 + 6 * ci))), (1, .int tk), (2, .ref (b + 1)), (3, .int (nI cn))]) (hf : F = f_A_remember mu ci tk cn) : W p l e { frames := 2, cells := 0, slots := 0, locals := 50 } s m args below meth cd H locs 0 0 (MQ below (va_Qv (fun u => u = F) (fm_B (dC, dI) clsx (tysx aC) (LC aC b) b 99) (fm_A b 99)) args s 0 0 (fm_A b 99)) (F0 m 0 ls []) := by
  obtain ⟨hx, hb, hr, hml, hown, hts, hlocks, hK, hX⟩ := hc
  have hg : ∀ w ∈ gtbl, w.before args s = true := fun w h => hts w (List.mem_cons_of_mem _ h)
  have hf := hf.trans (e_A_remember mu ci tk cn)
  refine lv_iload_n hx hb d_A_remember_0 rfl (lv_at hl 1 rfl) ?_
  refine ro_call (va_runS (As := [.int tk]) (rest := []) ⟨hx, hb, hml, hown, hts⟩ (c_A_rowOf l dC dI aC b mu tk) (cw_S (fun w h => List.mem_cons_of_mem _ h) hts ks_A_rowOf ml_A_43 ⟨Nat.le_of_ble_eq_true rfl, Nat.le_of_ble_eq_true rfl⟩ rfl rfl) (fm_preS XC_bl (XC_mv hX hS) hK hP) rfl rfl hl.1 rfl (lv_room (Nat.le_of_ble_eq_true rfl)) d_A_remember_1 ⟨Nat.zero_le _, Nat.zero_le _⟩) ?_
  refine lv_istore (lv' := [(4, .int (f_A_rowOf tk)), (0, .ref (b + (84 + 6 * ci))), (1, .int tk), (2, .ref (b + 1)), (3, .int (nI cn))]) hx hb d_A_remember_4 hl (by decide) rfl (fun ls hl => ?_)
  refine lv_iconst (v := 0) hx hb d_A_remember_6 (by decide) ?_
  refine lv_istore (lv' := [(5, .int 0), (4, .int (f_A_rowOf tk)), (0, .ref (b + (84 + 6 * ci))), (1, .int tk), (2, .ref (b + 1)), (3, .int (nI cn))]) hx hb d_A_remember_7 hl (by decide) rfl (fun ls hl => ?_)
  exact k_A_remember_9 l dC dI aC b ⟨hx, hb, hr, hml, hown, hts, hlocks, hK, hX⟩ 9 mu ci cn (f_A_rowOf tk) 0 hci (by decide) (by decide) hcn (fun j h => row_in _ h) _ _ ls _ hP hS (lv_sub hl [2, 4, 5, 1, 0] rfl) hf
set_option maxHeartbeats 4000000 in
set_option maxRecDepth 100000 in
theorem c_A_remember (l : Launch) (dC : Nat → ClassId) (dI : Nat → Nat → Nat) (aC : Nat → ClassId) (b : Nat) (mu : fm_T) (ci : Nat) (tk : Int32) (cn : Nat) (hci : ci < 3) (hcn : cn < 8) : Met l y_A_remember w_A_remember { frames := 2, cells := 0, slots := 0, locals := 50 } (va_Pc [.ref (b + (84 + 6 * ci)), .int tk, .ref (b + 1), .int (nI cn)] (fm_C (dC, dI) clsx (tysx aC) (LC aC b) b 99 (XC b) mu)) (va_Qv (fun u => u = (f_A_remember mu ci tk cn)) (fm_B (dC, dI) clsx (tysx aC) (LC aC b) b 99) (fm_A b 99)) 0 0 (fm_A b 99) := by
  refine Met.ofW (cc := b_A_remember) (maxL := 6) (ret := none) (by decide) rfl ?_
  intro p e s m args below meth cd s₁ B hml hv
  obtain ⟨rfl, hP, hK, hX⟩ := hv
  have hl := lv_entry ([.ref (b + (84 + 6 * ci)), .int tk, .ref (b + 1), .int (nI cn)]) (n := 6) (Nat.le_of_ble_eq_true rfl)
  rw [lg_entry_eq]
  generalize (lg_sl ([.ref (b + (84 + 6 * ci)), .int tk, .ref (b + 1), .int (nI cn)]) ++ List.replicate (6 - (lg_sl ([.ref (b + (84 + 6 * ci)), .int tk, .ref (b + 1), .int (nI cn)])).length) Slot.unset).toArray = ls at hl ⊢
  exact k_A_remember l dC dI aC b ⟨B.exec, B.bytes, B.returns, hml, findClass_of_methodNamed B.named, atoms_spec (ws := w_A_remember) B.pre, B.notSynchronized, hK, hX⟩ mu ci tk cn hci hcn _ _ ls _ hP va_S.rf hl rfl
def f_A_baseAt (mu : fm_T) (ci : Nat) (tk : Int32) : Int32 := (if (mu (84 + 6 * ci) 3) = 0 then 0 else (if 6 < (tk - (mu (84 + 6 * ci) 3)) then 0 else mu (84 + 6 * ci) 3))
theorem e_A_baseAt (mu : fm_T) (ci : Nat) (tk : Int32) : f_A_baseAt mu ci tk = (if (mu (84 + 6 * ci) 3) = 0 then 0 else (if 6 < (tk - (mu (84 + 6 * ci) 3)) then 0 else mu (84 + 6 * ci) 3)) := rfl
set_option maxHeartbeats 4000000 in
set_option maxRecDepth 100000 in
theorem k_A_baseAt (l : Launch) (dC : Nat → ClassId) (dI : Nat → Nat → Nat) (aC : Nat → ClassId) (b : Nat) {p : Program} {e : Env} {s : State} {m : MethodId} {args : Array Value} {below : List Frame} {meth : Method} {cd : Code} (hc : cx (dC, dI) (tysx aC) (XC b) w_A_baseAt b_A_baseAt R_A 2 (some .int) p s m args meth cd) (mu : fm_T) (ci : Nat) (tk : Int32) (hci : ci < 3) (ls : Array Slot) (F : Int32) (hP : va_P (dC, dI) clsx (fm_w (LC aC b) b 99 mu) s.heap) (hl : lv_has ls 2 [(0, .ref (b + (84 + 6 * ci))), (1, .int tk)]) (hf : F = f_A_baseAt mu ci tk) : W p l e { frames := 0, cells := 0, slots := 0, locals := 0 } s m args below meth cd s.heap [] 0 0 (MQ below (QcRead F) args s 0 0 (fun _ => False)) (F0 m 0 ls []) := by
  obtain ⟨hx, hb, hr, hml, hown, hts, hlocks, hK, hX⟩ := hc
  have hg : ∀ w ∈ gtbl, w.before args s = true := fun w h => hts w (List.mem_cons_of_mem _ h)
  have hS : va_S (fm_A b 99) s.heap s.heap [] := va_S.rf
  have hf := hf.trans (e_A_baseAt mu ci tk)
  refine lv_aload_n hx hb d_A_baseAt_0 rfl (lv_at hl 0 rfl) ?_
  refine fm_get (C := R_A) (T := T_A) (n := 4) (ci := 5) hx hb hg uw_A hown hK hP (84 + 6 * ci) (lc_ltA hci) (lc_A aC b _ hci) rfl 3 (by decide) (hg _ fl_A_22) (fun _ h9 => h9) rfl d_A_baseAt_1 ?_
  refine lv_if_eq (tgt := 25) hx hb d_A_baseAt_4 rfl (fun h4 => ?_) (fun h4 => ?_)
  · have hf := hf.trans (if_pos h4)
    refine lv_iconst (v := 0) hx hb d_A_baseAt_25 (by decide) ?_
    exact ro_iret hx hb hr hlocks hf d_A_baseAt_26
  · have hf := hf.trans (if_neg h4)
    refine lv_iload_n hx hb d_A_baseAt_7 rfl (lv_at hl 1 rfl) ?_
    refine lv_aload_n hx hb d_A_baseAt_8 rfl (lv_at hl 0 rfl) ?_
    refine fm_get (C := R_A) (T := T_A) (n := 4) (ci := 5) hx hb hg uw_A hown hK hP (84 + 6 * ci) (lc_ltA hci) (lc_A aC b _ hci) rfl 3 (by decide) (hg _ fl_A_22) (fun _ h9 => h9) rfl d_A_baseAt_9 ?_
    refine lv_isub hx hb d_A_baseAt_12 ?_
    refine lv_bipush (v := 6) hx hb d_A_baseAt_13 (by decide) ?_
    refine lv_icmp_gt (tgt := 25) hx hb d_A_baseAt_15 rfl (fun h15 => ?_) (fun h15 => ?_)
    · have hf := hf.trans (if_pos h15)
      refine lv_iconst (v := 0) hx hb d_A_baseAt_25 (by decide) ?_
      exact ro_iret hx hb hr hlocks hf d_A_baseAt_26
    · have hf := hf.trans (if_neg h15)
      refine lv_aload_n hx hb d_A_baseAt_18 rfl (lv_at hl 0 rfl) ?_
      refine fm_get (C := R_A) (T := T_A) (n := 4) (ci := 5) hx hb hg uw_A hown hK hP (84 + 6 * ci) (lc_ltA hci) (lc_A aC b _ hci) rfl 3 (by decide) (hg _ fl_A_22) (fun _ h9 => h9) rfl d_A_baseAt_19 ?_
      refine lv_goto (tgt := 26) hx hb d_A_baseAt_22 rfl ?_
      exact ro_iret hx hb hr hlocks hf d_A_baseAt_26
set_option maxHeartbeats 4000000 in
set_option maxRecDepth 100000 in
theorem c_A_baseAt (l : Launch) (dC : Nat → ClassId) (dI : Nat → Nat → Nat) (aC : Nat → ClassId) (b : Nat) (mu : fm_T) (ci : Nat) (tk : Int32) (hci : ci < 3) : Met l y_A_baseAt w_A_baseAt { frames := 0, cells := 0, slots := 0, locals := 0 } (va_Pc [.ref (b + (84 + 6 * ci)), .int tk] (fm_C (dC, dI) clsx (tysx aC) (LC aC b) b 99 (XC b) mu)) (QcRead (f_A_baseAt mu ci tk)) 0 0 (fun _ => False) := by
  refine Met.ofW (cc := b_A_baseAt) (maxL := 2) (ret := (some .int)) (by decide) rfl ?_
  intro p e s m args below meth cd s₁ B hml hv
  obtain ⟨rfl, hP, hK, hX⟩ := hv
  have hl := lv_entry ([.ref (b + (84 + 6 * ci)), .int tk]) (n := 2) (Nat.le_of_ble_eq_true rfl)
  rw [lg_entry_eq]
  generalize (lg_sl ([.ref (b + (84 + 6 * ci)), .int tk]) ++ List.replicate (2 - (lg_sl ([.ref (b + (84 + 6 * ci)), .int tk])).length) Slot.unset).toArray = ls at hl ⊢
  exact k_A_baseAt l dC dI aC b ⟨B.exec, B.bytes, B.returns, hml, findClass_of_methodNamed B.named, atoms_spec (ws := w_A_baseAt) B.pre, B.notSynchronized, hK, hX⟩ mu ci tk hci ls _ hP hl rfl
def f_A_snapshotSize_15 : Nat → fm_T → Nat → Int32 → Int32 → Int32 → Nat → Int32
  | 0, _, _, _, _, _, _ => 0
  | n + 1, mu, ci, tk, ba, sz, j => (if 8 ≤ (nI j) then sz else (if ba = 0 then (f_A_snapshotSize_15 n mu ci tk ba (sz + (f_A_entitySize (-1) (mu (86 + 6 * ci) (((f_A_rowOf tk) + (nI j)).toNatClampNeg)))) (j + 1)) else (f_A_snapshotSize_15 n mu ci tk ba (sz + (f_A_entitySize (mu (86 + 6 * ci) (((f_A_rowOf ba) + (nI j)).toNatClampNeg)) (mu (86 + 6 * ci) (((f_A_rowOf tk) + (nI j)).toNatClampNeg)))) (j + 1))))
theorem e_A_snapshotSize_15 (n : Nat) (mu : fm_T) (ci : Nat) (tk : Int32) (ba : Int32) (sz : Int32) (j : Nat) : f_A_snapshotSize_15 (n + 1) mu ci tk ba sz j = (if 8 ≤ (nI j) then sz else (if ba = 0 then (f_A_snapshotSize_15 n mu ci tk ba (sz + (f_A_entitySize (-1) (mu (86 + 6 * ci) (((f_A_rowOf tk) + (nI j)).toNatClampNeg)))) (j + 1)) else (f_A_snapshotSize_15 n mu ci tk ba (sz + (f_A_entitySize (mu (86 + 6 * ci) (((f_A_rowOf ba) + (nI j)).toNatClampNeg)) (mu (86 + 6 * ci) (((f_A_rowOf tk) + (nI j)).toNatClampNeg)))) (j + 1)))) := rfl
set_option maxHeartbeats 4000000 in
set_option maxRecDepth 100000 in
theorem k_A_snapshotSize_15 (l : Launch) (dC : Nat → ClassId) (dI : Nat → Nat → Nat) (aC : Nat → ClassId) (b : Nat) {p : Program} {e : Env} {s : State} {m : MethodId} {args : Array Value} {below : List Frame} {meth : Method} {cd : Code} (hc : cx (dC, dI) (tysx aC) (XC b) w_A_snapshotSize b_A_snapshotSize R_A 6 (some .int) p s m args meth cd) : ∀ (n : Nat) (mu : fm_T) (ci : Nat) (tk : Int32) (ba : Int32) (sz : Int32) (j : Nat) (hci : ci < 3) (hj : j ≤ 8) (hn : 8 < j + n) (ls : Array Slot) (F : Int32) (hP : va_P (dC, dI) clsx (fm_w (LC aC b) b 99 mu) s.heap) (hl : lv_has ls 6 [(0, .ref (b + (84 + 6 * ci))), (1, .int tk), (2, .int ba), (3, .int sz), (4, .int (nI j))]) (hf : F = f_A_snapshotSize_15 n mu ci tk ba sz j), W p l e { frames := 3, cells := 0, slots := 0, locals := 66 } s m args below meth cd s.heap [] 0 0 (MQ below (QcRead F) args s 0 0 (fun _ => False)) (F0 m 15 ls []) := by
  obtain ⟨hx, hb, hr, hml, hown, hts, hlocks, hK, hX⟩ := hc
  have hg : ∀ w ∈ gtbl, w.before args s = true := fun w h => hts w (List.mem_cons_of_mem _ h)
  have hS : va_S (fm_A b 99) s.heap s.heap [] := va_S.rf
  intro n
  induction n with
  | zero =>
    intro mu ci tk ba sz j hci hj hn ls F hP hl hf
    exfalso
    omega
  | succ n ih =>
    intro mu ci tk ba sz j hci hj hn ls F hP hl hf
    have hf := hf.trans (e_A_snapshotSize_15 n mu ci tk ba sz j)
    refine lv_iload hx hb d_A_snapshotSize_15 (lv_at hl 4 rfl) ?_
    refine lv_bipush (v := 8) hx hb d_A_snapshotSize_17 (by decide) ?_
    refine lv_icmp_ge (tgt := 70) hx hb d_A_snapshotSize_19 rfl (fun h19 => ?_) (fun h19 => ?_)
    · have hf := hf.trans (if_pos h19)
      refine lv_iload_n hx hb d_A_snapshotSize_70 rfl (lv_at hl 3 rfl) ?_
      exact ro_iret hx hb hr hlocks hf d_A_snapshotSize_71
    · have hf := hf.trans (if_neg h19)
      have hj8 : j < 8 := lp_lt rfl hj (by decide) h19
      refine lv_iload_n hx hb d_A_snapshotSize_22 rfl (lv_at hl 2 rfl) ?_
      refine lv_if_ne (tgt := 30) hx hb d_A_snapshotSize_23 rfl (fun h23 => ?_) (fun h23 => ?_)
      · have hf := hf.trans (if_neg h23)
        refine lv_aload_n hx hb d_A_snapshotSize_30 rfl (lv_at hl 0 rfl) ?_
        refine fm_get (C := R_A) (T := T_A) (n := 4) (ci := 5) hx hb hg uw_A hown hK hP (84 + 6 * ci) (lc_ltA hci) (lc_A aC b _ hci) rfl 1 (by decide) (hg _ fl_A_15) (fun _ h9 => h9) rfl d_A_snapshotSize_31 ?_
        refine lv_iload_n hx hb d_A_snapshotSize_34 rfl (lv_at hl 2 rfl) ?_
        refine ro_call (va_runS (As := [.int ba]) (rest := [.ref (b + (86 + 6 * ci))]) ⟨hx, hb, hml, hown, hts⟩ (c_A_rowOf l dC dI aC b mu ba) (cw_S (fun w h => List.mem_cons_of_mem _ h) hts ks_A_rowOf ml_A_43 ⟨Nat.le_of_ble_eq_true rfl, Nat.le_of_ble_eq_true rfl⟩ rfl rfl) (fm_preS XC_bl (XC_mv hX hS) hK hP) rfl rfl hl.1 rfl (lv_room (Nat.le_of_ble_eq_true rfl)) d_A_snapshotSize_35 ⟨Nat.zero_le _, Nat.zero_le _⟩) ?_
        refine lv_iload hx hb d_A_snapshotSize_38 (lv_at hl 4 rfl) ?_
        refine lv_iadd hx hb d_A_snapshotSize_40 ?_
        refine fm_iald hx hb hK hP (86 + 6 * ci) (lc_ltAto hci) 0 (lc_Ato aC b _ hci) rfl (((f_A_rowOf ba) + (nI j)).toNatClampNeg) (vp_e (n := 64) (row_in _ hj8)) (vp_l (n := 64) (row_in _ hj8)) (by decide) d_A_snapshotSize_41 ?_
        refine lv_istore (lv' := [(5, .int (mu (86 + 6 * ci) (((f_A_rowOf ba) + (nI j)).toNatClampNeg))), (0, .ref (b + (84 + 6 * ci))), (1, .int tk), (2, .int ba), (3, .int sz), (4, .int (nI j))]) hx hb d_A_snapshotSize_42 hl (by decide) rfl (fun ls hl => ?_)
        refine lv_iload_n hx hb d_A_snapshotSize_44 rfl (lv_at hl 4 rfl) ?_
        refine lv_iload hx hb d_A_snapshotSize_45 (lv_at hl 0 rfl) ?_
        refine lv_aload_n hx hb d_A_snapshotSize_47 rfl (lv_at hl 1 rfl) ?_
        refine fm_get (C := R_A) (T := T_A) (n := 4) (ci := 5) hx hb hg uw_A hown hK hP (84 + 6 * ci) (lc_ltA hci) (lc_A aC b _ hci) rfl 1 (by decide) (hg _ fl_A_15) (fun _ h9 => h9) rfl d_A_snapshotSize_48 ?_
        refine lv_iload_n hx hb d_A_snapshotSize_51 rfl (lv_at hl 2 rfl) ?_
        refine ro_call (va_runS (As := [.int tk]) (rest := [.ref (b + (86 + 6 * ci)), .int (mu (86 + 6 * ci) (((f_A_rowOf ba) + (nI j)).toNatClampNeg)), .int sz]) ⟨hx, hb, hml, hown, hts⟩ (c_A_rowOf l dC dI aC b mu tk) (cw_S (fun w h => List.mem_cons_of_mem _ h) hts ks_A_rowOf ml_A_43 ⟨Nat.le_of_ble_eq_true rfl, Nat.le_of_ble_eq_true rfl⟩ rfl rfl) (fm_preS XC_bl (XC_mv hX hS) hK hP) rfl rfl hl.1 rfl (lv_room (Nat.le_of_ble_eq_true rfl)) d_A_snapshotSize_52 ⟨Nat.zero_le _, Nat.zero_le _⟩) ?_
        refine lv_iload hx hb d_A_snapshotSize_55 (lv_at hl 5 rfl) ?_
        refine lv_iadd hx hb d_A_snapshotSize_57 ?_
        refine fm_iald hx hb hK hP (86 + 6 * ci) (lc_ltAto hci) 0 (lc_Ato aC b _ hci) rfl (((f_A_rowOf tk) + (nI j)).toNatClampNeg) (vp_e (n := 64) (row_in _ hj8)) (vp_l (n := 64) (row_in _ hj8)) (by decide) d_A_snapshotSize_58 ?_
        refine ro_call (va_runS (As := [.int (mu (86 + 6 * ci) (((f_A_rowOf ba) + (nI j)).toNatClampNeg)), .int (mu (86 + 6 * ci) (((f_A_rowOf tk) + (nI j)).toNatClampNeg))]) (rest := [.int sz]) ⟨hx, hb, hml, hown, hts⟩ (c_A_entitySize l dC dI aC b mu (mu (86 + 6 * ci) (((f_A_rowOf ba) + (nI j)).toNatClampNeg)) (mu (86 + 6 * ci) (((f_A_rowOf tk) + (nI j)).toNatClampNeg))) (cw_S (fun w h => List.mem_cons_of_mem _ h) hts ks_A_entitySize ml_A_79 ⟨Nat.le_of_ble_eq_true rfl, Nat.le_of_ble_eq_true rfl⟩ rfl rfl) (fm_preS XC_bl (XC_mv hX hS) hK hP) rfl rfl hl.1 rfl (lv_room (Nat.le_of_ble_eq_true rfl)) d_A_snapshotSize_59 ⟨Nat.zero_le _, Nat.zero_le _⟩) ?_
        refine lv_iadd hx hb d_A_snapshotSize_62 ?_
        refine lv_istore_n (lv' := [(3, .int (sz + (f_A_entitySize (mu (86 + 6 * ci) (((f_A_rowOf ba) + (nI j)).toNatClampNeg)) (mu (86 + 6 * ci) (((f_A_rowOf tk) + (nI j)).toNatClampNeg))))), (5, .int (mu (86 + 6 * ci) (((f_A_rowOf ba) + (nI j)).toNatClampNeg))), (0, .ref (b + (84 + 6 * ci))), (1, .int tk), (2, .int ba), (4, .int (nI j))]) hx hb d_A_snapshotSize_63 rfl hl (by decide) rfl (fun ls hl => ?_)
        refine lv_iinc (k := 5) (v := (nI (j + 1))) (lv' := [(4, .int (nI (j + 1))), (3, .int (sz + (f_A_entitySize (mu (86 + 6 * ci) (((f_A_rowOf ba) + (nI j)).toNatClampNeg)) (mu (86 + 6 * ci) (((f_A_rowOf tk) + (nI j)).toNatClampNeg))))), (5, .int (mu (86 + 6 * ci) (((f_A_rowOf ba) + (nI j)).toNatClampNeg))), (0, .ref (b + (84 + 6 * ci))), (1, .int tk), (2, .int ba)]) hx hb d_A_snapshotSize_64 hl rfl (nI_1 _) (by decide) rfl (fun ls hl => ?_)
        refine lv_goto (tgt := 15) hx hb d_A_snapshotSize_67 rfl ?_
        exact ih mu ci tk ba (sz + (f_A_entitySize (mu (86 + 6 * ci) (((f_A_rowOf ba) + (nI j)).toNatClampNeg)) (mu (86 + 6 * ci) (((f_A_rowOf tk) + (nI j)).toNatClampNeg)))) (j + 1) hci (by omega) (by omega)  ls _ hP  (lv_sub hl [3, 4, 5, 1, 0] rfl) hf
      · have hf := hf.trans (if_pos h23)
        refine lv_iconst (v := (-1)) hx hb d_A_snapshotSize_26 (by decide) ?_
        refine lv_goto (tgt := 42) hx hb d_A_snapshotSize_27 rfl ?_
        refine lv_istore (lv' := [(5, .int (-1)), (0, .ref (b + (84 + 6 * ci))), (1, .int tk), (2, .int ba), (3, .int sz), (4, .int (nI j))]) hx hb d_A_snapshotSize_42 hl (by decide) rfl (fun ls hl => ?_)
        refine lv_iload_n hx hb d_A_snapshotSize_44 rfl (lv_at hl 4 rfl) ?_
        refine lv_iload hx hb d_A_snapshotSize_45 (lv_at hl 0 rfl) ?_
        refine lv_aload_n hx hb d_A_snapshotSize_47 rfl (lv_at hl 1 rfl) ?_
        refine fm_get (C := R_A) (T := T_A) (n := 4) (ci := 5) hx hb hg uw_A hown hK hP (84 + 6 * ci) (lc_ltA hci) (lc_A aC b _ hci) rfl 1 (by decide) (hg _ fl_A_15) (fun _ h9 => h9) rfl d_A_snapshotSize_48 ?_
        refine lv_iload_n hx hb d_A_snapshotSize_51 rfl (lv_at hl 2 rfl) ?_
        refine ro_call (va_runS (As := [.int tk]) (rest := [.ref (b + (86 + 6 * ci)), .int (-1), .int sz]) ⟨hx, hb, hml, hown, hts⟩ (c_A_rowOf l dC dI aC b mu tk) (cw_S (fun w h => List.mem_cons_of_mem _ h) hts ks_A_rowOf ml_A_43 ⟨Nat.le_of_ble_eq_true rfl, Nat.le_of_ble_eq_true rfl⟩ rfl rfl) (fm_preS XC_bl (XC_mv hX hS) hK hP) rfl rfl hl.1 rfl (lv_room (Nat.le_of_ble_eq_true rfl)) d_A_snapshotSize_52 ⟨Nat.zero_le _, Nat.zero_le _⟩) ?_
        refine lv_iload hx hb d_A_snapshotSize_55 (lv_at hl 5 rfl) ?_
        refine lv_iadd hx hb d_A_snapshotSize_57 ?_
        refine fm_iald hx hb hK hP (86 + 6 * ci) (lc_ltAto hci) 0 (lc_Ato aC b _ hci) rfl (((f_A_rowOf tk) + (nI j)).toNatClampNeg) (vp_e (n := 64) (row_in _ hj8)) (vp_l (n := 64) (row_in _ hj8)) (by decide) d_A_snapshotSize_58 ?_
        refine ro_call (va_runS (As := [.int (-1), .int (mu (86 + 6 * ci) (((f_A_rowOf tk) + (nI j)).toNatClampNeg))]) (rest := [.int sz]) ⟨hx, hb, hml, hown, hts⟩ (c_A_entitySize l dC dI aC b mu (-1) (mu (86 + 6 * ci) (((f_A_rowOf tk) + (nI j)).toNatClampNeg))) (cw_S (fun w h => List.mem_cons_of_mem _ h) hts ks_A_entitySize ml_A_79 ⟨Nat.le_of_ble_eq_true rfl, Nat.le_of_ble_eq_true rfl⟩ rfl rfl) (fm_preS XC_bl (XC_mv hX hS) hK hP) rfl rfl hl.1 rfl (lv_room (Nat.le_of_ble_eq_true rfl)) d_A_snapshotSize_59 ⟨Nat.zero_le _, Nat.zero_le _⟩) ?_
        refine lv_iadd hx hb d_A_snapshotSize_62 ?_
        refine lv_istore_n (lv' := [(3, .int (sz + (f_A_entitySize (-1) (mu (86 + 6 * ci) (((f_A_rowOf tk) + (nI j)).toNatClampNeg))))), (5, .int (-1)), (0, .ref (b + (84 + 6 * ci))), (1, .int tk), (2, .int ba), (4, .int (nI j))]) hx hb d_A_snapshotSize_63 rfl hl (by decide) rfl (fun ls hl => ?_)
        refine lv_iinc (k := 5) (v := (nI (j + 1))) (lv' := [(4, .int (nI (j + 1))), (3, .int (sz + (f_A_entitySize (-1) (mu (86 + 6 * ci) (((f_A_rowOf tk) + (nI j)).toNatClampNeg))))), (5, .int (-1)), (0, .ref (b + (84 + 6 * ci))), (1, .int tk), (2, .int ba)]) hx hb d_A_snapshotSize_64 hl rfl (nI_1 _) (by decide) rfl (fun ls hl => ?_)
        refine lv_goto (tgt := 15) hx hb d_A_snapshotSize_67 rfl ?_
        exact ih mu ci tk ba (sz + (f_A_entitySize (-1) (mu (86 + 6 * ci) (((f_A_rowOf tk) + (nI j)).toNatClampNeg)))) (j + 1) hci (by omega) (by omega)  ls _ hP  (lv_sub hl [3, 4, 5, 1, 0] rfl) hf
def f_A_snapshotSize (mu : fm_T) (ci : Nat) (tk : Int32) (ba : Int32) : Int32 := (if ba = 0 then (f_A_snapshotSize_15 9 mu ci tk ba 21 0) else (f_A_snapshotSize_15 9 mu ci tk ba 24 0))
theorem e_A_snapshotSize (mu : fm_T) (ci : Nat) (tk : Int32) (ba : Int32) : f_A_snapshotSize mu ci tk ba = (if ba = 0 then (f_A_snapshotSize_15 9 mu ci tk ba 21 0) else (f_A_snapshotSize_15 9 mu ci tk ba 24 0)) := rfl
set_option maxHeartbeats 4000000 in
set_option maxRecDepth 100000 in
theorem k_A_snapshotSize (l : Launch) (dC : Nat → ClassId) (dI : Nat → Nat → Nat) (aC : Nat → ClassId) (b : Nat) {p : Program} {e : Env} {s : State} {m : MethodId} {args : Array Value} {below : List Frame} {meth : Method} {cd : Code} (hc : cx (dC, dI) (tysx aC) (XC b) w_A_snapshotSize b_A_snapshotSize R_A 6 (some .int) p s m args meth cd) (mu : fm_T) (ci : Nat) (tk : Int32) (ba : Int32) (hci : ci < 3) (ls : Array Slot) (F : Int32) (hP : va_P (dC, dI) clsx (fm_w (LC aC b) b 99 mu) s.heap) (hl : lv_has ls 6 [(0, .ref (b + (84 + 6 * ci))), (1, .int tk), (2, .int ba)]) (hf : F = f_A_snapshotSize mu ci tk ba) : W p l e { frames := 3, cells := 0, slots := 0, locals := 66 } s m args below meth cd s.heap [] 0 0 (MQ below (QcRead F) args s 0 0 (fun _ => False)) (F0 m 0 ls []) := by
  obtain ⟨hx, hb, hr, hml, hown, hts, hlocks, hK, hX⟩ := hc
  have hg : ∀ w ∈ gtbl, w.before args s = true := fun w h => hts w (List.mem_cons_of_mem _ h)
  have hS : va_S (fm_A b 99) s.heap s.heap [] := va_S.rf
  have hf := hf.trans (e_A_snapshotSize mu ci tk ba)
  refine lv_iload_n hx hb d_A_snapshotSize_0 rfl (lv_at hl 2 rfl) ?_
  refine lv_if_ne (tgt := 9) hx hb d_A_snapshotSize_1 rfl (fun h1 => ?_) (fun h1 => ?_)
  · have hf := hf.trans (if_neg h1)
    refine lv_bipush (v := 24) hx hb d_A_snapshotSize_9 (by decide) ?_
    refine lv_istore_n (lv' := [(3, .int 24), (0, .ref (b + (84 + 6 * ci))), (1, .int tk), (2, .int ba)]) hx hb d_A_snapshotSize_11 rfl hl (by decide) rfl (fun ls hl => ?_)
    refine lv_iconst (v := 0) hx hb d_A_snapshotSize_12 (by decide) ?_
    refine lv_istore (lv' := [(4, .int 0), (3, .int 24), (0, .ref (b + (84 + 6 * ci))), (1, .int tk), (2, .int ba)]) hx hb d_A_snapshotSize_13 hl (by decide) rfl (fun ls hl => ?_)
    exact k_A_snapshotSize_15 l dC dI aC b ⟨hx, hb, hr, hml, hown, hts, hlocks, hK, hX⟩ 9 mu ci tk ba 24 0 hci (by decide) (by decide)  ls _ hP  (lv_sub hl [2, 3, 4, 1, 0] rfl) hf
  · have hf := hf.trans (if_pos h1)
    refine lv_bipush (v := 21) hx hb d_A_snapshotSize_4 (by decide) ?_
    refine lv_goto (tgt := 11) hx hb d_A_snapshotSize_6 rfl ?_
    refine lv_istore_n (lv' := [(3, .int 21), (0, .ref (b + (84 + 6 * ci))), (1, .int tk), (2, .int ba)]) hx hb d_A_snapshotSize_11 rfl hl (by decide) rfl (fun ls hl => ?_)
    refine lv_iconst (v := 0) hx hb d_A_snapshotSize_12 (by decide) ?_
    refine lv_istore (lv' := [(4, .int 0), (3, .int 21), (0, .ref (b + (84 + 6 * ci))), (1, .int tk), (2, .int ba)]) hx hb d_A_snapshotSize_13 hl (by decide) rfl (fun ls hl => ?_)
    exact k_A_snapshotSize_15 l dC dI aC b ⟨hx, hb, hr, hml, hown, hts, hlocks, hK, hX⟩ 9 mu ci tk ba 21 0 hci (by decide) (by decide)  ls _ hP  (lv_sub hl [2, 3, 4, 1, 0] rfl) hf
set_option maxHeartbeats 4000000 in
set_option maxRecDepth 100000 in
theorem c_A_snapshotSize (l : Launch) (dC : Nat → ClassId) (dI : Nat → Nat → Nat) (aC : Nat → ClassId) (b : Nat) (mu : fm_T) (ci : Nat) (tk : Int32) (ba : Int32) (hci : ci < 3) : Met l y_A_snapshotSize w_A_snapshotSize { frames := 3, cells := 0, slots := 0, locals := 66 } (va_Pc [.ref (b + (84 + 6 * ci)), .int tk, .int ba] (fm_C (dC, dI) clsx (tysx aC) (LC aC b) b 99 (XC b) mu)) (QcRead (f_A_snapshotSize mu ci tk ba)) 0 0 (fun _ => False) := by
  refine Met.ofW (cc := b_A_snapshotSize) (maxL := 6) (ret := (some .int)) (by decide) rfl ?_
  intro p e s m args below meth cd s₁ B hml hv
  obtain ⟨rfl, hP, hK, hX⟩ := hv
  have hl := lv_entry ([.ref (b + (84 + 6 * ci)), .int tk, .int ba]) (n := 6) (Nat.le_of_ble_eq_true rfl)
  rw [lg_entry_eq]
  generalize (lg_sl ([.ref (b + (84 + 6 * ci)), .int tk, .int ba]) ++ List.replicate (6 - (lg_sl ([.ref (b + (84 + 6 * ci)), .int tk, .int ba])).length) Slot.unset).toArray = ls at hl ⊢
  exact k_A_snapshotSize l dC dI aC b ⟨B.exec, B.bytes, B.returns, hml, findClass_of_methodNamed B.named, atoms_spec (ws := w_A_snapshotSize) B.pre, B.notSynchronized, hK, hX⟩ mu ci tk ba hci ls _ hP hl rfl
def f_A_writeSnapshot_27 (mu : fm_T) (ci : Nat) (pi : Nat) (tk : Int32) : fm_T := fm_up (va_up mu (8 + 3 * pi) (va_cpy (mu (86 + 6 * ci)) (mu (8 + 3 * pi)) ((f_A_rowOf tk).toNatClampNeg) 0 8)) (7 + 3 * pi) 2 (f_A_snapshotSize (va_up mu (8 + 3 * pi) (va_cpy (mu (86 + 6 * ci)) (mu (8 + 3 * pi)) ((f_A_rowOf tk).toNatClampNeg) 0 8)) ci tk ((va_up mu (8 + 3 * pi) (va_cpy (mu (86 + 6 * ci)) (mu (8 + 3 * pi)) ((f_A_rowOf tk).toNatClampNeg) 0 8)) (7 + 3 * pi) 5))
theorem e_A_writeSnapshot_27 (mu : fm_T) (ci : Nat) (pi : Nat) (tk : Int32) : f_A_writeSnapshot_27 mu ci pi tk = fm_up (va_up mu (8 + 3 * pi) (va_cpy (mu (86 + 6 * ci)) (mu (8 + 3 * pi)) ((f_A_rowOf tk).toNatClampNeg) 0 8)) (7 + 3 * pi) 2 (f_A_snapshotSize (va_up mu (8 + 3 * pi) (va_cpy (mu (86 + 6 * ci)) (mu (8 + 3 * pi)) ((f_A_rowOf tk).toNatClampNeg) 0 8)) ci tk ((va_up mu (8 + 3 * pi) (va_cpy (mu (86 + 6 * ci)) (mu (8 + 3 * pi)) ((f_A_rowOf tk).toNatClampNeg) 0 8)) (7 + 3 * pi) 5)) := rfl
set_option maxHeartbeats 4000000 in
set_option maxRecDepth 100000 in
theorem k_A_writeSnapshot_27 (l : Launch) (dC : Nat → ClassId) (dI : Nat → Nat → Nat) (aC : Nat → ClassId) (b : Nat) {p : Program} {e : Env} {s : State} {m : MethodId} {args : Array Value} {below : List Frame} {meth : Method} {cd : Code} (hc : cx (dC, dI) (tysx aC) (XC b) w_A_writeSnapshot b_A_writeSnapshot R_A 3 none p s m args meth cd) (mu : fm_T) (ci : Nat) (pi : Nat) (tk : Int32) (hci : ci < 3) (hpi : pi < 24) (H : Heap) (locs : List Loc) (ls : Array Slot) (F : fm_T) (hP : va_P (dC, dI) clsx (fm_w (LC aC b) b 99 mu) H) (hS : va_S (fm_A b 99) s.heap H locs) (hl : lv_has ls 3 [(0, .ref (b + (84 + 6 * ci))), (1, .ref (b + (7 + 3 * pi))), (2, .int tk)]) (hf : F = f_A_writeSnapshot_27 mu ci pi tk) : W p l e { frames := 4, cells := 0, slots := 0, locals := 91 } s m args below meth cd H locs 0 0 (MQ below (va_Qv (fun u => u = F) (fm_B (dC, dI) clsx (tysx aC) (LC aC b) b 99) (fm_A b 99)) args s 0 0 (fm_A b 99)) (F0 m 27 ls []) := by
  obtain ⟨hx, hb, hr, hml, hown, hts, hlocks, hK, hX⟩ := hc
  have hg : ∀ w ∈ gtbl, w.before args s = true := fun w h => hts w (List.mem_cons_of_mem _ h)
  have hf := hf.trans (e_A_writeSnapshot_27 mu ci pi tk)
  refine lv_aload_n hx hb d_A_writeSnapshot_27 rfl (lv_at hl 0 rfl) ?_
  refine fm_get (C := R_A) (T := T_A) (n := 4) (ci := 5) hx hb hg uw_A hown hK hP (84 + 6 * ci) (lc_ltA hci) (lc_A aC b _ hci) rfl 1 (by decide) (hg _ fl_A_15) (fun _ h9 => h9) rfl d_A_writeSnapshot_28 ?_
  refine lv_iload_n hx hb d_A_writeSnapshot_31 rfl (lv_at hl 2 rfl) ?_
  refine ro_call (va_runS (As := [.int tk]) (rest := [.ref (b + (86 + 6 * ci))]) ⟨hx, hb, hml, hown, hts⟩ (c_A_rowOf l dC dI aC b mu tk) (cw_S (fun w h => List.mem_cons_of_mem _ h) hts ks_A_rowOf ml_A_43 ⟨Nat.le_of_ble_eq_true rfl, Nat.le_of_ble_eq_true rfl⟩ rfl rfl) (fm_preS XC_bl (XC_mv hX hS) hK hP) rfl rfl hl.1 rfl (lv_room (Nat.le_of_ble_eq_true rfl)) d_A_writeSnapshot_32 ⟨Nat.zero_le _, Nat.zero_le _⟩) ?_
  refine lv_aload_n hx hb d_A_writeSnapshot_35 rfl (lv_at hl 1 rfl) ?_
  refine fm_get (C := R_P) (T := T_P) (n := 9) (ci := 3) hx hb hg uw_P hown hK hP (7 + 3 * pi) (lc_ltP hpi) (lc_P aC b _ hpi) rfl 6 (by decide) (hg _ fl_A_66) (fun _ h9 => h9) rfl d_A_writeSnapshot_36 ?_
  refine lv_iconst (v := 0) hx hb d_A_writeSnapshot_39 (by decide) ?_
  refine lv_bipush (v := 8) hx hb d_A_writeSnapshot_40 (by decide) ?_
  refine fm_copy hx hb (by rw [hml]; exact hl.1.symm) hown (hg _ ml_A_67) (hg _ nt_System_arraycopy) (hg _ st_System_arraycopy) (hg _ in_System) hK (fun _ h => h) hP hS (86 + 6 * ci) (8 + 3 * pi) (lc_ltAto hci) (lc_ltPpl hpi) 0 (lc_Ato aC b _ hci) (lc_Ppl aC b _ hpi) rfl ((f_A_rowOf tk).toNatClampNeg) 0 8 (row_e tk) rfl rfl (row_8 tk) (by decide) (by decide) (by decide) (lc_Ppl aC b _ hpi) (Nat.le_of_ble_eq_true rfl) (Nat.le_of_ble_eq_true rfl) d_A_writeSnapshot_42 (fun H locs hP hS => ?_)
  refine lv_aload_n hx hb d_A_writeSnapshot_45 rfl (lv_at hl 1 rfl) ?_
  refine lv_aload_n hx hb d_A_writeSnapshot_46 rfl (lv_at hl 0 rfl) ?_
  refine lv_iload_n hx hb d_A_writeSnapshot_47 rfl (lv_at hl 2 rfl) ?_
  refine lv_aload_n hx hb d_A_writeSnapshot_48 rfl (lv_at hl 1 rfl) ?_
  refine fm_get (C := R_P) (T := T_P) (n := 9) (ci := 3) hx hb hg uw_P hown hK hP (7 + 3 * pi) (lc_ltP hpi) (lc_P aC b _ hpi) rfl 5 (by decide) (hg _ fl_A_63) (fun _ h9 => h9) rfl d_A_writeSnapshot_49 ?_
  refine ro_call (va_runV (As := [.int tk, .int ((va_up mu (8 + 3 * pi) (va_cpy (mu (86 + 6 * ci)) (mu (8 + 3 * pi)) ((f_A_rowOf tk).toNatClampNeg) 0 8)) (7 + 3 * pi) 5)]) (rest := [.ref (b + (7 + 3 * pi))]) ⟨hx, hb, hml, hown, hts⟩ (c_A_snapshotSize l dC dI aC b (va_up mu (8 + 3 * pi) (va_cpy (mu (86 + 6 * ci)) (mu (8 + 3 * pi)) ((f_A_rowOf tk).toNatClampNeg) 0 8)) ci tk ((va_up mu (8 + 3 * pi) (va_cpy (mu (86 + 6 * ci)) (mu (8 + 3 * pi)) ((f_A_rowOf tk).toNatClampNeg) 0 8)) (7 + 3 * pi) 5) hci) (cw_V (fun w h => List.mem_cons_of_mem _ h) hts kv_A_snapshotSize ml_A_73 ⟨Nat.le_of_ble_eq_true rfl, Nat.le_of_ble_eq_true rfl⟩ rfl rfl) (fm_preV XC_bl (XC_mv hX hS) hK hP (84 + 6 * ci) (lc_ltA hci) (lc_A aC b _ hci) rfl) rfl rfl hl.1 rfl (lv_room (Nat.le_of_ble_eq_true rfl)) d_A_writeSnapshot_52 ⟨Nat.zero_le _, Nat.zero_le _⟩) ?_
  refine fm_put (v := .int (f_A_snapshotSize (va_up mu (8 + 3 * pi) (va_cpy (mu (86 + 6 * ci)) (mu (8 + 3 * pi)) ((f_A_rowOf tk).toNatClampNeg) 0 8)) ci tk ((va_up mu (8 + 3 * pi) (va_cpy (mu (86 + 6 * ci)) (mu (8 + 3 * pi)) ((f_A_rowOf tk).toNatClampNeg) 0 8)) (7 + 3 * pi) 5))) (x := (f_A_snapshotSize (va_up mu (8 + 3 * pi) (va_cpy (mu (86 + 6 * ci)) (mu (8 + 3 * pi)) ((f_A_rowOf tk).toNatClampNeg) 0 8)) ci tk ((va_up mu (8 + 3 * pi) (va_cpy (mu (86 + 6 * ci)) (mu (8 + 3 * pi)) ((f_A_rowOf tk).toNatClampNeg) 0 8)) (7 + 3 * pi) 5))) (ty := .int) (C := R_P) (T := T_P) (n := 9) (ci := 3) hx hb hg uw_P ty_P tk_P nm_P hown hK (fun _ h => h) hP hS (7 + 3 * pi) (lc_ltP hpi) (lc_P aC b _ hpi) rfl 2 (by decide) (hg _ fl_A_76) (fun _ h9 => h9) rfl (by decide +kernel) rfl rfl (Nat.le_of_ble_eq_true rfl) (lc_P aC b _ hpi) d_A_writeSnapshot_55 (fun H locs hP hS => ?_)
  exact rw_vret hx hb hr hlocks hK hP hS hf d_A_writeSnapshot_58
def f_A_writeSnapshot (mu : fm_T) (ci : Nat) (pi : Nat) (tk : Int32) : fm_T := (f_A_writeSnapshot_27 (fm_up (fm_up (fm_up (fm_up mu (7 + 3 * pi) 1 1) (7 + 3 * pi) 3 tk) (7 + 3 * pi) 4 ((fm_up (fm_up mu (7 + 3 * pi) 1 1) (7 + 3 * pi) 3 tk) (84 + 6 * ci) 2)) (7 + 3 * pi) 5 (f_A_baseAt (fm_up (fm_up (fm_up mu (7 + 3 * pi) 1 1) (7 + 3 * pi) 3 tk) (7 + 3 * pi) 4 ((fm_up (fm_up mu (7 + 3 * pi) 1 1) (7 + 3 * pi) 3 tk) (84 + 6 * ci) 2)) ci tk)) ci pi tk)
theorem e_A_writeSnapshot (mu : fm_T) (ci : Nat) (pi : Nat) (tk : Int32) : f_A_writeSnapshot mu ci pi tk = (f_A_writeSnapshot_27 (fm_up (fm_up (fm_up (fm_up mu (7 + 3 * pi) 1 1) (7 + 3 * pi) 3 tk) (7 + 3 * pi) 4 ((fm_up (fm_up mu (7 + 3 * pi) 1 1) (7 + 3 * pi) 3 tk) (84 + 6 * ci) 2)) (7 + 3 * pi) 5 (f_A_baseAt (fm_up (fm_up (fm_up mu (7 + 3 * pi) 1 1) (7 + 3 * pi) 3 tk) (7 + 3 * pi) 4 ((fm_up (fm_up mu (7 + 3 * pi) 1 1) (7 + 3 * pi) 3 tk) (84 + 6 * ci) 2)) ci tk)) ci pi tk) := rfl
set_option maxHeartbeats 4000000 in
set_option maxRecDepth 100000 in
theorem k_A_writeSnapshot (l : Launch) (dC : Nat → ClassId) (dI : Nat → Nat → Nat) (aC : Nat → ClassId) (b : Nat) {p : Program} {e : Env} {s : State} {m : MethodId} {args : Array Value} {below : List Frame} {meth : Method} {cd : Code} (hc : cx (dC, dI) (tysx aC) (XC b) w_A_writeSnapshot b_A_writeSnapshot R_A 3 none p s m args meth cd) (mu : fm_T) (ci : Nat) (pi : Nat) (tk : Int32) (hci : ci < 3) (hpi : pi < 24) (H : Heap) (locs : List Loc) (ls : Array Slot) (F : fm_T) (hP : va_P (dC, dI) clsx (fm_w (LC aC b) b 99 mu) H) (hS : va_S (fm_A b 99) s.heap H locs) (hl : lv_has ls 3 [(0, .ref (b + (84 + 6 * ci))), (1, .ref (b + (7 + 3 * pi))), (2, .int tk)]) (hf : F = f_A_writeSnapshot mu ci pi tk) : W p l e { frames := 4, cells := 0, slots := 0, locals := 91 } s m args below meth cd H locs 0 0 (MQ below (va_Qv (fun u => u = F) (fm_B (dC, dI) clsx (tysx aC) (LC aC b) b 99) (fm_A b 99)) args s 0 0 (fm_A b 99)) (F0 m 0 ls []) := by
  obtain ⟨hx, hb, hr, hml, hown, hts, hlocks, hK, hX⟩ := hc
  have hg : ∀ w ∈ gtbl, w.before args s = true := fun w h => hts w (List.mem_cons_of_mem _ h)
  have hf := hf.trans (e_A_writeSnapshot mu ci pi tk)
  refine lv_aload_n hx hb d_A_writeSnapshot_0 rfl (lv_at hl 1 rfl) ?_
  refine lv_iconst (v := 1) hx hb d_A_writeSnapshot_1 (by decide) ?_
  refine fm_put (v := .int 1) (x := 1) (ty := .boolean) (C := R_P) (T := T_P) (n := 9) (ci := 3) hx hb hg uw_P ty_P tk_P nm_P hown hK (fun _ h => h) hP hS (7 + 3 * pi) (lc_ltP hpi) (lc_P aC b _ hpi) rfl 1 (by decide) (hg _ fl_A_56) (fun _ h9 => h9) rfl (by decide +kernel) rfl rfl (Nat.le_of_ble_eq_true rfl) (lc_P aC b _ hpi) d_A_writeSnapshot_2 (fun H locs hP hS => ?_)
  refine lv_aload_n hx hb d_A_writeSnapshot_5 rfl (lv_at hl 1 rfl) ?_
  refine lv_iload_n hx hb d_A_writeSnapshot_6 rfl (lv_at hl 2 rfl) ?_
  refine fm_put (v := .int tk) (x := tk) (ty := .int) (C := R_P) (T := T_P) (n := 9) (ci := 3) hx hb hg uw_P ty_P tk_P nm_P hown hK (fun _ h => h) hP hS (7 + 3 * pi) (lc_ltP hpi) (lc_P aC b _ hpi) rfl 3 (by decide) (hg _ fl_A_25) (fun _ h9 => h9) rfl (by decide +kernel) rfl rfl (Nat.le_of_ble_eq_true rfl) (lc_P aC b _ hpi) d_A_writeSnapshot_7 (fun H locs hP hS => ?_)
  refine lv_aload_n hx hb d_A_writeSnapshot_10 rfl (lv_at hl 1 rfl) ?_
  refine lv_aload_n hx hb d_A_writeSnapshot_11 rfl (lv_at hl 0 rfl) ?_
  refine fm_get (C := R_A) (T := T_A) (n := 4) (ci := 5) hx hb hg uw_A hown hK hP (84 + 6 * ci) (lc_ltA hci) (lc_A aC b _ hci) rfl 2 (by decide) (hg _ fl_A_18) (fun _ h9 => h9) rfl d_A_writeSnapshot_12 ?_
  refine fm_put (v := .int ((fm_up (fm_up mu (7 + 3 * pi) 1 1) (7 + 3 * pi) 3 tk) (84 + 6 * ci) 2)) (x := ((fm_up (fm_up mu (7 + 3 * pi) 1 1) (7 + 3 * pi) 3 tk) (84 + 6 * ci) 2)) (ty := .int) (C := R_P) (T := T_P) (n := 9) (ci := 3) hx hb hg uw_P ty_P tk_P nm_P hown hK (fun _ h => h) hP hS (7 + 3 * pi) (lc_ltP hpi) (lc_P aC b _ hpi) rfl 4 (by decide) (hg _ fl_A_36) (fun _ h9 => h9) rfl (by decide +kernel) rfl rfl (Nat.le_of_ble_eq_true rfl) (lc_P aC b _ hpi) d_A_writeSnapshot_15 (fun H locs hP hS => ?_)
  refine lv_aload_n hx hb d_A_writeSnapshot_18 rfl (lv_at hl 1 rfl) ?_
  refine lv_aload_n hx hb d_A_writeSnapshot_19 rfl (lv_at hl 0 rfl) ?_
  refine lv_iload_n hx hb d_A_writeSnapshot_20 rfl (lv_at hl 2 rfl) ?_
  refine ro_call (va_runV (As := [.int tk]) (rest := [.ref (b + (7 + 3 * pi))]) ⟨hx, hb, hml, hown, hts⟩ (c_A_baseAt l dC dI aC b (fm_up (fm_up (fm_up mu (7 + 3 * pi) 1 1) (7 + 3 * pi) 3 tk) (7 + 3 * pi) 4 ((fm_up (fm_up mu (7 + 3 * pi) 1 1) (7 + 3 * pi) 3 tk) (84 + 6 * ci) 2)) ci tk hci) (cw_V (fun w h => List.mem_cons_of_mem _ h) hts kv_A_baseAt ml_A_60 ⟨Nat.le_of_ble_eq_true rfl, Nat.le_of_ble_eq_true rfl⟩ rfl rfl) (fm_preV XC_bl (XC_mv hX hS) hK hP (84 + 6 * ci) (lc_ltA hci) (lc_A aC b _ hci) rfl) rfl rfl hl.1 rfl (lv_room (Nat.le_of_ble_eq_true rfl)) d_A_writeSnapshot_21 ⟨Nat.zero_le _, Nat.zero_le _⟩) ?_
  refine fm_put (v := .int (f_A_baseAt (fm_up (fm_up (fm_up mu (7 + 3 * pi) 1 1) (7 + 3 * pi) 3 tk) (7 + 3 * pi) 4 ((fm_up (fm_up mu (7 + 3 * pi) 1 1) (7 + 3 * pi) 3 tk) (84 + 6 * ci) 2)) ci tk)) (x := (f_A_baseAt (fm_up (fm_up (fm_up mu (7 + 3 * pi) 1 1) (7 + 3 * pi) 3 tk) (7 + 3 * pi) 4 ((fm_up (fm_up mu (7 + 3 * pi) 1 1) (7 + 3 * pi) 3 tk) (84 + 6 * ci) 2)) ci tk)) (ty := .int) (C := R_P) (T := T_P) (n := 9) (ci := 3) hx hb hg uw_P ty_P tk_P nm_P hown hK (fun _ h => h) hP hS (7 + 3 * pi) (lc_ltP hpi) (lc_P aC b _ hpi) rfl 5 (by decide) (hg _ fl_A_63) (fun _ h9 => h9) rfl (by decide +kernel) rfl rfl (Nat.le_of_ble_eq_true rfl) (lc_P aC b _ hpi) d_A_writeSnapshot_24 (fun H locs hP hS => ?_)
  exact k_A_writeSnapshot_27 l dC dI aC b ⟨hx, hb, hr, hml, hown, hts, hlocks, hK, hX⟩  (fm_up (fm_up (fm_up (fm_up mu (7 + 3 * pi) 1 1) (7 + 3 * pi) 3 tk) (7 + 3 * pi) 4 ((fm_up (fm_up mu (7 + 3 * pi) 1 1) (7 + 3 * pi) 3 tk) (84 + 6 * ci) 2)) (7 + 3 * pi) 5 (f_A_baseAt (fm_up (fm_up (fm_up mu (7 + 3 * pi) 1 1) (7 + 3 * pi) 3 tk) (7 + 3 * pi) 4 ((fm_up (fm_up mu (7 + 3 * pi) 1 1) (7 + 3 * pi) 3 tk) (84 + 6 * ci) 2)) ci tk)) ci pi tk hci hpi _ _ ls _ hP hS (lv_sub hl [0, 1, 2] rfl) hf
set_option maxHeartbeats 4000000 in
set_option maxRecDepth 100000 in
theorem c_A_writeSnapshot (l : Launch) (dC : Nat → ClassId) (dI : Nat → Nat → Nat) (aC : Nat → ClassId) (b : Nat) (mu : fm_T) (ci : Nat) (pi : Nat) (tk : Int32) (hci : ci < 3) (hpi : pi < 24) : Met l y_A_writeSnapshot w_A_writeSnapshot { frames := 4, cells := 0, slots := 0, locals := 91 } (va_Pc [.ref (b + (84 + 6 * ci)), .ref (b + (7 + 3 * pi)), .int tk] (fm_C (dC, dI) clsx (tysx aC) (LC aC b) b 99 (XC b) mu)) (va_Qv (fun u => u = (f_A_writeSnapshot mu ci pi tk)) (fm_B (dC, dI) clsx (tysx aC) (LC aC b) b 99) (fm_A b 99)) 0 0 (fm_A b 99) := by
  refine Met.ofW (cc := b_A_writeSnapshot) (maxL := 3) (ret := none) (by decide) rfl ?_
  intro p e s m args below meth cd s₁ B hml hv
  obtain ⟨rfl, hP, hK, hX⟩ := hv
  have hl := lv_entry ([.ref (b + (84 + 6 * ci)), .ref (b + (7 + 3 * pi)), .int tk]) (n := 3) (Nat.le_of_ble_eq_true rfl)
  rw [lg_entry_eq]
  generalize (lg_sl ([.ref (b + (84 + 6 * ci)), .ref (b + (7 + 3 * pi)), .int tk]) ++ List.replicate (3 - (lg_sl ([.ref (b + (84 + 6 * ci)), .ref (b + (7 + 3 * pi)), .int tk])).length) Slot.unset).toArray = ls at hl ⊢
  exact k_A_writeSnapshot l dC dI aC b ⟨B.exec, B.bytes, B.returns, hml, findClass_of_methodNamed B.named, atoms_spec (ws := w_A_writeSnapshot) B.pre, B.notSynchronized, hK, hX⟩ mu ci pi tk hci hpi _ _ ls _ hP va_S.rf hl rfl
