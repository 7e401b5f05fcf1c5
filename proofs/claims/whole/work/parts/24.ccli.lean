/-! printed by wip/whole/gen: C_unseenCommands C_commandAt C_addCommand C_writeReport C_takeSnapshot -/
def f_C_unseenCommands (mu : fm_T) (ci : Nat) : Int32 := (mu (81 + 6 * ci) 3) - (mu (81 + 6 * ci) 4)
theorem e_C_unseenCommands (mu : fm_T) (ci : Nat) : f_C_unseenCommands mu ci = (mu (81 + 6 * ci) 3) - (mu (81 + 6 * ci) 4) := rfl
set_option maxHeartbeats 4000000 in
set_option maxRecDepth 100000 in
theorem k_C_unseenCommands (l : Launch) (dC : Nat → ClassId) (dI : Nat → Nat → Nat) (aC : Nat → ClassId) (b : Nat) {p : Program} {e : Env} {s : State} {m : MethodId} {args : Array Value} {below : List Frame} {meth : Method} {cd : Code} (hc : cx (dC, dI) (tysx aC) (XC b) w_C_unseenCommands b_C_unseenCommands R_C 1 (some .int) p s m args meth cd) (mu : fm_T) (ci : Nat) (hci : ci < 3) (ls : Array Slot) (F : Int32) (hP : va_P (dC, dI) clsx (fm_w (LC aC b) b 99 mu) s.heap) (hl : lv_has ls 1 [(0, .ref (b + (81 + 6 * ci)))]) (hf : F = f_C_unseenCommands mu ci) : W p l e { frames := 0, cells := 0, slots := 0, locals := 0 } s m args below meth cd s.heap [] 0 0 (MQ below (QcRead F) args s 0 0 (fun _ => False)) (F0 m 0 ls []) := by
  obtain ⟨hx, hb, hr, hml, hown, hts, hlocks, hK, hX⟩ := hc
  have hg : ∀ w ∈ gtbl, w.before args s = true := fun w h => hts w (List.mem_cons_of_mem _ h)
  have hS : va_S (fm_A b 99) s.heap s.heap [] := va_S.rf
  have hf := hf.trans (e_C_unseenCommands mu ci)
  refine lv_aload_n hx hb d_C_unseenCommands_0 rfl (lv_at hl 0 rfl) ?_
  refine fm_get (C := R_C) (T := T_C) (n := 6) (ci := 4) hx hb hg uw_C hown hK hP (81 + 6 * ci) (lc_ltC hci) (lc_C aC b _ hci) rfl 3 (by decide) (hg _ fl_C_22) (fun _ h9 => h9) rfl d_C_unseenCommands_1 ?_
  refine lv_aload_n hx hb d_C_unseenCommands_4 rfl (lv_at hl 0 rfl) ?_
  refine fm_get (C := R_C) (T := T_C) (n := 6) (ci := 4) hx hb hg uw_C hown hK hP (81 + 6 * ci) (lc_ltC hci) (lc_C aC b _ hci) rfl 4 (by decide) (hg _ fl_C_25) (fun _ h9 => h9) rfl d_C_unseenCommands_5 ?_
  refine lv_isub hx hb d_C_unseenCommands_8 ?_
  exact ro_iret hx hb hr hlocks hf d_C_unseenCommands_9
set_option maxHeartbeats 4000000 in
set_option maxRecDepth 100000 in
theorem c_C_unseenCommands (l : Launch) (dC : Nat → ClassId) (dI : Nat → Nat → Nat) (aC : Nat → ClassId) (b : Nat) (mu : fm_T) (ci : Nat) (hci : ci < 3) : Met l y_C_unseenCommands w_C_unseenCommands { frames := 0, cells := 0, slots := 0, locals := 0 } (va_Pc [.ref (b + (81 + 6 * ci))] (fm_C (dC, dI) clsx (tysx aC) (LC aC b) b 99 (XC b) mu)) (QcRead (f_C_unseenCommands mu ci)) 0 0 (fun _ => False) := by
  refine Met.ofW (cc := b_C_unseenCommands) (maxL := 1) (ret := (some .int)) (by decide) rfl ?_
  intro p e s m args below meth cd s₁ B hml hv
  obtain ⟨rfl, hP, hK, hX⟩ := hv
  have hl := lv_entry ([.ref (b + (81 + 6 * ci))]) (n := 1) (Nat.le_of_ble_eq_true rfl)
  rw [lg_entry_eq]
  generalize (lg_sl ([.ref (b + (81 + 6 * ci))]) ++ List.replicate (1 - (lg_sl ([.ref (b + (81 + 6 * ci))])).length) Slot.unset).toArray = ls at hl ⊢
  exact k_C_unseenCommands l dC dI aC b ⟨B.exec, B.bytes, B.returns, hml, findClass_of_methodNamed B.named, atoms_spec (ws := w_C_unseenCommands) B.pre, B.notSynchronized, hK, hX⟩ mu ci hci ls _ hP hl rfl
def f_C_commandAt (mu : fm_T) (ci : Nat) (num : Int32) : Int32 := mu (82 + 6 * ci) ((num &&& 15).toNatClampNeg)
theorem e_C_commandAt (mu : fm_T) (ci : Nat) (num : Int32) : f_C_commandAt mu ci num = mu (82 + 6 * ci) ((num &&& 15).toNatClampNeg) := rfl
set_option maxHeartbeats 4000000 in
set_option maxRecDepth 100000 in
theorem k_C_commandAt (l : Launch) (dC : Nat → ClassId) (dI : Nat → Nat → Nat) (aC : Nat → ClassId) (b : Nat) {p : Program} {e : Env} {s : State} {m : MethodId} {args : Array Value} {below : List Frame} {meth : Method} {cd : Code} (hc : cx (dC, dI) (tysx aC) (XC b) w_C_commandAt b_C_commandAt R_C 2 (some .int) p s m args meth cd) (mu : fm_T) (ci : Nat) (num : Int32) (hci : ci < 3) (ls : Array Slot) (F : Int32) (hP : va_P (dC, dI) clsx (fm_w (LC aC b) b 99 mu) s.heap) (hl : lv_has ls 2 [(0, .ref (b + (81 + 6 * ci))), (1, .int num)]) (hf : F = f_C_commandAt mu ci num) : W p l e { frames := 0, cells := 0, slots := 0, locals := 0 } s m args below meth cd s.heap [] 0 0 (MQ below (QcRead F) args s 0 0 (fun _ => False)) (F0 m 0 ls []) := by
  obtain ⟨hx, hb, hr, hml, hown, hts, hlocks, hK, hX⟩ := hc
  have hg : ∀ w ∈ gtbl, w.before args s = true := fun w h => hts w (List.mem_cons_of_mem _ h)
  have hS : va_S (fm_A b 99) s.heap s.heap [] := va_S.rf
  have hf := hf.trans (e_C_commandAt mu ci num)
  refine lv_aload_n hx hb d_C_commandAt_0 rfl (lv_at hl 0 rfl) ?_
  refine fm_get (C := R_C) (T := T_C) (n := 6) (ci := 4) hx hb hg uw_C hown hK hP (81 + 6 * ci) (lc_ltC hci) (lc_C aC b _ hci) rfl 0 (by decide) (hg _ fl_C_9) (fun _ h9 => h9) rfl d_C_commandAt_1 ?_
  refine lv_iload_n hx hb d_C_commandAt_4 rfl (lv_at hl 1 rfl) ?_
  refine lv_bipush (v := 15) hx hb d_C_commandAt_5 (by decide) ?_
  refine lv_iand hx hb d_C_commandAt_7 ?_
  refine fm_iald hx hb hK hP (82 + 6 * ci) (lc_ltCcm hci) 0 (lc_Ccm aC b _ hci) rfl ((num &&& 15).toNatClampNeg) (vp_e (n := 16) (pk_andIn _ 4 (by decide) (by decide))) (vp_l (n := 16) (pk_andIn _ 4 (by decide) (by decide))) (by decide) d_C_commandAt_8 ?_
  exact ro_iret hx hb hr hlocks hf d_C_commandAt_9
set_option maxHeartbeats 4000000 in
set_option maxRecDepth 100000 in
theorem c_C_commandAt (l : Launch) (dC : Nat → ClassId) (dI : Nat → Nat → Nat) (aC : Nat → ClassId) (b : Nat) (mu : fm_T) (ci : Nat) (num : Int32) (hci : ci < 3) : Met l y_C_commandAt w_C_commandAt { frames := 0, cells := 0, slots := 0, locals := 0 } (va_Pc [.ref (b + (81 + 6 * ci)), .int num] (fm_C (dC, dI) clsx (tysx aC) (LC aC b) b 99 (XC b) mu)) (QcRead (f_C_commandAt mu ci num)) 0 0 (fun _ => False) := by
  refine Met.ofW (cc := b_C_commandAt) (maxL := 2) (ret := (some .int)) (by decide) rfl ?_
  intro p e s m args below meth cd s₁ B hml hv
  obtain ⟨rfl, hP, hK, hX⟩ := hv
  have hl := lv_entry ([.ref (b + (81 + 6 * ci)), .int num]) (n := 2) (Nat.le_of_ble_eq_true rfl)
  rw [lg_entry_eq]
  generalize (lg_sl ([.ref (b + (81 + 6 * ci)), .int num]) ++ List.replicate (2 - (lg_sl ([.ref (b + (81 + 6 * ci)), .int num])).length) Slot.unset).toArray = ls at hl ⊢
  exact k_C_commandAt l dC dI aC b ⟨B.exec, B.bytes, B.returns, hml, findClass_of_methodNamed B.named, atoms_spec (ws := w_C_commandAt) B.pre, B.notSynchronized, hK, hX⟩ mu ci num hci ls _ hP hl rfl
def f_C_addCommand (mu : fm_T) (ci : Nat) (cmd : Int32) : fm_T := fm_up (fm_up mu (81 + 6 * ci) 3 ((mu (81 + 6 * ci) 3) + 1)) (82 + 6 * ci) ((((fm_up mu (81 + 6 * ci) 3 ((mu (81 + 6 * ci) 3) + 1)) (81 + 6 * ci) 3) &&& 15).toNatClampNeg) cmd
theorem e_C_addCommand (mu : fm_T) (ci : Nat) (cmd : Int32) : f_C_addCommand mu ci cmd = fm_up (fm_up mu (81 + 6 * ci) 3 ((mu (81 + 6 * ci) 3) + 1)) (82 + 6 * ci) ((((fm_up mu (81 + 6 * ci) 3 ((mu (81 + 6 * ci) 3) + 1)) (81 + 6 * ci) 3) &&& 15).toNatClampNeg) cmd := rfl
set_option maxHeartbeats 4000000 in
set_option maxRecDepth 100000 in
theorem k_C_addCommand (l : Launch) (dC : Nat → ClassId) (dI : Nat → Nat → Nat) (aC : Nat → ClassId) (b : Nat) {p : Program} {e : Env} {s : State} {m : MethodId} {args : Array Value} {below : List Frame} {meth : Method} {cd : Code} (hc : cx (dC, dI) (tysx aC) (XC b) w_C_addCommand b_C_addCommand R_C 2 none p s m args meth cd) (mu : fm_T) (ci : Nat) (cmd : Int32) (hci : ci < 3) (H : Heap) (locs : List Loc) (ls : Array Slot) (F : fm_T) (hP : va_P (dC, dI) clsx (fm_w (LC aC b) b 99 mu) H) (hS : va_S (fm_A b 99) s.heap H locs) (hl : lv_has ls 2 [(0, .ref (b + (81 + 6 * ci))), (1, .int cmd)]) (hf : F = f_C_addCommand mu ci cmd) : W p l e { frames := 0, cells := 0, slots := 0, locals := 0 } s m args below meth cd H locs 0 0 (MQ below (va_Qv (fun u => u = F) (fm_B (dC, dI) clsx (tysx aC) (LC aC b) b 99) (fm_A b 99)) args s 0 0 (fm_A b 99)) (F0 m 0 ls []) := by
  obtain ⟨hx, hb, hr, hml, hown, hts, hlocks, hK, hX⟩ := hc
  have hg : ∀ w ∈ gtbl, w.before args s = true := fun w h => hts w (List.mem_cons_of_mem _ h)
  have hf := hf.trans (e_C_addCommand mu ci cmd)
  refine lv_aload_n hx hb d_C_addCommand_0 rfl (lv_at hl 0 rfl) ?_
  refine lv_dup hx hb d_C_addCommand_1 rfl ?_
  refine fm_get (C := R_C) (T := T_C) (n := 6) (ci := 4) hx hb hg uw_C hown hK hP (81 + 6 * ci) (lc_ltC hci) (lc_C aC b _ hci) rfl 3 (by decide) (hg _ fl_C_22) (fun _ h9 => h9) rfl d_C_addCommand_2 ?_
  refine lv_iconst (v := 1) hx hb d_C_addCommand_5 (by decide) ?_
  refine lv_iadd hx hb d_C_addCommand_6 ?_
  refine fm_put (v := .int ((mu (81 + 6 * ci) 3) + 1)) (x := ((mu (81 + 6 * ci) 3) + 1)) (ty := .int) (C := R_C) (T := T_C) (n := 6) (ci := 4) hx hb hg uw_C ty_C tk_C nm_C hown hK (fun _ h => h) hP hS (81 + 6 * ci) (lc_ltC hci) (lc_C aC b _ hci) rfl 3 (by decide) (hg _ fl_C_22) (fun _ h9 => h9) rfl (by decide +kernel) rfl rfl (Nat.le_of_ble_eq_true rfl) (lc_C aC b _ hci) d_C_addCommand_7 (fun H locs hP hS => ?_)
  refine lv_aload_n hx hb d_C_addCommand_10 rfl (lv_at hl 0 rfl) ?_
  refine fm_get (C := R_C) (T := T_C) (n := 6) (ci := 4) hx hb hg uw_C hown hK hP (81 + 6 * ci) (lc_ltC hci) (lc_C aC b _ hci) rfl 0 (by decide) (hg _ fl_C_9) (fun _ h9 => h9) rfl d_C_addCommand_11 ?_
  refine lv_aload_n hx hb d_C_addCommand_14 rfl (lv_at hl 0 rfl) ?_
  refine fm_get (C := R_C) (T := T_C) (n := 6) (ci := 4) hx hb hg uw_C hown hK hP (81 + 6 * ci) (lc_ltC hci) (lc_C aC b _ hci) rfl 3 (by decide) (hg _ fl_C_22) (fun _ h9 => h9) rfl d_C_addCommand_15 ?_
  refine lv_bipush (v := 15) hx hb d_C_addCommand_18 (by decide) ?_
  refine lv_iand hx hb d_C_addCommand_20 ?_
  refine lv_iload_n hx hb d_C_addCommand_21 rfl (lv_at hl 1 rfl) ?_
  refine fm_iast hx hb hK (fun _ h => h) hP hS (82 + 6 * ci) (lc_ltCcm hci) 0 (lc_Ccm aC b _ hci) rfl ((((fm_up mu (81 + 6 * ci) 3 ((mu (81 + 6 * ci) 3) + 1)) (81 + 6 * ci) 3) &&& 15).toNatClampNeg) (vp_e (n := 16) (pk_andIn _ 4 (by decide) (by decide))) (vp_l (n := 16) (pk_andIn _ 4 (by decide) (by decide))) (by decide) (lc_Ccm aC b _ hci) d_C_addCommand_22 (fun H locs hP hS => ?_)
  exact rw_vret hx hb hr hlocks hK hP hS hf d_C_addCommand_23
set_option maxHeartbeats 4000000 in
set_option maxRecDepth 100000 in
theorem c_C_addCommand (l : Launch) (dC : Nat → ClassId) (dI : Nat → Nat → Nat) (aC : Nat → ClassId) (b : Nat) (mu : fm_T) (ci : Nat) (cmd : Int32) (hci : ci < 3) : Met l y_C_addCommand w_C_addCommand { frames := 0, cells := 0, slots := 0, locals := 0 } (va_Pc [.ref (b + (81 + 6 * ci)), .int cmd] (fm_C (dC, dI) clsx (tysx aC) (LC aC b) b 99 (XC b) mu)) (va_Qv (fun u => u = (f_C_addCommand mu ci cmd)) (fm_B (dC, dI) clsx (tysx aC) (LC aC b) b 99) (fm_A b 99)) 0 0 (fm_A b 99) := by
  refine Met.ofW (cc := b_C_addCommand) (maxL := 2) (ret := none) (by decide) rfl ?_
  intro p e s m args below meth cd s₁ B hml hv
  obtain ⟨rfl, hP, hK, hX⟩ := hv
  have hl := lv_entry ([.ref (b + (81 + 6 * ci)), .int cmd]) (n := 2) (Nat.le_of_ble_eq_true rfl)
  rw [lg_entry_eq]
  generalize (lg_sl ([.ref (b + (81 + 6 * ci)), .int cmd]) ++ List.replicate (2 - (lg_sl ([.ref (b + (81 + 6 * ci)), .int cmd])).length) Slot.unset).toArray = ls at hl ⊢
  exact k_C_addCommand l dC dI aC b ⟨B.exec, B.bytes, B.returns, hml, findClass_of_methodNamed B.named, atoms_spec (ws := w_C_addCommand) B.pre, B.notSynchronized, hK, hX⟩ mu ci cmd hci _ _ ls _ hP va_S.rf hl rfl
def f_C_writeReport_35 : Nat → fm_T → Nat → Nat → Nat → fm_T
  | 0, mu, _, _, _ => mu
  | n + 1, mu, ci, pi, j => (if (mu (7 + 3 * pi) 7) ≤ (nI j) then fm_up mu (7 + 3 * pi) 2 (23 + (3 * (mu (7 + 3 * pi) 7))) else (f_C_writeReport_35 n (fm_up mu (9 + 3 * pi) j (f_C_commandAt mu ci (((mu (81 + 6 * ci) 4) + 1) + (nI j)))) ci pi (j + 1)))
theorem e_C_writeReport_35 (n : Nat) (mu : fm_T) (ci : Nat) (pi : Nat) (j : Nat) : f_C_writeReport_35 (n + 1) mu ci pi j = (if (mu (7 + 3 * pi) 7) ≤ (nI j) then fm_up mu (7 + 3 * pi) 2 (23 + (3 * (mu (7 + 3 * pi) 7))) else (f_C_writeReport_35 n (fm_up mu (9 + 3 * pi) j (f_C_commandAt mu ci (((mu (81 + 6 * ci) 4) + 1) + (nI j)))) ci pi (j + 1))) := rfl
set_option maxHeartbeats 4000000 in
set_option maxRecDepth 100000 in
theorem k_C_writeReport_35 (l : Launch) (dC : Nat → ClassId) (dI : Nat → Nat → Nat) (aC : Nat → ClassId) (b : Nat) {p : Program} {e : Env} {s : State} {m : MethodId} {args : Array Value} {below : List Frame} {meth : Method} {cd : Code} (hc : cx (dC, dI) (tysx aC) (XC b) w_C_writeReport b_C_writeReport R_C 3 none p s m args meth cd) : ∀ (n : Nat) (mu : fm_T) (ci : Nat) (pi : Nat) (j : Nat) (hci : ci < 3) (hpi : pi < 24) (hz : mu (7 + 3 * pi) 7 ≤ 4) (hj : j ≤ 4) (hn : 4 < j + n) (H : Heap) (locs : List Loc) (ls : Array Slot) (F : fm_T) (hP : va_P (dC, dI) clsx (fm_w (LC aC b) b 99 mu) H) (hS : va_S (fm_A b 99) s.heap H locs) (hl : lv_has ls 3 [(0, .ref (b + (81 + 6 * ci))), (1, .ref (b + (7 + 3 * pi))), (2, .int (nI j))]) (hf : F = f_C_writeReport_35 n mu ci pi j), W p l e { frames := 1, cells := 0, slots := 0, locals := 24 } s m args below meth cd H locs 0 0 (MQ below (va_Qv (fun u => u = F) (fm_B (dC, dI) clsx (tysx aC) (LC aC b) b 99) (fm_A b 99)) args s 0 0 (fm_A b 99)) (F0 m 35 ls []) := by
  obtain ⟨hx, hb, hr, hml, hown, hts, hlocks, hK, hX⟩ := hc
  have hg : ∀ w ∈ gtbl, w.before args s = true := fun w h => hts w (List.mem_cons_of_mem _ h)
  intro n
  induction n with
  | zero =>
    intro mu ci pi j hci hpi hz hj hn H locs ls F hP hS hl hf
    exfalso
    omega
  | succ n ih =>
    intro mu ci pi j hci hpi hz hj hn H locs ls F hP hS hl hf
    have hf := hf.trans (e_C_writeReport_35 n mu ci pi j)
    refine lv_iload_n hx hb d_C_writeReport_35 rfl (lv_at hl 2 rfl) ?_
    refine lv_aload_n hx hb d_C_writeReport_36 rfl (lv_at hl 1 rfl) ?_
    refine fm_get (C := R_P) (T := T_P) (n := 9) (ci := 3) hx hb hg uw_P hown hK hP (7 + 3 * pi) (lc_ltP hpi) (lc_P aC b _ hpi) rfl 7 (by decide) (hg _ fl_C_53) (fun _ h9 => h9) rfl d_C_writeReport_37 ?_
    refine lv_icmp_ge (tgt := 67) hx hb d_C_writeReport_40 rfl (fun h40 => ?_) (fun h40 => ?_)
    · have hf := hf.trans (if_pos h40)
      refine lv_aload_n hx hb d_C_writeReport_67 rfl (lv_at hl 1 rfl) ?_
      refine lv_bipush (v := 23) hx hb d_C_writeReport_68 (by decide) ?_
      refine lv_iconst (v := 3) hx hb d_C_writeReport_70 (by decide) ?_
      refine lv_aload_n hx hb d_C_writeReport_71 rfl (lv_at hl 1 rfl) ?_
      refine fm_get (C := R_P) (T := T_P) (n := 9) (ci := 3) hx hb hg uw_P hown hK hP (7 + 3 * pi) (lc_ltP hpi) (lc_P aC b _ hpi) rfl 7 (by decide) (hg _ fl_C_53) (fun _ h9 => h9) rfl d_C_writeReport_72 ?_
      refine lv_imul hx hb d_C_writeReport_75 ?_
      refine lv_iadd hx hb d_C_writeReport_76 ?_
      refine fm_put (v := .int (23 + (3 * (mu (7 + 3 * pi) 7)))) (x := (23 + (3 * (mu (7 + 3 * pi) 7)))) (ty := .int) (C := R_P) (T := T_P) (n := 9) (ci := 3) hx hb hg uw_P ty_P tk_P nm_P hown hK (fun _ h => h) hP hS (7 + 3 * pi) (lc_ltP hpi) (lc_P aC b _ hpi) rfl 2 (by decide) (hg _ fl_C_61) (fun _ h9 => h9) rfl (by decide +kernel) rfl rfl (Nat.le_of_ble_eq_true rfl) (lc_P aC b _ hpi) d_C_writeReport_77 (fun H locs hP hS => ?_)
      exact rw_vret hx hb hr hlocks hK hP hS hf d_C_writeReport_80
    · have hf := hf.trans (if_neg h40)
      have hj8 : j < 4 := lp_lt2 hz hj h40
      refine lv_aload_n hx hb d_C_writeReport_43 rfl (lv_at hl 1 rfl) ?_
      refine fm_get (C := R_P) (T := T_P) (n := 9) (ci := 3) hx hb hg uw_P hown hK hP (7 + 3 * pi) (lc_ltP hpi) (lc_P aC b _ hpi) rfl 8 (by decide) (hg _ fl_C_56) (fun _ h9 => h9) rfl d_C_writeReport_44 ?_
      refine lv_iload_n hx hb d_C_writeReport_47 rfl (lv_at hl 2 rfl) ?_
      refine lv_aload_n hx hb d_C_writeReport_48 rfl (lv_at hl 0 rfl) ?_
      refine lv_aload_n hx hb d_C_writeReport_49 rfl (lv_at hl 0 rfl) ?_
      refine fm_get (C := R_C) (T := T_C) (n := 6) (ci := 4) hx hb hg uw_C hown hK hP (81 + 6 * ci) (lc_ltC hci) (lc_C aC b _ hci) rfl 4 (by decide) (hg _ fl_C_25) (fun _ h9 => h9) rfl d_C_writeReport_50 ?_
      refine lv_iconst (v := 1) hx hb d_C_writeReport_53 (by decide) ?_
      refine lv_iadd hx hb d_C_writeReport_54 ?_
      refine lv_iload_n hx hb d_C_writeReport_55 rfl (lv_at hl 2 rfl) ?_
      refine lv_iadd hx hb d_C_writeReport_56 ?_
      refine ro_call (va_runV (As := [.int (((mu (81 + 6 * ci) 4) + 1) + (nI j))]) (rest := [.int (nI j), .ref (b + (9 + 3 * pi))]) ⟨hx, hb, hml, hown, hts⟩ (c_C_commandAt l dC dI aC b mu ci (((mu (81 + 6 * ci) 4) + 1) + (nI j)) hci) (cw_V (fun w h => List.mem_cons_of_mem _ h) hts kv_C_commandAt ml_C_57 ⟨Nat.le_of_ble_eq_true rfl, Nat.le_of_ble_eq_true rfl⟩ rfl rfl) (fm_preV XC_bl (XC_mv hX hS) hK hP (81 + 6 * ci) (lc_ltC hci) (lc_C aC b _ hci) rfl) rfl rfl hl.1 rfl (lv_room (Nat.le_of_ble_eq_true rfl)) d_C_writeReport_57 ⟨Nat.zero_le _, Nat.zero_le _⟩) ?_
      refine fm_iast hx hb hK (fun _ h => h) hP hS (9 + 3 * pi) (lc_ltPcm hpi) 0 (lc_Pcm aC b _ hpi) rfl j rfl (by omega) (by decide) (lc_Pcm aC b _ hpi) d_C_writeReport_60 (fun H locs hP hS => ?_)
      refine lv_iinc (k := 2) (v := (nI (j + 1))) (lv' := [(2, .int (nI (j + 1))), (0, .ref (b + (81 + 6 * ci))), (1, .ref (b + (7 + 3 * pi)))]) hx hb d_C_writeReport_61 hl rfl (nI_1 _) (by decide) rfl (fun ls hl => ?_)
      refine lv_goto (tgt := 35) hx hb d_C_writeReport_64 rfl ?_
      exact ih (fm_up mu (9 + 3 * pi) j (f_C_commandAt mu ci (((mu (81 + 6 * ci) 4) + 1) + (nI j)))) ci pi (j + 1) hci hpi (by rw [fm_up_cell (by omega)]; exact hz) (by omega) (by omega) _ _ ls _ hP hS (lv_sub hl [1, 2, 0] rfl) hf
def f_C_writeReport (mu : fm_T) (ci : Nat) (pi : Nat) : fm_T := (f_C_writeReport_35 5 (fm_up (fm_up (fm_up (fm_up mu (7 + 3 * pi) 1 0) (7 + 3 * pi) 3 ((fm_up mu (7 + 3 * pi) 1 0) (81 + 6 * ci) 5)) (7 + 3 * pi) 4 ((fm_up (fm_up mu (7 + 3 * pi) 1 0) (7 + 3 * pi) 3 ((fm_up mu (7 + 3 * pi) 1 0) (81 + 6 * ci) 5)) (81 + 6 * ci) 4)) (7 + 3 * pi) 7 (if 4 < (f_C_unseenCommands (fm_up (fm_up (fm_up mu (7 + 3 * pi) 1 0) (7 + 3 * pi) 3 ((fm_up mu (7 + 3 * pi) 1 0) (81 + 6 * ci) 5)) (7 + 3 * pi) 4 ((fm_up (fm_up mu (7 + 3 * pi) 1 0) (7 + 3 * pi) 3 ((fm_up mu (7 + 3 * pi) 1 0) (81 + 6 * ci) 5)) (81 + 6 * ci) 4)) ci) then 4 else (f_C_unseenCommands (fm_up (fm_up (fm_up mu (7 + 3 * pi) 1 0) (7 + 3 * pi) 3 ((fm_up mu (7 + 3 * pi) 1 0) (81 + 6 * ci) 5)) (7 + 3 * pi) 4 ((fm_up (fm_up mu (7 + 3 * pi) 1 0) (7 + 3 * pi) 3 ((fm_up mu (7 + 3 * pi) 1 0) (81 + 6 * ci) 5)) (81 + 6 * ci) 4)) ci))) ci pi 0)
theorem e_C_writeReport (mu : fm_T) (ci : Nat) (pi : Nat) : f_C_writeReport mu ci pi = (f_C_writeReport_35 5 (fm_up (fm_up (fm_up (fm_up mu (7 + 3 * pi) 1 0) (7 + 3 * pi) 3 ((fm_up mu (7 + 3 * pi) 1 0) (81 + 6 * ci) 5)) (7 + 3 * pi) 4 ((fm_up (fm_up mu (7 + 3 * pi) 1 0) (7 + 3 * pi) 3 ((fm_up mu (7 + 3 * pi) 1 0) (81 + 6 * ci) 5)) (81 + 6 * ci) 4)) (7 + 3 * pi) 7 (if 4 < (f_C_unseenCommands (fm_up (fm_up (fm_up mu (7 + 3 * pi) 1 0) (7 + 3 * pi) 3 ((fm_up mu (7 + 3 * pi) 1 0) (81 + 6 * ci) 5)) (7 + 3 * pi) 4 ((fm_up (fm_up mu (7 + 3 * pi) 1 0) (7 + 3 * pi) 3 ((fm_up mu (7 + 3 * pi) 1 0) (81 + 6 * ci) 5)) (81 + 6 * ci) 4)) ci) then 4 else (f_C_unseenCommands (fm_up (fm_up (fm_up mu (7 + 3 * pi) 1 0) (7 + 3 * pi) 3 ((fm_up mu (7 + 3 * pi) 1 0) (81 + 6 * ci) 5)) (7 + 3 * pi) 4 ((fm_up (fm_up mu (7 + 3 * pi) 1 0) (7 + 3 * pi) 3 ((fm_up mu (7 + 3 * pi) 1 0) (81 + 6 * ci) 5)) (81 + 6 * ci) 4)) ci))) ci pi 0) := rfl
set_option maxHeartbeats 4000000 in
set_option maxRecDepth 100000 in
theorem k_C_writeReport (l : Launch) (dC : Nat → ClassId) (dI : Nat → Nat → Nat) (aC : Nat → ClassId) (b : Nat) {p : Program} {e : Env} {s : State} {m : MethodId} {args : Array Value} {below : List Frame} {meth : Method} {cd : Code} (hc : cx (dC, dI) (tysx aC) (XC b) w_C_writeReport b_C_writeReport R_C 3 none p s m args meth cd) (mu : fm_T) (ci : Nat) (pi : Nat) (hci : ci < 3) (hpi : pi < 24) (H : Heap) (locs : List Loc) (ls : Array Slot) (F : fm_T) (hP : va_P (dC, dI) clsx (fm_w (LC aC b) b 99 mu) H) (hS : va_S (fm_A b 99) s.heap H locs) (hl : lv_has ls 3 [(0, .ref (b + (81 + 6 * ci))), (1, .ref (b + (7 + 3 * pi)))]) (hf : F = f_C_writeReport mu ci pi) : W p l e { frames := 1, cells := 0, slots := 0, locals := 24 } s m args below meth cd H locs 0 0 (MQ below (va_Qv (fun u => u = F) (fm_B (dC, dI) clsx (tysx aC) (LC aC b) b 99) (fm_A b 99)) args s 0 0 (fm_A b 99)) (F0 m 0 ls []) := by
  obtain ⟨hx, hb, hr, hml, hown, hts, hlocks, hK, hX⟩ := hc
  have hg : ∀ w ∈ gtbl, w.before args s = true := fun w h => hts w (List.mem_cons_of_mem _ h)
  have hf := hf.trans (e_C_writeReport mu ci pi)
  refine lv_aload_n hx hb d_C_writeReport_0 rfl (lv_at hl 1 rfl) ?_
  refine lv_iconst (v := 0) hx hb d_C_writeReport_1 (by decide) ?_
  refine fm_put (v := .int 0) (x := 0) (ty := .boolean) (C := R_P) (T := T_P) (n := 9) (ci := 3) hx hb hg uw_P ty_P tk_P nm_P hown hK (fun _ h => h) hP hS (7 + 3 * pi) (lc_ltP hpi) (lc_P aC b _ hpi) rfl 1 (by decide) (hg _ fl_C_28) (fun _ h9 => h9) rfl (by decide +kernel) rfl rfl (Nat.le_of_ble_eq_true rfl) (lc_P aC b _ hpi) d_C_writeReport_2 (fun H locs hP hS => ?_)
  refine lv_aload_n hx hb d_C_writeReport_5 rfl (lv_at hl 1 rfl) ?_
  refine lv_aload_n hx hb d_C_writeReport_6 rfl (lv_at hl 0 rfl) ?_
  refine fm_get (C := R_C) (T := T_C) (n := 6) (ci := 4) hx hb hg uw_C hown hK hP (81 + 6 * ci) (lc_ltC hci) (lc_C aC b _ hci) rfl 5 (by decide) (hg _ fl_C_34) (fun _ h9 => h9) rfl d_C_writeReport_7 ?_
  refine fm_put (v := .int ((fm_up mu (7 + 3 * pi) 1 0) (81 + 6 * ci) 5)) (x := ((fm_up mu (7 + 3 * pi) 1 0) (81 + 6 * ci) 5)) (ty := .int) (C := R_P) (T := T_P) (n := 9) (ci := 3) hx hb hg uw_P ty_P tk_P nm_P hown hK (fun _ h => h) hP hS (7 + 3 * pi) (lc_ltP hpi) (lc_P aC b _ hpi) rfl 3 (by decide) (hg _ fl_C_37) (fun _ h9 => h9) rfl (by decide +kernel) rfl rfl (Nat.le_of_ble_eq_true rfl) (lc_P aC b _ hpi) d_C_writeReport_10 (fun H locs hP hS => ?_)
  refine lv_aload_n hx hb d_C_writeReport_13 rfl (lv_at hl 1 rfl) ?_
  refine lv_aload_n hx hb d_C_writeReport_14 rfl (lv_at hl 0 rfl) ?_
  refine fm_get (C := R_C) (T := T_C) (n := 6) (ci := 4) hx hb hg uw_C hown hK hP (81 + 6 * ci) (lc_ltC hci) (lc_C aC b _ hci) rfl 4 (by decide) (hg _ fl_C_25) (fun _ h9 => h9) rfl d_C_writeReport_15 ?_
  refine fm_put (v := .int ((fm_up (fm_up mu (7 + 3 * pi) 1 0) (7 + 3 * pi) 3 ((fm_up mu (7 + 3 * pi) 1 0) (81 + 6 * ci) 5)) (81 + 6 * ci) 4)) (x := ((fm_up (fm_up mu (7 + 3 * pi) 1 0) (7 + 3 * pi) 3 ((fm_up mu (7 + 3 * pi) 1 0) (81 + 6 * ci) 5)) (81 + 6 * ci) 4)) (ty := .int) (C := R_P) (T := T_P) (n := 9) (ci := 3) hx hb hg uw_P ty_P tk_P nm_P hown hK (fun _ h => h) hP hS (7 + 3 * pi) (lc_ltP hpi) (lc_P aC b _ hpi) rfl 4 (by decide) (hg _ fl_C_40) (fun _ h9 => h9) rfl (by decide +kernel) rfl rfl (Nat.le_of_ble_eq_true rfl) (lc_P aC b _ hpi) d_C_writeReport_18 (fun H locs hP hS => ?_)
  refine lv_aload_n hx hb d_C_writeReport_21 rfl (lv_at hl 1 rfl) ?_
  refine lv_aload_n hx hb d_C_writeReport_22 rfl (lv_at hl 0 rfl) ?_
  refine ro_call (va_runV (As := []) (rest := [.ref (b + (7 + 3 * pi))]) ⟨hx, hb, hml, hown, hts⟩ (c_C_unseenCommands l dC dI aC b (fm_up (fm_up (fm_up mu (7 + 3 * pi) 1 0) (7 + 3 * pi) 3 ((fm_up mu (7 + 3 * pi) 1 0) (81 + 6 * ci) 5)) (7 + 3 * pi) 4 ((fm_up (fm_up mu (7 + 3 * pi) 1 0) (7 + 3 * pi) 3 ((fm_up mu (7 + 3 * pi) 1 0) (81 + 6 * ci) 5)) (81 + 6 * ci) 4)) ci hci) (cw_V (fun w h => List.mem_cons_of_mem _ h) hts kv_C_unseenCommands ml_C_43 ⟨Nat.le_of_ble_eq_true rfl, Nat.le_of_ble_eq_true rfl⟩ rfl rfl) (fm_preV XC_bl (XC_mv hX hS) hK hP (81 + 6 * ci) (lc_ltC hci) (lc_C aC b _ hci) rfl) rfl rfl hl.1 rfl (lv_room (Nat.le_of_ble_eq_true rfl)) d_C_writeReport_23 ⟨Nat.zero_le _, Nat.zero_le _⟩) ?_
  refine lv_iconst (v := 4) hx hb d_C_writeReport_26 (by decide) ?_
  refine va_mmin hx hb (by rw [hml]; exact hl.1.symm) hown (hg _ ml_C_47) (hg _ st_Math_min) (hg _ in_Math) (hg _ co_Math_min) (Nat.le_of_ble_eq_true rfl) (Nat.le_of_ble_eq_true rfl) (Nat.zero_le _) (Nat.zero_le _) d_C_writeReport_27 ?_
  refine fm_put (v := .int (if 4 < (f_C_unseenCommands (fm_up (fm_up (fm_up mu (7 + 3 * pi) 1 0) (7 + 3 * pi) 3 ((fm_up mu (7 + 3 * pi) 1 0) (81 + 6 * ci) 5)) (7 + 3 * pi) 4 ((fm_up (fm_up mu (7 + 3 * pi) 1 0) (7 + 3 * pi) 3 ((fm_up mu (7 + 3 * pi) 1 0) (81 + 6 * ci) 5)) (81 + 6 * ci) 4)) ci) then 4 else (f_C_unseenCommands (fm_up (fm_up (fm_up mu (7 + 3 * pi) 1 0) (7 + 3 * pi) 3 ((fm_up mu (7 + 3 * pi) 1 0) (81 + 6 * ci) 5)) (7 + 3 * pi) 4 ((fm_up (fm_up mu (7 + 3 * pi) 1 0) (7 + 3 * pi) 3 ((fm_up mu (7 + 3 * pi) 1 0) (81 + 6 * ci) 5)) (81 + 6 * ci) 4)) ci))) (x := (if 4 < (f_C_unseenCommands (fm_up (fm_up (fm_up mu (7 + 3 * pi) 1 0) (7 + 3 * pi) 3 ((fm_up mu (7 + 3 * pi) 1 0) (81 + 6 * ci) 5)) (7 + 3 * pi) 4 ((fm_up (fm_up mu (7 + 3 * pi) 1 0) (7 + 3 * pi) 3 ((fm_up mu (7 + 3 * pi) 1 0) (81 + 6 * ci) 5)) (81 + 6 * ci) 4)) ci) then 4 else (f_C_unseenCommands (fm_up (fm_up (fm_up mu (7 + 3 * pi) 1 0) (7 + 3 * pi) 3 ((fm_up mu (7 + 3 * pi) 1 0) (81 + 6 * ci) 5)) (7 + 3 * pi) 4 ((fm_up (fm_up mu (7 + 3 * pi) 1 0) (7 + 3 * pi) 3 ((fm_up mu (7 + 3 * pi) 1 0) (81 + 6 * ci) 5)) (81 + 6 * ci) 4)) ci))) (ty := .int) (C := R_P) (T := T_P) (n := 9) (ci := 3) hx hb hg uw_P ty_P tk_P nm_P hown hK (fun _ h => h) hP hS (7 + 3 * pi) (lc_ltP hpi) (lc_P aC b _ hpi) rfl 7 (by decide) (hg _ fl_C_53) (fun _ h9 => h9) rfl (by decide +kernel) rfl rfl (Nat.le_of_ble_eq_true rfl) (lc_P aC b _ hpi) d_C_writeReport_30 (fun H locs hP hS => ?_)
  refine lv_iconst (v := 0) hx hb d_C_writeReport_33 (by decide) ?_
  refine lv_istore_n (lv' := [(2, .int 0), (0, .ref (b + (81 + 6 * ci))), (1, .ref (b + (7 + 3 * pi)))]) hx hb d_C_writeReport_34 rfl hl (by decide) rfl (fun ls hl => ?_)
  exact k_C_writeReport_35 l dC dI aC b ⟨hx, hb, hr, hml, hown, hts, hlocks, hK, hX⟩ 5 (fm_up (fm_up (fm_up (fm_up mu (7 + 3 * pi) 1 0) (7 + 3 * pi) 3 ((fm_up mu (7 + 3 * pi) 1 0) (81 + 6 * ci) 5)) (7 + 3 * pi) 4 ((fm_up (fm_up mu (7 + 3 * pi) 1 0) (7 + 3 * pi) 3 ((fm_up mu (7 + 3 * pi) 1 0) (81 + 6 * ci) 5)) (81 + 6 * ci) 4)) (7 + 3 * pi) 7 (if 4 < (f_C_unseenCommands (fm_up (fm_up (fm_up mu (7 + 3 * pi) 1 0) (7 + 3 * pi) 3 ((fm_up mu (7 + 3 * pi) 1 0) (81 + 6 * ci) 5)) (7 + 3 * pi) 4 ((fm_up (fm_up mu (7 + 3 * pi) 1 0) (7 + 3 * pi) 3 ((fm_up mu (7 + 3 * pi) 1 0) (81 + 6 * ci) 5)) (81 + 6 * ci) 4)) ci) then 4 else (f_C_unseenCommands (fm_up (fm_up (fm_up mu (7 + 3 * pi) 1 0) (7 + 3 * pi) 3 ((fm_up mu (7 + 3 * pi) 1 0) (81 + 6 * ci) 5)) (7 + 3 * pi) 4 ((fm_up (fm_up mu (7 + 3 * pi) 1 0) (7 + 3 * pi) 3 ((fm_up mu (7 + 3 * pi) 1 0) (81 + 6 * ci) 5)) (81 + 6 * ci) 4)) ci))) ci pi 0 hci hpi (by rw [fm_up_same]; exact min4 _) (by decide) (by decide) _ _ ls _ hP hS (lv_sub hl [1, 2, 0] rfl) hf
set_option maxHeartbeats 4000000 in
set_option maxRecDepth 100000 in
theorem c_C_writeReport (l : Launch) (dC : Nat → ClassId) (dI : Nat → Nat → Nat) (aC : Nat → ClassId) (b : Nat) (mu : fm_T) (ci : Nat) (pi : Nat) (hci : ci < 3) (hpi : pi < 24) : Met l y_C_writeReport w_C_writeReport { frames := 1, cells := 0, slots := 0, locals := 24 } (va_Pc [.ref (b + (81 + 6 * ci)), .ref (b + (7 + 3 * pi))] (fm_C (dC, dI) clsx (tysx aC) (LC aC b) b 99 (XC b) mu)) (va_Qv (fun u => u = (f_C_writeReport mu ci pi)) (fm_B (dC, dI) clsx (tysx aC) (LC aC b) b 99) (fm_A b 99)) 0 0 (fm_A b 99) := by
  refine Met.ofW (cc := b_C_writeReport) (maxL := 3) (ret := none) (by decide) rfl ?_
  intro p e s m args below meth cd s₁ B hml hv
  obtain ⟨rfl, hP, hK, hX⟩ := hv
  have hl := lv_entry ([.ref (b + (81 + 6 * ci)), .ref (b + (7 + 3 * pi))]) (n := 3) (Nat.le_of_ble_eq_true rfl)
  rw [lg_entry_eq]
  generalize (lg_sl ([.ref (b + (81 + 6 * ci)), .ref (b + (7 + 3 * pi))]) ++ List.replicate (3 - (lg_sl ([.ref (b + (81 + 6 * ci)), .ref (b + (7 + 3 * pi))])).length) Slot.unset).toArray = ls at hl ⊢
  exact k_C_writeReport l dC dI aC b ⟨B.exec, B.bytes, B.returns, hml, findClass_of_methodNamed B.named, atoms_spec (ws := w_C_writeReport) B.pre, B.notSynchronized, hK, hX⟩ mu ci pi hci hpi _ _ ls _ hP va_S.rf hl rfl
def f_C_takeSnapshot (mu : fm_T) (ci : Nat) (pi : Nat) : Int32 × fm_T := (if (mu (81 + 6 * ci) 5) < (mu (7 + 3 * pi) 3) then (1, va_up (fm_up (fm_up mu (81 + 6 * ci) 5 (mu (7 + 3 * pi) 3)) (81 + 6 * ci) 4 ((fm_up mu (81 + 6 * ci) 5 (mu (7 + 3 * pi) 3)) (7 + 3 * pi) 4)) (83 + 6 * ci) (va_cpy ((fm_up (fm_up mu (81 + 6 * ci) 5 (mu (7 + 3 * pi) 3)) (81 + 6 * ci) 4 ((fm_up mu (81 + 6 * ci) 5 (mu (7 + 3 * pi) 3)) (7 + 3 * pi) 4)) (8 + 3 * pi)) ((fm_up (fm_up mu (81 + 6 * ci) 5 (mu (7 + 3 * pi) 3)) (81 + 6 * ci) 4 ((fm_up mu (81 + 6 * ci) 5 (mu (7 + 3 * pi) 3)) (7 + 3 * pi) 4)) (83 + 6 * ci)) 0 0 8)) else (0, mu))
theorem e_C_takeSnapshot (mu : fm_T) (ci : Nat) (pi : Nat) : f_C_takeSnapshot mu ci pi = (if (mu (81 + 6 * ci) 5) < (mu (7 + 3 * pi) 3) then (1, va_up (fm_up (fm_up mu (81 + 6 * ci) 5 (mu (7 + 3 * pi) 3)) (81 + 6 * ci) 4 ((fm_up mu (81 + 6 * ci) 5 (mu (7 + 3 * pi) 3)) (7 + 3 * pi) 4)) (83 + 6 * ci) (va_cpy ((fm_up (fm_up mu (81 + 6 * ci) 5 (mu (7 + 3 * pi) 3)) (81 + 6 * ci) 4 ((fm_up mu (81 + 6 * ci) 5 (mu (7 + 3 * pi) 3)) (7 + 3 * pi) 4)) (8 + 3 * pi)) ((fm_up (fm_up mu (81 + 6 * ci) 5 (mu (7 + 3 * pi) 3)) (81 + 6 * ci) 4 ((fm_up mu (81 + 6 * ci) 5 (mu (7 + 3 * pi) 3)) (7 + 3 * pi) 4)) (83 + 6 * ci)) 0 0 8)) else (0, mu)) := rfl
set_option maxHeartbeats 4000000 in
set_option maxRecDepth 100000 in
theorem k_C_takeSnapshot (l : Launch) (dC : Nat → ClassId) (dI : Nat → Nat → Nat) (aC : Nat → ClassId) (b : Nat) {p : Program} {e : Env} {s : State} {m : MethodId} {args : Array Value} {below : List Frame} {meth : Method} {cd : Code} (hc : cx (dC, dI) (tysx aC) (XC b) w_C_takeSnapshot b_C_takeSnapshot R_C 2 (some .boolean) p s m args meth cd) (mu : fm_T) (ci : Nat) (pi : Nat) (hci : ci < 3) (hpi : pi < 24) (H : Heap) (locs : List Loc) (ls : Array Slot) (F : Int32 × fm_T) (hP : va_P (dC, dI) clsx (fm_w (LC aC b) b 99 mu) H) (hS : va_S (fm_A b 99) s.heap H locs) (hl : lv_has ls 2 [(0, .ref (b + (81 + 6 * ci))), (1, .ref (b + (7 + 3 * pi)))]) (hf : F = f_C_takeSnapshot mu ci pi) : W p l e { frames := 1, cells := 0, slots := 0, locals := 40 } s m args below meth cd H locs 0 0 (MQ below (va_Qi (fun r u => r = F.1 ∧ u = F.2) (fm_B (dC, dI) clsx (tysx aC) (LC aC b) b 99) (fm_A b 99)) args s 0 0 (fm_A b 99)) (F0 m 0 ls []) := by
  obtain ⟨hx, hb, hr, hml, hown, hts, hlocks, hK, hX⟩ := hc
  have hg : ∀ w ∈ gtbl, w.before args s = true := fun w h => hts w (List.mem_cons_of_mem _ h)
  have hf := hf.trans (e_C_takeSnapshot mu ci pi)
  refine lv_aload_n hx hb d_C_takeSnapshot_0 rfl (lv_at hl 1 rfl) ?_
  refine fm_get (C := R_P) (T := T_P) (n := 9) (ci := 3) hx hb hg uw_P hown hK hP (7 + 3 * pi) (lc_ltP hpi) (lc_P aC b _ hpi) rfl 3 (by decide) (hg _ fl_C_37) (fun _ h9 => h9) rfl d_C_takeSnapshot_1 ?_
  refine lv_aload_n hx hb d_C_takeSnapshot_4 rfl (lv_at hl 0 rfl) ?_
  refine fm_get (C := R_C) (T := T_C) (n := 6) (ci := 4) hx hb hg uw_C hown hK hP (81 + 6 * ci) (lc_ltC hci) (lc_C aC b _ hci) rfl 5 (by decide) (hg _ fl_C_34) (fun _ h9 => h9) rfl d_C_takeSnapshot_5 ?_
  refine lv_icmp_gt (tgt := 13) hx hb d_C_takeSnapshot_8 rfl (fun h8 => ?_) (fun h8 => ?_)
  · have hf := hf.trans (if_pos h8)
    refine lv_aload_n hx hb d_C_takeSnapshot_13 rfl (lv_at hl 0 rfl) ?_
    refine lv_aload_n hx hb d_C_takeSnapshot_14 rfl (lv_at hl 1 rfl) ?_
    refine fm_get (C := R_P) (T := T_P) (n := 9) (ci := 3) hx hb hg uw_P hown hK hP (7 + 3 * pi) (lc_ltP hpi) (lc_P aC b _ hpi) rfl 3 (by decide) (hg _ fl_C_37) (fun _ h9 => h9) rfl d_C_takeSnapshot_15 ?_
    refine fm_put (v := .int (mu (7 + 3 * pi) 3)) (x := (mu (7 + 3 * pi) 3)) (ty := .int) (C := R_C) (T := T_C) (n := 6) (ci := 4) hx hb hg uw_C ty_C tk_C nm_C hown hK (fun _ h => h) hP hS (81 + 6 * ci) (lc_ltC hci) (lc_C aC b _ hci) rfl 5 (by decide) (hg _ fl_C_34) (fun _ h9 => h9) rfl (by decide +kernel) rfl rfl (Nat.le_of_ble_eq_true rfl) (lc_C aC b _ hci) d_C_takeSnapshot_18 (fun H locs hP hS => ?_)
    refine lv_aload_n hx hb d_C_takeSnapshot_21 rfl (lv_at hl 0 rfl) ?_
    refine lv_aload_n hx hb d_C_takeSnapshot_22 rfl (lv_at hl 1 rfl) ?_
    refine fm_get (C := R_P) (T := T_P) (n := 9) (ci := 3) hx hb hg uw_P hown hK hP (7 + 3 * pi) (lc_ltP hpi) (lc_P aC b _ hpi) rfl 4 (by decide) (hg _ fl_C_40) (fun _ h9 => h9) rfl d_C_takeSnapshot_23 ?_
    refine fm_put (v := .int ((fm_up mu (81 + 6 * ci) 5 (mu (7 + 3 * pi) 3)) (7 + 3 * pi) 4)) (x := ((fm_up mu (81 + 6 * ci) 5 (mu (7 + 3 * pi) 3)) (7 + 3 * pi) 4)) (ty := .int) (C := R_C) (T := T_C) (n := 6) (ci := 4) hx hb hg uw_C ty_C tk_C nm_C hown hK (fun _ h => h) hP hS (81 + 6 * ci) (lc_ltC hci) (lc_C aC b _ hci) rfl 4 (by decide) (hg _ fl_C_25) (fun _ h9 => h9) rfl (by decide +kernel) rfl rfl (Nat.le_of_ble_eq_true rfl) (lc_C aC b _ hci) d_C_takeSnapshot_26 (fun H locs hP hS => ?_)
    refine lv_aload_n hx hb d_C_takeSnapshot_29 rfl (lv_at hl 1 rfl) ?_
    refine fm_get (C := R_P) (T := T_P) (n := 9) (ci := 3) hx hb hg uw_P hown hK hP (7 + 3 * pi) (lc_ltP hpi) (lc_P aC b _ hpi) rfl 6 (by decide) (hg _ fl_C_64) (fun _ h9 => h9) rfl d_C_takeSnapshot_30 ?_
    refine lv_iconst (v := 0) hx hb d_C_takeSnapshot_33 (by decide) ?_
    refine lv_aload_n hx hb d_C_takeSnapshot_34 rfl (lv_at hl 0 rfl) ?_
    refine fm_get (C := R_C) (T := T_C) (n := 6) (ci := 4) hx hb hg uw_C hown hK hP (81 + 6 * ci) (lc_ltC hci) (lc_C aC b _ hci) rfl 1 (by decide) (hg _ fl_C_15) (fun _ h9 => h9) rfl d_C_takeSnapshot_35 ?_
    refine lv_iconst (v := 0) hx hb d_C_takeSnapshot_38 (by decide) ?_
    refine lv_bipush (v := 8) hx hb d_C_takeSnapshot_39 (by decide) ?_
    refine fm_copy hx hb (by rw [hml]; exact hl.1.symm) hown (hg _ ml_C_67) (hg _ nt_System_arraycopy) (hg _ st_System_arraycopy) (hg _ in_System) hK (fun _ h => h) hP hS (8 + 3 * pi) (83 + 6 * ci) (lc_ltPpl hpi) (lc_ltCsh hci) 0 (lc_Ppl aC b _ hpi) (lc_Csh aC b _ hci) rfl 0 0 8 rfl rfl rfl (by decide) (by decide) (by decide) (by decide) (lc_Csh aC b _ hci) (Nat.le_of_ble_eq_true rfl) (Nat.le_of_ble_eq_true rfl) d_C_takeSnapshot_41 (fun H locs hP hS => ?_)
    refine lv_iconst (v := 1) hx hb d_C_takeSnapshot_44 (by decide) ?_
    exact rw_zret hx hb hr hlocks hK hP hS rfl hf d_C_takeSnapshot_45
  · have hf := hf.trans (if_neg h8)
    refine lv_iconst (v := 0) hx hb d_C_takeSnapshot_11 (by decide) ?_
    exact rw_zret hx hb hr hlocks hK hP hS rfl hf d_C_takeSnapshot_12
set_option maxHeartbeats 4000000 in
set_option maxRecDepth 100000 in
theorem c_C_takeSnapshot (l : Launch) (dC : Nat → ClassId) (dI : Nat → Nat → Nat) (aC : Nat → ClassId) (b : Nat) (mu : fm_T) (ci : Nat) (pi : Nat) (hci : ci < 3) (hpi : pi < 24) : Met l y_C_takeSnapshot w_C_takeSnapshot { frames := 1, cells := 0, slots := 0, locals := 40 } (va_Pc [.ref (b + (81 + 6 * ci)), .ref (b + (7 + 3 * pi))] (fm_C (dC, dI) clsx (tysx aC) (LC aC b) b 99 (XC b) mu)) (va_Qi (fun r u => r = (f_C_takeSnapshot mu ci pi).1 ∧ u = (f_C_takeSnapshot mu ci pi).2) (fm_B (dC, dI) clsx (tysx aC) (LC aC b) b 99) (fm_A b 99)) 0 0 (fm_A b 99) := by
  refine Met.ofW (cc := b_C_takeSnapshot) (maxL := 2) (ret := (some .boolean)) (by decide) rfl ?_
  intro p e s m args below meth cd s₁ B hml hv
  obtain ⟨rfl, hP, hK, hX⟩ := hv
  have hl := lv_entry ([.ref (b + (81 + 6 * ci)), .ref (b + (7 + 3 * pi))]) (n := 2) (Nat.le_of_ble_eq_true rfl)
  rw [lg_entry_eq]
  generalize (lg_sl ([.ref (b + (81 + 6 * ci)), .ref (b + (7 + 3 * pi))]) ++ List.replicate (2 - (lg_sl ([.ref (b + (81 + 6 * ci)), .ref (b + (7 + 3 * pi))])).length) Slot.unset).toArray = ls at hl ⊢
  exact k_C_takeSnapshot l dC dI aC b ⟨B.exec, B.bytes, B.returns, hml, findClass_of_methodNamed B.named, atoms_spec (ws := w_C_takeSnapshot) B.pre, B.notSynchronized, hK, hX⟩ mu ci pi hci hpi _ _ ls _ hP va_S.rf hl rfl
