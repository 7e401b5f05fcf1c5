/-! printed by wip/whole/gen: M_stepFrom M_wall M_place M_seen M_input M_send M_report M_sees M_bits M_size M_there M_takeOut M_flight M_position M_view -/
def f_M_stepFrom_48 (mu : fm_T) (pl : Int32) (sx : Int32) (zz : Int32) : Int32 := (if (f_M_square sx zz) = 0 then pl else (if (mu 1 ((sx + (16 * zz)).toNatClampNeg)) = 0 then sx + (16 * zz) else pl))
theorem e_M_stepFrom_48 (mu : fm_T) (pl : Int32) (sx : Int32) (zz : Int32) : f_M_stepFrom_48 mu pl sx zz = (if (f_M_square sx zz) = 0 then pl else (if (mu 1 ((sx + (16 * zz)).toNatClampNeg)) = 0 then sx + (16 * zz) else pl)) := rfl
set_option maxHeartbeats 4000000 in
set_option maxRecDepth 100000 in
theorem k_M_stepFrom_48 (l : Launch) (dC : Nat → ClassId) (dI : Nat → Nat → Nat) (aC : Nat → ClassId) (b : Nat) {p : Program} {e : Env} {s : State} {m : MethodId} {args : Array Value} {below : List Frame} {meth : Method} {cd : Code} (hc : cx (dC, dI) (tysx aC) (XM) w_M_stepFrom b_M_stepFrom R_M 5 (some .int) p s m args meth cd) (mu : fm_T) (pl : Int32) (sx : Int32) (zz : Int32)  (ls : Array Slot) (F : Int32) (hP : va_P (dC, dI) clsx (fm_w (LM aC b) b 11 mu) s.heap) (hl : lv_has ls 5 [(0, .ref (b + 0)), (1, .int pl), (3, .int sx)]) (hf : F = f_M_stepFrom_48 mu pl sx zz) : W p l e { frames := 1, cells := 0, slots := 0, locals := 21 } s m args below meth cd s.heap [] 0 0 (MQ below (QcRead F) args s 0 0 (fun _ => False)) (F0 m 48 ls [.int zz]) := by
  obtain ⟨hx, hb, hr, hml, hown, hts, hlocks, hK, hX⟩ := hc
  have hg : ∀ w ∈ gtbl, w.before args s = true := fun w h => hts w (List.mem_cons_of_mem _ h)
  have hS : va_S (fm_A b 11) s.heap s.heap [] := va_S.rf
  have hf := hf.trans (e_M_stepFrom_48 mu pl sx zz)
  refine lv_istore (lv' := [(4, .int zz), (0, .ref (b + 0)), (1, .int pl), (3, .int sx)]) hx hb d_M_stepFrom_48 hl (by decide) rfl (fun ls hl => ?_)
  refine lv_iload_n hx hb d_M_stepFrom_50 rfl (lv_at hl 3 rfl) ?_
  refine lv_iload hx hb d_M_stepFrom_51 (lv_at hl 0 rfl) ?_
  refine ro_call (va_runS (As := [.int sx, .int zz]) (rest := []) ⟨hx, hb, hml, hown, hts⟩ (c_M_square l dC dI aC b mu sx zz) (cw_S (fun w h => List.mem_cons_of_mem _ h) hts ks_M_square ml_M_41 ⟨Nat.le_of_ble_eq_true rfl, Nat.le_of_ble_eq_true rfl⟩ rfl rfl) (fm_preS XM_bl (XM_mv hX hS) hK hP) rfl rfl hl.1 rfl (lv_room (Nat.le_of_ble_eq_true rfl)) d_M_stepFrom_53 ⟨Nat.zero_le _, Nat.zero_le _⟩) ?_
  refine lv_if_eq (tgt := 84) hx hb d_M_stepFrom_56 rfl (fun h56 => ?_) (fun h56 => ?_)
  · have hf := hf.trans (if_pos h56)
    refine lv_iload_n hx hb d_M_stepFrom_84 rfl (lv_at hl 2 rfl) ?_
    exact ro_iret hx hb hr hlocks hf d_M_stepFrom_85
  · have hf := hf.trans (if_neg h56)
    refine lv_aload_n hx hb d_M_stepFrom_59 rfl (lv_at hl 1 rfl) ?_
    refine fm_get (C := R_M) (T := T_M) (n := 12) (ci := 6) hx hb hg uw_M hown hK hP (0) (by decide) (lm_M aC b _) rfl 0 (by decide) (hg _ fl_M_7) (fun _ h9 => h9) rfl d_M_stepFrom_60 ?_
    refine lv_iload_n hx hb d_M_stepFrom_63 rfl (lv_at hl 3 rfl) ?_
    refine lv_bipush (v := 16) hx hb d_M_stepFrom_64 (by decide) ?_
    refine lv_iload hx hb d_M_stepFrom_66 (lv_at hl 0 rfl) ?_
    refine lv_imul hx hb d_M_stepFrom_68 ?_
    refine lv_iadd hx hb d_M_stepFrom_69 ?_
    refine fm_zald hx hb hK hP (1) (by decide) 1 (lm_walls aC b _) rfl ((sx + (16 * zz)).toNatClampNeg) (vp_e (n := 256) (ms_in h56)) (vp_l (n := 256) (ms_in h56)) (by decide) d_M_stepFrom_70 ?_
    refine lv_if_ne (tgt := 84) hx hb d_M_stepFrom_71 rfl (fun h71 => ?_) (fun h71 => ?_)
    · have hf := hf.trans (if_neg h71)
      refine lv_iload_n hx hb d_M_stepFrom_84 rfl (lv_at hl 2 rfl) ?_
      exact ro_iret hx hb hr hlocks hf d_M_stepFrom_85
    · have hf := hf.trans (if_pos h71)
      refine lv_iload_n hx hb d_M_stepFrom_74 rfl (lv_at hl 3 rfl) ?_
      refine lv_bipush (v := 16) hx hb d_M_stepFrom_75 (by decide) ?_
      refine lv_iload hx hb d_M_stepFrom_77 (lv_at hl 0 rfl) ?_
      refine lv_imul hx hb d_M_stepFrom_79 ?_
      refine lv_iadd hx hb d_M_stepFrom_80 ?_
      refine lv_goto (tgt := 85) hx hb d_M_stepFrom_81 rfl ?_
      exact ro_iret hx hb hr hlocks hf d_M_stepFrom_85
def f_M_stepFrom_23 (mu : fm_T) (pl : Int32) (dd : Int32) (zz : Int32) : Int32 := (if dd = 1 then (f_M_stepFrom_48 mu pl zz ((pl / 16) + 1)) else (if dd = 3 then (f_M_stepFrom_48 mu pl zz ((pl / 16) + (-1))) else (f_M_stepFrom_48 mu pl zz ((pl / 16) + 0))))
theorem e_M_stepFrom_23 (mu : fm_T) (pl : Int32) (dd : Int32) (zz : Int32) : f_M_stepFrom_23 mu pl dd zz = (if dd = 1 then (f_M_stepFrom_48 mu pl zz ((pl / 16) + 1)) else (if dd = 3 then (f_M_stepFrom_48 mu pl zz ((pl / 16) + (-1))) else (f_M_stepFrom_48 mu pl zz ((pl / 16) + 0)))) := rfl
set_option maxHeartbeats 4000000 in
set_option maxRecDepth 100000 in
theorem k_M_stepFrom_23 (l : Launch) (dC : Nat → ClassId) (dI : Nat → Nat → Nat) (aC : Nat → ClassId) (b : Nat) {p : Program} {e : Env} {s : State} {m : MethodId} {args : Array Value} {below : List Frame} {meth : Method} {cd : Code} (hc : cx (dC, dI) (tysx aC) (XM) w_M_stepFrom b_M_stepFrom R_M 5 (some .int) p s m args meth cd) (mu : fm_T) (pl : Int32) (dd : Int32) (zz : Int32)  (ls : Array Slot) (F : Int32) (hP : va_P (dC, dI) clsx (fm_w (LM aC b) b 11 mu) s.heap) (hl : lv_has ls 5 [(0, .ref (b + 0)), (1, .int pl), (2, .int dd)]) (hf : F = f_M_stepFrom_23 mu pl dd zz) : W p l e { frames := 1, cells := 0, slots := 0, locals := 21 } s m args below meth cd s.heap [] 0 0 (MQ below (QcRead F) args s 0 0 (fun _ => False)) (F0 m 23 ls [.int zz]) := by
  obtain ⟨hx, hb, hr, hml, hown, hts, hlocks, hK, hX⟩ := hc
  have hg : ∀ w ∈ gtbl, w.before args s = true := fun w h => hts w (List.mem_cons_of_mem _ h)
  have hS : va_S (fm_A b 11) s.heap s.heap [] := va_S.rf
  have hf := hf.trans (e_M_stepFrom_23 mu pl dd zz)
  refine lv_istore_n (lv' := [(3, .int zz), (0, .ref (b + 0)), (1, .int pl), (2, .int dd)]) hx hb d_M_stepFrom_23 rfl hl (by decide) rfl (fun ls hl => ?_)
  refine lv_iload_n hx hb d_M_stepFrom_24 rfl (lv_at hl 2 rfl) ?_
  refine lv_bipush (v := 16) hx hb d_M_stepFrom_25 (by decide) ?_
  refine lv_idiv hx hb d_M_stepFrom_27 (by decide) ?_
  refine lv_iload_n hx hb d_M_stepFrom_28 rfl (lv_at hl 3 rfl) ?_
  refine lv_iconst (v := 1) hx hb d_M_stepFrom_29 (by decide) ?_
  refine lv_icmp_ne (tgt := 37) hx hb d_M_stepFrom_30 rfl (fun h30 => ?_) (fun h30 => ?_)
  · have hf := hf.trans (if_neg h30)
    refine lv_iload_n hx hb d_M_stepFrom_37 rfl (lv_at hl 3 rfl) ?_
    refine lv_iconst (v := 3) hx hb d_M_stepFrom_38 (by decide) ?_
    refine lv_icmp_ne (tgt := 46) hx hb d_M_stepFrom_39 rfl (fun h39 => ?_) (fun h39 => ?_)
    · have hf := hf.trans (if_neg h39)
      refine lv_iconst (v := 0) hx hb d_M_stepFrom_46 (by decide) ?_
      refine lv_iadd hx hb d_M_stepFrom_47 ?_
      exact k_M_stepFrom_48 l dC dI aC b ⟨hx, hb, hr, hml, hown, hts, hlocks, hK, hX⟩  mu pl zz ((pl / 16) + 0)  ls _ hP  (lv_sub hl [1, 2, 0] rfl) hf
    · have hf := hf.trans (if_pos h39)
      refine lv_iconst (v := (-1)) hx hb d_M_stepFrom_42 (by decide) ?_
      refine lv_goto (tgt := 47) hx hb d_M_stepFrom_43 rfl ?_
      refine lv_iadd hx hb d_M_stepFrom_47 ?_
      exact k_M_stepFrom_48 l dC dI aC b ⟨hx, hb, hr, hml, hown, hts, hlocks, hK, hX⟩  mu pl zz ((pl / 16) + (-1))  ls _ hP  (lv_sub hl [1, 2, 0] rfl) hf
  · have hf := hf.trans (if_pos h30)
    refine lv_iconst (v := 1) hx hb d_M_stepFrom_33 (by decide) ?_
    refine lv_goto (tgt := 47) hx hb d_M_stepFrom_34 rfl ?_
    refine lv_iadd hx hb d_M_stepFrom_47 ?_
    exact k_M_stepFrom_48 l dC dI aC b ⟨hx, hb, hr, hml, hown, hts, hlocks, hK, hX⟩  mu pl zz ((pl / 16) + 1)  ls _ hP  (lv_sub hl [1, 2, 0] rfl) hf
def f_M_stepFrom (mu : fm_T) (pl : Int32) (dd : Int32) : Int32 := (if dd = 0 then (f_M_stepFrom_23 mu pl dd ((pl - pl / 16 * 16) + 1)) else (if dd = 2 then (f_M_stepFrom_23 mu pl dd ((pl - pl / 16 * 16) + (-1))) else (f_M_stepFrom_23 mu pl dd ((pl - pl / 16 * 16) + 0))))
theorem e_M_stepFrom (mu : fm_T) (pl : Int32) (dd : Int32) : f_M_stepFrom mu pl dd = (if dd = 0 then (f_M_stepFrom_23 mu pl dd ((pl - pl / 16 * 16) + 1)) else (if dd = 2 then (f_M_stepFrom_23 mu pl dd ((pl - pl / 16 * 16) + (-1))) else (f_M_stepFrom_23 mu pl dd ((pl - pl / 16 * 16) + 0)))) := rfl
set_option maxHeartbeats 4000000 in
set_option maxRecDepth 100000 in
theorem k_M_stepFrom (l : Launch) (dC : Nat → ClassId) (dI : Nat → Nat → Nat) (aC : Nat → ClassId) (b : Nat) {p : Program} {e : Env} {s : State} {m : MethodId} {args : Array Value} {below : List Frame} {meth : Method} {cd : Code} (hc : cx (dC, dI) (tysx aC) (XM) w_M_stepFrom b_M_stepFrom R_M 5 (some .int) p s m args meth cd) (mu : fm_T) (pl : Int32) (dd : Int32)  (ls : Array Slot) (F : Int32) (hP : va_P (dC, dI) clsx (fm_w (LM aC b) b 11 mu) s.heap) (hl : lv_has ls 5 [(0, .ref (b + 0)), (1, .int pl), (2, .int dd)]) (hf : F = f_M_stepFrom mu pl dd) : W p l e { frames := 1, cells := 0, slots := 0, locals := 21 } s m args below meth cd s.heap [] 0 0 (MQ below (QcRead F) args s 0 0 (fun _ => False)) (F0 m 0 ls []) := by
  obtain ⟨hx, hb, hr, hml, hown, hts, hlocks, hK, hX⟩ := hc
  have hg : ∀ w ∈ gtbl, w.before args s = true := fun w h => hts w (List.mem_cons_of_mem _ h)
  have hS : va_S (fm_A b 11) s.heap s.heap [] := va_S.rf
  have hf := hf.trans (e_M_stepFrom mu pl dd)
  refine lv_iload_n hx hb d_M_stepFrom_0 rfl (lv_at hl 1 rfl) ?_
  refine lv_bipush (v := 16) hx hb d_M_stepFrom_1 (by decide) ?_
  refine lv_irem hx hb d_M_stepFrom_3 (by decide) ?_
  refine lv_iload_n hx hb d_M_stepFrom_4 rfl (lv_at hl 2 rfl) ?_
  refine lv_if_ne (tgt := 12) hx hb d_M_stepFrom_5 rfl (fun h5 => ?_) (fun h5 => ?_)
  · have hf := hf.trans (if_neg h5)
    refine lv_iload_n hx hb d_M_stepFrom_12 rfl (lv_at hl 2 rfl) ?_
    refine lv_iconst (v := 2) hx hb d_M_stepFrom_13 (by decide) ?_
    refine lv_icmp_ne (tgt := 21) hx hb d_M_stepFrom_14 rfl (fun h14 => ?_) (fun h14 => ?_)
    · have hf := hf.trans (if_neg h14)
      refine lv_iconst (v := 0) hx hb d_M_stepFrom_21 (by decide) ?_
      refine lv_iadd hx hb d_M_stepFrom_22 ?_
      exact k_M_stepFrom_23 l dC dI aC b ⟨hx, hb, hr, hml, hown, hts, hlocks, hK, hX⟩  mu pl dd ((pl - pl / 16 * 16) + 0)  ls _ hP  (lv_sub hl [0, 1, 2] rfl) hf
    · have hf := hf.trans (if_pos h14)
      refine lv_iconst (v := (-1)) hx hb d_M_stepFrom_17 (by decide) ?_
      refine lv_goto (tgt := 22) hx hb d_M_stepFrom_18 rfl ?_
      refine lv_iadd hx hb d_M_stepFrom_22 ?_
      exact k_M_stepFrom_23 l dC dI aC b ⟨hx, hb, hr, hml, hown, hts, hlocks, hK, hX⟩  mu pl dd ((pl - pl / 16 * 16) + (-1))  ls _ hP  (lv_sub hl [0, 1, 2] rfl) hf
  · have hf := hf.trans (if_pos h5)
    refine lv_iconst (v := 1) hx hb d_M_stepFrom_8 (by decide) ?_
    refine lv_goto (tgt := 22) hx hb d_M_stepFrom_9 rfl ?_
    refine lv_iadd hx hb d_M_stepFrom_22 ?_
    exact k_M_stepFrom_23 l dC dI aC b ⟨hx, hb, hr, hml, hown, hts, hlocks, hK, hX⟩  mu pl dd ((pl - pl / 16 * 16) + 1)  ls _ hP  (lv_sub hl [0, 1, 2] rfl) hf
set_option maxHeartbeats 4000000 in
set_option maxRecDepth 100000 in
theorem c_M_stepFrom (l : Launch) (dC : Nat → ClassId) (dI : Nat → Nat → Nat) (aC : Nat → ClassId) (b : Nat) (mu : fm_T) (pl : Int32) (dd : Int32)  : Met l y_M_stepFrom w_M_stepFrom { frames := 1, cells := 0, slots := 0, locals := 21 } (va_Pc [.ref (b + 0), .int pl, .int dd] (fm_C (dC, dI) clsx (tysx aC) (LM aC b) b 11 (XM) mu)) (QcRead (f_M_stepFrom mu pl dd)) 0 0 (fun _ => False) := by
  refine Met.ofW (cc := b_M_stepFrom) (maxL := 5) (ret := (some .int)) (by decide) rfl ?_
  intro p e s m args below meth cd s₁ B hml hv
  obtain ⟨rfl, hP, hK, hX⟩ := hv
  have hl := lv_entry ([.ref (b + 0), .int pl, .int dd]) (n := 5) (Nat.le_of_ble_eq_true rfl)
  rw [lg_entry_eq]
  generalize (lg_sl ([.ref (b + 0), .int pl, .int dd]) ++ List.replicate (5 - (lg_sl ([.ref (b + 0), .int pl, .int dd])).length) Slot.unset).toArray = ls at hl ⊢
  exact k_M_stepFrom l dC dI aC b ⟨B.exec, B.bytes, B.returns, hml, findClass_of_methodNamed B.named, atoms_spec (ws := w_M_stepFrom) B.pre, B.notSynchronized, hK, hX⟩ mu pl dd ls _ hP hl rfl
def f_M_wall_19 : Nat → fm_T → Int32 → Int32 → Nat → Int32 × fm_T
  | 0, mu, _, _, _ => (0, mu)
  | n + 1, mu, px, py, j => (if 8 ≤ (nI j) then (1, fm_up mu 1 ((px + (16 * py)).toNatClampNeg) 1) else (if (mu 3 j) = (px + (16 * py)) then (0, mu) else (f_M_wall_19 n mu px py (j + 1))))
theorem e_M_wall_19 (n : Nat) (mu : fm_T) (px : Int32) (py : Int32) (j : Nat) : f_M_wall_19 (n + 1) mu px py j = (if 8 ≤ (nI j) then (1, fm_up mu 1 ((px + (16 * py)).toNatClampNeg) 1) else (if (mu 3 j) = (px + (16 * py)) then (0, mu) else (f_M_wall_19 n mu px py (j + 1)))) := rfl
set_option maxHeartbeats 4000000 in
set_option maxRecDepth 100000 in
theorem k_M_wall_19 (l : Launch) (dC : Nat → ClassId) (dI : Nat → Nat → Nat) (aC : Nat → ClassId) (b : Nat) {p : Program} {e : Env} {s : State} {m : MethodId} {args : Array Value} {below : List Frame} {meth : Method} {cd : Code} (hc : cx (dC, dI) (tysx aC) (XM) w_M_wall b_M_wall R_M 4 (some .boolean) p s m args meth cd) : ∀ (n : Nat) (mu : fm_T) (px : Int32) (py : Int32) (j : Nat) (hj : j ≤ 8) (hn : 8 < j + n) (hsq : ¬ f_M_square px py = 0) (H : Heap) (locs : List Loc) (ls : Array Slot) (F : Int32 × fm_T) (hP : va_P (dC, dI) clsx (fm_w (LM aC b) b 11 mu) H) (hS : va_S (fm_A b 11) s.heap H locs) (hl : lv_has ls 4 [(0, .ref (b + 0)), (1, .int px), (2, .int py), (3, .int (nI j))]) (hf : F = f_M_wall_19 n mu px py j), W p l e { frames := 1, cells := 0, slots := 0, locals := 21 } s m args below meth cd H locs 0 0 (MQ below (va_Qi (fun r u => r = F.1 ∧ u = F.2) (fm_B (dC, dI) clsx (tysx aC) (LM aC b) b 11) (fm_A b 11)) args s 0 0 (fm_A b 11)) (F0 m 19 ls []) := by
  obtain ⟨hx, hb, hr, hml, hown, hts, hlocks, hK, hX⟩ := hc
  have hg : ∀ w ∈ gtbl, w.before args s = true := fun w h => hts w (List.mem_cons_of_mem _ h)
  intro n
  induction n with
  | zero =>
    intro mu px py j hj hn hsq H locs ls F hP hS hl hf
    exfalso
    omega
  | succ n ih =>
    intro mu px py j hj hn hsq H locs ls F hP hS hl hf
    have hf := hf.trans (e_M_wall_19 n mu px py j)
    refine lv_iload_n hx hb d_M_wall_19 rfl (lv_at hl 3 rfl) ?_
    refine lv_bipush (v := 8) hx hb d_M_wall_20 (by decide) ?_
    refine lv_icmp_ge (tgt := 48) hx hb d_M_wall_22 rfl (fun h22 => ?_) (fun h22 => ?_)
    · have hf := hf.trans (if_pos h22)
      refine lv_aload_n hx hb d_M_wall_48 rfl (lv_at hl 0 rfl) ?_
      refine fm_get (C := R_M) (T := T_M) (n := 12) (ci := 6) hx hb hg uw_M hown hK hP (0) (by decide) (lm_M aC b _) rfl 0 (by decide) (hg _ fl_M_7) (fun _ h9 => h9) rfl d_M_wall_49 ?_
      refine lv_iload_n hx hb d_M_wall_52 rfl (lv_at hl 1 rfl) ?_
      refine lv_bipush (v := 16) hx hb d_M_wall_53 (by decide) ?_
      refine lv_iload_n hx hb d_M_wall_55 rfl (lv_at hl 2 rfl) ?_
      refine lv_imul hx hb d_M_wall_56 ?_
      refine lv_iadd hx hb d_M_wall_57 ?_
      refine lv_iconst (v := 1) hx hb d_M_wall_58 (by decide) ?_
      refine fm_zast hx hb hK (fun _ h => h) hP hS (1) (by decide) 1 (lm_walls aC b _) rfl ((px + (16 * py)).toNatClampNeg) (vp_e (n := 256) (ms_in hsq)) (vp_l (n := 256) (ms_in hsq)) (by decide) rfl (lm_walls aC b _) d_M_wall_59 (fun H locs hP hS => ?_)
      refine lv_iconst (v := 1) hx hb d_M_wall_60 (by decide) ?_
      exact rw_zret hx hb hr hlocks hK hP hS rfl hf d_M_wall_61
    · have hf := hf.trans (if_neg h22)
      have hj8 : j < 8 := lp_lt rfl hj (by decide) h22
      refine lv_aload_n hx hb d_M_wall_25 rfl (lv_at hl 0 rfl) ?_
      refine fm_get (C := R_M) (T := T_M) (n := 12) (ci := 6) hx hb hg uw_M hown hK hP (0) (by decide) (lm_M aC b _) rfl 3 (by decide) (hg _ fl_M_17) (fun _ h9 => h9) rfl d_M_wall_26 ?_
      refine lv_iload_n hx hb d_M_wall_29 rfl (lv_at hl 3 rfl) ?_
      refine fm_iald hx hb hK hP (3) (by decide) 0 (lm_stood aC b _) rfl j rfl (by omega) (by decide) d_M_wall_30 ?_
      refine lv_iload_n hx hb d_M_wall_31 rfl (lv_at hl 1 rfl) ?_
      refine lv_bipush (v := 16) hx hb d_M_wall_32 (by decide) ?_
      refine lv_iload_n hx hb d_M_wall_34 rfl (lv_at hl 2 rfl) ?_
      refine lv_imul hx hb d_M_wall_35 ?_
      refine lv_iadd hx hb d_M_wall_36 ?_
      refine lv_icmp_ne (tgt := 42) hx hb d_M_wall_37 rfl (fun h37 => ?_) (fun h37 => ?_)
      · have hf := hf.trans (if_neg h37)
        refine lv_iinc (k := 3) (v := (nI (j + 1))) (lv' := [(3, .int (nI (j + 1))), (0, .ref (b + 0)), (1, .int px), (2, .int py)]) hx hb d_M_wall_42 hl rfl (nI_1 _) (by decide) rfl (fun ls hl => ?_)
        refine lv_goto (tgt := 19) hx hb d_M_wall_45 rfl ?_
        exact ih mu px py (j + 1) (by omega) (by omega) hsq _ _ ls _ hP hS (lv_sub hl [1, 2, 3, 0] rfl) hf
      · have hf := hf.trans (if_pos h37)
        refine lv_iconst (v := 0) hx hb d_M_wall_40 (by decide) ?_
        exact rw_zret hx hb hr hlocks hK hP hS rfl hf d_M_wall_41
def f_M_wall (mu : fm_T) (px : Int32) (py : Int32) : Int32 × fm_T := (if (f_M_square px py) = 0 then (0, mu) else (if (mu 0 2) = 0 then (f_M_wall_19 9 mu px py 0) else (0, mu)))
theorem e_M_wall (mu : fm_T) (px : Int32) (py : Int32) : f_M_wall mu px py = (if (f_M_square px py) = 0 then (0, mu) else (if (mu 0 2) = 0 then (f_M_wall_19 9 mu px py 0) else (0, mu))) := rfl
set_option maxHeartbeats 4000000 in
set_option maxRecDepth 100000 in
theorem k_M_wall (l : Launch) (dC : Nat → ClassId) (dI : Nat → Nat → Nat) (aC : Nat → ClassId) (b : Nat) {p : Program} {e : Env} {s : State} {m : MethodId} {args : Array Value} {below : List Frame} {meth : Method} {cd : Code} (hc : cx (dC, dI) (tysx aC) (XM) w_M_wall b_M_wall R_M 4 (some .boolean) p s m args meth cd) (mu : fm_T) (px : Int32) (py : Int32)  (H : Heap) (locs : List Loc) (ls : Array Slot) (F : Int32 × fm_T) (hP : va_P (dC, dI) clsx (fm_w (LM aC b) b 11 mu) H) (hS : va_S (fm_A b 11) s.heap H locs) (hl : lv_has ls 4 [(0, .ref (b + 0)), (1, .int px), (2, .int py)]) (hf : F = f_M_wall mu px py) : W p l e { frames := 1, cells := 0, slots := 0, locals := 21 } s m args below meth cd H locs 0 0 (MQ below (va_Qi (fun r u => r = F.1 ∧ u = F.2) (fm_B (dC, dI) clsx (tysx aC) (LM aC b) b 11) (fm_A b 11)) args s 0 0 (fm_A b 11)) (F0 m 0 ls []) := by
  obtain ⟨hx, hb, hr, hml, hown, hts, hlocks, hK, hX⟩ := hc
  have hg : ∀ w ∈ gtbl, w.before args s = true := fun w h => hts w (List.mem_cons_of_mem _ h)
  have hf := hf.trans (e_M_wall mu px py)
  refine lv_iload_n hx hb d_M_wall_0 rfl (lv_at hl 1 rfl) ?_
  refine lv_iload_n hx hb d_M_wall_1 rfl (lv_at hl 2 rfl) ?_
  refine ro_call (va_runS (As := [.int px, .int py]) (rest := []) ⟨hx, hb, hml, hown, hts⟩ (c_M_square l dC dI aC b mu px py) (cw_S (fun w h => List.mem_cons_of_mem _ h) hts ks_M_square ml_M_41 ⟨Nat.le_of_ble_eq_true rfl, Nat.le_of_ble_eq_true rfl⟩ rfl rfl) (fm_preS XM_bl (XM_mv hX hS) hK hP) rfl rfl hl.1 rfl (lv_room (Nat.le_of_ble_eq_true rfl)) d_M_wall_2 ⟨Nat.zero_le _, Nat.zero_le _⟩) ?_
  refine lv_if_eq (tgt := 15) hx hb d_M_wall_5 rfl (fun h5 => ?_) (fun h5 => ?_)
  · have hf := hf.trans (if_pos h5)
    refine lv_iconst (v := 0) hx hb d_M_wall_15 (by decide) ?_
    exact rw_zret hx hb hr hlocks hK hP hS rfl hf d_M_wall_16
  · have hf := hf.trans (if_neg h5)
    refine lv_aload_n hx hb d_M_wall_8 rfl (lv_at hl 0 rfl) ?_
    refine fm_get (C := R_M) (T := T_M) (n := 12) (ci := 6) hx hb hg uw_M hown hK hP (0) (by decide) (lm_M aC b _) rfl 2 (by decide) (hg _ fl_M_45) (fun _ h9 => h9) rfl d_M_wall_9 ?_
    refine lv_if_eq (tgt := 17) hx hb d_M_wall_12 rfl (fun h12 => ?_) (fun h12 => ?_)
    · have hf := hf.trans (if_pos h12)
      refine lv_iconst (v := 0) hx hb d_M_wall_17 (by decide) ?_
      refine lv_istore_n (lv' := [(3, .int 0), (0, .ref (b + 0)), (1, .int px), (2, .int py)]) hx hb d_M_wall_18 rfl hl (by decide) rfl (fun ls hl => ?_)
      exact k_M_wall_19 l dC dI aC b ⟨hx, hb, hr, hml, hown, hts, hlocks, hK, hX⟩ 9 mu px py 0 (by decide) (by decide) h5 _ _ ls _ hP hS (lv_sub hl [1, 2, 3, 0] rfl) hf
    · have hf := hf.trans (if_neg h12)
      refine lv_iconst (v := 0) hx hb d_M_wall_15 (by decide) ?_
      exact rw_zret hx hb hr hlocks hK hP hS rfl hf d_M_wall_16
set_option maxHeartbeats 4000000 in
set_option maxRecDepth 100000 in
theorem c_M_wall (l : Launch) (dC : Nat → ClassId) (dI : Nat → Nat → Nat) (aC : Nat → ClassId) (b : Nat) (mu : fm_T) (px : Int32) (py : Int32)  : Met l y_M_wall w_M_wall { frames := 1, cells := 0, slots := 0, locals := 21 } (va_Pc [.ref (b + 0), .int px, .int py] (fm_C (dC, dI) clsx (tysx aC) (LM aC b) b 11 (XM) mu)) (va_Qi (fun r u => r = (f_M_wall mu px py).1 ∧ u = (f_M_wall mu px py).2) (fm_B (dC, dI) clsx (tysx aC) (LM aC b) b 11) (fm_A b 11)) 0 0 (fm_A b 11) := by
  refine Met.ofW (cc := b_M_wall) (maxL := 4) (ret := (some .boolean)) (by decide) rfl ?_
  intro p e s m args below meth cd s₁ B hml hv
  obtain ⟨rfl, hP, hK, hX⟩ := hv
  have hl := lv_entry ([.ref (b + 0), .int px, .int py]) (n := 4) (Nat.le_of_ble_eq_true rfl)
  rw [lg_entry_eq]
  generalize (lg_sl ([.ref (b + 0), .int px, .int py]) ++ List.replicate (4 - (lg_sl ([.ref (b + 0), .int px, .int py])).length) Slot.unset).toArray = ls at hl ⊢
  exact k_M_wall l dC dI aC b ⟨B.exec, B.bytes, B.returns, hml, findClass_of_methodNamed B.named, atoms_spec (ws := w_M_wall) B.pre, B.notSynchronized, hK, hX⟩ mu px py _ _ ls _ hP va_S.rf hl rfl
def f_M_place (mu : fm_T) (en : Int32) (px : Int32) (py : Int32) (dr : Int32) : Int32 × fm_T := (if (f_M_entity en) = 0 then (0, mu) else (if (f_M_square px py) = 0 then (0, mu) else (if (mu 1 ((px + (16 * py)).toNatClampNeg)) = 0 then (if en ≤ 2 then (if (mu 0 2) = 0 then (if en ≤ 2 then (1, fm_up (fm_up mu 3 en.toNatClampNeg (px + (16 * py))) 2 en.toNatClampNeg 0) else (1, fm_up (fm_up mu 3 en.toNatClampNeg (px + (16 * py))) 2 en.toNatClampNeg dr)) else (0, mu)) else (if dr < 0 then (0, mu) else (if 3 < dr then (0, mu) else (if (mu 0 2) = 0 then (if en ≤ 2 then (1, fm_up (fm_up mu 3 en.toNatClampNeg (px + (16 * py))) 2 en.toNatClampNeg 0) else (1, fm_up (fm_up mu 3 en.toNatClampNeg (px + (16 * py))) 2 en.toNatClampNeg dr)) else (0, mu))))) else (0, mu))))
theorem e_M_place (mu : fm_T) (en : Int32) (px : Int32) (py : Int32) (dr : Int32) : f_M_place mu en px py dr = (if (f_M_entity en) = 0 then (0, mu) else (if (f_M_square px py) = 0 then (0, mu) else (if (mu 1 ((px + (16 * py)).toNatClampNeg)) = 0 then (if en ≤ 2 then (if (mu 0 2) = 0 then (if en ≤ 2 then (1, fm_up (fm_up mu 3 en.toNatClampNeg (px + (16 * py))) 2 en.toNatClampNeg 0) else (1, fm_up (fm_up mu 3 en.toNatClampNeg (px + (16 * py))) 2 en.toNatClampNeg dr)) else (0, mu)) else (if dr < 0 then (0, mu) else (if 3 < dr then (0, mu) else (if (mu 0 2) = 0 then (if en ≤ 2 then (1, fm_up (fm_up mu 3 en.toNatClampNeg (px + (16 * py))) 2 en.toNatClampNeg 0) else (1, fm_up (fm_up mu 3 en.toNatClampNeg (px + (16 * py))) 2 en.toNatClampNeg dr)) else (0, mu))))) else (0, mu)))) := rfl
set_option maxHeartbeats 4000000 in
set_option maxRecDepth 100000 in
theorem k_M_place (l : Launch) (dC : Nat → ClassId) (dI : Nat → Nat → Nat) (aC : Nat → ClassId) (b : Nat) {p : Program} {e : Env} {s : State} {m : MethodId} {args : Array Value} {below : List Frame} {meth : Method} {cd : Code} (hc : cx (dC, dI) (tysx aC) (XM) w_M_place b_M_place R_M 5 (some .boolean) p s m args meth cd) (mu : fm_T) (en : Int32) (px : Int32) (py : Int32) (dr : Int32)  (H : Heap) (locs : List Loc) (ls : Array Slot) (F : Int32 × fm_T) (hP : va_P (dC, dI) clsx (fm_w (LM aC b) b 11 mu) H) (hS : va_S (fm_A b 11) s.heap H locs) (hl : lv_has ls 5 [(0, .ref (b + 0)), (1, .int en), (2, .int px), (3, .int py), (4, .int dr)]) (hf : F = f_M_place mu en px py dr) : W p l e { frames := 1, cells := 0, slots := 0, locals := 21 } s m args below meth cd H locs 0 0 (MQ below (va_Qi (fun r u => r = F.1 ∧ u = F.2) (fm_B (dC, dI) clsx (tysx aC) (LM aC b) b 11) (fm_A b 11)) args s 0 0 (fm_A b 11)) (F0 m 0 ls []) := by
  obtain ⟨hx, hb, hr, hml, hown, hts, hlocks, hK, hX⟩ := hc
  have hg : ∀ w ∈ gtbl, w.before args s = true := fun w h => hts w (List.mem_cons_of_mem _ h)
  have hf := hf.trans (e_M_place mu en px py dr)
  refine lv_iload_n hx hb d_M_place_0 rfl (lv_at hl 1 rfl) ?_
  refine ro_call (va_runS (As := [.int en]) (rest := []) ⟨hx, hb, hml, hown, hts⟩ (c_M_entity l dC dI aC b mu en) (cw_S (fun w h => List.mem_cons_of_mem _ h) hts ks_M_entity ml_M_49 ⟨Nat.le_of_ble_eq_true rfl, Nat.le_of_ble_eq_true rfl⟩ rfl rfl) (fm_preS XM_bl (XM_mv hX hS) hK hP) rfl rfl hl.1 rfl (lv_room (Nat.le_of_ble_eq_true rfl)) d_M_place_1 ⟨Nat.zero_le _, Nat.zero_le _⟩) ?_
  refine lv_if_eq (tgt := 52) hx hb d_M_place_4 rfl (fun h4 => ?_) (fun h4 => ?_)
  · have hf := hf.trans (if_pos h4)
    refine lv_iconst (v := 0) hx hb d_M_place_52 (by decide) ?_
    exact rw_zret hx hb hr hlocks hK hP hS rfl hf d_M_place_53
  · have hf := hf.trans (if_neg h4)
    refine lv_iload_n hx hb d_M_place_7 rfl (lv_at hl 2 rfl) ?_
    refine lv_iload_n hx hb d_M_place_8 rfl (lv_at hl 3 rfl) ?_
    refine ro_call (va_runS (As := [.int px, .int py]) (rest := []) ⟨hx, hb, hml, hown, hts⟩ (c_M_square l dC dI aC b mu px py) (cw_S (fun w h => List.mem_cons_of_mem _ h) hts ks_M_square ml_M_41 ⟨Nat.le_of_ble_eq_true rfl, Nat.le_of_ble_eq_true rfl⟩ rfl rfl) (fm_preS XM_bl (XM_mv hX hS) hK hP) rfl rfl hl.1 rfl (lv_room (Nat.le_of_ble_eq_true rfl)) d_M_place_9 ⟨Nat.zero_le _, Nat.zero_le _⟩) ?_
    refine lv_if_eq (tgt := 52) hx hb d_M_place_12 rfl (fun h12 => ?_) (fun h12 => ?_)
    · have hf := hf.trans (if_pos h12)
      refine lv_iconst (v := 0) hx hb d_M_place_52 (by decide) ?_
      exact rw_zret hx hb hr hlocks hK hP hS rfl hf d_M_place_53
    · have hf := hf.trans (if_neg h12)
      refine lv_aload_n hx hb d_M_place_15 rfl (lv_at hl 0 rfl) ?_
      refine fm_get (C := R_M) (T := T_M) (n := 12) (ci := 6) hx hb hg uw_M hown hK hP (0) (by decide) (lm_M aC b _) rfl 0 (by decide) (hg _ fl_M_7) (fun _ h9 => h9) rfl d_M_place_16 ?_
      refine lv_iload_n hx hb d_M_place_19 rfl (lv_at hl 2 rfl) ?_
      refine lv_bipush (v := 16) hx hb d_M_place_20 (by decide) ?_
      refine lv_iload_n hx hb d_M_place_22 rfl (lv_at hl 3 rfl) ?_
      refine lv_imul hx hb d_M_place_23 ?_
      refine lv_iadd hx hb d_M_place_24 ?_
      refine fm_zald hx hb hK hP (1) (by decide) 1 (lm_walls aC b _) rfl ((px + (16 * py)).toNatClampNeg) (vp_e (n := 256) (ms_in h12)) (vp_l (n := 256) (ms_in h12)) (by decide) d_M_place_25 ?_
      refine lv_if_ne (tgt := 52) hx hb d_M_place_26 rfl (fun h26 => ?_) (fun h26 => ?_)
      · have hf := hf.trans (if_neg h26)
        refine lv_iconst (v := 0) hx hb d_M_place_52 (by decide) ?_
        exact rw_zret hx hb hr hlocks hK hP hS rfl hf d_M_place_53
      · have hf := hf.trans (if_pos h26)
        refine lv_iload_n hx hb d_M_place_29 rfl (lv_at hl 1 rfl) ?_
        refine lv_iconst (v := 2) hx hb d_M_place_30 (by decide) ?_
        refine lv_icmp_le (tgt := 45) hx hb d_M_place_31 rfl (fun h31 => ?_) (fun h31 => ?_)
        · have hf := hf.trans (if_pos h31)
          refine lv_aload_n hx hb d_M_place_45 rfl (lv_at hl 0 rfl) ?_
          refine fm_get (C := R_M) (T := T_M) (n := 12) (ci := 6) hx hb hg uw_M hown hK hP (0) (by decide) (lm_M aC b _) rfl 2 (by decide) (hg _ fl_M_45) (fun _ h9 => h9) rfl d_M_place_46 ?_
          refine lv_if_eq (tgt := 54) hx hb d_M_place_49 rfl (fun h49 => ?_) (fun h49 => ?_)
          · have hf := hf.trans (if_pos h49)
            refine lv_aload_n hx hb d_M_place_54 rfl (lv_at hl 0 rfl) ?_
            refine fm_get (C := R_M) (T := T_M) (n := 12) (ci := 6) hx hb hg uw_M hown hK hP (0) (by decide) (lm_M aC b _) rfl 3 (by decide) (hg _ fl_M_17) (fun _ h9 => h9) rfl d_M_place_55 ?_
            refine lv_iload_n hx hb d_M_place_58 rfl (lv_at hl 1 rfl) ?_
            refine lv_iload_n hx hb d_M_place_59 rfl (lv_at hl 2 rfl) ?_
            refine lv_bipush (v := 16) hx hb d_M_place_60 (by decide) ?_
            refine lv_iload_n hx hb d_M_place_62 rfl (lv_at hl 3 rfl) ?_
            refine lv_imul hx hb d_M_place_63 ?_
            refine lv_iadd hx hb d_M_place_64 ?_
            refine fm_iast hx hb hK (fun _ h => h) hP hS (3) (by decide) 0 (lm_stood aC b _) rfl en.toNatClampNeg (vp_e (n := 4104) (vp_mono (me_in h4) (by decide))) (vp_l (n := 4104) (vp_mono (me_in h4) (by decide))) (by decide) (lm_stood aC b _) d_M_place_65 (fun H locs hP hS => ?_)
            refine lv_aload_n hx hb d_M_place_66 rfl (lv_at hl 0 rfl) ?_
            refine fm_get (C := R_M) (T := T_M) (n := 12) (ci := 6) hx hb hg uw_M hown hK hP (0) (by decide) (lm_M aC b _) rfl 1 (by decide) (hg _ fl_M_13) (fun _ h9 => h9) rfl d_M_place_67 ?_
            refine lv_iload_n hx hb d_M_place_70 rfl (lv_at hl 1 rfl) ?_
            refine lv_iload_n hx hb d_M_place_71 rfl (lv_at hl 1 rfl) ?_
            refine lv_iconst (v := 2) hx hb d_M_place_72 (by decide) ?_
            refine lv_icmp_le (tgt := 81) hx hb d_M_place_73 rfl (fun h73 => ?_) (fun h73 => ?_)
            · have hf := hf.trans (if_pos h73)
              refine lv_iconst (v := 0) hx hb d_M_place_81 (by decide) ?_
              refine fm_iast hx hb hK (fun _ h => h) hP hS (2) (by decide) 0 (lm_direction aC b _) rfl en.toNatClampNeg (vp_e (n := 8) (me_in h4)) (vp_l (n := 8) (me_in h4)) (by decide) (lm_direction aC b _) d_M_place_82 (fun H locs hP hS => ?_)
              refine lv_iconst (v := 1) hx hb d_M_place_83 (by decide) ?_
              exact rw_zret hx hb hr hlocks hK hP hS rfl hf d_M_place_84
            · have hf := hf.trans (if_neg h73)
              refine lv_iload hx hb d_M_place_76 (lv_at hl 4 rfl) ?_
              refine lv_goto (tgt := 82) hx hb d_M_place_78 rfl ?_
              refine fm_iast hx hb hK (fun _ h => h) hP hS (2) (by decide) 0 (lm_direction aC b _) rfl en.toNatClampNeg (vp_e (n := 8) (me_in h4)) (vp_l (n := 8) (me_in h4)) (by decide) (lm_direction aC b _) d_M_place_82 (fun H locs hP hS => ?_)
              refine lv_iconst (v := 1) hx hb d_M_place_83 (by decide) ?_
              exact rw_zret hx hb hr hlocks hK hP hS rfl hf d_M_place_84
          · have hf := hf.trans (if_neg h49)
            refine lv_iconst (v := 0) hx hb d_M_place_52 (by decide) ?_
            exact rw_zret hx hb hr hlocks hK hP hS rfl hf d_M_place_53
        · have hf := hf.trans (if_neg h31)
          refine lv_iload hx hb d_M_place_34 (lv_at hl 4 rfl) ?_
          refine lv_if_lt (tgt := 52) hx hb d_M_place_36 rfl (fun h36 => ?_) (fun h36 => ?_)
          · have hf := hf.trans (if_pos h36)
            refine lv_iconst (v := 0) hx hb d_M_place_52 (by decide) ?_
            exact rw_zret hx hb hr hlocks hK hP hS rfl hf d_M_place_53
          · have hf := hf.trans (if_neg h36)
            refine lv_iload hx hb d_M_place_39 (lv_at hl 4 rfl) ?_
            refine lv_iconst (v := 3) hx hb d_M_place_41 (by decide) ?_
            refine lv_icmp_gt (tgt := 52) hx hb d_M_place_42 rfl (fun h42 => ?_) (fun h42 => ?_)
            · have hf := hf.trans (if_pos h42)
              refine lv_iconst (v := 0) hx hb d_M_place_52 (by decide) ?_
              exact rw_zret hx hb hr hlocks hK hP hS rfl hf d_M_place_53
            · have hf := hf.trans (if_neg h42)
              refine lv_aload_n hx hb d_M_place_45 rfl (lv_at hl 0 rfl) ?_
              refine fm_get (C := R_M) (T := T_M) (n := 12) (ci := 6) hx hb hg uw_M hown hK hP (0) (by decide) (lm_M aC b _) rfl 2 (by decide) (hg _ fl_M_45) (fun _ h9 => h9) rfl d_M_place_46 ?_
              refine lv_if_eq (tgt := 54) hx hb d_M_place_49 rfl (fun h49 => ?_) (fun h49 => ?_)
              · have hf := hf.trans (if_pos h49)
                refine lv_aload_n hx hb d_M_place_54 rfl (lv_at hl 0 rfl) ?_
                refine fm_get (C := R_M) (T := T_M) (n := 12) (ci := 6) hx hb hg uw_M hown hK hP (0) (by decide) (lm_M aC b _) rfl 3 (by decide) (hg _ fl_M_17) (fun _ h9 => h9) rfl d_M_place_55 ?_
                refine lv_iload_n hx hb d_M_place_58 rfl (lv_at hl 1 rfl) ?_
                refine lv_iload_n hx hb d_M_place_59 rfl (lv_at hl 2 rfl) ?_
                refine lv_bipush (v := 16) hx hb d_M_place_60 (by decide) ?_
                refine lv_iload_n hx hb d_M_place_62 rfl (lv_at hl 3 rfl) ?_
                refine lv_imul hx hb d_M_place_63 ?_
                refine lv_iadd hx hb d_M_place_64 ?_
                refine fm_iast hx hb hK (fun _ h => h) hP hS (3) (by decide) 0 (lm_stood aC b _) rfl en.toNatClampNeg (vp_e (n := 4104) (vp_mono (me_in h4) (by decide))) (vp_l (n := 4104) (vp_mono (me_in h4) (by decide))) (by decide) (lm_stood aC b _) d_M_place_65 (fun H locs hP hS => ?_)
                refine lv_aload_n hx hb d_M_place_66 rfl (lv_at hl 0 rfl) ?_
                refine fm_get (C := R_M) (T := T_M) (n := 12) (ci := 6) hx hb hg uw_M hown hK hP (0) (by decide) (lm_M aC b _) rfl 1 (by decide) (hg _ fl_M_13) (fun _ h9 => h9) rfl d_M_place_67 ?_
                refine lv_iload_n hx hb d_M_place_70 rfl (lv_at hl 1 rfl) ?_
                refine lv_iload_n hx hb d_M_place_71 rfl (lv_at hl 1 rfl) ?_
                refine lv_iconst (v := 2) hx hb d_M_place_72 (by decide) ?_
                refine lv_icmp_le (tgt := 81) hx hb d_M_place_73 rfl (fun h73 => ?_) (fun h73 => ?_)
                · have hf := hf.trans (if_pos h73)
                  refine lv_iconst (v := 0) hx hb d_M_place_81 (by decide) ?_
                  refine fm_iast hx hb hK (fun _ h => h) hP hS (2) (by decide) 0 (lm_direction aC b _) rfl en.toNatClampNeg (vp_e (n := 8) (me_in h4)) (vp_l (n := 8) (me_in h4)) (by decide) (lm_direction aC b _) d_M_place_82 (fun H locs hP hS => ?_)
                  refine lv_iconst (v := 1) hx hb d_M_place_83 (by decide) ?_
                  exact rw_zret hx hb hr hlocks hK hP hS rfl hf d_M_place_84
                · have hf := hf.trans (if_neg h73)
                  refine lv_iload hx hb d_M_place_76 (lv_at hl 4 rfl) ?_
                  refine lv_goto (tgt := 82) hx hb d_M_place_78 rfl ?_
                  refine fm_iast hx hb hK (fun _ h => h) hP hS (2) (by decide) 0 (lm_direction aC b _) rfl en.toNatClampNeg (vp_e (n := 8) (me_in h4)) (vp_l (n := 8) (me_in h4)) (by decide) (lm_direction aC b _) d_M_place_82 (fun H locs hP hS => ?_)
                  refine lv_iconst (v := 1) hx hb d_M_place_83 (by decide) ?_
                  exact rw_zret hx hb hr hlocks hK hP hS rfl hf d_M_place_84
              · have hf := hf.trans (if_neg h49)
                refine lv_iconst (v := 0) hx hb d_M_place_52 (by decide) ?_
                exact rw_zret hx hb hr hlocks hK hP hS rfl hf d_M_place_53
set_option maxHeartbeats 4000000 in
set_option maxRecDepth 100000 in
theorem c_M_place (l : Launch) (dC : Nat → ClassId) (dI : Nat → Nat → Nat) (aC : Nat → ClassId) (b : Nat) (mu : fm_T) (en : Int32) (px : Int32) (py : Int32) (dr : Int32)  : Met l y_M_place w_M_place { frames := 1, cells := 0, slots := 0, locals := 21 } (va_Pc [.ref (b + 0), .int en, .int px, .int py, .int dr] (fm_C (dC, dI) clsx (tysx aC) (LM aC b) b 11 (XM) mu)) (va_Qi (fun r u => r = (f_M_place mu en px py dr).1 ∧ u = (f_M_place mu en px py dr).2) (fm_B (dC, dI) clsx (tysx aC) (LM aC b) b 11) (fm_A b 11)) 0 0 (fm_A b 11) := by
  refine Met.ofW (cc := b_M_place) (maxL := 5) (ret := (some .boolean)) (by decide) rfl ?_
  intro p e s m args below meth cd s₁ B hml hv
  obtain ⟨rfl, hP, hK, hX⟩ := hv
  have hl := lv_entry ([.ref (b + 0), .int en, .int px, .int py, .int dr]) (n := 5) (Nat.le_of_ble_eq_true rfl)
  rw [lg_entry_eq]
  generalize (lg_sl ([.ref (b + 0), .int en, .int px, .int py, .int dr]) ++ List.replicate (5 - (lg_sl ([.ref (b + 0), .int en, .int px, .int py, .int dr])).length) Slot.unset).toArray = ls at hl ⊢
  exact k_M_place l dC dI aC b ⟨B.exec, B.bytes, B.returns, hml, findClass_of_methodNamed B.named, atoms_spec (ws := w_M_place) B.pre, B.notSynchronized, hK, hX⟩ mu en px py dr _ _ ls _ hP va_S.rf hl rfl
def f_M_seen (mu : fm_T) (cli : Int32) : Int32 := mu 4 (((3 * (mu 9 cli.toNatClampNeg)) + cli).toNatClampNeg)
theorem e_M_seen (mu : fm_T) (cli : Int32) : f_M_seen mu cli = mu 4 (((3 * (mu 9 cli.toNatClampNeg)) + cli).toNatClampNeg) := rfl
set_option maxHeartbeats 4000000 in
set_option maxRecDepth 100000 in
theorem k_M_seen (l : Launch) (dC : Nat → ClassId) (dI : Nat → Nat → Nat) (aC : Nat → ClassId) (b : Nat) {p : Program} {e : Env} {s : State} {m : MethodId} {args : Array Value} {below : List Frame} {meth : Method} {cd : Code} (hc : cx (dC, dI) (tysx aC) (XM) w_M_seen b_M_seen R_M 2 (some .int) p s m args meth cd) (mu : fm_T) (cli : Int32) (hcl : vp_in cli 3) (hI : SafM mu) (ls : Array Slot) (F : Int32) (hP : va_P (dC, dI) clsx (fm_w (LM aC b) b 11 mu) s.heap) (hl : lv_has ls 2 [(0, .ref (b + 0)), (1, .int cli)]) (hf : F = f_M_seen mu cli) : W p l e { frames := 0, cells := 0, slots := 0, locals := 0 } s m args below meth cd s.heap [] 0 0 (MQ below (QcRead F) args s 0 0 (fun _ => False)) (F0 m 0 ls []) := by
  obtain ⟨hx, hb, hr, hml, hown, hts, hlocks, hK, hX⟩ := hc
  have hg : ∀ w ∈ gtbl, w.before args s = true := fun w h => hts w (List.mem_cons_of_mem _ h)
  have hS : va_S (fm_A b 11) s.heap s.heap [] := va_S.rf
  have hf := hf.trans (e_M_seen mu cli)
  refine lv_aload_n hx hb d_M_seen_0 rfl (lv_at hl 0 rfl) ?_
  refine fm_get (C := R_M) (T := T_M) (n := 12) (ci := 6) hx hb hg uw_M hown hK hP (0) (by decide) (lm_M aC b _) rfl 4 (by decide) (hg _ fl_M_20) (fun _ h9 => h9) rfl d_M_seen_1 ?_
  refine lv_iconst (v := 3) hx hb d_M_seen_4 (by decide) ?_
  refine lv_aload_n hx hb d_M_seen_5 rfl (lv_at hl 0 rfl) ?_
  refine fm_get (C := R_M) (T := T_M) (n := 12) (ci := 6) hx hb hg uw_M hown hK hP (0) (by decide) (lm_M aC b _) rfl 9 (by decide) (hg _ fl_M_35) (fun _ h9 => h9) rfl d_M_seen_6 ?_
  refine lv_iload_n hx hb d_M_seen_9 rfl (lv_at hl 1 rfl) ?_
  refine fm_iald hx hb hK hP (9) (by decide) 0 (lm_newest aC b _) rfl cli.toNatClampNeg (vp_e (n := 3) hcl) (vp_l (n := 3) hcl) (by decide) d_M_seen_10 ?_
  refine lv_imul hx hb d_M_seen_11 ?_
  refine lv_iload_n hx hb d_M_seen_12 rfl (lv_at hl 1 rfl) ?_
  refine lv_iadd hx hb d_M_seen_13 ?_
  refine fm_iald hx hb hK hP (4) (by decide) 0 (lm_doneAt aC b _) rfl (((3 * (mu 9 cli.toNatClampNeg)) + cli).toNatClampNeg) (vp_e (n := 1539) (lin_in (k := 3) rfl (smf_new hI _) hcl (by decide))) (vp_l (n := 1539) (lin_in (k := 3) rfl (smf_new hI _) hcl (by decide))) (by decide) d_M_seen_14 ?_
  exact ro_iret hx hb hr hlocks hf d_M_seen_15
set_option maxHeartbeats 4000000 in
set_option maxRecDepth 100000 in
theorem c_M_seen (l : Launch) (dC : Nat → ClassId) (dI : Nat → Nat → Nat) (aC : Nat → ClassId) (b : Nat) (mu : fm_T) (cli : Int32) (hcl : vp_in cli 3) (hI : SafM mu) : Met l y_M_seen w_M_seen { frames := 0, cells := 0, slots := 0, locals := 0 } (va_Pc [.ref (b + 0), .int cli] (fm_C (dC, dI) clsx (tysx aC) (LM aC b) b 11 (XM) mu)) (QcRead (f_M_seen mu cli)) 0 0 (fun _ => False) := by
  refine Met.ofW (cc := b_M_seen) (maxL := 2) (ret := (some .int)) (by decide) rfl ?_
  intro p e s m args below meth cd s₁ B hml hv
  obtain ⟨rfl, hP, hK, hX⟩ := hv
  have hl := lv_entry ([.ref (b + 0), .int cli]) (n := 2) (Nat.le_of_ble_eq_true rfl)
  rw [lg_entry_eq]
  generalize (lg_sl ([.ref (b + 0), .int cli]) ++ List.replicate (2 - (lg_sl ([.ref (b + 0), .int cli])).length) Slot.unset).toArray = ls at hl ⊢
  exact k_M_seen l dC dI aC b ⟨B.exec, B.bytes, B.returns, hml, findClass_of_methodNamed B.named, atoms_spec (ws := w_M_seen) B.pre, B.notSynchronized, hK, hX⟩ mu cli hcl hI ls _ hP hl rfl
def f_M_input (mu : fm_T) (cli : Int32) (cmd : Int32) : Int32 × fm_T := (if (f_M_client cli) = 0 then ((-1), mu) else (if cmd < 0 then ((-1), mu) else (if 4 < cmd then ((-1), mu) else (if ((mu 7 cli.toNatClampNeg) - (f_M_seen mu cli)) = 12 then ((-1), mu) else ((fm_up (fm_up mu 7 cli.toNatClampNeg ((mu 7 cli.toNatClampNeg) + 1)) 5 (((513 * cli) + ((fm_up mu 7 cli.toNatClampNeg ((mu 7 cli.toNatClampNeg) + 1)) 7 cli.toNatClampNeg)).toNatClampNeg) cmd) 7 cli.toNatClampNeg, fm_up (fm_up mu 7 cli.toNatClampNeg ((mu 7 cli.toNatClampNeg) + 1)) 5 (((513 * cli) + ((fm_up mu 7 cli.toNatClampNeg ((mu 7 cli.toNatClampNeg) + 1)) 7 cli.toNatClampNeg)).toNatClampNeg) cmd)))))
theorem e_M_input (mu : fm_T) (cli : Int32) (cmd : Int32) : f_M_input mu cli cmd = (if (f_M_client cli) = 0 then ((-1), mu) else (if cmd < 0 then ((-1), mu) else (if 4 < cmd then ((-1), mu) else (if ((mu 7 cli.toNatClampNeg) - (f_M_seen mu cli)) = 12 then ((-1), mu) else ((fm_up (fm_up mu 7 cli.toNatClampNeg ((mu 7 cli.toNatClampNeg) + 1)) 5 (((513 * cli) + ((fm_up mu 7 cli.toNatClampNeg ((mu 7 cli.toNatClampNeg) + 1)) 7 cli.toNatClampNeg)).toNatClampNeg) cmd) 7 cli.toNatClampNeg, fm_up (fm_up mu 7 cli.toNatClampNeg ((mu 7 cli.toNatClampNeg) + 1)) 5 (((513 * cli) + ((fm_up mu 7 cli.toNatClampNeg ((mu 7 cli.toNatClampNeg) + 1)) 7 cli.toNatClampNeg)).toNatClampNeg) cmd))))) := rfl
set_option maxHeartbeats 4000000 in
set_option maxRecDepth 100000 in
theorem k_M_input (l : Launch) (dC : Nat → ClassId) (dI : Nat → Nat → Nat) (aC : Nat → ClassId) (b : Nat) {p : Program} {e : Env} {s : State} {m : MethodId} {args : Array Value} {below : List Frame} {meth : Method} {cd : Code} (hc : cx (dC, dI) (tysx aC) (XM) w_M_input b_M_input R_M 3 (some .int) p s m args meth cd) (mu : fm_T) (cli : Int32) (cmd : Int32) (hI : SafM mu) (his : ∀ j, j < 3 → vp_in (mu 7 j) 512) (H : Heap) (locs : List Loc) (ls : Array Slot) (F : Int32 × fm_T) (hP : va_P (dC, dI) clsx (fm_w (LM aC b) b 11 mu) H) (hS : va_S (fm_A b 11) s.heap H locs) (hl : lv_has ls 3 [(0, .ref (b + 0)), (1, .int cli), (2, .int cmd)]) (hf : F = f_M_input mu cli cmd) : W p l e { frames := 1, cells := 0, slots := 0, locals := 21 } s m args below meth cd H locs 0 0 (MQ below (va_Qi (fun r u => r = F.1 ∧ u = F.2) (fm_B (dC, dI) clsx (tysx aC) (LM aC b) b 11) (fm_A b 11)) args s 0 0 (fm_A b 11)) (F0 m 0 ls []) := by
  obtain ⟨hx, hb, hr, hml, hown, hts, hlocks, hK, hX⟩ := hc
  have hg : ∀ w ∈ gtbl, w.before args s = true := fun w h => hts w (List.mem_cons_of_mem _ h)
  have hf := hf.trans (e_M_input mu cli cmd)
  refine lv_iload_n hx hb d_M_input_0 rfl (lv_at hl 1 rfl) ?_
  refine ro_call (va_runS (As := [.int cli]) (rest := []) ⟨hx, hb, hml, hown, hts⟩ (c_M_client l dC dI aC b mu cli) (cw_S (fun w h => List.mem_cons_of_mem _ h) hts ks_M_client ml_M_53 ⟨Nat.le_of_ble_eq_true rfl, Nat.le_of_ble_eq_true rfl⟩ rfl rfl) (fm_preS XM_bl (XM_mv hX hS) hK hP) rfl rfl hl.1 rfl (lv_room (Nat.le_of_ble_eq_true rfl)) d_M_input_1 ⟨Nat.zero_le _, Nat.zero_le _⟩) ?_
  refine lv_if_eq (tgt := 33) hx hb d_M_input_4 rfl (fun h4 => ?_) (fun h4 => ?_)
  · have hf := hf.trans (if_pos h4)
    refine lv_iconst (v := (-1)) hx hb d_M_input_33 (by decide) ?_
    exact rw_iret hx hb hr hlocks hK hP hS hf d_M_input_34
  · have hf := hf.trans (if_neg h4)
    refine lv_iload_n hx hb d_M_input_7 rfl (lv_at hl 2 rfl) ?_
    refine lv_if_lt (tgt := 33) hx hb d_M_input_8 rfl (fun h8 => ?_) (fun h8 => ?_)
    · have hf := hf.trans (if_pos h8)
      refine lv_iconst (v := (-1)) hx hb d_M_input_33 (by decide) ?_
      exact rw_iret hx hb hr hlocks hK hP hS hf d_M_input_34
    · have hf := hf.trans (if_neg h8)
      refine lv_iload_n hx hb d_M_input_11 rfl (lv_at hl 2 rfl) ?_
      refine lv_iconst (v := 4) hx hb d_M_input_12 (by decide) ?_
      refine lv_icmp_gt (tgt := 33) hx hb d_M_input_13 rfl (fun h13 => ?_) (fun h13 => ?_)
      · have hf := hf.trans (if_pos h13)
        refine lv_iconst (v := (-1)) hx hb d_M_input_33 (by decide) ?_
        exact rw_iret hx hb hr hlocks hK hP hS hf d_M_input_34
      · have hf := hf.trans (if_neg h13)
        refine lv_aload_n hx hb d_M_input_16 rfl (lv_at hl 0 rfl) ?_
        refine fm_get (C := R_M) (T := T_M) (n := 12) (ci := 6) hx hb hg uw_M hown hK hP (0) (by decide) (lm_M aC b _) rfl 7 (by decide) (hg _ fl_M_29) (fun _ h9 => h9) rfl d_M_input_17 ?_
        refine lv_iload_n hx hb d_M_input_20 rfl (lv_at hl 1 rfl) ?_
        refine fm_iald hx hb hK hP (7) (by decide) 0 (lm_issued aC b _) rfl cli.toNatClampNeg (vp_e (n := 3) (mc_in h4)) (vp_l (n := 3) (mc_in h4)) (by decide) d_M_input_21 ?_
        refine lv_aload_n hx hb d_M_input_22 rfl (lv_at hl 0 rfl) ?_
        refine lv_iload_n hx hb d_M_input_23 rfl (lv_at hl 1 rfl) ?_
        refine ro_call (va_runV (As := [.int cli]) (rest := [.int (mu 7 cli.toNatClampNeg)]) ⟨hx, hb, hml, hown, hts⟩ (c_M_seen l dC dI aC b mu cli (mc_in h4) hI) (cw_V (fun w h => List.mem_cons_of_mem _ h) hts kv_M_seen ml_M_56 ⟨Nat.le_of_ble_eq_true rfl, Nat.le_of_ble_eq_true rfl⟩ rfl rfl) (fm_preV XM_bl (XM_mv hX hS) hK hP (0) (by decide) (lm_M aC b _) rfl) rfl rfl hl.1 rfl (lv_room (Nat.le_of_ble_eq_true rfl)) d_M_input_24 ⟨Nat.zero_le _, Nat.zero_le _⟩) ?_
        refine lv_isub hx hb d_M_input_27 ?_
        refine lv_bipush (v := 12) hx hb d_M_input_28 (by decide) ?_
        refine lv_icmp_ne (tgt := 35) hx hb d_M_input_30 rfl (fun h30 => ?_) (fun h30 => ?_)
        · have hf := hf.trans (if_neg h30)
          refine lv_aload_n hx hb d_M_input_35 rfl (lv_at hl 0 rfl) ?_
          refine fm_get (C := R_M) (T := T_M) (n := 12) (ci := 6) hx hb hg uw_M hown hK hP (0) (by decide) (lm_M aC b _) rfl 7 (by decide) (hg _ fl_M_29) (fun _ h9 => h9) rfl d_M_input_36 ?_
          refine lv_iload_n hx hb d_M_input_39 rfl (lv_at hl 1 rfl) ?_
          refine lv_dup2_11 hx hb d_M_input_40 rfl rfl ?_
          refine fm_iald hx hb hK hP (7) (by decide) 0 (lm_issued aC b _) rfl cli.toNatClampNeg (vp_e (n := 3) (mc_in h4)) (vp_l (n := 3) (mc_in h4)) (by decide) d_M_input_41 ?_
          refine lv_iconst (v := 1) hx hb d_M_input_42 (by decide) ?_
          refine lv_iadd hx hb d_M_input_43 ?_
          refine fm_iast hx hb hK (fun _ h => h) hP hS (7) (by decide) 0 (lm_issued aC b _) rfl cli.toNatClampNeg (vp_e (n := 3) (mc_in h4)) (vp_l (n := 3) (mc_in h4)) (by decide) (lm_issued aC b _) d_M_input_44 (fun H locs hP hS => ?_)
          refine lv_aload_n hx hb d_M_input_45 rfl (lv_at hl 0 rfl) ?_
          refine fm_get (C := R_M) (T := T_M) (n := 12) (ci := 6) hx hb hg uw_M hown hK hP (0) (by decide) (lm_M aC b _) rfl 5 (by decide) (hg _ fl_M_23) (fun _ h9 => h9) rfl d_M_input_46 ?_
          refine lv_sipush (v := 513) hx hb d_M_input_49 (by decide) ?_
          refine lv_iload_n hx hb d_M_input_52 rfl (lv_at hl 1 rfl) ?_
          refine lv_imul hx hb d_M_input_53 ?_
          refine lv_aload_n hx hb d_M_input_54 rfl (lv_at hl 0 rfl) ?_
          refine fm_get (C := R_M) (T := T_M) (n := 12) (ci := 6) hx hb hg uw_M hown hK hP (0) (by decide) (lm_M aC b _) rfl 7 (by decide) (hg _ fl_M_29) (fun _ h9 => h9) rfl d_M_input_55 ?_
          refine lv_iload_n hx hb d_M_input_58 rfl (lv_at hl 1 rfl) ?_
          refine fm_iald hx hb hK hP (7) (by decide) 0 (lm_issued aC b _) rfl cli.toNatClampNeg (vp_e (n := 3) (mc_in h4)) (vp_l (n := 3) (mc_in h4)) (by decide) d_M_input_59 ?_
          refine lv_iadd hx hb d_M_input_60 ?_
          refine lv_iload_n hx hb d_M_input_61 rfl (lv_at hl 2 rfl) ?_
          refine fm_iast hx hb hK (fun _ h => h) hP hS (5) (by decide) 0 (lm_commands aC b _) rfl (((513 * cli) + ((fm_up mu 7 cli.toNatClampNeg ((mu 7 cli.toNatClampNeg) + 1)) 7 cli.toNatClampNeg)).toNatClampNeg) (vp_e (n := 1539) (by rw [fm_up_same]; exact inp_in (his _ (vp_l (mc_in h4))) (mc_in h4))) (vp_l (n := 1539) (by rw [fm_up_same]; exact inp_in (his _ (vp_l (mc_in h4))) (mc_in h4))) (by decide) (lm_commands aC b _) d_M_input_62 (fun H locs hP hS => ?_)
          refine lv_aload_n hx hb d_M_input_63 rfl (lv_at hl 0 rfl) ?_
          refine fm_get (C := R_M) (T := T_M) (n := 12) (ci := 6) hx hb hg uw_M hown hK hP (0) (by decide) (lm_M aC b _) rfl 7 (by decide) (hg _ fl_M_29) (fun _ h9 => h9) rfl d_M_input_64 ?_
          refine lv_iload_n hx hb d_M_input_67 rfl (lv_at hl 1 rfl) ?_
          refine fm_iald hx hb hK hP (7) (by decide) 0 (lm_issued aC b _) rfl cli.toNatClampNeg (vp_e (n := 3) (mc_in h4)) (vp_l (n := 3) (mc_in h4)) (by decide) d_M_input_68 ?_
          exact rw_iret hx hb hr hlocks hK hP hS hf d_M_input_69
        · have hf := hf.trans (if_pos h30)
          refine lv_iconst (v := (-1)) hx hb d_M_input_33 (by decide) ?_
          exact rw_iret hx hb hr hlocks hK hP hS hf d_M_input_34
set_option maxHeartbeats 4000000 in
set_option maxRecDepth 100000 in
theorem c_M_input (l : Launch) (dC : Nat → ClassId) (dI : Nat → Nat → Nat) (aC : Nat → ClassId) (b : Nat) (mu : fm_T) (cli : Int32) (cmd : Int32) (hI : SafM mu) (his : ∀ j, j < 3 → vp_in (mu 7 j) 512) : Met l y_M_input w_M_input { frames := 1, cells := 0, slots := 0, locals := 21 } (va_Pc [.ref (b + 0), .int cli, .int cmd] (fm_C (dC, dI) clsx (tysx aC) (LM aC b) b 11 (XM) mu)) (va_Qi (fun r u => r = (f_M_input mu cli cmd).1 ∧ u = (f_M_input mu cli cmd).2) (fm_B (dC, dI) clsx (tysx aC) (LM aC b) b 11) (fm_A b 11)) 0 0 (fm_A b 11) := by
  refine Met.ofW (cc := b_M_input) (maxL := 3) (ret := (some .int)) (by decide) rfl ?_
  intro p e s m args below meth cd s₁ B hml hv
  obtain ⟨rfl, hP, hK, hX⟩ := hv
  have hl := lv_entry ([.ref (b + 0), .int cli, .int cmd]) (n := 3) (Nat.le_of_ble_eq_true rfl)
  rw [lg_entry_eq]
  generalize (lg_sl ([.ref (b + 0), .int cli, .int cmd]) ++ List.replicate (3 - (lg_sl ([.ref (b + 0), .int cli, .int cmd])).length) Slot.unset).toArray = ls at hl ⊢
  exact k_M_input l dC dI aC b ⟨B.exec, B.bytes, B.returns, hml, findClass_of_methodNamed B.named, atoms_spec (ws := w_M_input) B.pre, B.notSynchronized, hK, hX⟩ mu cli cmd hI his _ _ ls _ hP va_S.rf hl rfl
def f_M_send (mu : fm_T) (cc : Int32) (sn : Int32) (tk : Int32) (mo : Int32) (to : Int32) : fm_T := (if (mu 0 11) = 24 then mu else fm_up (fm_up (fm_up (fm_up (fm_up (fm_up mu 10 (5 * (mu 0 11).toNatClampNeg) cc) 10 (5 * (mu 0 11).toNatClampNeg + 1) sn) 10 (5 * (mu 0 11).toNatClampNeg + 2) tk) 10 (5 * (mu 0 11).toNatClampNeg + 3) mo) 10 (5 * (mu 0 11).toNatClampNeg + 4) to) 0 11 (((fm_up (fm_up (fm_up (fm_up (fm_up mu 10 (5 * (mu 0 11).toNatClampNeg) cc) 10 (5 * (mu 0 11).toNatClampNeg + 1) sn) 10 (5 * (mu 0 11).toNatClampNeg + 2) tk) 10 (5 * (mu 0 11).toNatClampNeg + 3) mo) 10 (5 * (mu 0 11).toNatClampNeg + 4) to) 0 11) + 1))
theorem e_M_send (mu : fm_T) (cc : Int32) (sn : Int32) (tk : Int32) (mo : Int32) (to : Int32) : f_M_send mu cc sn tk mo to = (if (mu 0 11) = 24 then mu else fm_up (fm_up (fm_up (fm_up (fm_up (fm_up mu 10 (5 * (mu 0 11).toNatClampNeg) cc) 10 (5 * (mu 0 11).toNatClampNeg + 1) sn) 10 (5 * (mu 0 11).toNatClampNeg + 2) tk) 10 (5 * (mu 0 11).toNatClampNeg + 3) mo) 10 (5 * (mu 0 11).toNatClampNeg + 4) to) 0 11 (((fm_up (fm_up (fm_up (fm_up (fm_up mu 10 (5 * (mu 0 11).toNatClampNeg) cc) 10 (5 * (mu 0 11).toNatClampNeg + 1) sn) 10 (5 * (mu 0 11).toNatClampNeg + 2) tk) 10 (5 * (mu 0 11).toNatClampNeg + 3) mo) 10 (5 * (mu 0 11).toNatClampNeg + 4) to) 0 11) + 1)) := rfl
set_option maxHeartbeats 4000000 in
set_option maxRecDepth 100000 in
theorem k_M_send (l : Launch) (dC : Nat → ClassId) (dI : Nat → Nat → Nat) (aC : Nat → ClassId) (b : Nat) {p : Program} {e : Env} {s : State} {m : MethodId} {args : Array Value} {below : List Frame} {meth : Method} {cd : Code} (hc : cx (dC, dI) (tysx aC) (XM) w_M_send b_M_send R_M 7 none p s m args meth cd) (mu : fm_T) (cc : Int32) (sn : Int32) (tk : Int32) (mo : Int32) (to : Int32) (hI : SafM mu) (H : Heap) (locs : List Loc) (ls : Array Slot) (F : fm_T) (hP : va_P (dC, dI) clsx (fm_w (LM aC b) b 11 mu) H) (hS : va_S (fm_A b 11) s.heap H locs) (hl : lv_has ls 7 [(0, .ref (b + 0)), (1, .int cc), (2, .int sn), (3, .int tk), (4, .int mo), (5, .int to)]) (hf : F = f_M_send mu cc sn tk mo to) : W p l e { frames := 0, cells := 0, slots := 0, locals := 0 } s m args below meth cd H locs 0 0 (MQ below (va_Qv (fun u => u = F) (fm_B (dC, dI) clsx (tysx aC) (LM aC b) b 11) (fm_A b 11)) args s 0 0 (fm_A b 11)) (F0 m 0 ls []) := by
  obtain ⟨hx, hb, hr, hml, hown, hts, hlocks, hK, hX⟩ := hc
  have hg : ∀ w ∈ gtbl, w.before args s = true := fun w h => hts w (List.mem_cons_of_mem _ h)
  have hf := hf.trans (e_M_send mu cc sn tk mo to)
  refine lv_aload_n hx hb d_M_send_0 rfl (lv_at hl 0 rfl) ?_
  refine fm_get (C := R_M) (T := T_M) (n := 12) (ci := 6) hx hb hg uw_M hown hK hP (0) (by decide) (lm_M aC b _) rfl 11 (by decide) (hg _ fl_M_60) (fun _ h9 => h9) rfl d_M_send_1 ?_
  refine lv_bipush (v := 24) hx hb d_M_send_4 (by decide) ?_
  refine lv_icmp_ne (tgt := 10) hx hb d_M_send_6 rfl (fun h6 => ?_) (fun h6 => ?_)
  · have hf := hf.trans (if_neg h6)
    refine lv_iconst (v := 5) hx hb d_M_send_10 (by decide) ?_
    refine lv_aload_n hx hb d_M_send_11 rfl (lv_at hl 0 rfl) ?_
    refine fm_get (C := R_M) (T := T_M) (n := 12) (ci := 6) hx hb hg uw_M hown hK hP (0) (by decide) (lm_M aC b _) rfl 11 (by decide) (hg _ fl_M_60) (fun _ h9 => h9) rfl d_M_send_12 ?_
    refine lv_imul hx hb d_M_send_15 ?_
    refine lv_cv (y := nI (5 * (mu 0 11).toNatClampNeg)) (air_e hI) ?_
    refine lv_istore (lv' := [(6, .int (nI (5 * (mu 0 11).toNatClampNeg))), (0, .ref (b + 0)), (1, .int cc), (2, .int sn), (3, .int tk), (4, .int mo), (5, .int to)]) hx hb d_M_send_16 hl (by decide) rfl (fun ls hl => ?_)
    have hz : (mu 0 11).toNatClampNeg < 24 := air_lt hI h6
    refine lv_aload_n hx hb d_M_send_18 rfl (lv_at hl 1 rfl) ?_
    refine fm_get (C := R_M) (T := T_M) (n := 12) (ci := 6) hx hb hg uw_M hown hK hP (0) (by decide) (lm_M aC b _) rfl 10 (by decide) (hg _ fl_M_38) (fun _ h9 => h9) rfl d_M_send_19 ?_
    refine lv_iload hx hb d_M_send_22 (lv_at hl 0 rfl) ?_
    refine lv_iload_n hx hb d_M_send_24 rfl (lv_at hl 2 rfl) ?_
    refine fm_iast hx hb hK (fun _ h => h) hP hS (10) (by decide) 0 (lm_air aC b _) rfl (5 * (mu 0 11).toNatClampNeg) rfl (by omega) (by decide) (lm_air aC b _) d_M_send_25 (fun H locs hP hS => ?_)
    refine lv_aload_n hx hb d_M_send_26 rfl (lv_at hl 1 rfl) ?_
    refine fm_get (C := R_M) (T := T_M) (n := 12) (ci := 6) hx hb hg uw_M hown hK hP (0) (by decide) (lm_M aC b _) rfl 10 (by decide) (hg _ fl_M_38) (fun _ h9 => h9) rfl d_M_send_27 ?_
    refine lv_iload hx hb d_M_send_30 (lv_at hl 0 rfl) ?_
    refine lv_iconst (v := 1) hx hb d_M_send_32 (by decide) ?_
    refine lv_iadd hx hb d_M_send_33 ?_
    refine lv_cv (y := nI (5 * (mu 0 11).toNatClampNeg + 1)) (nI_add _ 1) ?_
    refine lv_iload_n hx hb d_M_send_34 rfl (lv_at hl 3 rfl) ?_
    refine fm_iast hx hb hK (fun _ h => h) hP hS (10) (by decide) 0 (lm_air aC b _) rfl (5 * (mu 0 11).toNatClampNeg + 1) rfl (by omega) (by decide) (lm_air aC b _) d_M_send_35 (fun H locs hP hS => ?_)
    refine lv_aload_n hx hb d_M_send_36 rfl (lv_at hl 1 rfl) ?_
    refine fm_get (C := R_M) (T := T_M) (n := 12) (ci := 6) hx hb hg uw_M hown hK hP (0) (by decide) (lm_M aC b _) rfl 10 (by decide) (hg _ fl_M_38) (fun _ h9 => h9) rfl d_M_send_37 ?_
    refine lv_iload hx hb d_M_send_40 (lv_at hl 0 rfl) ?_
    refine lv_iconst (v := 2) hx hb d_M_send_42 (by decide) ?_
    refine lv_iadd hx hb d_M_send_43 ?_
    refine lv_cv (y := nI (5 * (mu 0 11).toNatClampNeg + 2)) (nI_add _ 2) ?_
    refine lv_iload_n hx hb d_M_send_44 rfl (lv_at hl 4 rfl) ?_
    refine fm_iast hx hb hK (fun _ h => h) hP hS (10) (by decide) 0 (lm_air aC b _) rfl (5 * (mu 0 11).toNatClampNeg + 2) rfl (by omega) (by decide) (lm_air aC b _) d_M_send_45 (fun H locs hP hS => ?_)
    refine lv_aload_n hx hb d_M_send_46 rfl (lv_at hl 1 rfl) ?_
    refine fm_get (C := R_M) (T := T_M) (n := 12) (ci := 6) hx hb hg uw_M hown hK hP (0) (by decide) (lm_M aC b _) rfl 10 (by decide) (hg _ fl_M_38) (fun _ h9 => h9) rfl d_M_send_47 ?_
    refine lv_iload hx hb d_M_send_50 (lv_at hl 0 rfl) ?_
    refine lv_iconst (v := 3) hx hb d_M_send_52 (by decide) ?_
    refine lv_iadd hx hb d_M_send_53 ?_
    refine lv_cv (y := nI (5 * (mu 0 11).toNatClampNeg + 3)) (nI_add _ 3) ?_
    refine lv_iload hx hb d_M_send_54 (lv_at hl 5 rfl) ?_
    refine fm_iast hx hb hK (fun _ h => h) hP hS (10) (by decide) 0 (lm_air aC b _) rfl (5 * (mu 0 11).toNatClampNeg + 3) rfl (by omega) (by decide) (lm_air aC b _) d_M_send_56 (fun H locs hP hS => ?_)
    refine lv_aload_n hx hb d_M_send_57 rfl (lv_at hl 1 rfl) ?_
    refine fm_get (C := R_M) (T := T_M) (n := 12) (ci := 6) hx hb hg uw_M hown hK hP (0) (by decide) (lm_M aC b _) rfl 10 (by decide) (hg _ fl_M_38) (fun _ h9 => h9) rfl d_M_send_58 ?_
    refine lv_iload hx hb d_M_send_61 (lv_at hl 0 rfl) ?_
    refine lv_iconst (v := 4) hx hb d_M_send_63 (by decide) ?_
    refine lv_iadd hx hb d_M_send_64 ?_
    refine lv_cv (y := nI (5 * (mu 0 11).toNatClampNeg + 4)) (nI_add _ 4) ?_
    refine lv_iload hx hb d_M_send_65 (lv_at hl 6 rfl) ?_
    refine fm_iast hx hb hK (fun _ h => h) hP hS (10) (by decide) 0 (lm_air aC b _) rfl (5 * (mu 0 11).toNatClampNeg + 4) rfl (by omega) (by decide) (lm_air aC b _) d_M_send_67 (fun H locs hP hS => ?_)
    refine lv_aload_n hx hb d_M_send_68 rfl (lv_at hl 1 rfl) ?_
    refine lv_dup hx hb d_M_send_69 rfl ?_
    refine fm_get (C := R_M) (T := T_M) (n := 12) (ci := 6) hx hb hg uw_M hown hK hP (0) (by decide) (lm_M aC b _) rfl 11 (by decide) (hg _ fl_M_60) (fun _ h9 => h9) rfl d_M_send_70 ?_
    refine lv_iconst (v := 1) hx hb d_M_send_73 (by decide) ?_
    refine lv_iadd hx hb d_M_send_74 ?_
    refine fm_put (v := .int (((fm_up (fm_up (fm_up (fm_up (fm_up mu 10 (5 * (mu 0 11).toNatClampNeg) cc) 10 (5 * (mu 0 11).toNatClampNeg + 1) sn) 10 (5 * (mu 0 11).toNatClampNeg + 2) tk) 10 (5 * (mu 0 11).toNatClampNeg + 3) mo) 10 (5 * (mu 0 11).toNatClampNeg + 4) to) 0 11) + 1)) (x := (((fm_up (fm_up (fm_up (fm_up (fm_up mu 10 (5 * (mu 0 11).toNatClampNeg) cc) 10 (5 * (mu 0 11).toNatClampNeg + 1) sn) 10 (5 * (mu 0 11).toNatClampNeg + 2) tk) 10 (5 * (mu 0 11).toNatClampNeg + 3) mo) 10 (5 * (mu 0 11).toNatClampNeg + 4) to) 0 11) + 1)) (ty := .int) (C := R_M) (T := T_M) (n := 12) (ci := 6) hx hb hg uw_M ty_M tk_M nm_M hown hK (fun _ h => h) hP hS (0) (by decide) (lm_M aC b _) rfl 11 (by decide) (hg _ fl_M_60) (fun _ h9 => h9) rfl (by decide +kernel) rfl rfl (Nat.le_of_ble_eq_true rfl) (lm_M aC b _) d_M_send_75 (fun H locs hP hS => ?_)
    exact rw_vret hx hb hr hlocks hK hP hS hf d_M_send_78
  · have hf := hf.trans (if_pos h6)
    exact rw_vret hx hb hr hlocks hK hP hS hf d_M_send_9
set_option maxHeartbeats 4000000 in
set_option maxRecDepth 100000 in
theorem c_M_send (l : Launch) (dC : Nat → ClassId) (dI : Nat → Nat → Nat) (aC : Nat → ClassId) (b : Nat) (mu : fm_T) (cc : Int32) (sn : Int32) (tk : Int32) (mo : Int32) (to : Int32) (hI : SafM mu) : Met l y_M_send w_M_send { frames := 0, cells := 0, slots := 0, locals := 0 } (va_Pc [.ref (b + 0), .int cc, .int sn, .int tk, .int mo, .int to] (fm_C (dC, dI) clsx (tysx aC) (LM aC b) b 11 (XM) mu)) (va_Qv (fun u => u = (f_M_send mu cc sn tk mo to)) (fm_B (dC, dI) clsx (tysx aC) (LM aC b) b 11) (fm_A b 11)) 0 0 (fm_A b 11) := by
  refine Met.ofW (cc := b_M_send) (maxL := 7) (ret := none) (by decide) rfl ?_
  intro p e s m args below meth cd s₁ B hml hv
  obtain ⟨rfl, hP, hK, hX⟩ := hv
  have hl := lv_entry ([.ref (b + 0), .int cc, .int sn, .int tk, .int mo, .int to]) (n := 7) (Nat.le_of_ble_eq_true rfl)
  rw [lg_entry_eq]
  generalize (lg_sl ([.ref (b + 0), .int cc, .int sn, .int tk, .int mo, .int to]) ++ List.replicate (7 - (lg_sl ([.ref (b + 0), .int cc, .int sn, .int tk, .int mo, .int to])).length) Slot.unset).toArray = ls at hl ⊢
  exact k_M_send l dC dI aC b ⟨B.exec, B.bytes, B.returns, hml, findClass_of_methodNamed B.named, atoms_spec (ws := w_M_send) B.pre, B.notSynchronized, hK, hX⟩ mu cc sn tk mo to hI _ _ ls _ hP va_S.rf hl rfl
def f_M_report (mu : fm_T) (cli : Int32) : Int32 × fm_T := (if (f_M_client cli) = 0 then (0, mu) else (if ((mu 7 cli.toNatClampNeg) - (f_M_seen mu cli)) ≤ 4 then (1, (f_M_send mu cli 0 (mu 9 cli.toNatClampNeg) ((mu 7 cli.toNatClampNeg) - (f_M_seen mu cli)) (f_M_seen mu cli))) else (1, (f_M_send mu cli 0 (mu 9 cli.toNatClampNeg) 4 (f_M_seen mu cli)))))
theorem e_M_report (mu : fm_T) (cli : Int32) : f_M_report mu cli = (if (f_M_client cli) = 0 then (0, mu) else (if ((mu 7 cli.toNatClampNeg) - (f_M_seen mu cli)) ≤ 4 then (1, (f_M_send mu cli 0 (mu 9 cli.toNatClampNeg) ((mu 7 cli.toNatClampNeg) - (f_M_seen mu cli)) (f_M_seen mu cli))) else (1, (f_M_send mu cli 0 (mu 9 cli.toNatClampNeg) 4 (f_M_seen mu cli))))) := rfl
set_option maxHeartbeats 4000000 in
set_option maxRecDepth 100000 in
theorem k_M_report (l : Launch) (dC : Nat → ClassId) (dI : Nat → Nat → Nat) (aC : Nat → ClassId) (b : Nat) {p : Program} {e : Env} {s : State} {m : MethodId} {args : Array Value} {below : List Frame} {meth : Method} {cd : Code} (hc : cx (dC, dI) (tysx aC) (XM) w_M_report b_M_report R_M 4 (some .boolean) p s m args meth cd) (mu : fm_T) (cli : Int32) (hI : SafM mu) (H : Heap) (locs : List Loc) (ls : Array Slot) (F : Int32 × fm_T) (hP : va_P (dC, dI) clsx (fm_w (LM aC b) b 11 mu) H) (hS : va_S (fm_A b 11) s.heap H locs) (hl : lv_has ls 4 [(0, .ref (b + 0)), (1, .int cli)]) (hf : F = f_M_report mu cli) : W p l e { frames := 1, cells := 0, slots := 0, locals := 26 } s m args below meth cd H locs 0 0 (MQ below (va_Qi (fun r u => r = F.1 ∧ u = F.2) (fm_B (dC, dI) clsx (tysx aC) (LM aC b) b 11) (fm_A b 11)) args s 0 0 (fm_A b 11)) (F0 m 0 ls []) := by
  obtain ⟨hx, hb, hr, hml, hown, hts, hlocks, hK, hX⟩ := hc
  have hg : ∀ w ∈ gtbl, w.before args s = true := fun w h => hts w (List.mem_cons_of_mem _ h)
  have hf := hf.trans (e_M_report mu cli)
  refine lv_iload_n hx hb d_M_report_0 rfl (lv_at hl 1 rfl) ?_
  refine ro_call (va_runS (As := [.int cli]) (rest := []) ⟨hx, hb, hml, hown, hts⟩ (c_M_client l dC dI aC b mu cli) (cw_S (fun w h => List.mem_cons_of_mem _ h) hts ks_M_client ml_M_53 ⟨Nat.le_of_ble_eq_true rfl, Nat.le_of_ble_eq_true rfl⟩ rfl rfl) (fm_preS XM_bl (XM_mv hX hS) hK hP) rfl rfl hl.1 rfl (lv_room (Nat.le_of_ble_eq_true rfl)) d_M_report_1 ⟨Nat.zero_le _, Nat.zero_le _⟩) ?_
  refine lv_if_ne (tgt := 9) hx hb d_M_report_4 rfl (fun h4 => ?_) (fun h4 => ?_)
  · have hf := hf.trans (if_neg h4)
    refine lv_aload_n hx hb d_M_report_9 rfl (lv_at hl 0 rfl) ?_
    refine lv_iload_n hx hb d_M_report_10 rfl (lv_at hl 1 rfl) ?_
    refine ro_call (va_runV (As := [.int cli]) (rest := []) ⟨hx, hb, hml, hown, hts⟩ (c_M_seen l dC dI aC b mu cli (mc_in h4) hI) (cw_V (fun w h => List.mem_cons_of_mem _ h) hts kv_M_seen ml_M_56 ⟨Nat.le_of_ble_eq_true rfl, Nat.le_of_ble_eq_true rfl⟩ rfl rfl) (fm_preV XM_bl (XM_mv hX hS) hK hP (0) (by decide) (lm_M aC b _) rfl) rfl rfl hl.1 rfl (lv_room (Nat.le_of_ble_eq_true rfl)) d_M_report_11 ⟨Nat.zero_le _, Nat.zero_le _⟩) ?_
    refine lv_istore_n (lv' := [(2, .int (f_M_seen mu cli)), (0, .ref (b + 0)), (1, .int cli)]) hx hb d_M_report_14 rfl hl (by decide) rfl (fun ls hl => ?_)
    refine lv_aload_n hx hb d_M_report_15 rfl (lv_at hl 1 rfl) ?_
    refine fm_get (C := R_M) (T := T_M) (n := 12) (ci := 6) hx hb hg uw_M hown hK hP (0) (by decide) (lm_M aC b _) rfl 7 (by decide) (hg _ fl_M_29) (fun _ h9 => h9) rfl d_M_report_16 ?_
    refine lv_iload_n hx hb d_M_report_19 rfl (lv_at hl 2 rfl) ?_
    refine fm_iald hx hb hK hP (7) (by decide) 0 (lm_issued aC b _) rfl cli.toNatClampNeg (vp_e (n := 3) (mc_in h4)) (vp_l (n := 3) (mc_in h4)) (by decide) d_M_report_20 ?_
    refine lv_iload_n hx hb d_M_report_21 rfl (lv_at hl 0 rfl) ?_
    refine lv_isub hx hb d_M_report_22 ?_
    refine lv_iconst (v := 4) hx hb d_M_report_23 (by decide) ?_
    refine lv_icmp_le (tgt := 31) hx hb d_M_report_24 rfl (fun h24 => ?_) (fun h24 => ?_)
    · have hf := hf.trans (if_pos h24)
      refine lv_aload_n hx hb d_M_report_31 rfl (lv_at hl 1 rfl) ?_
      refine fm_get (C := R_M) (T := T_M) (n := 12) (ci := 6) hx hb hg uw_M hown hK hP (0) (by decide) (lm_M aC b _) rfl 7 (by decide) (hg _ fl_M_29) (fun _ h9 => h9) rfl d_M_report_32 ?_
      refine lv_iload_n hx hb d_M_report_35 rfl (lv_at hl 2 rfl) ?_
      refine fm_iald hx hb hK hP (7) (by decide) 0 (lm_issued aC b _) rfl cli.toNatClampNeg (vp_e (n := 3) (mc_in h4)) (vp_l (n := 3) (mc_in h4)) (by decide) d_M_report_36 ?_
      refine lv_iload_n hx hb d_M_report_37 rfl (lv_at hl 0 rfl) ?_
      refine lv_isub hx hb d_M_report_38 ?_
      refine lv_istore_n (lv' := [(3, .int ((mu 7 cli.toNatClampNeg) - (f_M_seen mu cli))), (2, .int (f_M_seen mu cli)), (0, .ref (b + 0)), (1, .int cli)]) hx hb d_M_report_39 rfl hl (by decide) rfl (fun ls hl => ?_)
      refine lv_aload_n hx hb d_M_report_40 rfl (lv_at hl 2 rfl) ?_
      refine lv_iload_n hx hb d_M_report_41 rfl (lv_at hl 3 rfl) ?_
      refine lv_iconst (v := 0) hx hb d_M_report_42 (by decide) ?_
      refine lv_aload_n hx hb d_M_report_43 rfl (lv_at hl 2 rfl) ?_
      refine fm_get (C := R_M) (T := T_M) (n := 12) (ci := 6) hx hb hg uw_M hown hK hP (0) (by decide) (lm_M aC b _) rfl 9 (by decide) (hg _ fl_M_35) (fun _ h9 => h9) rfl d_M_report_44 ?_
      refine lv_iload_n hx hb d_M_report_47 rfl (lv_at hl 3 rfl) ?_
      refine fm_iald hx hb hK hP (9) (by decide) 0 (lm_newest aC b _) rfl cli.toNatClampNeg (vp_e (n := 3) (mc_in h4)) (vp_l (n := 3) (mc_in h4)) (by decide) d_M_report_48 ?_
      refine lv_iload_n hx hb d_M_report_49 rfl (lv_at hl 0 rfl) ?_
      refine lv_iload_n hx hb d_M_report_50 rfl (lv_at hl 1 rfl) ?_
      refine fm_callv (va_runV (As := [.int cli, .int 0, .int (mu 9 cli.toNatClampNeg), .int ((mu 7 cli.toNatClampNeg) - (f_M_seen mu cli)), .int (f_M_seen mu cli)]) (rest := []) ⟨hx, hb, hml, hown, hts⟩ (c_M_send l dC dI aC b mu cli 0 (mu 9 cli.toNatClampNeg) ((mu 7 cli.toNatClampNeg) - (f_M_seen mu cli)) (f_M_seen mu cli) hI) (cw_V (fun w h => List.mem_cons_of_mem _ h) hts kv_M_send ml_M_63 ⟨Nat.le_of_ble_eq_true rfl, Nat.le_of_ble_eq_true rfl⟩ rfl rfl) (fm_preV XM_bl (XM_mv hX hS) hK hP (0) (by decide) (lm_M aC b _) rfl) rfl rfl hl.1 rfl (lv_room (Nat.le_of_ble_eq_true rfl)) d_M_report_51 ⟨Nat.zero_le _, Nat.zero_le _⟩) hS (fun _ h => h) (fun u H locs hp hP hS => ?_)
      subst hp
      refine lv_iconst (v := 1) hx hb d_M_report_54 (by decide) ?_
      exact rw_zret hx hb hr hlocks hK hP hS rfl hf d_M_report_55
    · have hf := hf.trans (if_neg h24)
      refine lv_iconst (v := 4) hx hb d_M_report_27 (by decide) ?_
      refine lv_goto (tgt := 39) hx hb d_M_report_28 rfl ?_
      refine lv_istore_n (lv' := [(3, .int 4), (2, .int (f_M_seen mu cli)), (0, .ref (b + 0)), (1, .int cli)]) hx hb d_M_report_39 rfl hl (by decide) rfl (fun ls hl => ?_)
      refine lv_aload_n hx hb d_M_report_40 rfl (lv_at hl 2 rfl) ?_
      refine lv_iload_n hx hb d_M_report_41 rfl (lv_at hl 3 rfl) ?_
      refine lv_iconst (v := 0) hx hb d_M_report_42 (by decide) ?_
      refine lv_aload_n hx hb d_M_report_43 rfl (lv_at hl 2 rfl) ?_
      refine fm_get (C := R_M) (T := T_M) (n := 12) (ci := 6) hx hb hg uw_M hown hK hP (0) (by decide) (lm_M aC b _) rfl 9 (by decide) (hg _ fl_M_35) (fun _ h9 => h9) rfl d_M_report_44 ?_
      refine lv_iload_n hx hb d_M_report_47 rfl (lv_at hl 3 rfl) ?_
      refine fm_iald hx hb hK hP (9) (by decide) 0 (lm_newest aC b _) rfl cli.toNatClampNeg (vp_e (n := 3) (mc_in h4)) (vp_l (n := 3) (mc_in h4)) (by decide) d_M_report_48 ?_
      refine lv_iload_n hx hb d_M_report_49 rfl (lv_at hl 0 rfl) ?_
      refine lv_iload_n hx hb d_M_report_50 rfl (lv_at hl 1 rfl) ?_
      refine fm_callv (va_runV (As := [.int cli, .int 0, .int (mu 9 cli.toNatClampNeg), .int 4, .int (f_M_seen mu cli)]) (rest := []) ⟨hx, hb, hml, hown, hts⟩ (c_M_send l dC dI aC b mu cli 0 (mu 9 cli.toNatClampNeg) 4 (f_M_seen mu cli) hI) (cw_V (fun w h => List.mem_cons_of_mem _ h) hts kv_M_send ml_M_63 ⟨Nat.le_of_ble_eq_true rfl, Nat.le_of_ble_eq_true rfl⟩ rfl rfl) (fm_preV XM_bl (XM_mv hX hS) hK hP (0) (by decide) (lm_M aC b _) rfl) rfl rfl hl.1 rfl (lv_room (Nat.le_of_ble_eq_true rfl)) d_M_report_51 ⟨Nat.zero_le _, Nat.zero_le _⟩) hS (fun _ h => h) (fun u H locs hp hP hS => ?_)
      subst hp
      refine lv_iconst (v := 1) hx hb d_M_report_54 (by decide) ?_
      exact rw_zret hx hb hr hlocks hK hP hS rfl hf d_M_report_55
  · have hf := hf.trans (if_pos h4)
    refine lv_iconst (v := 0) hx hb d_M_report_7 (by decide) ?_
    exact rw_zret hx hb hr hlocks hK hP hS rfl hf d_M_report_8
set_option maxHeartbeats 4000000 in
set_option maxRecDepth 100000 in
theorem c_M_report (l : Launch) (dC : Nat → ClassId) (dI : Nat → Nat → Nat) (aC : Nat → ClassId) (b : Nat) (mu : fm_T) (cli : Int32) (hI : SafM mu) : Met l y_M_report w_M_report { frames := 1, cells := 0, slots := 0, locals := 26 } (va_Pc [.ref (b + 0), .int cli] (fm_C (dC, dI) clsx (tysx aC) (LM aC b) b 11 (XM) mu)) (va_Qi (fun r u => r = (f_M_report mu cli).1 ∧ u = (f_M_report mu cli).2) (fm_B (dC, dI) clsx (tysx aC) (LM aC b) b 11) (fm_A b 11)) 0 0 (fm_A b 11) := by
  refine Met.ofW (cc := b_M_report) (maxL := 4) (ret := (some .boolean)) (by decide) rfl ?_
  intro p e s m args below meth cd s₁ B hml hv
  obtain ⟨rfl, hP, hK, hX⟩ := hv
  have hl := lv_entry ([.ref (b + 0), .int cli]) (n := 4) (Nat.le_of_ble_eq_true rfl)
  rw [lg_entry_eq]
  generalize (lg_sl ([.ref (b + 0), .int cli]) ++ List.replicate (4 - (lg_sl ([.ref (b + 0), .int cli])).length) Slot.unset).toArray = ls at hl ⊢
  exact k_M_report l dC dI aC b ⟨B.exec, B.bytes, B.returns, hml, findClass_of_methodNamed B.named, atoms_spec (ws := w_M_report) B.pre, B.notSynchronized, hK, hX⟩ mu cli hI _ _ ls _ hP va_S.rf hl rfl
def f_M_sees (mu : fm_T) (cc : Int32) (en : Int32) (tk : Int32) : Int32 := (if 1 < (f_M_apart (((mu 3 (((8 * tk) + cc).toNatClampNeg)) - (mu 3 (((8 * tk) + cc).toNatClampNeg)) / 16 * 16) / 4) (((mu 3 (((8 * tk) + en).toNatClampNeg)) - (mu 3 (((8 * tk) + en).toNatClampNeg)) / 16 * 16) / 4)) then 0 else (if 1 < (f_M_apart ((mu 3 (((8 * tk) + cc).toNatClampNeg)) / 64) ((mu 3 (((8 * tk) + en).toNatClampNeg)) / 64)) then 0 else 1))
theorem e_M_sees (mu : fm_T) (cc : Int32) (en : Int32) (tk : Int32) : f_M_sees mu cc en tk = (if 1 < (f_M_apart (((mu 3 (((8 * tk) + cc).toNatClampNeg)) - (mu 3 (((8 * tk) + cc).toNatClampNeg)) / 16 * 16) / 4) (((mu 3 (((8 * tk) + en).toNatClampNeg)) - (mu 3 (((8 * tk) + en).toNatClampNeg)) / 16 * 16) / 4)) then 0 else (if 1 < (f_M_apart ((mu 3 (((8 * tk) + cc).toNatClampNeg)) / 64) ((mu 3 (((8 * tk) + en).toNatClampNeg)) / 64)) then 0 else 1)) := rfl
set_option maxHeartbeats 4000000 in
set_option maxRecDepth 100000 in
theorem k_M_sees (l : Launch) (dC : Nat → ClassId) (dI : Nat → Nat → Nat) (aC : Nat → ClassId) (b : Nat) {p : Program} {e : Env} {s : State} {m : MethodId} {args : Array Value} {below : List Frame} {meth : Method} {cd : Code} (hc : cx (dC, dI) (tysx aC) (XM) w_M_sees b_M_sees R_M 6 (some .boolean) p s m args meth cd) (mu : fm_T) (cc : Int32) (en : Int32) (tk : Int32) (hcc : vp_in cc 8) (hen : vp_in en 8) (htk : vp_in tk 513) (ls : Array Slot) (F : Int32) (hP : va_P (dC, dI) clsx (fm_w (LM aC b) b 11 mu) s.heap) (hl : lv_has ls 6 [(0, .ref (b + 0)), (1, .int cc), (2, .int en), (3, .int tk)]) (hf : F = f_M_sees mu cc en tk) : W p l e { frames := 1, cells := 0, slots := 0, locals := 21 } s m args below meth cd s.heap [] 0 0 (MQ below (QcRead F) args s 0 0 (fun _ => False)) (F0 m 0 ls []) := by
  obtain ⟨hx, hb, hr, hml, hown, hts, hlocks, hK, hX⟩ := hc
  have hg : ∀ w ∈ gtbl, w.before args s = true := fun w h => hts w (List.mem_cons_of_mem _ h)
  have hS : va_S (fm_A b 11) s.heap s.heap [] := va_S.rf
  have hf := hf.trans (e_M_sees mu cc en tk)
  refine lv_aload_n hx hb d_M_sees_0 rfl (lv_at hl 0 rfl) ?_
  refine fm_get (C := R_M) (T := T_M) (n := 12) (ci := 6) hx hb hg uw_M hown hK hP (0) (by decide) (lm_M aC b _) rfl 3 (by decide) (hg _ fl_M_17) (fun _ h9 => h9) rfl d_M_sees_1 ?_
  refine lv_bipush (v := 8) hx hb d_M_sees_4 (by decide) ?_
  refine lv_iload_n hx hb d_M_sees_6 rfl (lv_at hl 3 rfl) ?_
  refine lv_imul hx hb d_M_sees_7 ?_
  refine lv_iload_n hx hb d_M_sees_8 rfl (lv_at hl 1 rfl) ?_
  refine lv_iadd hx hb d_M_sees_9 ?_
  refine fm_iald hx hb hK hP (3) (by decide) 0 (lm_stood aC b _) rfl (((8 * tk) + cc).toNatClampNeg) (vp_e (n := 4104) (lin_in (k := 8) rfl htk hcc (by decide))) (vp_l (n := 4104) (lin_in (k := 8) rfl htk hcc (by decide))) (by decide) d_M_sees_10 ?_
  refine lv_istore (lv' := [(4, .int (mu 3 (((8 * tk) + cc).toNatClampNeg))), (0, .ref (b + 0)), (1, .int cc), (2, .int en), (3, .int tk)]) hx hb d_M_sees_11 hl (by decide) rfl (fun ls hl => ?_)
  refine lv_aload_n hx hb d_M_sees_13 rfl (lv_at hl 1 rfl) ?_
  refine fm_get (C := R_M) (T := T_M) (n := 12) (ci := 6) hx hb hg uw_M hown hK hP (0) (by decide) (lm_M aC b _) rfl 3 (by decide) (hg _ fl_M_17) (fun _ h9 => h9) rfl d_M_sees_14 ?_
  refine lv_bipush (v := 8) hx hb d_M_sees_17 (by decide) ?_
  refine lv_iload_n hx hb d_M_sees_19 rfl (lv_at hl 4 rfl) ?_
  refine lv_imul hx hb d_M_sees_20 ?_
  refine lv_iload_n hx hb d_M_sees_21 rfl (lv_at hl 3 rfl) ?_
  refine lv_iadd hx hb d_M_sees_22 ?_
  refine fm_iald hx hb hK hP (3) (by decide) 0 (lm_stood aC b _) rfl (((8 * tk) + en).toNatClampNeg) (vp_e (n := 4104) (lin_in (k := 8) rfl htk hen (by decide))) (vp_l (n := 4104) (lin_in (k := 8) rfl htk hen (by decide))) (by decide) d_M_sees_23 ?_
  refine lv_istore (lv' := [(5, .int (mu 3 (((8 * tk) + en).toNatClampNeg))), (4, .int (mu 3 (((8 * tk) + cc).toNatClampNeg))), (0, .ref (b + 0)), (1, .int cc), (2, .int en), (3, .int tk)]) hx hb d_M_sees_24 hl (by decide) rfl (fun ls hl => ?_)
  refine lv_iload hx hb d_M_sees_26 (lv_at hl 1 rfl) ?_
  refine lv_bipush (v := 16) hx hb d_M_sees_28 (by decide) ?_
  refine lv_irem hx hb d_M_sees_30 (by decide) ?_
  refine lv_iconst (v := 4) hx hb d_M_sees_31 (by decide) ?_
  refine lv_idiv hx hb d_M_sees_32 (by decide) ?_
  refine lv_iload hx hb d_M_sees_33 (lv_at hl 0 rfl) ?_
  refine lv_bipush (v := 16) hx hb d_M_sees_35 (by decide) ?_
  refine lv_irem hx hb d_M_sees_37 (by decide) ?_
  refine lv_iconst (v := 4) hx hb d_M_sees_38 (by decide) ?_
  refine lv_idiv hx hb d_M_sees_39 (by decide) ?_
  refine ro_call (va_runS (As := [.int (((mu 3 (((8 * tk) + cc).toNatClampNeg)) - (mu 3 (((8 * tk) + cc).toNatClampNeg)) / 16 * 16) / 4), .int (((mu 3 (((8 * tk) + en).toNatClampNeg)) - (mu 3 (((8 * tk) + en).toNatClampNeg)) / 16 * 16) / 4)]) (rest := []) ⟨hx, hb, hml, hown, hts⟩ (c_M_apart l dC dI aC b mu (((mu 3 (((8 * tk) + cc).toNatClampNeg)) - (mu 3 (((8 * tk) + cc).toNatClampNeg)) / 16 * 16) / 4) (((mu 3 (((8 * tk) + en).toNatClampNeg)) - (mu 3 (((8 * tk) + en).toNatClampNeg)) / 16 * 16) / 4)) (cw_S (fun w h => List.mem_cons_of_mem _ h) hts ks_M_apart ml_M_71 ⟨Nat.le_of_ble_eq_true rfl, Nat.le_of_ble_eq_true rfl⟩ rfl rfl) (fm_preS XM_bl (XM_mv hX hS) hK hP) rfl rfl hl.1 rfl (lv_room (Nat.le_of_ble_eq_true rfl)) d_M_sees_40 ⟨Nat.zero_le _, Nat.zero_le _⟩) ?_
  refine lv_iconst (v := 1) hx hb d_M_sees_43 (by decide) ?_
  refine lv_icmp_gt (tgt := 68) hx hb d_M_sees_44 rfl (fun h44 => ?_) (fun h44 => ?_)
  · have hf := hf.trans (if_pos h44)
    refine lv_iconst (v := 0) hx hb d_M_sees_68 (by decide) ?_
    exact ro_zret hx hb hr hlocks rfl hf d_M_sees_69
  · have hf := hf.trans (if_neg h44)
    refine lv_iload hx hb d_M_sees_47 (lv_at hl 1 rfl) ?_
    refine lv_bipush (v := 64) hx hb d_M_sees_49 (by decide) ?_
    refine lv_idiv hx hb d_M_sees_51 (by decide) ?_
    refine lv_iload hx hb d_M_sees_52 (lv_at hl 0 rfl) ?_
    refine lv_bipush (v := 64) hx hb d_M_sees_54 (by decide) ?_
    refine lv_idiv hx hb d_M_sees_56 (by decide) ?_
    refine ro_call (va_runS (As := [.int ((mu 3 (((8 * tk) + cc).toNatClampNeg)) / 64), .int ((mu 3 (((8 * tk) + en).toNatClampNeg)) / 64)]) (rest := []) ⟨hx, hb, hml, hown, hts⟩ (c_M_apart l dC dI aC b mu ((mu 3 (((8 * tk) + cc).toNatClampNeg)) / 64) ((mu 3 (((8 * tk) + en).toNatClampNeg)) / 64)) (cw_S (fun w h => List.mem_cons_of_mem _ h) hts ks_M_apart ml_M_71 ⟨Nat.le_of_ble_eq_true rfl, Nat.le_of_ble_eq_true rfl⟩ rfl rfl) (fm_preS XM_bl (XM_mv hX hS) hK hP) rfl rfl hl.1 rfl (lv_room (Nat.le_of_ble_eq_true rfl)) d_M_sees_57 ⟨Nat.zero_le _, Nat.zero_le _⟩) ?_
    refine lv_iconst (v := 1) hx hb d_M_sees_60 (by decide) ?_
    refine lv_icmp_gt (tgt := 68) hx hb d_M_sees_61 rfl (fun h61 => ?_) (fun h61 => ?_)
    · have hf := hf.trans (if_pos h61)
      refine lv_iconst (v := 0) hx hb d_M_sees_68 (by decide) ?_
      exact ro_zret hx hb hr hlocks rfl hf d_M_sees_69
    · have hf := hf.trans (if_neg h61)
      refine lv_iconst (v := 1) hx hb d_M_sees_64 (by decide) ?_
      refine lv_goto (tgt := 69) hx hb d_M_sees_65 rfl ?_
      exact ro_zret hx hb hr hlocks rfl hf d_M_sees_69
set_option maxHeartbeats 4000000 in
set_option maxRecDepth 100000 in
theorem c_M_sees (l : Launch) (dC : Nat → ClassId) (dI : Nat → Nat → Nat) (aC : Nat → ClassId) (b : Nat) (mu : fm_T) (cc : Int32) (en : Int32) (tk : Int32) (hcc : vp_in cc 8) (hen : vp_in en 8) (htk : vp_in tk 513) : Met l y_M_sees w_M_sees { frames := 1, cells := 0, slots := 0, locals := 21 } (va_Pc [.ref (b + 0), .int cc, .int en, .int tk] (fm_C (dC, dI) clsx (tysx aC) (LM aC b) b 11 (XM) mu)) (QcRead (f_M_sees mu cc en tk)) 0 0 (fun _ => False) := by
  refine Met.ofW (cc := b_M_sees) (maxL := 6) (ret := (some .boolean)) (by decide) rfl ?_
  intro p e s m args below meth cd s₁ B hml hv
  obtain ⟨rfl, hP, hK, hX⟩ := hv
  have hl := lv_entry ([.ref (b + 0), .int cc, .int en, .int tk]) (n := 6) (Nat.le_of_ble_eq_true rfl)
  rw [lg_entry_eq]
  generalize (lg_sl ([.ref (b + 0), .int cc, .int en, .int tk]) ++ List.replicate (6 - (lg_sl ([.ref (b + 0), .int cc, .int en, .int tk])).length) Slot.unset).toArray = ls at hl ⊢
  exact k_M_sees l dC dI aC b ⟨B.exec, B.bytes, B.returns, hml, findClass_of_methodNamed B.named, atoms_spec (ws := w_M_sees) B.pre, B.notSynchronized, hK, hX⟩ mu cc en tk hcc hen htk ls _ hP hl rfl
def f_M_bits (mu : fm_T) (cc : Int32) (en : Int32) (tk : Int32) (ba : Int32) : Int32 := (if ba = 0 then (if (f_M_sees mu cc en tk) = 0 then 1 else 9) else (if (f_M_sees mu cc en ba) = 0 then (if (f_M_sees mu cc en tk) = 0 then 1 else 9) else (if (f_M_sees mu cc en tk) = 0 then 3 else (if ((f_M_apart ((mu 3 (((8 * ba) + en).toNatClampNeg)) - (mu 3 (((8 * ba) + en).toNatClampNeg)) / 16 * 16) ((mu 3 (((8 * tk) + en).toNatClampNeg)) - (mu 3 (((8 * tk) + en).toNatClampNeg)) / 16 * 16)) + (f_M_apart ((mu 3 (((8 * ba) + en).toNatClampNeg)) / 16) ((mu 3 (((8 * tk) + en).toNatClampNeg)) / 16))) = 0 then 1 else (if ((f_M_apart ((mu 3 (((8 * ba) + en).toNatClampNeg)) - (mu 3 (((8 * ba) + en).toNatClampNeg)) / 16 * 16) ((mu 3 (((8 * tk) + en).toNatClampNeg)) - (mu 3 (((8 * tk) + en).toNatClampNeg)) / 16 * 16)) + (f_M_apart ((mu 3 (((8 * ba) + en).toNatClampNeg)) / 16) ((mu 3 (((8 * tk) + en).toNatClampNeg)) / 16))) = 1 then 4 else 11)))))
theorem e_M_bits (mu : fm_T) (cc : Int32) (en : Int32) (tk : Int32) (ba : Int32) : f_M_bits mu cc en tk ba = (if ba = 0 then (if (f_M_sees mu cc en tk) = 0 then 1 else 9) else (if (f_M_sees mu cc en ba) = 0 then (if (f_M_sees mu cc en tk) = 0 then 1 else 9) else (if (f_M_sees mu cc en tk) = 0 then 3 else (if ((f_M_apart ((mu 3 (((8 * ba) + en).toNatClampNeg)) - (mu 3 (((8 * ba) + en).toNatClampNeg)) / 16 * 16) ((mu 3 (((8 * tk) + en).toNatClampNeg)) - (mu 3 (((8 * tk) + en).toNatClampNeg)) / 16 * 16)) + (f_M_apart ((mu 3 (((8 * ba) + en).toNatClampNeg)) / 16) ((mu 3 (((8 * tk) + en).toNatClampNeg)) / 16))) = 0 then 1 else (if ((f_M_apart ((mu 3 (((8 * ba) + en).toNatClampNeg)) - (mu 3 (((8 * ba) + en).toNatClampNeg)) / 16 * 16) ((mu 3 (((8 * tk) + en).toNatClampNeg)) - (mu 3 (((8 * tk) + en).toNatClampNeg)) / 16 * 16)) + (f_M_apart ((mu 3 (((8 * ba) + en).toNatClampNeg)) / 16) ((mu 3 (((8 * tk) + en).toNatClampNeg)) / 16))) = 1 then 4 else 11))))) := rfl
set_option maxHeartbeats 4000000 in
set_option maxRecDepth 100000 in
theorem k_M_bits (l : Launch) (dC : Nat → ClassId) (dI : Nat → Nat → Nat) (aC : Nat → ClassId) (b : Nat) {p : Program} {e : Env} {s : State} {m : MethodId} {args : Array Value} {below : List Frame} {meth : Method} {cd : Code} (hc : cx (dC, dI) (tysx aC) (XM) w_M_bits b_M_bits R_M 9 (some .int) p s m args meth cd) (mu : fm_T) (cc : Int32) (en : Int32) (tk : Int32) (ba : Int32) (hcc : vp_in cc 8) (hen : vp_in en 8) (htk : vp_in tk 513) (hba : vp_in ba 513) (ls : Array Slot) (F : Int32) (hP : va_P (dC, dI) clsx (fm_w (LM aC b) b 11 mu) s.heap) (hl : lv_has ls 9 [(0, .ref (b + 0)), (1, .int cc), (2, .int en), (3, .int tk), (4, .int ba)]) (hf : F = f_M_bits mu cc en tk ba) : W p l e { frames := 2, cells := 0, slots := 0, locals := 46 } s m args below meth cd s.heap [] 0 0 (MQ below (QcRead F) args s 0 0 (fun _ => False)) (F0 m 0 ls []) := by
  obtain ⟨hx, hb, hr, hml, hown, hts, hlocks, hK, hX⟩ := hc
  have hg : ∀ w ∈ gtbl, w.before args s = true := fun w h => hts w (List.mem_cons_of_mem _ h)
  have hS : va_S (fm_A b 11) s.heap s.heap [] := va_S.rf
  have hf := hf.trans (e_M_bits mu cc en tk ba)
  refine lv_aload_n hx hb d_M_bits_0 rfl (lv_at hl 0 rfl) ?_
  refine lv_iload_n hx hb d_M_bits_1 rfl (lv_at hl 1 rfl) ?_
  refine lv_iload_n hx hb d_M_bits_2 rfl (lv_at hl 2 rfl) ?_
  refine lv_iload_n hx hb d_M_bits_3 rfl (lv_at hl 3 rfl) ?_
  refine ro_call (va_runV (As := [.int cc, .int en, .int tk]) (rest := []) ⟨hx, hb, hml, hown, hts⟩ (c_M_sees l dC dI aC b mu cc en tk hcc hen htk) (cw_V (fun w h => List.mem_cons_of_mem _ h) hts kv_M_sees ml_M_74 ⟨Nat.le_of_ble_eq_true rfl, Nat.le_of_ble_eq_true rfl⟩ rfl rfl) (fm_preV XM_bl (XM_mv hX hS) hK hP (0) (by decide) (lm_M aC b _) rfl) rfl rfl hl.1 rfl (lv_room (Nat.le_of_ble_eq_true rfl)) d_M_bits_4 ⟨Nat.zero_le _, Nat.zero_le _⟩) ?_
  refine lv_istore (lv' := [(5, .int (f_M_sees mu cc en tk)), (0, .ref (b + 0)), (1, .int cc), (2, .int en), (3, .int tk), (4, .int ba)]) hx hb d_M_bits_7 hl (by decide) rfl (fun ls hl => ?_)
  refine lv_iload hx hb d_M_bits_9 (lv_at hl 5 rfl) ?_
  refine lv_if_eq (tgt := 25) hx hb d_M_bits_11 rfl (fun h11 => ?_) (fun h11 => ?_)
  · have hf := hf.trans (if_pos h11)
    refine lv_iload hx hb d_M_bits_25 (lv_at hl 0 rfl) ?_
    refine lv_if_eq (tgt := 35) hx hb d_M_bits_27 rfl (fun h27 => ?_) (fun h27 => ?_)
    · have hf := hf.trans (if_pos h27)
      refine lv_iconst (v := 1) hx hb d_M_bits_35 (by decide) ?_
      exact ro_iret hx hb hr hlocks hf d_M_bits_36
    · have hf := hf.trans (if_neg h27)
      refine lv_bipush (v := 9) hx hb d_M_bits_30 (by decide) ?_
      refine lv_goto (tgt := 36) hx hb d_M_bits_32 rfl ?_
      exact ro_iret hx hb hr hlocks hf d_M_bits_36
  · have hf := hf.trans (if_neg h11)
    refine lv_aload_n hx hb d_M_bits_14 rfl (lv_at hl 1 rfl) ?_
    refine lv_iload_n hx hb d_M_bits_15 rfl (lv_at hl 2 rfl) ?_
    refine lv_iload_n hx hb d_M_bits_16 rfl (lv_at hl 3 rfl) ?_
    refine lv_iload hx hb d_M_bits_17 (lv_at hl 5 rfl) ?_
    refine ro_call (va_runV (As := [.int cc, .int en, .int ba]) (rest := []) ⟨hx, hb, hml, hown, hts⟩ (c_M_sees l dC dI aC b mu cc en ba hcc hen hba) (cw_V (fun w h => List.mem_cons_of_mem _ h) hts kv_M_sees ml_M_74 ⟨Nat.le_of_ble_eq_true rfl, Nat.le_of_ble_eq_true rfl⟩ rfl rfl) (fm_preV XM_bl (XM_mv hX hS) hK hP (0) (by decide) (lm_M aC b _) rfl) rfl rfl hl.1 rfl (lv_room (Nat.le_of_ble_eq_true rfl)) d_M_bits_19 ⟨Nat.zero_le _, Nat.zero_le _⟩) ?_
    refine lv_if_ne (tgt := 37) hx hb d_M_bits_22 rfl (fun h22 => ?_) (fun h22 => ?_)
    · have hf := hf.trans (if_neg h22)
      refine lv_iload hx hb d_M_bits_37 (lv_at hl 0 rfl) ?_
      refine lv_if_ne (tgt := 44) hx hb d_M_bits_39 rfl (fun h39 => ?_) (fun h39 => ?_)
      · have hf := hf.trans (if_neg h39)
        refine lv_aload_n hx hb d_M_bits_44 rfl (lv_at hl 1 rfl) ?_
        refine fm_get (C := R_M) (T := T_M) (n := 12) (ci := 6) hx hb hg uw_M hown hK hP (0) (by decide) (lm_M aC b _) rfl 3 (by decide) (hg _ fl_M_17) (fun _ h9 => h9) rfl d_M_bits_45 ?_
        refine lv_bipush (v := 8) hx hb d_M_bits_48 (by decide) ?_
        refine lv_iload hx hb d_M_bits_50 (lv_at hl 5 rfl) ?_
        refine lv_imul hx hb d_M_bits_52 ?_
        refine lv_iload_n hx hb d_M_bits_53 rfl (lv_at hl 3 rfl) ?_
        refine lv_iadd hx hb d_M_bits_54 ?_
        refine fm_iald hx hb hK hP (3) (by decide) 0 (lm_stood aC b _) rfl (((8 * ba) + en).toNatClampNeg) (vp_e (n := 4104) (lin_in (k := 8) rfl hba hen (by decide))) (vp_l (n := 4104) (lin_in (k := 8) rfl hba hen (by decide))) (by decide) d_M_bits_55 ?_
        refine lv_istore (lv' := [(6, .int (mu 3 (((8 * ba) + en).toNatClampNeg))), (5, .int (f_M_sees mu cc en tk)), (0, .ref (b + 0)), (1, .int cc), (2, .int en), (3, .int tk), (4, .int ba)]) hx hb d_M_bits_56 hl (by decide) rfl (fun ls hl => ?_)
        refine lv_aload_n hx hb d_M_bits_58 rfl (lv_at hl 2 rfl) ?_
        refine fm_get (C := R_M) (T := T_M) (n := 12) (ci := 6) hx hb hg uw_M hown hK hP (0) (by decide) (lm_M aC b _) rfl 3 (by decide) (hg _ fl_M_17) (fun _ h9 => h9) rfl d_M_bits_59 ?_
        refine lv_bipush (v := 8) hx hb d_M_bits_62 (by decide) ?_
        refine lv_iload_n hx hb d_M_bits_64 rfl (lv_at hl 5 rfl) ?_
        refine lv_imul hx hb d_M_bits_65 ?_
        refine lv_iload_n hx hb d_M_bits_66 rfl (lv_at hl 4 rfl) ?_
        refine lv_iadd hx hb d_M_bits_67 ?_
        refine fm_iald hx hb hK hP (3) (by decide) 0 (lm_stood aC b _) rfl (((8 * tk) + en).toNatClampNeg) (vp_e (n := 4104) (lin_in (k := 8) rfl htk hen (by decide))) (vp_l (n := 4104) (lin_in (k := 8) rfl htk hen (by decide))) (by decide) d_M_bits_68 ?_
        refine lv_istore (lv' := [(7, .int (mu 3 (((8 * tk) + en).toNatClampNeg))), (6, .int (mu 3 (((8 * ba) + en).toNatClampNeg))), (5, .int (f_M_sees mu cc en tk)), (0, .ref (b + 0)), (1, .int cc), (2, .int en), (3, .int tk), (4, .int ba)]) hx hb d_M_bits_69 hl (by decide) rfl (fun ls hl => ?_)
        refine lv_iload hx hb d_M_bits_71 (lv_at hl 1 rfl) ?_
        refine lv_bipush (v := 16) hx hb d_M_bits_73 (by decide) ?_
        refine lv_irem hx hb d_M_bits_75 (by decide) ?_
        refine lv_iload hx hb d_M_bits_76 (lv_at hl 0 rfl) ?_
        refine lv_bipush (v := 16) hx hb d_M_bits_78 (by decide) ?_
        refine lv_irem hx hb d_M_bits_80 (by decide) ?_
        refine ro_call (va_runS (As := [.int ((mu 3 (((8 * ba) + en).toNatClampNeg)) - (mu 3 (((8 * ba) + en).toNatClampNeg)) / 16 * 16), .int ((mu 3 (((8 * tk) + en).toNatClampNeg)) - (mu 3 (((8 * tk) + en).toNatClampNeg)) / 16 * 16)]) (rest := []) ⟨hx, hb, hml, hown, hts⟩ (c_M_apart l dC dI aC b mu ((mu 3 (((8 * ba) + en).toNatClampNeg)) - (mu 3 (((8 * ba) + en).toNatClampNeg)) / 16 * 16) ((mu 3 (((8 * tk) + en).toNatClampNeg)) - (mu 3 (((8 * tk) + en).toNatClampNeg)) / 16 * 16)) (cw_S (fun w h => List.mem_cons_of_mem _ h) hts ks_M_apart ml_M_71 ⟨Nat.le_of_ble_eq_true rfl, Nat.le_of_ble_eq_true rfl⟩ rfl rfl) (fm_preS XM_bl (XM_mv hX hS) hK hP) rfl rfl hl.1 rfl (lv_room (Nat.le_of_ble_eq_true rfl)) d_M_bits_81 ⟨Nat.zero_le _, Nat.zero_le _⟩) ?_
        refine lv_iload hx hb d_M_bits_84 (lv_at hl 1 rfl) ?_
        refine lv_bipush (v := 16) hx hb d_M_bits_86 (by decide) ?_
        refine lv_idiv hx hb d_M_bits_88 (by decide) ?_
        refine lv_iload hx hb d_M_bits_89 (lv_at hl 0 rfl) ?_
        refine lv_bipush (v := 16) hx hb d_M_bits_91 (by decide) ?_
        refine lv_idiv hx hb d_M_bits_93 (by decide) ?_
        refine ro_call (va_runS (As := [.int ((mu 3 (((8 * ba) + en).toNatClampNeg)) / 16), .int ((mu 3 (((8 * tk) + en).toNatClampNeg)) / 16)]) (rest := [.int (f_M_apart ((mu 3 (((8 * ba) + en).toNatClampNeg)) - (mu 3 (((8 * ba) + en).toNatClampNeg)) / 16 * 16) ((mu 3 (((8 * tk) + en).toNatClampNeg)) - (mu 3 (((8 * tk) + en).toNatClampNeg)) / 16 * 16))]) ⟨hx, hb, hml, hown, hts⟩ (c_M_apart l dC dI aC b mu ((mu 3 (((8 * ba) + en).toNatClampNeg)) / 16) ((mu 3 (((8 * tk) + en).toNatClampNeg)) / 16)) (cw_S (fun w h => List.mem_cons_of_mem _ h) hts ks_M_apart ml_M_71 ⟨Nat.le_of_ble_eq_true rfl, Nat.le_of_ble_eq_true rfl⟩ rfl rfl) (fm_preS XM_bl (XM_mv hX hS) hK hP) rfl rfl hl.1 rfl (lv_room (Nat.le_of_ble_eq_true rfl)) d_M_bits_94 ⟨Nat.zero_le _, Nat.zero_le _⟩) ?_
        refine lv_iadd hx hb d_M_bits_97 ?_
        refine lv_istore (lv' := [(8, .int ((f_M_apart ((mu 3 (((8 * ba) + en).toNatClampNeg)) - (mu 3 (((8 * ba) + en).toNatClampNeg)) / 16 * 16) ((mu 3 (((8 * tk) + en).toNatClampNeg)) - (mu 3 (((8 * tk) + en).toNatClampNeg)) / 16 * 16)) + (f_M_apart ((mu 3 (((8 * ba) + en).toNatClampNeg)) / 16) ((mu 3 (((8 * tk) + en).toNatClampNeg)) / 16)))), (7, .int (mu 3 (((8 * tk) + en).toNatClampNeg))), (6, .int (mu 3 (((8 * ba) + en).toNatClampNeg))), (5, .int (f_M_sees mu cc en tk)), (0, .ref (b + 0)), (1, .int cc), (2, .int en), (3, .int tk), (4, .int ba)]) hx hb d_M_bits_98 hl (by decide) rfl (fun ls hl => ?_)
        refine lv_iload hx hb d_M_bits_100 (lv_at hl 0 rfl) ?_
        refine lv_if_ne (tgt := 109) hx hb d_M_bits_102 rfl (fun h102 => ?_) (fun h102 => ?_)
        · have hf := hf.trans (if_neg h102)
          refine lv_iload hx hb d_M_bits_109 (lv_at hl 0 rfl) ?_
          refine lv_iconst (v := 1) hx hb d_M_bits_111 (by decide) ?_
          refine lv_icmp_ne (tgt := 119) hx hb d_M_bits_112 rfl (fun h112 => ?_) (fun h112 => ?_)
          · have hf := hf.trans (if_neg h112)
            refine lv_bipush (v := 11) hx hb d_M_bits_119 (by decide) ?_
            exact ro_iret hx hb hr hlocks hf d_M_bits_121
          · have hf := hf.trans (if_pos h112)
            refine lv_iconst (v := 4) hx hb d_M_bits_115 (by decide) ?_
            refine lv_goto (tgt := 121) hx hb d_M_bits_116 rfl ?_
            exact ro_iret hx hb hr hlocks hf d_M_bits_121
        · have hf := hf.trans (if_pos h102)
          refine lv_iconst (v := 1) hx hb d_M_bits_105 (by decide) ?_
          refine lv_goto (tgt := 121) hx hb d_M_bits_106 rfl ?_
          exact ro_iret hx hb hr hlocks hf d_M_bits_121
      · have hf := hf.trans (if_pos h39)
        refine lv_iconst (v := 3) hx hb d_M_bits_42 (by decide) ?_
        exact ro_iret hx hb hr hlocks hf d_M_bits_43
    · have hf := hf.trans (if_pos h22)
      refine lv_iload hx hb d_M_bits_25 (lv_at hl 0 rfl) ?_
      refine lv_if_eq (tgt := 35) hx hb d_M_bits_27 rfl (fun h27 => ?_) (fun h27 => ?_)
      · have hf := hf.trans (if_pos h27)
        refine lv_iconst (v := 1) hx hb d_M_bits_35 (by decide) ?_
        exact ro_iret hx hb hr hlocks hf d_M_bits_36
      · have hf := hf.trans (if_neg h27)
        refine lv_bipush (v := 9) hx hb d_M_bits_30 (by decide) ?_
        refine lv_goto (tgt := 36) hx hb d_M_bits_32 rfl ?_
        exact ro_iret hx hb hr hlocks hf d_M_bits_36
set_option maxHeartbeats 4000000 in
set_option maxRecDepth 100000 in
theorem c_M_bits (l : Launch) (dC : Nat → ClassId) (dI : Nat → Nat → Nat) (aC : Nat → ClassId) (b : Nat) (mu : fm_T) (cc : Int32) (en : Int32) (tk : Int32) (ba : Int32) (hcc : vp_in cc 8) (hen : vp_in en 8) (htk : vp_in tk 513) (hba : vp_in ba 513) : Met l y_M_bits w_M_bits { frames := 2, cells := 0, slots := 0, locals := 46 } (va_Pc [.ref (b + 0), .int cc, .int en, .int tk, .int ba] (fm_C (dC, dI) clsx (tysx aC) (LM aC b) b 11 (XM) mu)) (QcRead (f_M_bits mu cc en tk ba)) 0 0 (fun _ => False) := by
  refine Met.ofW (cc := b_M_bits) (maxL := 9) (ret := (some .int)) (by decide) rfl ?_
  intro p e s m args below meth cd s₁ B hml hv
  obtain ⟨rfl, hP, hK, hX⟩ := hv
  have hl := lv_entry ([.ref (b + 0), .int cc, .int en, .int tk, .int ba]) (n := 9) (Nat.le_of_ble_eq_true rfl)
  rw [lg_entry_eq]
  generalize (lg_sl ([.ref (b + 0), .int cc, .int en, .int tk, .int ba]) ++ List.replicate (9 - (lg_sl ([.ref (b + 0), .int cc, .int en, .int tk, .int ba])).length) Slot.unset).toArray = ls at hl ⊢
  exact k_M_bits l dC dI aC b ⟨B.exec, B.bytes, B.returns, hml, findClass_of_methodNamed B.named, atoms_spec (ws := w_M_bits) B.pre, B.notSynchronized, hK, hX⟩ mu cc en tk ba hcc hen htk hba ls _ hP hl rfl
def f_M_size_46 : Nat → fm_T → Nat → Int32 → Nat → Int32
  | 0, _, _, _, _ => 0
  | n + 1, mu, ap, sz, j => (if 8 ≤ (nI j) then sz else (f_M_size_46 n mu ap (sz + (f_M_bits mu (mu 10 ap) (nI j) (mu 10 (ap + 2)) (mu 10 (ap + 3)))) (j + 1)))
theorem e_M_size_46 (n : Nat) (mu : fm_T) (ap : Nat) (sz : Int32) (j : Nat) : f_M_size_46 (n + 1) mu ap sz j = (if 8 ≤ (nI j) then sz else (f_M_size_46 n mu ap (sz + (f_M_bits mu (mu 10 ap) (nI j) (mu 10 (ap + 2)) (mu 10 (ap + 3)))) (j + 1))) := rfl
set_option maxHeartbeats 4000000 in
set_option maxRecDepth 100000 in
theorem k_M_size_46 (l : Launch) (dC : Nat → ClassId) (dI : Nat → Nat → Nat) (aC : Nat → ClassId) (b : Nat) {p : Program} {e : Env} {s : State} {m : MethodId} {args : Array Value} {below : List Frame} {meth : Method} {cd : Code} (hc : cx (dC, dI) (tysx aC) (XM) w_M_size b_M_size R_M 4 (some .int) p s m args meth cd) : ∀ (n : Nat) (mu : fm_T) (ap : Nat) (sz : Int32) (j : Nat) (hj : j ≤ 8) (hn : 8 < j + n) (hI : SafM mu) (hap : ap % 5 = 0 ∧ ap + 5 ≤ 120) (ls : Array Slot) (F : Int32) (hP : va_P (dC, dI) clsx (fm_w (LM aC b) b 11 mu) s.heap) (hl : lv_has ls 4 [(0, .ref (b + 0)), (1, .int (nI ap)), (2, .int sz), (3, .int (nI j))]) (hf : F = f_M_size_46 n mu ap sz j), W p l e { frames := 3, cells := 0, slots := 0, locals := 74 } s m args below meth cd s.heap [] 0 0 (MQ below (QcRead F) args s 0 0 (fun _ => False)) (F0 m 46 ls []) := by
  obtain ⟨hx, hb, hr, hml, hown, hts, hlocks, hK, hX⟩ := hc
  have hg : ∀ w ∈ gtbl, w.before args s = true := fun w h => hts w (List.mem_cons_of_mem _ h)
  have hS : va_S (fm_A b 11) s.heap s.heap [] := va_S.rf
  intro n
  induction n with
  | zero =>
    intro mu ap sz j hj hn hI hap ls F hP hl hf
    exfalso
    omega
  | succ n ih =>
    intro mu ap sz j hj hn hI hap ls F hP hl hf
    have hf := hf.trans (e_M_size_46 n mu ap sz j)
    refine lv_iload_n hx hb d_M_size_46 rfl (lv_at hl 3 rfl) ?_
    refine lv_bipush (v := 8) hx hb d_M_size_47 (by decide) ?_
    refine lv_icmp_ge (tgt := 88) hx hb d_M_size_49 rfl (fun h49 => ?_) (fun h49 => ?_)
    · have hf := hf.trans (if_pos h49)
      refine lv_iload_n hx hb d_M_size_88 rfl (lv_at hl 2 rfl) ?_
      exact ro_iret hx hb hr hlocks hf d_M_size_89
    · have hf := hf.trans (if_neg h49)
      have hj8 : j < 8 := lp_lt rfl hj (by decide) h49
      refine lv_iload_n hx hb d_M_size_52 rfl (lv_at hl 2 rfl) ?_
      refine lv_aload_n hx hb d_M_size_53 rfl (lv_at hl 0 rfl) ?_
      refine lv_aload_n hx hb d_M_size_54 rfl (lv_at hl 0 rfl) ?_
      refine fm_get (C := R_M) (T := T_M) (n := 12) (ci := 6) hx hb hg uw_M hown hK hP (0) (by decide) (lm_M aC b _) rfl 10 (by decide) (hg _ fl_M_38) (fun _ h9 => h9) rfl d_M_size_55 ?_
      refine lv_iload_n hx hb d_M_size_58 rfl (lv_at hl 1 rfl) ?_
      refine fm_iald hx hb hK hP (10) (by decide) 0 (lm_air aC b _) rfl ap rfl (by omega) (by decide) d_M_size_59 ?_
      refine lv_iload_n hx hb d_M_size_60 rfl (lv_at hl 3 rfl) ?_
      refine lv_aload_n hx hb d_M_size_61 rfl (lv_at hl 0 rfl) ?_
      refine fm_get (C := R_M) (T := T_M) (n := 12) (ci := 6) hx hb hg uw_M hown hK hP (0) (by decide) (lm_M aC b _) rfl 10 (by decide) (hg _ fl_M_38) (fun _ h9 => h9) rfl d_M_size_62 ?_
      refine lv_iload_n hx hb d_M_size_65 rfl (lv_at hl 1 rfl) ?_
      refine lv_iconst (v := 2) hx hb d_M_size_66 (by decide) ?_
      refine lv_iadd hx hb d_M_size_67 ?_
      refine lv_cv (y := nI (ap + 2)) (nI_add _ 2) ?_
      refine fm_iald hx hb hK hP (10) (by decide) 0 (lm_air aC b _) rfl (ap + 2) rfl (by omega) (by decide) d_M_size_68 ?_
      refine lv_aload_n hx hb d_M_size_69 rfl (lv_at hl 0 rfl) ?_
      refine fm_get (C := R_M) (T := T_M) (n := 12) (ci := 6) hx hb hg uw_M hown hK hP (0) (by decide) (lm_M aC b _) rfl 10 (by decide) (hg _ fl_M_38) (fun _ h9 => h9) rfl d_M_size_70 ?_
      refine lv_iload_n hx hb d_M_size_73 rfl (lv_at hl 1 rfl) ?_
      refine lv_iconst (v := 3) hx hb d_M_size_74 (by decide) ?_
      refine lv_iadd hx hb d_M_size_75 ?_
      refine lv_cv (y := nI (ap + 3)) (nI_add _ 3) ?_
      refine fm_iald hx hb hK hP (10) (by decide) 0 (lm_air aC b _) rfl (ap + 3) rfl (by omega) (by decide) d_M_size_76 ?_
      refine ro_call (va_runV (As := [.int (mu 10 ap), .int (nI j), .int (mu 10 (ap + 2)), .int (mu 10 (ap + 3))]) (rest := [.int sz]) ⟨hx, hb, hml, hown, hts⟩ (c_M_bits l dC dI aC b mu (mu 10 ap) (nI j) (mu 10 (ap + 2)) (mu 10 (ap + 3)) (vp_mono (smf_a0 hI hap.1) (by decide)) (vp_in_nI hj8 (by decide)) (smf_a2 hI hap.1) (smf_a3 hI hap.1)) (cw_V (fun w h => List.mem_cons_of_mem _ h) hts kv_M_bits ml_M_78 ⟨Nat.le_of_ble_eq_true rfl, Nat.le_of_ble_eq_true rfl⟩ rfl rfl) (fm_preV XM_bl (XM_mv hX hS) hK hP (0) (by decide) (lm_M aC b _) rfl) rfl rfl hl.1 rfl (lv_room (Nat.le_of_ble_eq_true rfl)) d_M_size_77 ⟨Nat.zero_le _, Nat.zero_le _⟩) ?_
      refine lv_iadd hx hb d_M_size_80 ?_
      refine lv_istore_n (lv' := [(2, .int (sz + (f_M_bits mu (mu 10 ap) (nI j) (mu 10 (ap + 2)) (mu 10 (ap + 3))))), (0, .ref (b + 0)), (1, .int (nI ap)), (3, .int (nI j))]) hx hb d_M_size_81 rfl hl (by decide) rfl (fun ls hl => ?_)
      refine lv_iinc (k := 3) (v := (nI (j + 1))) (lv' := [(3, .int (nI (j + 1))), (2, .int (sz + (f_M_bits mu (mu 10 ap) (nI j) (mu 10 (ap + 2)) (mu 10 (ap + 3))))), (0, .ref (b + 0)), (1, .int (nI ap))]) hx hb d_M_size_82 hl rfl (nI_1 _) (by decide) rfl (fun ls hl => ?_)
      refine lv_goto (tgt := 46) hx hb d_M_size_85 rfl ?_
      exact ih mu ap (sz + (f_M_bits mu (mu 10 ap) (nI j) (mu 10 (ap + 2)) (mu 10 (ap + 3)))) (j + 1) (by omega) (by omega) hI hap  ls _ hP  (lv_sub hl [2, 3, 1, 0] rfl) hf
def f_M_size (mu : fm_T) (ap : Nat) : Int32 := (if (mu 10 (ap + 1)) = 0 then 23 + (3 * (mu 10 (ap + 3))) else (if (mu 10 (ap + 3)) ≤ 0 then (f_M_size_46 9 mu ap 21 0) else (f_M_size_46 9 mu ap 24 0)))
theorem e_M_size (mu : fm_T) (ap : Nat) : f_M_size mu ap = (if (mu 10 (ap + 1)) = 0 then 23 + (3 * (mu 10 (ap + 3))) else (if (mu 10 (ap + 3)) ≤ 0 then (f_M_size_46 9 mu ap 21 0) else (f_M_size_46 9 mu ap 24 0))) := rfl
set_option maxHeartbeats 4000000 in
set_option maxRecDepth 100000 in
theorem k_M_size (l : Launch) (dC : Nat → ClassId) (dI : Nat → Nat → Nat) (aC : Nat → ClassId) (b : Nat) {p : Program} {e : Env} {s : State} {m : MethodId} {args : Array Value} {below : List Frame} {meth : Method} {cd : Code} (hc : cx (dC, dI) (tysx aC) (XM) w_M_size b_M_size R_M 4 (some .int) p s m args meth cd) (mu : fm_T) (ap : Nat) (hI : SafM mu) (hap : ap % 5 = 0 ∧ ap + 5 ≤ 120) (ls : Array Slot) (F : Int32) (hP : va_P (dC, dI) clsx (fm_w (LM aC b) b 11 mu) s.heap) (hl : lv_has ls 4 [(0, .ref (b + 0)), (1, .int (nI ap))]) (hf : F = f_M_size mu ap) : W p l e { frames := 3, cells := 0, slots := 0, locals := 74 } s m args below meth cd s.heap [] 0 0 (MQ below (QcRead F) args s 0 0 (fun _ => False)) (F0 m 0 ls []) := by
  obtain ⟨hx, hb, hr, hml, hown, hts, hlocks, hK, hX⟩ := hc
  have hg : ∀ w ∈ gtbl, w.before args s = true := fun w h => hts w (List.mem_cons_of_mem _ h)
  have hS : va_S (fm_A b 11) s.heap s.heap [] := va_S.rf
  have hf := hf.trans (e_M_size mu ap)
  refine lv_aload_n hx hb d_M_size_0 rfl (lv_at hl 0 rfl) ?_
  refine fm_get (C := R_M) (T := T_M) (n := 12) (ci := 6) hx hb hg uw_M hown hK hP (0) (by decide) (lm_M aC b _) rfl 10 (by decide) (hg _ fl_M_38) (fun _ h9 => h9) rfl d_M_size_1 ?_
  refine lv_iload_n hx hb d_M_size_4 rfl (lv_at hl 1 rfl) ?_
  refine lv_iconst (v := 1) hx hb d_M_size_5 (by decide) ?_
  refine lv_iadd hx hb d_M_size_6 ?_
  refine lv_cv (y := nI (ap + 1)) (nI_add _ 1) ?_
  refine fm_iald hx hb hK hP (10) (by decide) 0 (lm_air aC b _) rfl (ap + 1) rfl (by omega) (by decide) d_M_size_7 ?_
  refine lv_if_ne (tgt := 25) hx hb d_M_size_8 rfl (fun h8 => ?_) (fun h8 => ?_)
  · have hf := hf.trans (if_neg h8)
    refine lv_aload_n hx hb d_M_size_25 rfl (lv_at hl 0 rfl) ?_
    refine fm_get (C := R_M) (T := T_M) (n := 12) (ci := 6) hx hb hg uw_M hown hK hP (0) (by decide) (lm_M aC b _) rfl 10 (by decide) (hg _ fl_M_38) (fun _ h9 => h9) rfl d_M_size_26 ?_
    refine lv_iload_n hx hb d_M_size_29 rfl (lv_at hl 1 rfl) ?_
    refine lv_iconst (v := 3) hx hb d_M_size_30 (by decide) ?_
    refine lv_iadd hx hb d_M_size_31 ?_
    refine lv_cv (y := nI (ap + 3)) (nI_add _ 3) ?_
    refine fm_iald hx hb hK hP (10) (by decide) 0 (lm_air aC b _) rfl (ap + 3) rfl (by omega) (by decide) d_M_size_32 ?_
    refine lv_if_le (tgt := 41) hx hb d_M_size_33 rfl (fun h33 => ?_) (fun h33 => ?_)
    · have hf := hf.trans (if_pos h33)
      refine lv_bipush (v := 21) hx hb d_M_size_41 (by decide) ?_
      refine lv_istore_n (lv' := [(2, .int 21), (0, .ref (b + 0)), (1, .int (nI ap))]) hx hb d_M_size_43 rfl hl (by decide) rfl (fun ls hl => ?_)
      refine lv_iconst (v := 0) hx hb d_M_size_44 (by decide) ?_
      refine lv_istore_n (lv' := [(3, .int 0), (2, .int 21), (0, .ref (b + 0)), (1, .int (nI ap))]) hx hb d_M_size_45 rfl hl (by decide) rfl (fun ls hl => ?_)
      exact k_M_size_46 l dC dI aC b ⟨hx, hb, hr, hml, hown, hts, hlocks, hK, hX⟩ 9 mu ap 21 0 (by decide) (by decide) hI hap  ls _ hP  (lv_sub hl [2, 3, 1, 0] rfl) hf
    · have hf := hf.trans (if_neg h33)
      refine lv_bipush (v := 24) hx hb d_M_size_36 (by decide) ?_
      refine lv_goto (tgt := 43) hx hb d_M_size_38 rfl ?_
      refine lv_istore_n (lv' := [(2, .int 24), (0, .ref (b + 0)), (1, .int (nI ap))]) hx hb d_M_size_43 rfl hl (by decide) rfl (fun ls hl => ?_)
      refine lv_iconst (v := 0) hx hb d_M_size_44 (by decide) ?_
      refine lv_istore_n (lv' := [(3, .int 0), (2, .int 24), (0, .ref (b + 0)), (1, .int (nI ap))]) hx hb d_M_size_45 rfl hl (by decide) rfl (fun ls hl => ?_)
      exact k_M_size_46 l dC dI aC b ⟨hx, hb, hr, hml, hown, hts, hlocks, hK, hX⟩ 9 mu ap 24 0 (by decide) (by decide) hI hap  ls _ hP  (lv_sub hl [2, 3, 1, 0] rfl) hf
  · have hf := hf.trans (if_pos h8)
    refine lv_bipush (v := 23) hx hb d_M_size_11 (by decide) ?_
    refine lv_iconst (v := 3) hx hb d_M_size_13 (by decide) ?_
    refine lv_aload_n hx hb d_M_size_14 rfl (lv_at hl 0 rfl) ?_
    refine fm_get (C := R_M) (T := T_M) (n := 12) (ci := 6) hx hb hg uw_M hown hK hP (0) (by decide) (lm_M aC b _) rfl 10 (by decide) (hg _ fl_M_38) (fun _ h9 => h9) rfl d_M_size_15 ?_
    refine lv_iload_n hx hb d_M_size_18 rfl (lv_at hl 1 rfl) ?_
    refine lv_iconst (v := 3) hx hb d_M_size_19 (by decide) ?_
    refine lv_iadd hx hb d_M_size_20 ?_
    refine lv_cv (y := nI (ap + 3)) (nI_add _ 3) ?_
    refine fm_iald hx hb hK hP (10) (by decide) 0 (lm_air aC b _) rfl (ap + 3) rfl (by omega) (by decide) d_M_size_21 ?_
    refine lv_imul hx hb d_M_size_22 ?_
    refine lv_iadd hx hb d_M_size_23 ?_
    exact ro_iret hx hb hr hlocks hf d_M_size_24
set_option maxHeartbeats 4000000 in
set_option maxRecDepth 100000 in
theorem c_M_size (l : Launch) (dC : Nat → ClassId) (dI : Nat → Nat → Nat) (aC : Nat → ClassId) (b : Nat) (mu : fm_T) (ap : Nat) (hI : SafM mu) (hap : ap % 5 = 0 ∧ ap + 5 ≤ 120) : Met l y_M_size w_M_size { frames := 3, cells := 0, slots := 0, locals := 74 } (va_Pc [.ref (b + 0), .int (nI ap)] (fm_C (dC, dI) clsx (tysx aC) (LM aC b) b 11 (XM) mu)) (QcRead (f_M_size mu ap)) 0 0 (fun _ => False) := by
  refine Met.ofW (cc := b_M_size) (maxL := 4) (ret := (some .int)) (by decide) rfl ?_
  intro p e s m args below meth cd s₁ B hml hv
  obtain ⟨rfl, hP, hK, hX⟩ := hv
  have hl := lv_entry ([.ref (b + 0), .int (nI ap)]) (n := 4) (Nat.le_of_ble_eq_true rfl)
  rw [lg_entry_eq]
  generalize (lg_sl ([.ref (b + 0), .int (nI ap)]) ++ List.replicate (4 - (lg_sl ([.ref (b + 0), .int (nI ap)])).length) Slot.unset).toArray = ls at hl ⊢
  exact k_M_size l dC dI aC b ⟨B.exec, B.bytes, B.returns, hml, findClass_of_methodNamed B.named, atoms_spec (ws := w_M_size) B.pre, B.notSynchronized, hK, hX⟩ mu ap hI hap ls _ hP hl rfl
def f_M_there (mu : fm_T) (kk : Int32) : Int32 := (if kk < 0 then 0 else (if (mu 0 11) ≤ kk then 0 else 1))
theorem e_M_there (mu : fm_T) (kk : Int32) : f_M_there mu kk = (if kk < 0 then 0 else (if (mu 0 11) ≤ kk then 0 else 1)) := rfl
set_option maxHeartbeats 4000000 in
set_option maxRecDepth 100000 in
theorem k_M_there (l : Launch) (dC : Nat → ClassId) (dI : Nat → Nat → Nat) (aC : Nat → ClassId) (b : Nat) {p : Program} {e : Env} {s : State} {m : MethodId} {args : Array Value} {below : List Frame} {meth : Method} {cd : Code} (hc : cx (dC, dI) (tysx aC) (XM) w_M_there b_M_there R_M 2 (some .boolean) p s m args meth cd) (mu : fm_T) (kk : Int32)  (ls : Array Slot) (F : Int32) (hP : va_P (dC, dI) clsx (fm_w (LM aC b) b 11 mu) s.heap) (hl : lv_has ls 2 [(0, .ref (b + 0)), (1, .int kk)]) (hf : F = f_M_there mu kk) : W p l e { frames := 0, cells := 0, slots := 0, locals := 0 } s m args below meth cd s.heap [] 0 0 (MQ below (QcRead F) args s 0 0 (fun _ => False)) (F0 m 0 ls []) := by
  obtain ⟨hx, hb, hr, hml, hown, hts, hlocks, hK, hX⟩ := hc
  have hg : ∀ w ∈ gtbl, w.before args s = true := fun w h => hts w (List.mem_cons_of_mem _ h)
  have hS : va_S (fm_A b 11) s.heap s.heap [] := va_S.rf
  have hf := hf.trans (e_M_there mu kk)
  refine lv_iload_n hx hb d_M_there_0 rfl (lv_at hl 1 rfl) ?_
  refine lv_if_lt (tgt := 16) hx hb d_M_there_1 rfl (fun h1 => ?_) (fun h1 => ?_)
  · have hf := hf.trans (if_pos h1)
    refine lv_iconst (v := 0) hx hb d_M_there_16 (by decide) ?_
    exact ro_zret hx hb hr hlocks rfl hf d_M_there_17
  · have hf := hf.trans (if_neg h1)
    refine lv_iload_n hx hb d_M_there_4 rfl (lv_at hl 1 rfl) ?_
    refine lv_aload_n hx hb d_M_there_5 rfl (lv_at hl 0 rfl) ?_
    refine fm_get (C := R_M) (T := T_M) (n := 12) (ci := 6) hx hb hg uw_M hown hK hP (0) (by decide) (lm_M aC b _) rfl 11 (by decide) (hg _ fl_M_60) (fun _ h9 => h9) rfl d_M_there_6 ?_
    refine lv_icmp_ge (tgt := 16) hx hb d_M_there_9 rfl (fun h9 => ?_) (fun h9 => ?_)
    · have hf := hf.trans (if_pos h9)
      refine lv_iconst (v := 0) hx hb d_M_there_16 (by decide) ?_
      exact ro_zret hx hb hr hlocks rfl hf d_M_there_17
    · have hf := hf.trans (if_neg h9)
      refine lv_iconst (v := 1) hx hb d_M_there_12 (by decide) ?_
      refine lv_goto (tgt := 17) hx hb d_M_there_13 rfl ?_
      exact ro_zret hx hb hr hlocks rfl hf d_M_there_17
set_option maxHeartbeats 4000000 in
set_option maxRecDepth 100000 in
theorem c_M_there (l : Launch) (dC : Nat → ClassId) (dI : Nat → Nat → Nat) (aC : Nat → ClassId) (b : Nat) (mu : fm_T) (kk : Int32)  : Met l y_M_there w_M_there { frames := 0, cells := 0, slots := 0, locals := 0 } (va_Pc [.ref (b + 0), .int kk] (fm_C (dC, dI) clsx (tysx aC) (LM aC b) b 11 (XM) mu)) (QcRead (f_M_there mu kk)) 0 0 (fun _ => False) := by
  refine Met.ofW (cc := b_M_there) (maxL := 2) (ret := (some .boolean)) (by decide) rfl ?_
  intro p e s m args below meth cd s₁ B hml hv
  obtain ⟨rfl, hP, hK, hX⟩ := hv
  have hl := lv_entry ([.ref (b + 0), .int kk]) (n := 2) (Nat.le_of_ble_eq_true rfl)
  rw [lg_entry_eq]
  generalize (lg_sl ([.ref (b + 0), .int kk]) ++ List.replicate (2 - (lg_sl ([.ref (b + 0), .int kk])).length) Slot.unset).toArray = ls at hl ⊢
  exact k_M_there l dC dI aC b ⟨B.exec, B.bytes, B.returns, hml, findClass_of_methodNamed B.named, atoms_spec (ws := w_M_there) B.pre, B.notSynchronized, hK, hX⟩ mu kk ls _ hP hl rfl
def f_M_takeOut_14 : Nat → fm_T → Nat → fm_T
  | 0, mu, _ => mu
  | n + 1, mu, j => (if (nI (5 * (mu 0 11).toNatClampNeg)) ≤ (nI j) then mu else (f_M_takeOut_14 n (fm_up mu 10 j (mu 10 (j + 5))) (j + 1)))
theorem e_M_takeOut_14 (n : Nat) (mu : fm_T) (j : Nat) : f_M_takeOut_14 (n + 1) mu j = (if (nI (5 * (mu 0 11).toNatClampNeg)) ≤ (nI j) then mu else (f_M_takeOut_14 n (fm_up mu 10 j (mu 10 (j + 5))) (j + 1))) := rfl
set_option maxHeartbeats 4000000 in
set_option maxRecDepth 100000 in
theorem k_M_takeOut_14 (l : Launch) (dC : Nat → ClassId) (dI : Nat → Nat → Nat) (aC : Nat → ClassId) (b : Nat) {p : Program} {e : Env} {s : State} {m : MethodId} {args : Array Value} {below : List Frame} {meth : Method} {cd : Code} (hc : cx (dC, dI) (tysx aC) (XM) w_M_takeOut b_M_takeOut R_M 3 none p s m args meth cd) : ∀ (n : Nat) (mu : fm_T) (j : Nat) (hz : vp_in (mu 0 11) 24) (hj : j ≤ 5 * (mu 0 11).toNatClampNeg) (hn : 5 * (mu 0 11).toNatClampNeg < j + n) (H : Heap) (locs : List Loc) (ls : Array Slot) (F : fm_T) (hP : va_P (dC, dI) clsx (fm_w (LM aC b) b 11 mu) H) (hS : va_S (fm_A b 11) s.heap H locs) (hl : lv_has ls 3 [(0, .ref (b + 0)), (2, .int (nI j))]) (hf : F = f_M_takeOut_14 n mu j), W p l e { frames := 0, cells := 0, slots := 0, locals := 0 } s m args below meth cd H locs 0 0 (MQ below (va_Qv (fun u => u = F) (fm_B (dC, dI) clsx (tysx aC) (LM aC b) b 11) (fm_A b 11)) args s 0 0 (fm_A b 11)) (F0 m 14 ls []) := by
  obtain ⟨hx, hb, hr, hml, hown, hts, hlocks, hK, hX⟩ := hc
  have hg : ∀ w ∈ gtbl, w.before args s = true := fun w h => hts w (List.mem_cons_of_mem _ h)
  intro n
  induction n with
  | zero =>
    intro mu j hz hj hn H locs ls F hP hS hl hf
    exfalso
    omega
  | succ n ih =>
    intro mu j hz hj hn H locs ls F hP hS hl hf
    have hf := hf.trans (e_M_takeOut_14 n mu j)
    refine lv_iload_n hx hb d_M_takeOut_14 rfl (lv_at hl 1 rfl) ?_
    refine lv_iconst (v := 5) hx hb d_M_takeOut_15 (by decide) ?_
    refine lv_aload_n hx hb d_M_takeOut_16 rfl (lv_at hl 0 rfl) ?_
    refine fm_get (C := R_M) (T := T_M) (n := 12) (ci := 6) hx hb hg uw_M hown hK hP (0) (by decide) (lm_M aC b _) rfl 11 (by decide) (hg _ fl_M_60) (fun _ h9 => h9) rfl d_M_takeOut_17 ?_
    refine lv_imul hx hb d_M_takeOut_20 ?_
    refine lv_cv (y := nI (5 * (mu 0 11).toNatClampNeg)) (five_e hz) ?_
    refine lv_icmp_ge (tgt := 44) hx hb d_M_takeOut_21 rfl (fun h21 => ?_) (fun h21 => ?_)
    · have hf := hf.trans (if_pos h21)
      exact rw_vret hx hb hr hlocks hK hP hS hf d_M_takeOut_44
    · have hf := hf.trans (if_neg h21)
      have hj8 : j < 5 * (mu 0 11).toNatClampNeg := lp_lt rfl hj (by have := vp_l hz; omega) h21
      have hz2 := vp_l hz
      refine lv_aload_n hx hb d_M_takeOut_24 rfl (lv_at hl 0 rfl) ?_
      refine fm_get (C := R_M) (T := T_M) (n := 12) (ci := 6) hx hb hg uw_M hown hK hP (0) (by decide) (lm_M aC b _) rfl 10 (by decide) (hg _ fl_M_38) (fun _ h9 => h9) rfl d_M_takeOut_25 ?_
      refine lv_iload_n hx hb d_M_takeOut_28 rfl (lv_at hl 1 rfl) ?_
      refine lv_aload_n hx hb d_M_takeOut_29 rfl (lv_at hl 0 rfl) ?_
      refine fm_get (C := R_M) (T := T_M) (n := 12) (ci := 6) hx hb hg uw_M hown hK hP (0) (by decide) (lm_M aC b _) rfl 10 (by decide) (hg _ fl_M_38) (fun _ h9 => h9) rfl d_M_takeOut_30 ?_
      refine lv_iload_n hx hb d_M_takeOut_33 rfl (lv_at hl 1 rfl) ?_
      refine lv_iconst (v := 5) hx hb d_M_takeOut_34 (by decide) ?_
      refine lv_iadd hx hb d_M_takeOut_35 ?_
      refine lv_cv (y := nI (j + 5)) (nI_add _ 5) ?_
      refine fm_iald hx hb hK hP (10) (by decide) 0 (lm_air aC b _) rfl (j + 5) rfl (by omega) (by decide) d_M_takeOut_36 ?_
      refine fm_iast hx hb hK (fun _ h => h) hP hS (10) (by decide) 0 (lm_air aC b _) rfl j rfl (by omega) (by decide) (lm_air aC b _) d_M_takeOut_37 (fun H locs hP hS => ?_)
      refine lv_iinc (k := 1) (v := (nI (j + 1))) (lv' := [(2, .int (nI (j + 1))), (0, .ref (b + 0))]) hx hb d_M_takeOut_38 hl rfl (nI_1 _) (by decide) rfl (fun ls hl => ?_)
      refine lv_goto (tgt := 14) hx hb d_M_takeOut_41 rfl ?_
      exact ih (fm_up mu 10 j (mu 10 (j + 5))) (j + 1) (by rw [fm_up_cell (by decide)]; exact hz) (by rw [fm_up_cell (by decide)]; omega) (by rw [fm_up_cell (by decide)]; omega) _ _ ls _ hP hS (lv_sub hl [1, 0] rfl) hf
def f_M_takeOut (mu : fm_T) (kk : Int32) : fm_T := (f_M_takeOut_14 116 (fm_up mu 0 11 ((mu 0 11) - 1)) (5 * kk.toNatClampNeg))
theorem e_M_takeOut (mu : fm_T) (kk : Int32) : f_M_takeOut mu kk = (f_M_takeOut_14 116 (fm_up mu 0 11 ((mu 0 11) - 1)) (5 * kk.toNatClampNeg)) := rfl
set_option maxHeartbeats 4000000 in
set_option maxRecDepth 100000 in
theorem k_M_takeOut (l : Launch) (dC : Nat → ClassId) (dI : Nat → Nat → Nat) (aC : Nat → ClassId) (b : Nat) {p : Program} {e : Env} {s : State} {m : MethodId} {args : Array Value} {below : List Frame} {meth : Method} {cd : Code} (hc : cx (dC, dI) (tysx aC) (XM) w_M_takeOut b_M_takeOut R_M 3 none p s m args meth cd) (mu : fm_T) (kk : Int32) (hI : SafM mu) (hk0 : ¬ kk < 0) (hk1 : ¬ mu 0 11 ≤ kk) (H : Heap) (locs : List Loc) (ls : Array Slot) (F : fm_T) (hP : va_P (dC, dI) clsx (fm_w (LM aC b) b 11 mu) H) (hS : va_S (fm_A b 11) s.heap H locs) (hl : lv_has ls 3 [(0, .ref (b + 0)), (1, .int kk)]) (hf : F = f_M_takeOut mu kk) : W p l e { frames := 0, cells := 0, slots := 0, locals := 0 } s m args below meth cd H locs 0 0 (MQ below (va_Qv (fun u => u = F) (fm_B (dC, dI) clsx (tysx aC) (LM aC b) b 11) (fm_A b 11)) args s 0 0 (fm_A b 11)) (F0 m 0 ls []) := by
  obtain ⟨hx, hb, hr, hml, hown, hts, hlocks, hK, hX⟩ := hc
  have hg : ∀ w ∈ gtbl, w.before args s = true := fun w h => hts w (List.mem_cons_of_mem _ h)
  have hf := hf.trans (e_M_takeOut mu kk)
  refine lv_aload_n hx hb d_M_takeOut_0 rfl (lv_at hl 0 rfl) ?_
  refine lv_dup hx hb d_M_takeOut_1 rfl ?_
  refine fm_get (C := R_M) (T := T_M) (n := 12) (ci := 6) hx hb hg uw_M hown hK hP (0) (by decide) (lm_M aC b _) rfl 11 (by decide) (hg _ fl_M_60) (fun _ h9 => h9) rfl d_M_takeOut_2 ?_
  refine lv_iconst (v := 1) hx hb d_M_takeOut_5 (by decide) ?_
  refine lv_isub hx hb d_M_takeOut_6 ?_
  refine fm_put (v := .int ((mu 0 11) - 1)) (x := ((mu 0 11) - 1)) (ty := .int) (C := R_M) (T := T_M) (n := 12) (ci := 6) hx hb hg uw_M ty_M tk_M nm_M hown hK (fun _ h => h) hP hS (0) (by decide) (lm_M aC b _) rfl 11 (by decide) (hg _ fl_M_60) (fun _ h9 => h9) rfl (by decide +kernel) rfl rfl (Nat.le_of_ble_eq_true rfl) (lm_M aC b _) d_M_takeOut_7 (fun H locs hP hS => ?_)
  refine lv_iconst (v := 5) hx hb d_M_takeOut_10 (by decide) ?_
  refine lv_iload_n hx hb d_M_takeOut_11 rfl (lv_at hl 1 rfl) ?_
  refine lv_imul hx hb d_M_takeOut_12 ?_
  refine lv_cv (y := nI (5 * kk.toNatClampNeg)) (mt_e hI hk0 hk1) ?_
  refine lv_istore_n (lv' := [(2, .int (nI (5 * kk.toNatClampNeg))), (0, .ref (b + 0)), (1, .int kk)]) hx hb d_M_takeOut_13 rfl hl (by decide) rfl (fun ls hl => ?_)
  exact k_M_takeOut_14 l dC dI aC b ⟨hx, hb, hr, hml, hown, hts, hlocks, hK, hX⟩ 116 (fm_up mu 0 11 ((mu 0 11) - 1)) (5 * kk.toNatClampNeg) (by rw [fm_up_same]; exact mt_sz hI hk0 hk1) (by rw [fm_up_same]; exact mt_le hI hk0 hk1) (by rw [fm_up_same]; have := vp_l (mt_sz hI hk0 hk1); omega) _ _ ls _ hP hS (lv_sub hl [1, 0] rfl) hf
set_option maxHeartbeats 4000000 in
set_option maxRecDepth 100000 in
theorem c_M_takeOut (l : Launch) (dC : Nat → ClassId) (dI : Nat → Nat → Nat) (aC : Nat → ClassId) (b : Nat) (mu : fm_T) (kk : Int32) (hI : SafM mu) (hk0 : ¬ kk < 0) (hk1 : ¬ mu 0 11 ≤ kk) : Met l y_M_takeOut w_M_takeOut { frames := 0, cells := 0, slots := 0, locals := 0 } (va_Pc [.ref (b + 0), .int kk] (fm_C (dC, dI) clsx (tysx aC) (LM aC b) b 11 (XM) mu)) (va_Qv (fun u => u = (f_M_takeOut mu kk)) (fm_B (dC, dI) clsx (tysx aC) (LM aC b) b 11) (fm_A b 11)) 0 0 (fm_A b 11) := by
  refine Met.ofW (cc := b_M_takeOut) (maxL := 3) (ret := none) (by decide) rfl ?_
  intro p e s m args below meth cd s₁ B hml hv
  obtain ⟨rfl, hP, hK, hX⟩ := hv
  have hl := lv_entry ([.ref (b + 0), .int kk]) (n := 3) (Nat.le_of_ble_eq_true rfl)
  rw [lg_entry_eq]
  generalize (lg_sl ([.ref (b + 0), .int kk]) ++ List.replicate (3 - (lg_sl ([.ref (b + 0), .int kk])).length) Slot.unset).toArray = ls at hl ⊢
  exact k_M_takeOut l dC dI aC b ⟨B.exec, B.bytes, B.returns, hml, findClass_of_methodNamed B.named, atoms_spec (ws := w_M_takeOut) B.pre, B.notSynchronized, hK, hX⟩ mu kk hI hk0 hk1 _ _ ls _ hP va_S.rf hl rfl
def f_M_flight (mu : fm_T) : Int32 := mu 0 11
theorem e_M_flight (mu : fm_T) : f_M_flight mu = mu 0 11 := rfl
set_option maxHeartbeats 4000000 in
set_option maxRecDepth 100000 in
theorem k_M_flight (l : Launch) (dC : Nat → ClassId) (dI : Nat → Nat → Nat) (aC : Nat → ClassId) (b : Nat) {p : Program} {e : Env} {s : State} {m : MethodId} {args : Array Value} {below : List Frame} {meth : Method} {cd : Code} (hc : cx (dC, dI) (tysx aC) (XM) w_M_flight b_M_flight R_M 1 (some .int) p s m args meth cd) (mu : fm_T)   (ls : Array Slot) (F : Int32) (hP : va_P (dC, dI) clsx (fm_w (LM aC b) b 11 mu) s.heap) (hl : lv_has ls 1 [(0, .ref (b + 0))]) (hf : F = f_M_flight mu) : W p l e { frames := 0, cells := 0, slots := 0, locals := 0 } s m args below meth cd s.heap [] 0 0 (MQ below (QcRead F) args s 0 0 (fun _ => False)) (F0 m 0 ls []) := by
  obtain ⟨hx, hb, hr, hml, hown, hts, hlocks, hK, hX⟩ := hc
  have hg : ∀ w ∈ gtbl, w.before args s = true := fun w h => hts w (List.mem_cons_of_mem _ h)
  have hS : va_S (fm_A b 11) s.heap s.heap [] := va_S.rf
  have hf := hf.trans (e_M_flight mu)
  refine lv_aload_n hx hb d_M_flight_0 rfl (lv_at hl 0 rfl) ?_
  refine fm_get (C := R_M) (T := T_M) (n := 12) (ci := 6) hx hb hg uw_M hown hK hP (0) (by decide) (lm_M aC b _) rfl 11 (by decide) (hg _ fl_M_60) (fun _ h9 => h9) rfl d_M_flight_1 ?_
  exact ro_iret hx hb hr hlocks hf d_M_flight_4
set_option maxHeartbeats 4000000 in
set_option maxRecDepth 100000 in
theorem c_M_flight (l : Launch) (dC : Nat → ClassId) (dI : Nat → Nat → Nat) (aC : Nat → ClassId) (b : Nat) (mu : fm_T)   : Met l y_M_flight w_M_flight { frames := 0, cells := 0, slots := 0, locals := 0 } (va_Pc [.ref (b + 0)] (fm_C (dC, dI) clsx (tysx aC) (LM aC b) b 11 (XM) mu)) (QcRead (f_M_flight mu)) 0 0 (fun _ => False) := by
  refine Met.ofW (cc := b_M_flight) (maxL := 1) (ret := (some .int)) (by decide) rfl ?_
  intro p e s m args below meth cd s₁ B hml hv
  obtain ⟨rfl, hP, hK, hX⟩ := hv
  have hl := lv_entry ([.ref (b + 0)]) (n := 1) (Nat.le_of_ble_eq_true rfl)
  rw [lg_entry_eq]
  generalize (lg_sl ([.ref (b + 0)]) ++ List.replicate (1 - (lg_sl ([.ref (b + 0)])).length) Slot.unset).toArray = ls at hl ⊢
  exact k_M_flight l dC dI aC b ⟨B.exec, B.bytes, B.returns, hml, findClass_of_methodNamed B.named, atoms_spec (ws := w_M_flight) B.pre, B.notSynchronized, hK, hX⟩ mu  ls _ hP hl rfl
def f_M_position (mu : fm_T) (en : Int32) : Int32 := (if (f_M_entity en) = 0 then (-1) else mu 3 (((8 * (mu 0 2)) + en).toNatClampNeg))
theorem e_M_position (mu : fm_T) (en : Int32) : f_M_position mu en = (if (f_M_entity en) = 0 then (-1) else mu 3 (((8 * (mu 0 2)) + en).toNatClampNeg)) := rfl
set_option maxHeartbeats 4000000 in
set_option maxRecDepth 100000 in
theorem k_M_position (l : Launch) (dC : Nat → ClassId) (dI : Nat → Nat → Nat) (aC : Nat → ClassId) (b : Nat) {p : Program} {e : Env} {s : State} {m : MethodId} {args : Array Value} {below : List Frame} {meth : Method} {cd : Code} (hc : cx (dC, dI) (tysx aC) (XM) w_M_position b_M_position R_M 2 (some .int) p s m args meth cd) (mu : fm_T) (en : Int32) (hI : SafM mu) (ls : Array Slot) (F : Int32) (hP : va_P (dC, dI) clsx (fm_w (LM aC b) b 11 mu) s.heap) (hl : lv_has ls 2 [(0, .ref (b + 0)), (1, .int en)]) (hf : F = f_M_position mu en) : W p l e { frames := 1, cells := 0, slots := 0, locals := 20 } s m args below meth cd s.heap [] 0 0 (MQ below (QcRead F) args s 0 0 (fun _ => False)) (F0 m 0 ls []) := by
  obtain ⟨hx, hb, hr, hml, hown, hts, hlocks, hK, hX⟩ := hc
  have hg : ∀ w ∈ gtbl, w.before args s = true := fun w h => hts w (List.mem_cons_of_mem _ h)
  have hS : va_S (fm_A b 11) s.heap s.heap [] := va_S.rf
  have hf := hf.trans (e_M_position mu en)
  refine lv_iload_n hx hb d_M_position_0 rfl (lv_at hl 1 rfl) ?_
  refine ro_call (va_runS (As := [.int en]) (rest := []) ⟨hx, hb, hml, hown, hts⟩ (c_M_entity l dC dI aC b mu en) (cw_S (fun w h => List.mem_cons_of_mem _ h) hts ks_M_entity ml_M_49 ⟨Nat.le_of_ble_eq_true rfl, Nat.le_of_ble_eq_true rfl⟩ rfl rfl) (fm_preS XM_bl (XM_mv hX hS) hK hP) rfl rfl hl.1 rfl (lv_room (Nat.le_of_ble_eq_true rfl)) d_M_position_1 ⟨Nat.zero_le _, Nat.zero_le _⟩) ?_
  refine lv_if_eq (tgt := 24) hx hb d_M_position_4 rfl (fun h4 => ?_) (fun h4 => ?_)
  · have hf := hf.trans (if_pos h4)
    refine lv_iconst (v := (-1)) hx hb d_M_position_24 (by decide) ?_
    exact ro_iret hx hb hr hlocks hf d_M_position_25
  · have hf := hf.trans (if_neg h4)
    refine lv_aload_n hx hb d_M_position_7 rfl (lv_at hl 0 rfl) ?_
    refine fm_get (C := R_M) (T := T_M) (n := 12) (ci := 6) hx hb hg uw_M hown hK hP (0) (by decide) (lm_M aC b _) rfl 3 (by decide) (hg _ fl_M_17) (fun _ h9 => h9) rfl d_M_position_8 ?_
    refine lv_bipush (v := 8) hx hb d_M_position_11 (by decide) ?_
    refine lv_aload_n hx hb d_M_position_13 rfl (lv_at hl 0 rfl) ?_
    refine fm_get (C := R_M) (T := T_M) (n := 12) (ci := 6) hx hb hg uw_M hown hK hP (0) (by decide) (lm_M aC b _) rfl 2 (by decide) (hg _ fl_M_45) (fun _ h9 => h9) rfl d_M_position_14 ?_
    refine lv_imul hx hb d_M_position_17 ?_
    refine lv_iload_n hx hb d_M_position_18 rfl (lv_at hl 1 rfl) ?_
    refine lv_iadd hx hb d_M_position_19 ?_
    refine fm_iald hx hb hK hP (3) (by decide) 0 (lm_stood aC b _) rfl (((8 * (mu 0 2)) + en).toNatClampNeg) (vp_e (n := 4104) (lin_in (k := 8) rfl (smf_now hI) (me_in h4) (by decide))) (vp_l (n := 4104) (lin_in (k := 8) rfl (smf_now hI) (me_in h4) (by decide))) (by decide) d_M_position_20 ?_
    refine lv_goto (tgt := 25) hx hb d_M_position_21 rfl ?_
    exact ro_iret hx hb hr hlocks hf d_M_position_25
set_option maxHeartbeats 4000000 in
set_option maxRecDepth 100000 in
theorem c_M_position (l : Launch) (dC : Nat → ClassId) (dI : Nat → Nat → Nat) (aC : Nat → ClassId) (b : Nat) (mu : fm_T) (en : Int32) (hI : SafM mu) : Met l y_M_position w_M_position { frames := 1, cells := 0, slots := 0, locals := 20 } (va_Pc [.ref (b + 0), .int en] (fm_C (dC, dI) clsx (tysx aC) (LM aC b) b 11 (XM) mu)) (QcRead (f_M_position mu en)) 0 0 (fun _ => False) := by
  refine Met.ofW (cc := b_M_position) (maxL := 2) (ret := (some .int)) (by decide) rfl ?_
  intro p e s m args below meth cd s₁ B hml hv
  obtain ⟨rfl, hP, hK, hX⟩ := hv
  have hl := lv_entry ([.ref (b + 0), .int en]) (n := 2) (Nat.le_of_ble_eq_true rfl)
  rw [lg_entry_eq]
  generalize (lg_sl ([.ref (b + 0), .int en]) ++ List.replicate (2 - (lg_sl ([.ref (b + 0), .int en])).length) Slot.unset).toArray = ls at hl ⊢
  exact k_M_position l dC dI aC b ⟨B.exec, B.bytes, B.returns, hml, findClass_of_methodNamed B.named, atoms_spec (ws := w_M_position) B.pre, B.notSynchronized, hK, hX⟩ mu en hI ls _ hP hl rfl
def f_M_view (mu : fm_T) (cli : Int32) (en : Int32) : Int32 := (if (f_M_client cli) = 0 then (-1) else (if (f_M_entity en) = 0 then (-1) else (if (mu 9 cli.toNatClampNeg) = 0 then (-1) else (if (f_M_sees mu cli en (mu 9 cli.toNatClampNeg)) = 0 then (-1) else mu 3 (((8 * (mu 9 cli.toNatClampNeg)) + en).toNatClampNeg)))))
theorem e_M_view (mu : fm_T) (cli : Int32) (en : Int32) : f_M_view mu cli en = (if (f_M_client cli) = 0 then (-1) else (if (f_M_entity en) = 0 then (-1) else (if (mu 9 cli.toNatClampNeg) = 0 then (-1) else (if (f_M_sees mu cli en (mu 9 cli.toNatClampNeg)) = 0 then (-1) else mu 3 (((8 * (mu 9 cli.toNatClampNeg)) + en).toNatClampNeg))))) := rfl
set_option maxHeartbeats 4000000 in
set_option maxRecDepth 100000 in
theorem k_M_view (l : Launch) (dC : Nat → ClassId) (dI : Nat → Nat → Nat) (aC : Nat → ClassId) (b : Nat) {p : Program} {e : Env} {s : State} {m : MethodId} {args : Array Value} {below : List Frame} {meth : Method} {cd : Code} (hc : cx (dC, dI) (tysx aC) (XM) w_M_view b_M_view R_M 3 (some .int) p s m args meth cd) (mu : fm_T) (cli : Int32) (en : Int32) (hI : SafM mu) (ls : Array Slot) (F : Int32) (hP : va_P (dC, dI) clsx (fm_w (LM aC b) b 11 mu) s.heap) (hl : lv_has ls 3 [(0, .ref (b + 0)), (1, .int cli), (2, .int en)]) (hf : F = f_M_view mu cli en) : W p l e { frames := 2, cells := 0, slots := 0, locals := 46 } s m args below meth cd s.heap [] 0 0 (MQ below (QcRead F) args s 0 0 (fun _ => False)) (F0 m 0 ls []) := by
  obtain ⟨hx, hb, hr, hml, hown, hts, hlocks, hK, hX⟩ := hc
  have hg : ∀ w ∈ gtbl, w.before args s = true := fun w h => hts w (List.mem_cons_of_mem _ h)
  have hS : va_S (fm_A b 11) s.heap s.heap [] := va_S.rf
  have hf := hf.trans (e_M_view mu cli en)
  refine lv_iload_n hx hb d_M_view_0 rfl (lv_at hl 1 rfl) ?_
  refine ro_call (va_runS (As := [.int cli]) (rest := []) ⟨hx, hb, hml, hown, hts⟩ (c_M_client l dC dI aC b mu cli) (cw_S (fun w h => List.mem_cons_of_mem _ h) hts ks_M_client ml_M_53 ⟨Nat.le_of_ble_eq_true rfl, Nat.le_of_ble_eq_true rfl⟩ rfl rfl) (fm_preS XM_bl (XM_mv hX hS) hK hP) rfl rfl hl.1 rfl (lv_room (Nat.le_of_ble_eq_true rfl)) d_M_view_1 ⟨Nat.zero_le _, Nat.zero_le _⟩) ?_
  refine lv_if_eq (tgt := 38) hx hb d_M_view_4 rfl (fun h4 => ?_) (fun h4 => ?_)
  · have hf := hf.trans (if_pos h4)
    refine lv_iconst (v := (-1)) hx hb d_M_view_38 (by decide) ?_
    exact ro_iret hx hb hr hlocks hf d_M_view_39
  · have hf := hf.trans (if_neg h4)
    refine lv_iload_n hx hb d_M_view_7 rfl (lv_at hl 2 rfl) ?_
    refine ro_call (va_runS (As := [.int en]) (rest := []) ⟨hx, hb, hml, hown, hts⟩ (c_M_entity l dC dI aC b mu en) (cw_S (fun w h => List.mem_cons_of_mem _ h) hts ks_M_entity ml_M_49 ⟨Nat.le_of_ble_eq_true rfl, Nat.le_of_ble_eq_true rfl⟩ rfl rfl) (fm_preS XM_bl (XM_mv hX hS) hK hP) rfl rfl hl.1 rfl (lv_room (Nat.le_of_ble_eq_true rfl)) d_M_view_8 ⟨Nat.zero_le _, Nat.zero_le _⟩) ?_
    refine lv_if_eq (tgt := 38) hx hb d_M_view_11 rfl (fun h11 => ?_) (fun h11 => ?_)
    · have hf := hf.trans (if_pos h11)
      refine lv_iconst (v := (-1)) hx hb d_M_view_38 (by decide) ?_
      exact ro_iret hx hb hr hlocks hf d_M_view_39
    · have hf := hf.trans (if_neg h11)
      refine lv_aload_n hx hb d_M_view_14 rfl (lv_at hl 0 rfl) ?_
      refine fm_get (C := R_M) (T := T_M) (n := 12) (ci := 6) hx hb hg uw_M hown hK hP (0) (by decide) (lm_M aC b _) rfl 9 (by decide) (hg _ fl_M_35) (fun _ h9 => h9) rfl d_M_view_15 ?_
      refine lv_iload_n hx hb d_M_view_18 rfl (lv_at hl 1 rfl) ?_
      refine fm_iald hx hb hK hP (9) (by decide) 0 (lm_newest aC b _) rfl cli.toNatClampNeg (vp_e (n := 3) (mc_in h4)) (vp_l (n := 3) (mc_in h4)) (by decide) d_M_view_19 ?_
      refine lv_if_eq (tgt := 38) hx hb d_M_view_20 rfl (fun h20 => ?_) (fun h20 => ?_)
      · have hf := hf.trans (if_pos h20)
        refine lv_iconst (v := (-1)) hx hb d_M_view_38 (by decide) ?_
        exact ro_iret hx hb hr hlocks hf d_M_view_39
      · have hf := hf.trans (if_neg h20)
        refine lv_aload_n hx hb d_M_view_23 rfl (lv_at hl 0 rfl) ?_
        refine lv_iload_n hx hb d_M_view_24 rfl (lv_at hl 1 rfl) ?_
        refine lv_iload_n hx hb d_M_view_25 rfl (lv_at hl 2 rfl) ?_
        refine lv_aload_n hx hb d_M_view_26 rfl (lv_at hl 0 rfl) ?_
        refine fm_get (C := R_M) (T := T_M) (n := 12) (ci := 6) hx hb hg uw_M hown hK hP (0) (by decide) (lm_M aC b _) rfl 9 (by decide) (hg _ fl_M_35) (fun _ h9 => h9) rfl d_M_view_27 ?_
        refine lv_iload_n hx hb d_M_view_30 rfl (lv_at hl 1 rfl) ?_
        refine fm_iald hx hb hK hP (9) (by decide) 0 (lm_newest aC b _) rfl cli.toNatClampNeg (vp_e (n := 3) (mc_in h4)) (vp_l (n := 3) (mc_in h4)) (by decide) d_M_view_31 ?_
        refine ro_call (va_runV (As := [.int cli, .int en, .int (mu 9 cli.toNatClampNeg)]) (rest := []) ⟨hx, hb, hml, hown, hts⟩ (c_M_sees l dC dI aC b mu cli en (mu 9 cli.toNatClampNeg) (vp_mono (mc_in h4) (by decide)) (me_in h11) (smf_new hI _)) (cw_V (fun w h => List.mem_cons_of_mem _ h) hts kv_M_sees ml_M_74 ⟨Nat.le_of_ble_eq_true rfl, Nat.le_of_ble_eq_true rfl⟩ rfl rfl) (fm_preV XM_bl (XM_mv hX hS) hK hP (0) (by decide) (lm_M aC b _) rfl) rfl rfl hl.1 rfl (lv_room (Nat.le_of_ble_eq_true rfl)) d_M_view_32 ⟨Nat.zero_le _, Nat.zero_le _⟩) ?_
        refine lv_if_ne (tgt := 40) hx hb d_M_view_35 rfl (fun h35 => ?_) (fun h35 => ?_)
        · have hf := hf.trans (if_neg h35)
          refine lv_aload_n hx hb d_M_view_40 rfl (lv_at hl 0 rfl) ?_
          refine fm_get (C := R_M) (T := T_M) (n := 12) (ci := 6) hx hb hg uw_M hown hK hP (0) (by decide) (lm_M aC b _) rfl 3 (by decide) (hg _ fl_M_17) (fun _ h9 => h9) rfl d_M_view_41 ?_
          refine lv_bipush (v := 8) hx hb d_M_view_44 (by decide) ?_
          refine lv_aload_n hx hb d_M_view_46 rfl (lv_at hl 0 rfl) ?_
          refine fm_get (C := R_M) (T := T_M) (n := 12) (ci := 6) hx hb hg uw_M hown hK hP (0) (by decide) (lm_M aC b _) rfl 9 (by decide) (hg _ fl_M_35) (fun _ h9 => h9) rfl d_M_view_47 ?_
          refine lv_iload_n hx hb d_M_view_50 rfl (lv_at hl 1 rfl) ?_
          refine fm_iald hx hb hK hP (9) (by decide) 0 (lm_newest aC b _) rfl cli.toNatClampNeg (vp_e (n := 3) (mc_in h4)) (vp_l (n := 3) (mc_in h4)) (by decide) d_M_view_51 ?_
          refine lv_imul hx hb d_M_view_52 ?_
          refine lv_iload_n hx hb d_M_view_53 rfl (lv_at hl 2 rfl) ?_
          refine lv_iadd hx hb d_M_view_54 ?_
          refine fm_iald hx hb hK hP (3) (by decide) 0 (lm_stood aC b _) rfl (((8 * (mu 9 cli.toNatClampNeg)) + en).toNatClampNeg) (vp_e (n := 4104) (lin_in (k := 8) rfl (smf_new hI _) (me_in h11) (by decide))) (vp_l (n := 4104) (lin_in (k := 8) rfl (smf_new hI _) (me_in h11) (by decide))) (by decide) d_M_view_55 ?_
          exact ro_iret hx hb hr hlocks hf d_M_view_56
        · have hf := hf.trans (if_pos h35)
          refine lv_iconst (v := (-1)) hx hb d_M_view_38 (by decide) ?_
          exact ro_iret hx hb hr hlocks hf d_M_view_39
set_option maxHeartbeats 4000000 in
set_option maxRecDepth 100000 in
theorem c_M_view (l : Launch) (dC : Nat → ClassId) (dI : Nat → Nat → Nat) (aC : Nat → ClassId) (b : Nat) (mu : fm_T) (cli : Int32) (en : Int32) (hI : SafM mu) : Met l y_M_view w_M_view { frames := 2, cells := 0, slots := 0, locals := 46 } (va_Pc [.ref (b + 0), .int cli, .int en] (fm_C (dC, dI) clsx (tysx aC) (LM aC b) b 11 (XM) mu)) (QcRead (f_M_view mu cli en)) 0 0 (fun _ => False) := by
  refine Met.ofW (cc := b_M_view) (maxL := 3) (ret := (some .int)) (by decide) rfl ?_
  intro p e s m args below meth cd s₁ B hml hv
  obtain ⟨rfl, hP, hK, hX⟩ := hv
  have hl := lv_entry ([.ref (b + 0), .int cli, .int en]) (n := 3) (Nat.le_of_ble_eq_true rfl)
  rw [lg_entry_eq]
  generalize (lg_sl ([.ref (b + 0), .int cli, .int en]) ++ List.replicate (3 - (lg_sl ([.ref (b + 0), .int cli, .int en])).length) Slot.unset).toArray = ls at hl ⊢
  exact k_M_view l dC dI aC b ⟨B.exec, B.bytes, B.returns, hml, findClass_of_methodNamed B.named, atoms_spec (ws := w_M_view) B.pre, B.notSynchronized, hK, hX⟩ mu cli en hI ls _ hP hl rfl
