/-! printed by wip/whole/gen: F_isFree F_isOccupied F_after F_moveDrifters F_sees -/
def f_F_isFree (mu : fm_T) (px : Int32) (py : Int32) : Int32 := (if (f_D_isSquare px py) = 0 then 0 else (if (mu 2 ((f_D_placeOf px py).toNatClampNeg)) = 0 then 1 else 0))
theorem e_F_isFree (mu : fm_T) (px : Int32) (py : Int32) : f_F_isFree mu px py = (if (f_D_isSquare px py) = 0 then 0 else (if (mu 2 ((f_D_placeOf px py).toNatClampNeg)) = 0 then 1 else 0)) := rfl
set_option maxHeartbeats 4000000 in
set_option maxRecDepth 100000 in
theorem k_F_isFree (l : Launch) (dC : Nat → ClassId) (dI : Nat → Nat → Nat) (aC : Nat → ClassId) (b : Nat) {p : Program} {e : Env} {s : State} {m : MethodId} {args : Array Value} {below : List Frame} {meth : Method} {cd : Code} (hc : cx (dC, dI) (tysx aC) (XC b) w_F_isFree b_F_isFree R_F 3 (some .boolean) p s m args meth cd) (mu : fm_T) (px : Int32) (py : Int32)  (ls : Array Slot) (F : Int32) (hP : va_P (dC, dI) clsx (fm_w (LC aC b) b 99 mu) s.heap) (hl : lv_has ls 3 [(0, .ref (b + 1)), (1, .int px), (2, .int py)]) (hf : F = f_F_isFree mu px py) : W p l e { frames := 1, cells := 0, slots := 0, locals := 21 } s m args below meth cd s.heap [] 0 0 (MQ below (QcRead F) args s 0 0 (fun _ => False)) (F0 m 0 ls []) := by
  obtain ⟨hx, hb, hr, hml, hown, hts, hlocks, hK, hX⟩ := hc
  have hg : ∀ w ∈ gtbl, w.before args s = true := fun w h => hts w (List.mem_cons_of_mem _ h)
  have hS : va_S (fm_A b 99) s.heap s.heap [] := va_S.rf
  have hf := hf.trans (e_F_isFree mu px py)
  have hX0 := hX
  obtain ⟨t1, t2, ⟨z1, a1⟩, ⟨z2, a2⟩, n1, n2, n3, n4, n5⟩ := hX0
  refine lv_iload_n hx hb d_F_isFree_0 rfl (lv_at hl 1 rfl) ?_
  refine lv_iload_n hx hb d_F_isFree_1 rfl (lv_at hl 2 rfl) ?_
  refine ro_call (va_runSN (As := [.int px, .int py]) (rest := []) ⟨hx, hb, hml, hown, hts⟩ (c_D_isSquare l dC dI aC b mu px py) (cn_S (fun w h => List.mem_cons_of_mem _ h) hts ks_D_isSquare n4 ⟨Nat.le_of_ble_eq_true rfl, Nat.le_of_ble_eq_true rfl⟩ rfl rfl) (fm_preS XC_bl (XC_mv hX hS) hK hP) rfl rfl hl.1 rfl (lv_room (Nat.le_of_ble_eq_true rfl)) d_F_isFree_2 ⟨Nat.zero_le _, Nat.zero_le _⟩) ?_
  refine lv_if_eq (tgt := 25) hx hb d_F_isFree_5 rfl (fun h5 => ?_) (fun h5 => ?_)
  · have hf := hf.trans (if_pos h5)
    refine lv_iconst (v := 0) hx hb d_F_isFree_25 (by decide) ?_
    exact ro_zret hx hb hr hlocks rfl hf d_F_isFree_26
  · have hf := hf.trans (if_neg h5)
    refine lv_aload_n hx hb d_F_isFree_8 rfl (lv_at hl 0 rfl) ?_
    refine fm_get (C := R_F) (T := T_F) (n := 3) (ci := 1) hx hb hg uw_F hown hK hP (1) (by decide) (lc_F aC b _) rfl 0 (by decide) (hg _ fl_F_9) (fun _ h9 => h9) rfl d_F_isFree_9 ?_
    refine lv_iload_n hx hb d_F_isFree_12 rfl (lv_at hl 1 rfl) ?_
    refine lv_iload_n hx hb d_F_isFree_13 rfl (lv_at hl 2 rfl) ?_
    refine ro_call (va_runSN (As := [.int px, .int py]) (rest := [.ref (b + 2)]) ⟨hx, hb, hml, hown, hts⟩ (c_D_placeOf l dC dI aC b mu px py) (cn_S (fun w h => List.mem_cons_of_mem _ h) hts ks_D_placeOf n3 ⟨Nat.le_of_ble_eq_true rfl, Nat.le_of_ble_eq_true rfl⟩ rfl rfl) (fm_preS XC_bl (XC_mv hX hS) hK hP) rfl rfl hl.1 rfl (lv_room (Nat.le_of_ble_eq_true rfl)) d_F_isFree_14 ⟨Nat.zero_le _, Nat.zero_le _⟩) ?_
    refine fm_zald hx hb hK hP (2) (by decide) 1 (lc_walls aC b _) rfl ((f_D_placeOf px py).toNatClampNeg) (vp_e (n := 256) (sq_in h5)) (vp_l (n := 256) (sq_in h5)) (by decide) d_F_isFree_17 ?_
    refine lv_if_ne (tgt := 25) hx hb d_F_isFree_18 rfl (fun h18 => ?_) (fun h18 => ?_)
    · have hf := hf.trans (if_neg h18)
      refine lv_iconst (v := 0) hx hb d_F_isFree_25 (by decide) ?_
      exact ro_zret hx hb hr hlocks rfl hf d_F_isFree_26
    · have hf := hf.trans (if_pos h18)
      refine lv_iconst (v := 1) hx hb d_F_isFree_21 (by decide) ?_
      refine lv_goto (tgt := 26) hx hb d_F_isFree_22 rfl ?_
      exact ro_zret hx hb hr hlocks rfl hf d_F_isFree_26
set_option maxHeartbeats 4000000 in
set_option maxRecDepth 100000 in
theorem c_F_isFree (l : Launch) (dC : Nat → ClassId) (dI : Nat → Nat → Nat) (aC : Nat → ClassId) (b : Nat) (mu : fm_T) (px : Int32) (py : Int32)  : Met l y_F_isFree w_F_isFree { frames := 1, cells := 0, slots := 0, locals := 21 } (va_Pc [.ref (b + 1), .int px, .int py] (fm_C (dC, dI) clsx (tysx aC) (LC aC b) b 99 (XC b) mu)) (QcRead (f_F_isFree mu px py)) 0 0 (fun _ => False) := by
  refine Met.ofW (cc := b_F_isFree) (maxL := 3) (ret := (some .boolean)) (by decide) rfl ?_
  intro p e s m args below meth cd s₁ B hml hv
  obtain ⟨rfl, hP, hK, hX⟩ := hv
  have hl := lv_entry ([.ref (b + 1), .int px, .int py]) (n := 3) (Nat.le_of_ble_eq_true rfl)
  rw [lg_entry_eq]
  generalize (lg_sl ([.ref (b + 1), .int px, .int py]) ++ List.replicate (3 - (lg_sl ([.ref (b + 1), .int px, .int py])).length) Slot.unset).toArray = ls at hl ⊢
  exact k_F_isFree l dC dI aC b ⟨B.exec, B.bytes, B.returns, hml, findClass_of_methodNamed B.named, atoms_spec (ws := w_F_isFree) B.pre, B.notSynchronized, hK, hX⟩ mu px py ls _ hP hl rfl
def f_F_isOccupied_2 : Nat → fm_T → Int32 → Nat → Int32
  | 0, _, _, _ => 0
  | n + 1, mu, sq, j => (if 8 ≤ (nI j) then 0 else (if (mu 3 j) = sq then 1 else (f_F_isOccupied_2 n mu sq (j + 1))))
theorem e_F_isOccupied_2 (n : Nat) (mu : fm_T) (sq : Int32) (j : Nat) : f_F_isOccupied_2 (n + 1) mu sq j = (if 8 ≤ (nI j) then 0 else (if (mu 3 j) = sq then 1 else (f_F_isOccupied_2 n mu sq (j + 1)))) := rfl
set_option maxHeartbeats 4000000 in
set_option maxRecDepth 100000 in
theorem k_F_isOccupied_2 (l : Launch) (dC : Nat → ClassId) (dI : Nat → Nat → Nat) (aC : Nat → ClassId) (b : Nat) {p : Program} {e : Env} {s : State} {m : MethodId} {args : Array Value} {below : List Frame} {meth : Method} {cd : Code} (hc : cx (dC, dI) (tysx aC) (XC b) w_F_isOccupied b_F_isOccupied R_F 3 (some .boolean) p s m args meth cd) : ∀ (n : Nat) (mu : fm_T) (sq : Int32) (j : Nat) (hj : j ≤ 8) (hn : 8 < j + n) (ls : Array Slot) (F : Int32) (hP : va_P (dC, dI) clsx (fm_w (LC aC b) b 99 mu) s.heap) (hl : lv_has ls 3 [(0, .ref (b + 1)), (1, .int sq), (2, .int (nI j))]) (hf : F = f_F_isOccupied_2 n mu sq j), W p l e { frames := 0, cells := 0, slots := 0, locals := 0 } s m args below meth cd s.heap [] 0 0 (MQ below (QcRead F) args s 0 0 (fun _ => False)) (F0 m 2 ls []) := by
  obtain ⟨hx, hb, hr, hml, hown, hts, hlocks, hK, hX⟩ := hc
  have hg : ∀ w ∈ gtbl, w.before args s = true := fun w h => hts w (List.mem_cons_of_mem _ h)
  have hS : va_S (fm_A b 99) s.heap s.heap [] := va_S.rf
  intro n
  induction n with
  | zero =>
    intro mu sq j hj hn ls F hP hl hf
    exfalso
    omega
  | succ n ih =>
    intro mu sq j hj hn ls F hP hl hf
    have hf := hf.trans (e_F_isOccupied_2 n mu sq j)
    refine lv_iload_n hx hb d_F_isOccupied_2 rfl (lv_at hl 2 rfl) ?_
    refine lv_bipush (v := 8) hx hb d_F_isOccupied_3 (by decide) ?_
    refine lv_icmp_ge (tgt := 26) hx hb d_F_isOccupied_5 rfl (fun h5 => ?_) (fun h5 => ?_)
    · have hf := hf.trans (if_pos h5)
      refine lv_iconst (v := 0) hx hb d_F_isOccupied_26 (by decide) ?_
      exact ro_zret hx hb hr hlocks rfl hf d_F_isOccupied_27
    · have hf := hf.trans (if_neg h5)
      have hj8 : j < 8 := lp_lt rfl hj (by decide) h5
      refine lv_aload_n hx hb d_F_isOccupied_8 rfl (lv_at hl 0 rfl) ?_
      refine fm_get (C := R_F) (T := T_F) (n := 3) (ci := 1) hx hb hg uw_F hown hK hP (1) (by decide) (lc_F aC b _) rfl 1 (by decide) (hg _ fl_F_15) (fun _ h9 => h9) rfl d_F_isOccupied_9 ?_
      refine lv_iload_n hx hb d_F_isOccupied_12 rfl (lv_at hl 2 rfl) ?_
      refine fm_iald hx hb hK hP (3) (by decide) 0 (lc_places aC b _) rfl j rfl (by omega) (by decide) d_F_isOccupied_13 ?_
      refine lv_iload_n hx hb d_F_isOccupied_14 rfl (lv_at hl 1 rfl) ?_
      refine lv_icmp_ne (tgt := 20) hx hb d_F_isOccupied_15 rfl (fun h15 => ?_) (fun h15 => ?_)
      · have hf := hf.trans (if_neg h15)
        refine lv_iinc (k := 2) (v := (nI (j + 1))) (lv' := [(2, .int (nI (j + 1))), (0, .ref (b + 1)), (1, .int sq)]) hx hb d_F_isOccupied_20 hl rfl (nI_1 _) (by decide) rfl (fun ls hl => ?_)
        refine lv_goto (tgt := 2) hx hb d_F_isOccupied_23 rfl ?_
        exact ih mu sq (j + 1) (by omega) (by omega)  ls _ hP  (lv_sub hl [1, 2, 0] rfl) hf
      · have hf := hf.trans (if_pos h15)
        refine lv_iconst (v := 1) hx hb d_F_isOccupied_18 (by decide) ?_
        exact ro_zret hx hb hr hlocks rfl hf d_F_isOccupied_19
def f_F_isOccupied (mu : fm_T) (sq : Int32) : Int32 := (f_F_isOccupied_2 9 mu sq 0)
theorem e_F_isOccupied (mu : fm_T) (sq : Int32) : f_F_isOccupied mu sq = (f_F_isOccupied_2 9 mu sq 0) := rfl
set_option maxHeartbeats 4000000 in
set_option maxRecDepth 100000 in
theorem k_F_isOccupied (l : Launch) (dC : Nat → ClassId) (dI : Nat → Nat → Nat) (aC : Nat → ClassId) (b : Nat) {p : Program} {e : Env} {s : State} {m : MethodId} {args : Array Value} {below : List Frame} {meth : Method} {cd : Code} (hc : cx (dC, dI) (tysx aC) (XC b) w_F_isOccupied b_F_isOccupied R_F 3 (some .boolean) p s m args meth cd) (mu : fm_T) (sq : Int32)  (ls : Array Slot) (F : Int32) (hP : va_P (dC, dI) clsx (fm_w (LC aC b) b 99 mu) s.heap) (hl : lv_has ls 3 [(0, .ref (b + 1)), (1, .int sq)]) (hf : F = f_F_isOccupied mu sq) : W p l e { frames := 0, cells := 0, slots := 0, locals := 0 } s m args below meth cd s.heap [] 0 0 (MQ below (QcRead F) args s 0 0 (fun _ => False)) (F0 m 0 ls []) := by
  obtain ⟨hx, hb, hr, hml, hown, hts, hlocks, hK, hX⟩ := hc
  have hg : ∀ w ∈ gtbl, w.before args s = true := fun w h => hts w (List.mem_cons_of_mem _ h)
  have hS : va_S (fm_A b 99) s.heap s.heap [] := va_S.rf
  have hf := hf.trans (e_F_isOccupied mu sq)
  refine lv_iconst (v := 0) hx hb d_F_isOccupied_0 (by decide) ?_
  refine lv_istore_n (lv' := [(2, .int 0), (0, .ref (b + 1)), (1, .int sq)]) hx hb d_F_isOccupied_1 rfl hl (by decide) rfl (fun ls hl => ?_)
  exact k_F_isOccupied_2 l dC dI aC b ⟨hx, hb, hr, hml, hown, hts, hlocks, hK, hX⟩ 9 mu sq 0 (by decide) (by decide)  ls _ hP  (lv_sub hl [1, 2, 0] rfl) hf
set_option maxHeartbeats 4000000 in
set_option maxRecDepth 100000 in
theorem c_F_isOccupied (l : Launch) (dC : Nat → ClassId) (dI : Nat → Nat → Nat) (aC : Nat → ClassId) (b : Nat) (mu : fm_T) (sq : Int32)  : Met l y_F_isOccupied w_F_isOccupied { frames := 0, cells := 0, slots := 0, locals := 0 } (va_Pc [.ref (b + 1), .int sq] (fm_C (dC, dI) clsx (tysx aC) (LC aC b) b 99 (XC b) mu)) (QcRead (f_F_isOccupied mu sq)) 0 0 (fun _ => False) := by
  refine Met.ofW (cc := b_F_isOccupied) (maxL := 3) (ret := (some .boolean)) (by decide) rfl ?_
  intro p e s m args below meth cd s₁ B hml hv
  obtain ⟨rfl, hP, hK, hX⟩ := hv
  have hl := lv_entry ([.ref (b + 1), .int sq]) (n := 3) (Nat.le_of_ble_eq_true rfl)
  rw [lg_entry_eq]
  generalize (lg_sl ([.ref (b + 1), .int sq]) ++ List.replicate (3 - (lg_sl ([.ref (b + 1), .int sq])).length) Slot.unset).toArray = ls at hl ⊢
  exact k_F_isOccupied l dC dI aC b ⟨B.exec, B.bytes, B.returns, hml, findClass_of_methodNamed B.named, atoms_spec (ws := w_F_isOccupied) B.pre, B.notSynchronized, hK, hX⟩ mu sq ls _ hP hl rfl
def f_F_after (mu : fm_T) (fr : Int32) (cmd : Int32) : Int32 := (if (f_F_isFree mu ((fr - fr / 16 * 16) + (sX cmd.toNatClampNeg)) ((fr / 16) + (sY cmd.toNatClampNeg))) = 0 then fr else f_D_placeOf ((fr - fr / 16 * 16) + (sX cmd.toNatClampNeg)) ((fr / 16) + (sY cmd.toNatClampNeg)))
theorem e_F_after (mu : fm_T) (fr : Int32) (cmd : Int32) : f_F_after mu fr cmd = (if (f_F_isFree mu ((fr - fr / 16 * 16) + (sX cmd.toNatClampNeg)) ((fr / 16) + (sY cmd.toNatClampNeg))) = 0 then fr else f_D_placeOf ((fr - fr / 16 * 16) + (sX cmd.toNatClampNeg)) ((fr / 16) + (sY cmd.toNatClampNeg))) := rfl
set_option maxHeartbeats 4000000 in
set_option maxRecDepth 100000 in
theorem k_F_after (l : Launch) (dC : Nat → ClassId) (dI : Nat → Nat → Nat) (aC : Nat → ClassId) (b : Nat) {p : Program} {e : Env} {s : State} {m : MethodId} {args : Array Value} {below : List Frame} {meth : Method} {cd : Code} (hc : cx (dC, dI) (tysx aC) (XC b) w_F_after b_F_after R_F 5 (some .int) p s m args meth cd) (mu : fm_T) (fr : Int32) (cmd : Int32) (hcm : vp_in cmd 5) (ls : Array Slot) (F : Int32) (hP : va_P (dC, dI) clsx (fm_w (LC aC b) b 99 mu) s.heap) (hl : lv_has ls 5 [(0, .ref (b + 1)), (1, .int fr), (2, .int cmd)]) (hf : F = f_F_after mu fr cmd) : W p l e { frames := 2, cells := 0, slots := 0, locals := 43 } s m args below meth cd s.heap [] 0 0 (MQ below (QcRead F) args s 0 0 (fun _ => False)) (F0 m 0 ls []) := by
  obtain ⟨hx, hb, hr, hml, hown, hts, hlocks, hK, hX⟩ := hc
  have hg : ∀ w ∈ gtbl, w.before args s = true := fun w h => hts w (List.mem_cons_of_mem _ h)
  have hS : va_S (fm_A b 99) s.heap s.heap [] := va_S.rf
  have hf := hf.trans (e_F_after mu fr cmd)
  have hX0 := hX
  obtain ⟨t1, t2, ⟨z1, a1⟩, ⟨z2, a2⟩, n1, n2, n3, n4, n5⟩ := hX0
  refine lv_iload_n hx hb d_F_after_0 rfl (lv_at hl 1 rfl) ?_
  refine lv_bipush (v := 16) hx hb d_F_after_1 (by decide) ?_
  refine lv_irem hx hb d_F_after_3 (by decide) ?_
  refine va_getsN (v := .ref t1) hx hb z1 hS hown (va_Nw.use rfl n1) (fun _ h9 => h9) d_F_after_4 ?_
  refine lv_iload_n hx hb d_F_after_7 rfl (lv_at hl 2 rfl) ?_
  refine va_ti (v := .int (sX cmd.toNatClampNeg)) hx hb a1 hS hcm rfl d_F_after_8 ?_
  refine lv_iadd hx hb d_F_after_9 ?_
  refine lv_istore_n (lv' := [(3, .int ((fr - fr / 16 * 16) + (sX cmd.toNatClampNeg))), (0, .ref (b + 1)), (1, .int fr), (2, .int cmd)]) hx hb d_F_after_10 rfl hl (by decide) rfl (fun ls hl => ?_)
  refine lv_iload_n hx hb d_F_after_11 rfl (lv_at hl 2 rfl) ?_
  refine lv_bipush (v := 16) hx hb d_F_after_12 (by decide) ?_
  refine lv_idiv hx hb d_F_after_14 (by decide) ?_
  refine va_getsN (v := .ref t2) hx hb z2 hS hown (va_Nw.use rfl n2) (fun _ h9 => h9) d_F_after_15 ?_
  refine lv_iload_n hx hb d_F_after_18 rfl (lv_at hl 3 rfl) ?_
  refine va_ti (v := .int (sY cmd.toNatClampNeg)) hx hb a2 hS hcm rfl d_F_after_19 ?_
  refine lv_iadd hx hb d_F_after_20 ?_
  refine lv_istore (lv' := [(4, .int ((fr / 16) + (sY cmd.toNatClampNeg))), (3, .int ((fr - fr / 16 * 16) + (sX cmd.toNatClampNeg))), (0, .ref (b + 1)), (1, .int fr), (2, .int cmd)]) hx hb d_F_after_21 hl (by decide) rfl (fun ls hl => ?_)
  refine lv_aload_n hx hb d_F_after_23 rfl (lv_at hl 2 rfl) ?_
  refine lv_iload_n hx hb d_F_after_24 rfl (lv_at hl 1 rfl) ?_
  refine lv_iload hx hb d_F_after_25 (lv_at hl 0 rfl) ?_
  refine ro_call (va_runV (As := [.int ((fr - fr / 16 * 16) + (sX cmd.toNatClampNeg)), .int ((fr / 16) + (sY cmd.toNatClampNeg))]) (rest := []) ⟨hx, hb, hml, hown, hts⟩ (c_F_isFree l dC dI aC b mu ((fr - fr / 16 * 16) + (sX cmd.toNatClampNeg)) ((fr / 16) + (sY cmd.toNatClampNeg))) (cw_V (fun w h => List.mem_cons_of_mem _ h) hts kv_F_isFree ml_F_36 ⟨Nat.le_of_ble_eq_true rfl, Nat.le_of_ble_eq_true rfl⟩ rfl rfl) (fm_preV XC_bl (XC_mv hX hS) hK hP (1) (by decide) (lc_F aC b _) rfl) rfl rfl hl.1 rfl (lv_room (Nat.le_of_ble_eq_true rfl)) d_F_after_27 ⟨Nat.zero_le _, Nat.zero_le _⟩) ?_
  refine lv_if_eq (tgt := 42) hx hb d_F_after_30 rfl (fun h30 => ?_) (fun h30 => ?_)
  · have hf := hf.trans (if_pos h30)
    refine lv_iload_n hx hb d_F_after_42 rfl (lv_at hl 3 rfl) ?_
    exact ro_iret hx hb hr hlocks hf d_F_after_43
  · have hf := hf.trans (if_neg h30)
    refine lv_iload_n hx hb d_F_after_33 rfl (lv_at hl 1 rfl) ?_
    refine lv_iload hx hb d_F_after_34 (lv_at hl 0 rfl) ?_
    refine ro_call (va_runSN (As := [.int ((fr - fr / 16 * 16) + (sX cmd.toNatClampNeg)), .int ((fr / 16) + (sY cmd.toNatClampNeg))]) (rest := []) ⟨hx, hb, hml, hown, hts⟩ (c_D_placeOf l dC dI aC b mu ((fr - fr / 16 * 16) + (sX cmd.toNatClampNeg)) ((fr / 16) + (sY cmd.toNatClampNeg))) (cn_S (fun w h => List.mem_cons_of_mem _ h) hts ks_D_placeOf n3 ⟨Nat.le_of_ble_eq_true rfl, Nat.le_of_ble_eq_true rfl⟩ rfl rfl) (fm_preS XC_bl (XC_mv hX hS) hK hP) rfl rfl hl.1 rfl (lv_room (Nat.le_of_ble_eq_true rfl)) d_F_after_36 ⟨Nat.zero_le _, Nat.zero_le _⟩) ?_
    refine lv_goto (tgt := 43) hx hb d_F_after_39 rfl ?_
    exact ro_iret hx hb hr hlocks hf d_F_after_43
set_option maxHeartbeats 4000000 in
set_option maxRecDepth 100000 in
theorem c_F_after (l : Launch) (dC : Nat → ClassId) (dI : Nat → Nat → Nat) (aC : Nat → ClassId) (b : Nat) (mu : fm_T) (fr : Int32) (cmd : Int32) (hcm : vp_in cmd 5) : Met l y_F_after w_F_after { frames := 2, cells := 0, slots := 0, locals := 43 } (va_Pc [.ref (b + 1), .int fr, .int cmd] (fm_C (dC, dI) clsx (tysx aC) (LC aC b) b 99 (XC b) mu)) (QcRead (f_F_after mu fr cmd)) 0 0 (fun _ => False) := by
  refine Met.ofW (cc := b_F_after) (maxL := 5) (ret := (some .int)) (by decide) rfl ?_
  intro p e s m args below meth cd s₁ B hml hv
  obtain ⟨rfl, hP, hK, hX⟩ := hv
  have hl := lv_entry ([.ref (b + 1), .int fr, .int cmd]) (n := 5) (Nat.le_of_ble_eq_true rfl)
  rw [lg_entry_eq]
  generalize (lg_sl ([.ref (b + 1), .int fr, .int cmd]) ++ List.replicate (5 - (lg_sl ([.ref (b + 1), .int fr, .int cmd])).length) Slot.unset).toArray = ls at hl ⊢
  exact k_F_after l dC dI aC b ⟨B.exec, B.bytes, B.returns, hml, findClass_of_methodNamed B.named, atoms_spec (ws := w_F_after) B.pre, B.notSynchronized, hK, hX⟩ mu fr cmd hcm ls _ hP hl rfl
def f_F_moveDrifters_2 : Nat → fm_T → Nat → fm_T
  | 0, mu, _ => mu
  | n + 1, mu, j => (if 8 ≤ (nI j) then mu else (if (f_F_after mu (mu 3 j) (mu 4 j)) = (mu 3 j) then (f_F_moveDrifters_2 n (fm_up (fm_up mu 4 j (((mu 4 j) + 2) - ((mu 4 j) + 2) / 4 * 4)) 3 j (f_F_after mu (mu 3 j) (mu 4 j))) (j + 1)) else (f_F_moveDrifters_2 n (fm_up mu 3 j (f_F_after mu (mu 3 j) (mu 4 j))) (j + 1))))
theorem e_F_moveDrifters_2 (n : Nat) (mu : fm_T) (j : Nat) : f_F_moveDrifters_2 (n + 1) mu j = (if 8 ≤ (nI j) then mu else (if (f_F_after mu (mu 3 j) (mu 4 j)) = (mu 3 j) then (f_F_moveDrifters_2 n (fm_up (fm_up mu 4 j (((mu 4 j) + 2) - ((mu 4 j) + 2) / 4 * 4)) 3 j (f_F_after mu (mu 3 j) (mu 4 j))) (j + 1)) else (f_F_moveDrifters_2 n (fm_up mu 3 j (f_F_after mu (mu 3 j) (mu 4 j))) (j + 1)))) := rfl
set_option maxHeartbeats 4000000 in
set_option maxRecDepth 100000 in
theorem k_F_moveDrifters_2 (l : Launch) (dC : Nat → ClassId) (dI : Nat → Nat → Nat) (aC : Nat → ClassId) (b : Nat) {p : Program} {e : Env} {s : State} {m : MethodId} {args : Array Value} {below : List Frame} {meth : Method} {cd : Code} (hc : cx (dC, dI) (tysx aC) (XC b) w_F_moveDrifters b_F_moveDrifters R_F 3 none p s m args meth cd) : ∀ (n : Nat) (mu : fm_T) (j : Nat) (hj : j ≤ 8) (hn : 8 < j + n) (hI : SafC mu) (H : Heap) (locs : List Loc) (ls : Array Slot) (F : fm_T) (hP : va_P (dC, dI) clsx (fm_w (LC aC b) b 99 mu) H) (hS : va_S (fm_A b 99) s.heap H locs) (hl : lv_has ls 3 [(0, .ref (b + 1)), (1, .int (nI j))]) (hf : F = f_F_moveDrifters_2 n mu j), W p l e { frames := 3, cells := 0, slots := 0, locals := 67 } s m args below meth cd H locs 0 0 (MQ below (va_Qv (fun u => u = F) (fm_B (dC, dI) clsx (tysx aC) (LC aC b) b 99) (fm_A b 99)) args s 0 0 (fm_A b 99)) (F0 m 2 ls []) := by
  obtain ⟨hx, hb, hr, hml, hown, hts, hlocks, hK, hX⟩ := hc
  have hg : ∀ w ∈ gtbl, w.before args s = true := fun w h => hts w (List.mem_cons_of_mem _ h)
  intro n
  induction n with
  | zero =>
    intro mu j hj hn hI H locs ls F hP hS hl hf
    exfalso
    omega
  | succ n ih =>
    intro mu j hj hn hI H locs ls F hP hS hl hf
    have hf := hf.trans (e_F_moveDrifters_2 n mu j)
    refine lv_iload_n hx hb d_F_moveDrifters_2 rfl (lv_at hl 1 rfl) ?_
    refine lv_bipush (v := 8) hx hb d_F_moveDrifters_3 (by decide) ?_
    refine lv_icmp_ge (tgt := 64) hx hb d_F_moveDrifters_5 rfl (fun h5 => ?_) (fun h5 => ?_)
    · have hf := hf.trans (if_pos h5)
      exact rw_vret hx hb hr hlocks hK hP hS hf d_F_moveDrifters_64
    · have hf := hf.trans (if_neg h5)
      have hj8 : j < 8 := lp_lt rfl hj (by decide) h5
      refine lv_aload_n hx hb d_F_moveDrifters_8 rfl (lv_at hl 0 rfl) ?_
      refine lv_aload_n hx hb d_F_moveDrifters_9 rfl (lv_at hl 0 rfl) ?_
      refine fm_get (C := R_F) (T := T_F) (n := 3) (ci := 1) hx hb hg uw_F hown hK hP (1) (by decide) (lc_F aC b _) rfl 1 (by decide) (hg _ fl_F_15) (fun _ h9 => h9) rfl d_F_moveDrifters_10 ?_
      refine lv_iload_n hx hb d_F_moveDrifters_13 rfl (lv_at hl 1 rfl) ?_
      refine fm_iald hx hb hK hP (3) (by decide) 0 (lc_places aC b _) rfl j rfl (by omega) (by decide) d_F_moveDrifters_14 ?_
      refine lv_aload_n hx hb d_F_moveDrifters_15 rfl (lv_at hl 0 rfl) ?_
      refine fm_get (C := R_F) (T := T_F) (n := 3) (ci := 1) hx hb hg uw_F hown hK hP (1) (by decide) (lc_F aC b _) rfl 2 (by decide) (hg _ fl_F_19) (fun _ h9 => h9) rfl d_F_moveDrifters_16 ?_
      refine lv_iload_n hx hb d_F_moveDrifters_19 rfl (lv_at hl 1 rfl) ?_
      refine fm_iald hx hb hK hP (4) (by decide) 0 (lc_dirs aC b _) rfl j rfl (by omega) (by decide) d_F_moveDrifters_20 ?_
      refine ro_call (va_runV (As := [.int (mu 3 j), .int (mu 4 j)]) (rest := []) ⟨hx, hb, hml, hown, hts⟩ (c_F_after l dC dI aC b mu (mu 3 j) (mu 4 j) (saf_dir hI _)) (cw_V (fun w h => List.mem_cons_of_mem _ h) hts kv_F_after ml_F_39 ⟨Nat.le_of_ble_eq_true rfl, Nat.le_of_ble_eq_true rfl⟩ rfl rfl) (fm_preV XC_bl (XC_mv hX hS) hK hP (1) (by decide) (lc_F aC b _) rfl) rfl rfl hl.1 rfl (lv_room (Nat.le_of_ble_eq_true rfl)) d_F_moveDrifters_21 ⟨Nat.zero_le _, Nat.zero_le _⟩) ?_
      refine lv_istore_n (lv' := [(2, .int (f_F_after mu (mu 3 j) (mu 4 j))), (0, .ref (b + 1)), (1, .int (nI j))]) hx hb d_F_moveDrifters_24 rfl hl (by decide) rfl (fun ls hl => ?_)
      refine lv_iload_n hx hb d_F_moveDrifters_25 rfl (lv_at hl 0 rfl) ?_
      refine lv_aload_n hx hb d_F_moveDrifters_26 rfl (lv_at hl 1 rfl) ?_
      refine fm_get (C := R_F) (T := T_F) (n := 3) (ci := 1) hx hb hg uw_F hown hK hP (1) (by decide) (lc_F aC b _) rfl 1 (by decide) (hg _ fl_F_15) (fun _ h9 => h9) rfl d_F_moveDrifters_27 ?_
      refine lv_iload_n hx hb d_F_moveDrifters_30 rfl (lv_at hl 2 rfl) ?_
      refine fm_iald hx hb hK hP (3) (by decide) 0 (lc_places aC b _) rfl j rfl (by omega) (by decide) d_F_moveDrifters_31 ?_
      refine lv_icmp_ne (tgt := 51) hx hb d_F_moveDrifters_32 rfl (fun h32 => ?_) (fun h32 => ?_)
      · have hf := hf.trans (if_neg h32)
        refine lv_aload_n hx hb d_F_moveDrifters_51 rfl (lv_at hl 1 rfl) ?_
        refine fm_get (C := R_F) (T := T_F) (n := 3) (ci := 1) hx hb hg uw_F hown hK hP (1) (by decide) (lc_F aC b _) rfl 1 (by decide) (hg _ fl_F_15) (fun _ h9 => h9) rfl d_F_moveDrifters_52 ?_
        refine lv_iload_n hx hb d_F_moveDrifters_55 rfl (lv_at hl 2 rfl) ?_
        refine lv_iload_n hx hb d_F_moveDrifters_56 rfl (lv_at hl 0 rfl) ?_
        refine fm_iast hx hb hK (fun _ h => h) hP hS (3) (by decide) 0 (lc_places aC b _) rfl j rfl (by omega) (by decide) (lc_places aC b _) d_F_moveDrifters_57 (fun H locs hP hS => ?_)
        refine lv_iinc (k := 2) (v := (nI (j + 1))) (lv' := [(1, .int (nI (j + 1))), (2, .int (f_F_after mu (mu 3 j) (mu 4 j))), (0, .ref (b + 1))]) hx hb d_F_moveDrifters_58 hl rfl (nI_1 _) (by decide) rfl (fun ls hl => ?_)
        refine lv_goto (tgt := 2) hx hb d_F_moveDrifters_61 rfl ?_
        exact ih (fm_up mu 3 j (f_F_after mu (mu 3 j) (mu 4 j))) (j + 1) (by omega) (by omega) (saf_up hI (ok_3 _ _)) _ _ ls _ hP hS (lv_sub hl [2, 0] rfl) hf
      · have hf := hf.trans (if_pos h32)
        refine lv_aload_n hx hb d_F_moveDrifters_35 rfl (lv_at hl 1 rfl) ?_
        refine fm_get (C := R_F) (T := T_F) (n := 3) (ci := 1) hx hb hg uw_F hown hK hP (1) (by decide) (lc_F aC b _) rfl 2 (by decide) (hg _ fl_F_19) (fun _ h9 => h9) rfl d_F_moveDrifters_36 ?_
        refine lv_iload_n hx hb d_F_moveDrifters_39 rfl (lv_at hl 2 rfl) ?_
        refine lv_aload_n hx hb d_F_moveDrifters_40 rfl (lv_at hl 1 rfl) ?_
        refine fm_get (C := R_F) (T := T_F) (n := 3) (ci := 1) hx hb hg uw_F hown hK hP (1) (by decide) (lc_F aC b _) rfl 2 (by decide) (hg _ fl_F_19) (fun _ h9 => h9) rfl d_F_moveDrifters_41 ?_
        refine lv_iload_n hx hb d_F_moveDrifters_44 rfl (lv_at hl 2 rfl) ?_
        refine fm_iald hx hb hK hP (4) (by decide) 0 (lc_dirs aC b _) rfl j rfl (by omega) (by decide) d_F_moveDrifters_45 ?_
        refine lv_iconst (v := 2) hx hb d_F_moveDrifters_46 (by decide) ?_
        refine lv_iadd hx hb d_F_moveDrifters_47 ?_
        refine lv_iconst (v := 4) hx hb d_F_moveDrifters_48 (by decide) ?_
        refine lv_irem hx hb d_F_moveDrifters_49 (by decide) ?_
        refine fm_iast hx hb hK (fun _ h => h) hP hS (4) (by decide) 0 (lc_dirs aC b _) rfl j rfl (by omega) (by decide) (lc_dirs aC b _) d_F_moveDrifters_50 (fun H locs hP hS => ?_)
        refine lv_aload_n hx hb d_F_moveDrifters_51 rfl (lv_at hl 1 rfl) ?_
        refine fm_get (C := R_F) (T := T_F) (n := 3) (ci := 1) hx hb hg uw_F hown hK hP (1) (by decide) (lc_F aC b _) rfl 1 (by decide) (hg _ fl_F_15) (fun _ h9 => h9) rfl d_F_moveDrifters_52 ?_
        refine lv_iload_n hx hb d_F_moveDrifters_55 rfl (lv_at hl 2 rfl) ?_
        refine lv_iload_n hx hb d_F_moveDrifters_56 rfl (lv_at hl 0 rfl) ?_
        refine fm_iast hx hb hK (fun _ h => h) hP hS (3) (by decide) 0 (lc_places aC b _) rfl j rfl (by omega) (by decide) (lc_places aC b _) d_F_moveDrifters_57 (fun H locs hP hS => ?_)
        refine lv_iinc (k := 2) (v := (nI (j + 1))) (lv' := [(1, .int (nI (j + 1))), (2, .int (f_F_after mu (mu 3 j) (mu 4 j))), (0, .ref (b + 1))]) hx hb d_F_moveDrifters_58 hl rfl (nI_1 _) (by decide) rfl (fun ls hl => ?_)
        refine lv_goto (tgt := 2) hx hb d_F_moveDrifters_61 rfl ?_
        exact ih (fm_up (fm_up mu 4 j (((mu 4 j) + 2) - ((mu 4 j) + 2) / 4 * 4)) 3 j (f_F_after mu (mu 3 j) (mu 4 j))) (j + 1) (by omega) (by omega) (saf_up (saf_up hI (ok_4 (dir_rem (saf_dir hI _)))) (ok_3 _ _)) _ _ ls _ hP hS (lv_sub hl [2, 0] rfl) hf
def f_F_moveDrifters (mu : fm_T) : fm_T := (f_F_moveDrifters_2 6 mu 3)
theorem e_F_moveDrifters (mu : fm_T) : f_F_moveDrifters mu = (f_F_moveDrifters_2 6 mu 3) := rfl
set_option maxHeartbeats 4000000 in
set_option maxRecDepth 100000 in
theorem k_F_moveDrifters (l : Launch) (dC : Nat → ClassId) (dI : Nat → Nat → Nat) (aC : Nat → ClassId) (b : Nat) {p : Program} {e : Env} {s : State} {m : MethodId} {args : Array Value} {below : List Frame} {meth : Method} {cd : Code} (hc : cx (dC, dI) (tysx aC) (XC b) w_F_moveDrifters b_F_moveDrifters R_F 3 none p s m args meth cd) (mu : fm_T)  (hI : SafC mu) (H : Heap) (locs : List Loc) (ls : Array Slot) (F : fm_T) (hP : va_P (dC, dI) clsx (fm_w (LC aC b) b 99 mu) H) (hS : va_S (fm_A b 99) s.heap H locs) (hl : lv_has ls 3 [(0, .ref (b + 1))]) (hf : F = f_F_moveDrifters mu) : W p l e { frames := 3, cells := 0, slots := 0, locals := 67 } s m args below meth cd H locs 0 0 (MQ below (va_Qv (fun u => u = F) (fm_B (dC, dI) clsx (tysx aC) (LC aC b) b 99) (fm_A b 99)) args s 0 0 (fm_A b 99)) (F0 m 0 ls []) := by
  obtain ⟨hx, hb, hr, hml, hown, hts, hlocks, hK, hX⟩ := hc
  have hg : ∀ w ∈ gtbl, w.before args s = true := fun w h => hts w (List.mem_cons_of_mem _ h)
  have hf := hf.trans (e_F_moveDrifters mu)
  refine lv_iconst (v := 3) hx hb d_F_moveDrifters_0 (by decide) ?_
  refine lv_istore_n (lv' := [(1, .int 3), (0, .ref (b + 1))]) hx hb d_F_moveDrifters_1 rfl hl (by decide) rfl (fun ls hl => ?_)
  exact k_F_moveDrifters_2 l dC dI aC b ⟨hx, hb, hr, hml, hown, hts, hlocks, hK, hX⟩ 6 mu 3 (by decide) (by decide) hI _ _ ls _ hP hS (lv_sub hl [1, 0] rfl) hf
set_option maxHeartbeats 4000000 in
set_option maxRecDepth 100000 in
theorem c_F_moveDrifters (l : Launch) (dC : Nat → ClassId) (dI : Nat → Nat → Nat) (aC : Nat → ClassId) (b : Nat) (mu : fm_T)  (hI : SafC mu) : Met l y_F_moveDrifters w_F_moveDrifters { frames := 3, cells := 0, slots := 0, locals := 67 } (va_Pc [.ref (b + 1)] (fm_C (dC, dI) clsx (tysx aC) (LC aC b) b 99 (XC b) mu)) (va_Qv (fun u => u = (f_F_moveDrifters mu)) (fm_B (dC, dI) clsx (tysx aC) (LC aC b) b 99) (fm_A b 99)) 0 0 (fm_A b 99) := by
  refine Met.ofW (cc := b_F_moveDrifters) (maxL := 3) (ret := none) (by decide) rfl ?_
  intro p e s m args below meth cd s₁ B hml hv
  obtain ⟨rfl, hP, hK, hX⟩ := hv
  have hl := lv_entry ([.ref (b + 1)]) (n := 3) (Nat.le_of_ble_eq_true rfl)
  rw [lg_entry_eq]
  generalize (lg_sl ([.ref (b + 1)]) ++ List.replicate (3 - (lg_sl ([.ref (b + 1)])).length) Slot.unset).toArray = ls at hl ⊢
  exact k_F_moveDrifters l dC dI aC b ⟨B.exec, B.bytes, B.returns, hml, findClass_of_methodNamed B.named, atoms_spec (ws := w_F_moveDrifters) B.pre, B.notSynchronized, hK, hX⟩ mu hI _ _ ls _ hP va_S.rf hl rfl
def f_F_sees_47 (mu : fm_T) (ac : Int32) (dn : Int32) : Int32 := (if 1 < (if 0 ≤ ac then ac else 0 - ac) then 0 else (if 1 < (if 0 ≤ dn then dn else 0 - dn) then 0 else 1))
theorem e_F_sees_47 (mu : fm_T) (ac : Int32) (dn : Int32) : f_F_sees_47 mu ac dn = (if 1 < (if 0 ≤ ac then ac else 0 - ac) then 0 else (if 1 < (if 0 ≤ dn then dn else 0 - dn) then 0 else 1)) := rfl
set_option maxHeartbeats 4000000 in
set_option maxRecDepth 100000 in
theorem k_F_sees_47 (l : Launch) (dC : Nat → ClassId) (dI : Nat → Nat → Nat) (aC : Nat → ClassId) (b : Nat) {p : Program} {e : Env} {s : State} {m : MethodId} {args : Array Value} {below : List Frame} {meth : Method} {cd : Code} (hc : cx (dC, dI) (tysx aC) (XC b) w_F_sees b_F_sees R_F 7 (some .boolean) p s m args meth cd) (mu : fm_T) (ac : Int32) (dn : Int32)  (ls : Array Slot) (F : Int32) (hP : va_P (dC, dI) clsx (fm_w (LC aC b) b 99 mu) s.heap) (hl : lv_has ls 7 [(5, .int ac), (6, .int dn)]) (hf : F = f_F_sees_47 mu ac dn) : W p l e { frames := 1, cells := 0, slots := 0, locals := 24 } s m args below meth cd s.heap [] 0 0 (MQ below (QcRead F) args s 0 0 (fun _ => False)) (F0 m 47 ls []) := by
  obtain ⟨hx, hb, hr, hml, hown, hts, hlocks, hK, hX⟩ := hc
  have hg : ∀ w ∈ gtbl, w.before args s = true := fun w h => hts w (List.mem_cons_of_mem _ h)
  have hS : va_S (fm_A b 99) s.heap s.heap [] := va_S.rf
  have hf := hf.trans (e_F_sees_47 mu ac dn)
  refine lv_iload hx hb d_F_sees_47 (lv_at hl 0 rfl) ?_
  refine va_mabs hx hb (by rw [hml]; exact hl.1.symm) hown (hg _ ml_F_42) (hg _ st_Math_abs) (hg _ in_Math) (hg _ co_Math_abs) (Nat.le_of_ble_eq_true rfl) (Nat.le_of_ble_eq_true rfl) (Nat.zero_le _) (Nat.zero_le _) d_F_sees_49 ?_
  refine lv_iconst (v := 1) hx hb d_F_sees_52 (by decide) ?_
  refine lv_icmp_gt (tgt := 69) hx hb d_F_sees_53 rfl (fun h53 => ?_) (fun h53 => ?_)
  · have hf := hf.trans (if_pos h53)
    refine lv_iconst (v := 0) hx hb d_F_sees_69 (by decide) ?_
    exact ro_zret hx hb hr hlocks rfl hf d_F_sees_70
  · have hf := hf.trans (if_neg h53)
    refine lv_iload hx hb d_F_sees_56 (lv_at hl 1 rfl) ?_
    refine va_mabs hx hb (by rw [hml]; exact hl.1.symm) hown (hg _ ml_F_42) (hg _ st_Math_abs) (hg _ in_Math) (hg _ co_Math_abs) (Nat.le_of_ble_eq_true rfl) (Nat.le_of_ble_eq_true rfl) (Nat.zero_le _) (Nat.zero_le _) d_F_sees_58 ?_
    refine lv_iconst (v := 1) hx hb d_F_sees_61 (by decide) ?_
    refine lv_icmp_gt (tgt := 69) hx hb d_F_sees_62 rfl (fun h62 => ?_) (fun h62 => ?_)
    · have hf := hf.trans (if_pos h62)
      refine lv_iconst (v := 0) hx hb d_F_sees_69 (by decide) ?_
      exact ro_zret hx hb hr hlocks rfl hf d_F_sees_70
    · have hf := hf.trans (if_neg h62)
      refine lv_iconst (v := 1) hx hb d_F_sees_65 (by decide) ?_
      refine lv_goto (tgt := 70) hx hb d_F_sees_66 rfl ?_
      exact ro_zret hx hb hr hlocks rfl hf d_F_sees_70
def f_F_sees (mu : fm_T) (ca : Nat) (eb : Nat) : Int32 := (f_F_sees_47 mu ((((mu 3 ca) - (mu 3 ca) / 16 * 16) / 4) - (((mu 3 eb) - (mu 3 eb) / 16 * 16) / 4)) ((((mu 3 ca) / 16) / 4) - (((mu 3 eb) / 16) / 4)))
theorem e_F_sees (mu : fm_T) (ca : Nat) (eb : Nat) : f_F_sees mu ca eb = (f_F_sees_47 mu ((((mu 3 ca) - (mu 3 ca) / 16 * 16) / 4) - (((mu 3 eb) - (mu 3 eb) / 16 * 16) / 4)) ((((mu 3 ca) / 16) / 4) - (((mu 3 eb) / 16) / 4))) := rfl
set_option maxHeartbeats 4000000 in
set_option maxRecDepth 100000 in
theorem k_F_sees (l : Launch) (dC : Nat → ClassId) (dI : Nat → Nat → Nat) (aC : Nat → ClassId) (b : Nat) {p : Program} {e : Env} {s : State} {m : MethodId} {args : Array Value} {below : List Frame} {meth : Method} {cd : Code} (hc : cx (dC, dI) (tysx aC) (XC b) w_F_sees b_F_sees R_F 7 (some .boolean) p s m args meth cd) (mu : fm_T) (ca : Nat) (eb : Nat) (hca : ca < 8) (heb : eb < 8) (ls : Array Slot) (F : Int32) (hP : va_P (dC, dI) clsx (fm_w (LC aC b) b 99 mu) s.heap) (hl : lv_has ls 7 [(0, .ref (b + 1)), (1, .int (nI ca)), (2, .int (nI eb))]) (hf : F = f_F_sees mu ca eb) : W p l e { frames := 1, cells := 0, slots := 0, locals := 24 } s m args below meth cd s.heap [] 0 0 (MQ below (QcRead F) args s 0 0 (fun _ => False)) (F0 m 0 ls []) := by
  obtain ⟨hx, hb, hr, hml, hown, hts, hlocks, hK, hX⟩ := hc
  have hg : ∀ w ∈ gtbl, w.before args s = true := fun w h => hts w (List.mem_cons_of_mem _ h)
  have hS : va_S (fm_A b 99) s.heap s.heap [] := va_S.rf
  have hf := hf.trans (e_F_sees mu ca eb)
  refine lv_aload_n hx hb d_F_sees_0 rfl (lv_at hl 0 rfl) ?_
  refine fm_get (C := R_F) (T := T_F) (n := 3) (ci := 1) hx hb hg uw_F hown hK hP (1) (by decide) (lc_F aC b _) rfl 1 (by decide) (hg _ fl_F_15) (fun _ h9 => h9) rfl d_F_sees_1 ?_
  refine lv_iload_n hx hb d_F_sees_4 rfl (lv_at hl 1 rfl) ?_
  refine fm_iald hx hb hK hP (3) (by decide) 0 (lc_places aC b _) rfl ca rfl (by omega) (by decide) d_F_sees_5 ?_
  refine lv_istore_n (lv' := [(3, .int (mu 3 ca)), (0, .ref (b + 1)), (1, .int (nI ca)), (2, .int (nI eb))]) hx hb d_F_sees_6 rfl hl (by decide) rfl (fun ls hl => ?_)
  refine lv_aload_n hx hb d_F_sees_7 rfl (lv_at hl 1 rfl) ?_
  refine fm_get (C := R_F) (T := T_F) (n := 3) (ci := 1) hx hb hg uw_F hown hK hP (1) (by decide) (lc_F aC b _) rfl 1 (by decide) (hg _ fl_F_15) (fun _ h9 => h9) rfl d_F_sees_8 ?_
  refine lv_iload_n hx hb d_F_sees_11 rfl (lv_at hl 3 rfl) ?_
  refine fm_iald hx hb hK hP (3) (by decide) 0 (lc_places aC b _) rfl eb rfl (by omega) (by decide) d_F_sees_12 ?_
  refine lv_istore (lv' := [(4, .int (mu 3 eb)), (3, .int (mu 3 ca)), (0, .ref (b + 1)), (1, .int (nI ca)), (2, .int (nI eb))]) hx hb d_F_sees_13 hl (by decide) rfl (fun ls hl => ?_)
  refine lv_iload_n hx hb d_F_sees_15 rfl (lv_at hl 1 rfl) ?_
  refine lv_bipush (v := 16) hx hb d_F_sees_16 (by decide) ?_
  refine lv_irem hx hb d_F_sees_18 (by decide) ?_
  refine lv_iconst (v := 4) hx hb d_F_sees_19 (by decide) ?_
  refine lv_idiv hx hb d_F_sees_20 (by decide) ?_
  refine lv_iload hx hb d_F_sees_21 (lv_at hl 0 rfl) ?_
  refine lv_bipush (v := 16) hx hb d_F_sees_23 (by decide) ?_
  refine lv_irem hx hb d_F_sees_25 (by decide) ?_
  refine lv_iconst (v := 4) hx hb d_F_sees_26 (by decide) ?_
  refine lv_idiv hx hb d_F_sees_27 (by decide) ?_
  refine lv_isub hx hb d_F_sees_28 ?_
  refine lv_istore (lv' := [(5, .int ((((mu 3 ca) - (mu 3 ca) / 16 * 16) / 4) - (((mu 3 eb) - (mu 3 eb) / 16 * 16) / 4))), (4, .int (mu 3 eb)), (3, .int (mu 3 ca)), (0, .ref (b + 1)), (1, .int (nI ca)), (2, .int (nI eb))]) hx hb d_F_sees_29 hl (by decide) rfl (fun ls hl => ?_)
  refine lv_iload_n hx hb d_F_sees_31 rfl (lv_at hl 2 rfl) ?_
  refine lv_bipush (v := 16) hx hb d_F_sees_32 (by decide) ?_
  refine lv_idiv hx hb d_F_sees_34 (by decide) ?_
  refine lv_iconst (v := 4) hx hb d_F_sees_35 (by decide) ?_
  refine lv_idiv hx hb d_F_sees_36 (by decide) ?_
  refine lv_iload hx hb d_F_sees_37 (lv_at hl 1 rfl) ?_
  refine lv_bipush (v := 16) hx hb d_F_sees_39 (by decide) ?_
  refine lv_idiv hx hb d_F_sees_41 (by decide) ?_
  refine lv_iconst (v := 4) hx hb d_F_sees_42 (by decide) ?_
  refine lv_idiv hx hb d_F_sees_43 (by decide) ?_
  refine lv_isub hx hb d_F_sees_44 ?_
  refine lv_istore (lv' := [(6, .int ((((mu 3 ca) / 16) / 4) - (((mu 3 eb) / 16) / 4))), (5, .int ((((mu 3 ca) - (mu 3 ca) / 16 * 16) / 4) - (((mu 3 eb) - (mu 3 eb) / 16 * 16) / 4))), (4, .int (mu 3 eb)), (3, .int (mu 3 ca)), (0, .ref (b + 1)), (1, .int (nI ca)), (2, .int (nI eb))]) hx hb d_F_sees_45 hl (by decide) rfl (fun ls hl => ?_)
  exact k_F_sees_47 l dC dI aC b ⟨hx, hb, hr, hml, hown, hts, hlocks, hK, hX⟩  mu ((((mu 3 ca) - (mu 3 ca) / 16 * 16) / 4) - (((mu 3 eb) - (mu 3 eb) / 16 * 16) / 4)) ((((mu 3 ca) / 16) / 4) - (((mu 3 eb) / 16) / 4))  ls _ hP  (lv_sub hl [1, 0] rfl) hf
set_option maxHeartbeats 4000000 in
set_option maxRecDepth 100000 in
theorem c_F_sees (l : Launch) (dC : Nat → ClassId) (dI : Nat → Nat → Nat) (aC : Nat → ClassId) (b : Nat) (mu : fm_T) (ca : Nat) (eb : Nat) (hca : ca < 8) (heb : eb < 8) : Met l y_F_sees w_F_sees { frames := 1, cells := 0, slots := 0, locals := 24 } (va_Pc [.ref (b + 1), .int (nI ca), .int (nI eb)] (fm_C (dC, dI) clsx (tysx aC) (LC aC b) b 99 (XC b) mu)) (QcRead (f_F_sees mu ca eb)) 0 0 (fun _ => False) := by
  refine Met.ofW (cc := b_F_sees) (maxL := 7) (ret := (some .boolean)) (by decide) rfl ?_
  intro p e s m args below meth cd s₁ B hml hv
  obtain ⟨rfl, hP, hK, hX⟩ := hv
  have hl := lv_entry ([.ref (b + 1), .int (nI ca), .int (nI eb)]) (n := 7) (Nat.le_of_ble_eq_true rfl)
  rw [lg_entry_eq]
  generalize (lg_sl ([.ref (b + 1), .int (nI ca), .int (nI eb)]) ++ List.replicate (7 - (lg_sl ([.ref (b + 1), .int (nI ca), .int (nI eb)])).length) Slot.unset).toArray = ls at hl ⊢
  exact k_F_sees l dC dI aC b ⟨B.exec, B.bytes, B.returns, hml, findClass_of_methodNamed B.named, atoms_spec (ws := w_F_sees) B.pre, B.notSynchronized, hK, hX⟩ mu ca eb hca heb ls _ hP hl rfl
