/-! printed by wip/whole/gen: N_has N_addLast N_takeOut P_becomeLike -/
def f_N_has (mu : fm_T) (kk : Int32) : Int32 := (if kk < 0 then 0 else (if (mu 5 1) ≤ kk then 0 else 1))
theorem e_N_has (mu : fm_T) (kk : Int32) : f_N_has mu kk = (if kk < 0 then 0 else (if (mu 5 1) ≤ kk then 0 else 1)) := rfl
set_option maxHeartbeats 4000000 in
set_option maxRecDepth 100000 in
theorem k_N_has (l : Launch) (dC : Nat → ClassId) (dI : Nat → Nat → Nat) (aC : Nat → ClassId) (b : Nat) {p : Program} {e : Env} {s : State} {m : MethodId} {args : Array Value} {below : List Frame} {meth : Method} {cd : Code} (hc : cx (dC, dI) (tysx aC) (XC b) w_N_has b_N_has R_N 2 (some .boolean) p s m args meth cd) (mu : fm_T) (kk : Int32)  (ls : Array Slot) (F : Int32) (hP : va_P (dC, dI) clsx (fm_w (LC aC b) b 99 mu) s.heap) (hl : lv_has ls 2 [(0, .ref (b + 5)), (1, .int kk)]) (hf : F = f_N_has mu kk) : W p l e { frames := 0, cells := 0, slots := 0, locals := 0 } s m args below meth cd s.heap [] 0 0 (MQ below (QcRead F) args s 0 0 (fun _ => False)) (F0 m 0 ls []) := by
  obtain ⟨hx, hb, hr, hml, hown, hts, hlocks, hK, hX⟩ := hc
  have hg : ∀ w ∈ gtbl, w.before args s = true := fun w h => hts w (List.mem_cons_of_mem _ h)
  have hS : va_S (fm_A b 99) s.heap s.heap [] := va_S.rf
  have hf := hf.trans (e_N_has mu kk)
  refine lv_iload_n hx hb d_N_has_0 rfl (lv_at hl 1 rfl) ?_
  refine lv_if_lt (tgt := 16) hx hb d_N_has_1 rfl (fun h1 => ?_) (fun h1 => ?_)
  · have hf := hf.trans (if_pos h1)
    refine lv_iconst (v := 0) hx hb d_N_has_16 (by decide) ?_
    exact ro_zret hx hb hr hlocks rfl hf d_N_has_17
  · have hf := hf.trans (if_neg h1)
    refine lv_iload_n hx hb d_N_has_4 rfl (lv_at hl 1 rfl) ?_
    refine lv_aload_n hx hb d_N_has_5 rfl (lv_at hl 0 rfl) ?_
    refine fm_get (C := R_N) (T := T_N) (n := 2) (ci := 2) hx hb hg uw_N hown hK hP (5) (by decide) (lc_N aC b _) rfl 1 (by decide) (hg _ fl_N_18) (fun _ h9 => h9) rfl d_N_has_6 ?_
    refine lv_icmp_ge (tgt := 16) hx hb d_N_has_9 rfl (fun h9 => ?_) (fun h9 => ?_)
    · have hf := hf.trans (if_pos h9)
      refine lv_iconst (v := 0) hx hb d_N_has_16 (by decide) ?_
      exact ro_zret hx hb hr hlocks rfl hf d_N_has_17
    · have hf := hf.trans (if_neg h9)
      refine lv_iconst (v := 1) hx hb d_N_has_12 (by decide) ?_
      refine lv_goto (tgt := 17) hx hb d_N_has_13 rfl ?_
      exact ro_zret hx hb hr hlocks rfl hf d_N_has_17
set_option maxHeartbeats 4000000 in
set_option maxRecDepth 100000 in
theorem c_N_has (l : Launch) (dC : Nat → ClassId) (dI : Nat → Nat → Nat) (aC : Nat → ClassId) (b : Nat) (mu : fm_T) (kk : Int32)  : Met l y_N_has w_N_has { frames := 0, cells := 0, slots := 0, locals := 0 } (va_Pc [.ref (b + 5), .int kk] (fm_C (dC, dI) clsx (tysx aC) (LC aC b) b 99 (XC b) mu)) (QcRead (f_N_has mu kk)) 0 0 (fun _ => False) := by
  refine Met.ofW (cc := b_N_has) (maxL := 2) (ret := (some .boolean)) (by decide) rfl ?_
  intro p e s m args below meth cd s₁ B hml hv
  obtain ⟨rfl, hP, hK, hX⟩ := hv
  have hl := lv_entry ([.ref (b + 5), .int kk]) (n := 2) (Nat.le_of_ble_eq_true rfl)
  rw [lg_entry_eq]
  generalize (lg_sl ([.ref (b + 5), .int kk]) ++ List.replicate (2 - (lg_sl ([.ref (b + 5), .int kk])).length) Slot.unset).toArray = ls at hl ⊢
  exact k_N_has l dC dI aC b ⟨B.exec, B.bytes, B.returns, hml, findClass_of_methodNamed B.named, atoms_spec (ws := w_N_has) B.pre, B.notSynchronized, hK, hX⟩ mu kk ls _ hP hl rfl
def f_N_addLast (mu : fm_T) : Option Int32 × fm_T := (if (mu 5 1) < 24 then (some (mu 6 ((mu 5 1).toNatClampNeg)), fm_up mu 5 1 ((mu 5 1) + 1)) else (none, mu))
theorem e_N_addLast (mu : fm_T) : f_N_addLast mu = (if (mu 5 1) < 24 then (some (mu 6 ((mu 5 1).toNatClampNeg)), fm_up mu 5 1 ((mu 5 1) + 1)) else (none, mu)) := rfl
set_option maxHeartbeats 4000000 in
set_option maxRecDepth 100000 in
theorem k_N_addLast (l : Launch) (dC : Nat → ClassId) (dI : Nat → Nat → Nat) (aC : Nat → ClassId) (b : Nat) {p : Program} {e : Env} {s : State} {m : MethodId} {args : Array Value} {below : List Frame} {meth : Method} {cd : Code} (hc : cx (dC, dI) (tysx aC) (XC b) w_N_addLast b_N_addLast R_N 2 (some (.object "DeltaPlayfield$Packet")) p s m args meth cd) (mu : fm_T)  (hI : SafC mu) (H : Heap) (locs : List Loc) (ls : Array Slot) (F : Option Int32 × fm_T) (hP : va_P (dC, dI) clsx (fm_w (LC aC b) b 99 mu) H) (hS : va_S (fm_A b 99) s.heap H locs) (hl : lv_has ls 2 [(0, .ref (b + 5))]) (hf : F = f_N_addLast mu) : W p l e { frames := 0, cells := 0, slots := 0, locals := 0 } s m args below meth cd H locs 0 0 (MQ below (va_Qq (fun r u => r = (F.1).map (fun i => b + (7 + 3 * pn i)) ∧ u = F.2) (fm_B (dC, dI) clsx (tysx aC) (LC aC b) b 99) (fm_A b 99)) args s 0 0 (fm_A b 99)) (F0 m 0 ls []) := by
  obtain ⟨hx, hb, hr, hml, hown, hts, hlocks, hK, hX⟩ := hc
  have hg : ∀ w ∈ gtbl, w.before args s = true := fun w h => hts w (List.mem_cons_of_mem _ h)
  have hf := hf.trans (e_N_addLast mu)
  refine lv_aload_n hx hb d_N_addLast_0 rfl (lv_at hl 0 rfl) ?_
  refine fm_get (C := R_N) (T := T_N) (n := 2) (ci := 2) hx hb hg uw_N hown hK hP (5) (by decide) (lc_N aC b _) rfl 1 (by decide) (hg _ fl_N_18) (fun _ h9 => h9) rfl d_N_addLast_1 ?_
  refine lv_bipush (v := 24) hx hb d_N_addLast_4 (by decide) ?_
  refine lv_icmp_lt (tgt := 11) hx hb d_N_addLast_6 rfl (fun h6 => ?_) (fun h6 => ?_)
  · have hf := hf.trans (if_pos h6)
    refine lv_aload_n hx hb d_N_addLast_11 rfl (lv_at hl 0 rfl) ?_
    refine fm_get (C := R_N) (T := T_N) (n := 2) (ci := 2) hx hb hg uw_N hown hK hP (5) (by decide) (lc_N aC b _) rfl 0 (by decide) (hg _ fl_N_11) (fun _ h9 => h9) rfl d_N_addLast_12 ?_
    refine lv_aload_n hx hb d_N_addLast_15 rfl (lv_at hl 0 rfl) ?_
    refine fm_get (C := R_N) (T := T_N) (n := 2) (ci := 2) hx hb hg uw_N hown hK hP (5) (by decide) (lc_N aC b _) rfl 1 (by decide) (hg _ fl_N_18) (fun _ h9 => h9) rfl d_N_addLast_16 ?_
    refine fm_aald (a := b + (7 + 3 * (pn (mu 6 ((mu 5 1).toNatClampNeg))))) hx hb hK hP (6) (by decide) 2 (lc_packets aC b _) rfl ((mu 5 1).toNatClampNeg) (vp_e (n := 24) (sz_in hI h6)) (vp_l (n := 24) (sz_in hI h6)) (by decide) rfl d_N_addLast_19 ?_
    refine lv_astore_n (lv' := [(1, .ref (b + (7 + 3 * (pn (mu 6 ((mu 5 1).toNatClampNeg)))))), (0, .ref (b + 5))]) hx hb d_N_addLast_20 rfl hl (by decide) rfl (fun ls hl => ?_)
    refine lv_aload_n hx hb d_N_addLast_21 rfl (lv_at hl 1 rfl) ?_
    refine lv_dup hx hb d_N_addLast_22 rfl ?_
    refine fm_get (C := R_N) (T := T_N) (n := 2) (ci := 2) hx hb hg uw_N hown hK hP (5) (by decide) (lc_N aC b _) rfl 1 (by decide) (hg _ fl_N_18) (fun _ h9 => h9) rfl d_N_addLast_23 ?_
    refine lv_iconst (v := 1) hx hb d_N_addLast_26 (by decide) ?_
    refine lv_iadd hx hb d_N_addLast_27 ?_
    refine fm_put (v := .int ((mu 5 1) + 1)) (x := ((mu 5 1) + 1)) (ty := .int) (C := R_N) (T := T_N) (n := 2) (ci := 2) hx hb hg uw_N ty_N tk_N nm_N hown hK (fun _ h => h) hP hS (5) (by decide) (lc_N aC b _) rfl 1 (by decide) (hg _ fl_N_18) (fun _ h9 => h9) rfl (by decide +kernel) rfl rfl (Nat.le_of_ble_eq_true rfl) (lc_N aC b _) d_N_addLast_28 (fun H locs hP hS => ?_)
    refine lv_aload_n hx hb d_N_addLast_31 rfl (lv_at hl 0 rfl) ?_
    exact rw_aretS hx hb hr hlocks hK hP hS hf d_N_addLast_32
  · have hf := hf.trans (if_neg h6)
    refine lv_null hx hb d_N_addLast_9 ?_
    exact rw_aretN hx hb hr hlocks hK hP hS hf d_N_addLast_10
set_option maxHeartbeats 4000000 in
set_option maxRecDepth 100000 in
theorem c_N_addLast (l : Launch) (dC : Nat → ClassId) (dI : Nat → Nat → Nat) (aC : Nat → ClassId) (b : Nat) (mu : fm_T)  (hI : SafC mu) : Met l y_N_addLast w_N_addLast { frames := 0, cells := 0, slots := 0, locals := 0 } (va_Pc [.ref (b + 5)] (fm_C (dC, dI) clsx (tysx aC) (LC aC b) b 99 (XC b) mu)) (va_Qq (fun r u => r = ((f_N_addLast mu).1).map (fun i => b + (7 + 3 * pn i)) ∧ u = (f_N_addLast mu).2) (fm_B (dC, dI) clsx (tysx aC) (LC aC b) b 99) (fm_A b 99)) 0 0 (fm_A b 99) := by
  refine Met.ofW (cc := b_N_addLast) (maxL := 2) (ret := (some (.object "DeltaPlayfield$Packet"))) (by decide) rfl ?_
  intro p e s m args below meth cd s₁ B hml hv
  obtain ⟨rfl, hP, hK, hX⟩ := hv
  have hl := lv_entry ([.ref (b + 5)]) (n := 2) (Nat.le_of_ble_eq_true rfl)
  rw [lg_entry_eq]
  generalize (lg_sl ([.ref (b + 5)]) ++ List.replicate (2 - (lg_sl ([.ref (b + 5)])).length) Slot.unset).toArray = ls at hl ⊢
  exact k_N_addLast l dC dI aC b ⟨B.exec, B.bytes, B.returns, hml, findClass_of_methodNamed B.named, atoms_spec (ws := w_N_addLast) B.pre, B.notSynchronized, hK, hX⟩ mu hI _ _ ls _ hP va_S.rf hl rfl
def f_N_takeOut_19 : Nat → fm_T → Int32 → Nat → Int32 × fm_T
  | 0, mu, _, _ => (0, mu)
  | n + 1, mu, tk, j => (if (mu 5 1) ≤ (nI j) then (tk, fm_up mu 6 ((mu 5 1).toNatClampNeg) tk) else (f_N_takeOut_19 n (fm_up mu 6 j (mu 6 (j + 1))) tk (j + 1)))
theorem e_N_takeOut_19 (n : Nat) (mu : fm_T) (tk : Int32) (j : Nat) : f_N_takeOut_19 (n + 1) mu tk j = (if (mu 5 1) ≤ (nI j) then (tk, fm_up mu 6 ((mu 5 1).toNatClampNeg) tk) else (f_N_takeOut_19 n (fm_up mu 6 j (mu 6 (j + 1))) tk (j + 1))) := rfl
set_option maxHeartbeats 4000000 in
set_option maxRecDepth 100000 in
theorem k_N_takeOut_19 (l : Launch) (dC : Nat → ClassId) (dI : Nat → Nat → Nat) (aC : Nat → ClassId) (b : Nat) {p : Program} {e : Env} {s : State} {m : MethodId} {args : Array Value} {below : List Frame} {meth : Method} {cd : Code} (hc : cx (dC, dI) (tysx aC) (XC b) w_N_takeOut b_N_takeOut R_N 4 (some (.object "DeltaPlayfield$Packet")) p s m args meth cd) : ∀ (n : Nat) (mu : fm_T) (tk : Int32) (j : Nat) (hz : vp_in (mu 5 1) 24) (hj : j ≤ (mu 5 1).toNatClampNeg) (hn : (mu 5 1).toNatClampNeg < j + n) (H : Heap) (locs : List Loc) (ls : Array Slot) (F : Int32 × fm_T) (hP : va_P (dC, dI) clsx (fm_w (LC aC b) b 99 mu) H) (hS : va_S (fm_A b 99) s.heap H locs) (hl : lv_has ls 4 [(0, .ref (b + 5)), (2, .ref (b + (7 + 3 * (pn tk)))), (3, .int (nI j))]) (hf : F = f_N_takeOut_19 n mu tk j), W p l e { frames := 0, cells := 0, slots := 0, locals := 0 } s m args below meth cd H locs 0 0 (MQ below (va_Qq (fun r u => r = some (b + (7 + 3 * pn F.1)) ∧ u = F.2) (fm_B (dC, dI) clsx (tysx aC) (LC aC b) b 99) (fm_A b 99)) args s 0 0 (fm_A b 99)) (F0 m 19 ls []) := by
  obtain ⟨hx, hb, hr, hml, hown, hts, hlocks, hK, hX⟩ := hc
  have hg : ∀ w ∈ gtbl, w.before args s = true := fun w h => hts w (List.mem_cons_of_mem _ h)
  intro n
  induction n with
  | zero =>
    intro mu tk j hz hj hn H locs ls F hP hS hl hf
    exfalso
    omega
  | succ n ih =>
    intro mu tk j hz hj hn H locs ls F hP hS hl hf
    have hf := hf.trans (e_N_takeOut_19 n mu tk j)
    refine lv_iload_n hx hb d_N_takeOut_19 rfl (lv_at hl 2 rfl) ?_
    refine lv_aload_n hx hb d_N_takeOut_20 rfl (lv_at hl 0 rfl) ?_
    refine fm_get (C := R_N) (T := T_N) (n := 2) (ci := 2) hx hb hg uw_N hown hK hP (5) (by decide) (lc_N aC b _) rfl 1 (by decide) (hg _ fl_N_18) (fun _ h9 => h9) rfl d_N_takeOut_21 ?_
    refine lv_icmp_ge (tgt := 47) hx hb d_N_takeOut_24 rfl (fun h24 => ?_) (fun h24 => ?_)
    · have hf := hf.trans (if_pos h24)
      refine lv_aload_n hx hb d_N_takeOut_47 rfl (lv_at hl 0 rfl) ?_
      refine fm_get (C := R_N) (T := T_N) (n := 2) (ci := 2) hx hb hg uw_N hown hK hP (5) (by decide) (lc_N aC b _) rfl 0 (by decide) (hg _ fl_N_11) (fun _ h9 => h9) rfl d_N_takeOut_48 ?_
      refine lv_aload_n hx hb d_N_takeOut_51 rfl (lv_at hl 0 rfl) ?_
      refine fm_get (C := R_N) (T := T_N) (n := 2) (ci := 2) hx hb hg uw_N hown hK hP (5) (by decide) (lc_N aC b _) rfl 1 (by decide) (hg _ fl_N_18) (fun _ h9 => h9) rfl d_N_takeOut_52 ?_
      refine lv_aload_n hx hb d_N_takeOut_55 rfl (lv_at hl 1 rfl) ?_
      refine fm_aast (x := tk) hx hb hK (fun _ h => h) hP hS 6 (by decide) 2 (7 + 3 * (pn tk)) (lc_ltP (pn_lt _)) (lc_packets aC b _) rfl (lc_P aC b _ (pn_lt _)) rfl ((mu 5 1).toNatClampNeg) (vp_e (n := 24) hz) (vp_l (n := 24) hz) (by decide) (lc_packets_up aC b _ _ _) d_N_takeOut_56 (fun H locs hP hS => ?_)
      refine lv_aload_n hx hb d_N_takeOut_57 rfl (lv_at hl 1 rfl) ?_
      exact rw_aretO hx hb hr hlocks hK hP hS hf d_N_takeOut_58
    · have hf := hf.trans (if_neg h24)
      have hj8 : j < (mu 5 1).toNatClampNeg := lp_lt (vp_e hz) hj (by have := vp_l hz; omega) h24
      have hz2 := vp_l hz
      refine lv_aload_n hx hb d_N_takeOut_27 rfl (lv_at hl 0 rfl) ?_
      refine fm_get (C := R_N) (T := T_N) (n := 2) (ci := 2) hx hb hg uw_N hown hK hP (5) (by decide) (lc_N aC b _) rfl 0 (by decide) (hg _ fl_N_11) (fun _ h9 => h9) rfl d_N_takeOut_28 ?_
      refine lv_iload_n hx hb d_N_takeOut_31 rfl (lv_at hl 2 rfl) ?_
      refine lv_aload_n hx hb d_N_takeOut_32 rfl (lv_at hl 0 rfl) ?_
      refine fm_get (C := R_N) (T := T_N) (n := 2) (ci := 2) hx hb hg uw_N hown hK hP (5) (by decide) (lc_N aC b _) rfl 0 (by decide) (hg _ fl_N_11) (fun _ h9 => h9) rfl d_N_takeOut_33 ?_
      refine lv_iload_n hx hb d_N_takeOut_36 rfl (lv_at hl 2 rfl) ?_
      refine lv_iconst (v := 1) hx hb d_N_takeOut_37 (by decide) ?_
      refine lv_iadd hx hb d_N_takeOut_38 ?_
      refine lv_cv (y := nI (j + 1)) (nI_1 _) ?_
      refine fm_aald (a := b + (7 + 3 * (pn (mu 6 (j + 1))))) hx hb hK hP (6) (by decide) 2 (lc_packets aC b _) rfl (j + 1) rfl (by omega) (by decide) rfl d_N_takeOut_39 ?_
      refine fm_aast (x := (mu 6 (j + 1))) hx hb hK (fun _ h => h) hP hS 6 (by decide) 2 (7 + 3 * (pn (mu 6 (j + 1)))) (lc_ltP (pn_lt _)) (lc_packets aC b _) rfl (lc_P aC b _ (pn_lt _)) rfl j rfl (by omega) (by decide) (lc_packets_up aC b _ _ _) d_N_takeOut_40 (fun H locs hP hS => ?_)
      refine lv_iinc (k := 2) (v := (nI (j + 1))) (lv' := [(3, .int (nI (j + 1))), (0, .ref (b + 5)), (2, .ref (b + (7 + 3 * (pn tk))))]) hx hb d_N_takeOut_41 hl rfl (nI_1 _) (by decide) rfl (fun ls hl => ?_)
      refine lv_goto (tgt := 19) hx hb d_N_takeOut_44 rfl ?_
      exact ih (fm_up mu 6 j (mu 6 (j + 1))) tk (j + 1) (by rw [fm_up_cell (by decide)]; exact hz) (by rw [fm_up_cell (by decide)]; omega) (by rw [fm_up_cell (by decide)]; omega) _ _ ls _ hP hS (lv_sub hl [1, 2, 0] rfl) hf
def f_N_takeOut (mu : fm_T) (kk : Int32) : Int32 × fm_T := (f_N_takeOut_19 24 (fm_up mu 5 1 ((mu 5 1) - 1)) (mu 6 kk.toNatClampNeg) kk.toNatClampNeg)
theorem e_N_takeOut (mu : fm_T) (kk : Int32) : f_N_takeOut mu kk = (f_N_takeOut_19 24 (fm_up mu 5 1 ((mu 5 1) - 1)) (mu 6 kk.toNatClampNeg) kk.toNatClampNeg) := rfl
set_option maxHeartbeats 4000000 in
set_option maxRecDepth 100000 in
theorem k_N_takeOut (l : Launch) (dC : Nat → ClassId) (dI : Nat → Nat → Nat) (aC : Nat → ClassId) (b : Nat) {p : Program} {e : Env} {s : State} {m : MethodId} {args : Array Value} {below : List Frame} {meth : Method} {cd : Code} (hc : cx (dC, dI) (tysx aC) (XC b) w_N_takeOut b_N_takeOut R_N 4 (some (.object "DeltaPlayfield$Packet")) p s m args meth cd) (mu : fm_T) (kk : Int32) (hI : SafC mu) (hk0 : ¬ kk < 0) (hk1 : ¬ mu 5 1 ≤ kk) (H : Heap) (locs : List Loc) (ls : Array Slot) (F : Int32 × fm_T) (hP : va_P (dC, dI) clsx (fm_w (LC aC b) b 99 mu) H) (hS : va_S (fm_A b 99) s.heap H locs) (hl : lv_has ls 4 [(0, .ref (b + 5)), (1, .int kk)]) (hf : F = f_N_takeOut mu kk) : W p l e { frames := 0, cells := 0, slots := 0, locals := 0 } s m args below meth cd H locs 0 0 (MQ below (va_Qq (fun r u => r = some (b + (7 + 3 * pn F.1)) ∧ u = F.2) (fm_B (dC, dI) clsx (tysx aC) (LC aC b) b 99) (fm_A b 99)) args s 0 0 (fm_A b 99)) (F0 m 0 ls []) := by
  obtain ⟨hx, hb, hr, hml, hown, hts, hlocks, hK, hX⟩ := hc
  have hg : ∀ w ∈ gtbl, w.before args s = true := fun w h => hts w (List.mem_cons_of_mem _ h)
  have hf := hf.trans (e_N_takeOut mu kk)
  refine lv_aload_n hx hb d_N_takeOut_0 rfl (lv_at hl 0 rfl) ?_
  refine fm_get (C := R_N) (T := T_N) (n := 2) (ci := 2) hx hb hg uw_N hown hK hP (5) (by decide) (lc_N aC b _) rfl 0 (by decide) (hg _ fl_N_11) (fun _ h9 => h9) rfl d_N_takeOut_1 ?_
  refine lv_iload_n hx hb d_N_takeOut_4 rfl (lv_at hl 1 rfl) ?_
  refine fm_aald (a := b + (7 + 3 * (pn (mu 6 kk.toNatClampNeg)))) hx hb hK hP (6) (by decide) 2 (lc_packets aC b _) rfl kk.toNatClampNeg (vp_e (n := 24) (tk_in hI hk0 hk1)) (vp_l (n := 24) (tk_in hI hk0 hk1)) (by decide) rfl d_N_takeOut_5 ?_
  refine lv_astore_n (lv' := [(2, .ref (b + (7 + 3 * (pn (mu 6 kk.toNatClampNeg))))), (0, .ref (b + 5)), (1, .int kk)]) hx hb d_N_takeOut_6 rfl hl (by decide) rfl (fun ls hl => ?_)
  refine lv_aload_n hx hb d_N_takeOut_7 rfl (lv_at hl 1 rfl) ?_
  refine lv_dup hx hb d_N_takeOut_8 rfl ?_
  refine fm_get (C := R_N) (T := T_N) (n := 2) (ci := 2) hx hb hg uw_N hown hK hP (5) (by decide) (lc_N aC b _) rfl 1 (by decide) (hg _ fl_N_18) (fun _ h9 => h9) rfl d_N_takeOut_9 ?_
  refine lv_iconst (v := 1) hx hb d_N_takeOut_12 (by decide) ?_
  refine lv_isub hx hb d_N_takeOut_13 ?_
  refine fm_put (v := .int ((mu 5 1) - 1)) (x := ((mu 5 1) - 1)) (ty := .int) (C := R_N) (T := T_N) (n := 2) (ci := 2) hx hb hg uw_N ty_N tk_N nm_N hown hK (fun _ h => h) hP hS (5) (by decide) (lc_N aC b _) rfl 1 (by decide) (hg _ fl_N_18) (fun _ h9 => h9) rfl (by decide +kernel) rfl rfl (Nat.le_of_ble_eq_true rfl) (lc_N aC b _) d_N_takeOut_14 (fun H locs hP hS => ?_)
  refine lv_iload_n hx hb d_N_takeOut_17 rfl (lv_at hl 2 rfl) ?_
  refine lv_cv (y := nI kk.toNatClampNeg) (vp_e (tk_in hI hk0 hk1)) ?_
  refine lv_istore_n (lv' := [(3, .int (nI kk.toNatClampNeg)), (2, .ref (b + (7 + 3 * (pn (mu 6 kk.toNatClampNeg))))), (0, .ref (b + 5)), (1, .int kk)]) hx hb d_N_takeOut_18 rfl hl (by decide) rfl (fun ls hl => ?_)
  exact k_N_takeOut_19 l dC dI aC b ⟨hx, hb, hr, hml, hown, hts, hlocks, hK, hX⟩ 24 (fm_up mu 5 1 ((mu 5 1) - 1)) (mu 6 kk.toNatClampNeg) kk.toNatClampNeg (by rw [fm_up_same]; exact tk_sz hI hk0 hk1) (by rw [fm_up_same]; exact tk_le hI hk0 hk1) (by rw [fm_up_same]; have := vp_l (tk_sz hI hk0 hk1); omega) _ _ ls _ hP hS (lv_sub hl [2, 1, 0] rfl) hf
set_option maxHeartbeats 4000000 in
set_option maxRecDepth 100000 in
theorem c_N_takeOut (l : Launch) (dC : Nat → ClassId) (dI : Nat → Nat → Nat) (aC : Nat → ClassId) (b : Nat) (mu : fm_T) (kk : Int32) (hI : SafC mu) (hk0 : ¬ kk < 0) (hk1 : ¬ mu 5 1 ≤ kk) : Met l y_N_takeOut w_N_takeOut { frames := 0, cells := 0, slots := 0, locals := 0 } (va_Pc [.ref (b + 5), .int kk] (fm_C (dC, dI) clsx (tysx aC) (LC aC b) b 99 (XC b) mu)) (va_Qq (fun r u => r = some (b + (7 + 3 * pn (f_N_takeOut mu kk).1)) ∧ u = (f_N_takeOut mu kk).2) (fm_B (dC, dI) clsx (tysx aC) (LC aC b) b 99) (fm_A b 99)) 0 0 (fm_A b 99) := by
  refine Met.ofW (cc := b_N_takeOut) (maxL := 4) (ret := (some (.object "DeltaPlayfield$Packet"))) (by decide) rfl ?_
  intro p e s m args below meth cd s₁ B hml hv
  obtain ⟨rfl, hP, hK, hX⟩ := hv
  have hl := lv_entry ([.ref (b + 5), .int kk]) (n := 4) (Nat.le_of_ble_eq_true rfl)
  rw [lg_entry_eq]
  generalize (lg_sl ([.ref (b + 5), .int kk]) ++ List.replicate (4 - (lg_sl ([.ref (b + 5), .int kk])).length) Slot.unset).toArray = ls at hl ⊢
  exact k_N_takeOut l dC dI aC b ⟨B.exec, B.bytes, B.returns, hml, findClass_of_methodNamed B.named, atoms_spec (ws := w_N_takeOut) B.pre, B.notSynchronized, hK, hX⟩ mu kk hI hk0 hk1 _ _ ls _ hP va_S.rf hl rfl
def f_P_becomeLike_63 (mu : fm_T) (pi : Nat) (po : Nat) : fm_T := va_up (fm_up mu (7 + 3 * pi) 7 (mu (7 + 3 * po) 7)) (9 + 3 * pi) (va_cpy ((fm_up mu (7 + 3 * pi) 7 (mu (7 + 3 * po) 7)) (9 + 3 * po)) ((fm_up mu (7 + 3 * pi) 7 (mu (7 + 3 * po) 7)) (9 + 3 * pi)) 0 0 4)
theorem e_P_becomeLike_63 (mu : fm_T) (pi : Nat) (po : Nat) : f_P_becomeLike_63 mu pi po = va_up (fm_up mu (7 + 3 * pi) 7 (mu (7 + 3 * po) 7)) (9 + 3 * pi) (va_cpy ((fm_up mu (7 + 3 * pi) 7 (mu (7 + 3 * po) 7)) (9 + 3 * po)) ((fm_up mu (7 + 3 * pi) 7 (mu (7 + 3 * po) 7)) (9 + 3 * pi)) 0 0 4) := rfl
set_option maxHeartbeats 4000000 in
set_option maxRecDepth 100000 in
theorem k_P_becomeLike_63 (l : Launch) (dC : Nat → ClassId) (dI : Nat → Nat → Nat) (aC : Nat → ClassId) (b : Nat) {p : Program} {e : Env} {s : State} {m : MethodId} {args : Array Value} {below : List Frame} {meth : Method} {cd : Code} (hc : cx (dC, dI) (tysx aC) (XC b) w_P_becomeLike b_P_becomeLike R_P 2 none p s m args meth cd) (mu : fm_T) (pi : Nat) (po : Nat) (hpi : pi < 24) (hpo : po < 24) (H : Heap) (locs : List Loc) (ls : Array Slot) (F : fm_T) (hP : va_P (dC, dI) clsx (fm_w (LC aC b) b 99 mu) H) (hS : va_S (fm_A b 99) s.heap H locs) (hl : lv_has ls 2 [(0, .ref (b + (7 + 3 * pi))), (1, .ref (b + (7 + 3 * po)))]) (hf : F = f_P_becomeLike_63 mu pi po) : W p l e { frames := 1, cells := 0, slots := 0, locals := 40 } s m args below meth cd H locs 0 0 (MQ below (va_Qv (fun u => u = F) (fm_B (dC, dI) clsx (tysx aC) (LC aC b) b 99) (fm_A b 99)) args s 0 0 (fm_A b 99)) (F0 m 63 ls []) := by
  obtain ⟨hx, hb, hr, hml, hown, hts, hlocks, hK, hX⟩ := hc
  have hg : ∀ w ∈ gtbl, w.before args s = true := fun w h => hts w (List.mem_cons_of_mem _ h)
  have hf := hf.trans (e_P_becomeLike_63 mu pi po)
  refine lv_aload_n hx hb d_P_becomeLike_63 rfl (lv_at hl 0 rfl) ?_
  refine lv_aload_n hx hb d_P_becomeLike_64 rfl (lv_at hl 1 rfl) ?_
  refine fm_get (C := R_P) (T := T_P) (n := 9) (ci := 3) hx hb hg uw_P hown hK hP (7 + 3 * po) (lc_ltP hpo) (lc_P aC b _ hpo) rfl 7 (by decide) (hg _ fl_P_44) (fun _ h9 => h9) rfl d_P_becomeLike_65 ?_
  refine fm_put (v := .int (mu (7 + 3 * po) 7)) (x := (mu (7 + 3 * po) 7)) (ty := .int) (C := R_P) (T := T_P) (n := 9) (ci := 3) hx hb hg uw_P ty_P tk_P nm_P hown hK (fun _ h => h) hP hS (7 + 3 * pi) (lc_ltP hpi) (lc_P aC b _ hpi) rfl 7 (by decide) (hg _ fl_P_44) (fun _ h9 => h9) rfl (by decide +kernel) rfl rfl (Nat.le_of_ble_eq_true rfl) (lc_P aC b _ hpi) d_P_becomeLike_68 (fun H locs hP hS => ?_)
  refine lv_aload_n hx hb d_P_becomeLike_71 rfl (lv_at hl 1 rfl) ?_
  refine fm_get (C := R_P) (T := T_P) (n := 9) (ci := 3) hx hb hg uw_P hown hK hP (7 + 3 * po) (lc_ltP hpo) (lc_P aC b _ hpo) rfl 8 (by decide) (hg _ fl_P_15) (fun _ h9 => h9) rfl d_P_becomeLike_72 ?_
  refine lv_iconst (v := 0) hx hb d_P_becomeLike_75 (by decide) ?_
  refine lv_aload_n hx hb d_P_becomeLike_76 rfl (lv_at hl 0 rfl) ?_
  refine fm_get (C := R_P) (T := T_P) (n := 9) (ci := 3) hx hb hg uw_P hown hK hP (7 + 3 * pi) (lc_ltP hpi) (lc_P aC b _ hpi) rfl 8 (by decide) (hg _ fl_P_15) (fun _ h9 => h9) rfl d_P_becomeLike_77 ?_
  refine lv_iconst (v := 0) hx hb d_P_becomeLike_80 (by decide) ?_
  refine lv_iconst (v := 4) hx hb d_P_becomeLike_81 (by decide) ?_
  refine fm_copy hx hb (by rw [hml]; exact hl.1.symm) hown (hg _ ml_P_38) (hg _ nt_System_arraycopy) (hg _ st_System_arraycopy) (hg _ in_System) hK (fun _ h => h) hP hS (9 + 3 * po) (9 + 3 * pi) (lc_ltPcm hpo) (lc_ltPcm hpi) 0 (lc_Pcm aC b _ hpo) (lc_Pcm aC b _ hpi) rfl 0 0 4 rfl rfl rfl (by decide) (by decide) (by decide) (by decide) (lc_Pcm aC b _ hpi) (Nat.le_of_ble_eq_true rfl) (Nat.le_of_ble_eq_true rfl) d_P_becomeLike_82 (fun H locs hP hS => ?_)
  exact rw_vret hx hb hr hlocks hK hP hS hf d_P_becomeLike_85
def f_P_becomeLike_48 (mu : fm_T) (pi : Nat) (po : Nat) : fm_T := (f_P_becomeLike_63 (va_up mu (8 + 3 * pi) (va_cpy (mu (8 + 3 * po)) (mu (8 + 3 * pi)) 0 0 8)) pi po)
theorem e_P_becomeLike_48 (mu : fm_T) (pi : Nat) (po : Nat) : f_P_becomeLike_48 mu pi po = (f_P_becomeLike_63 (va_up mu (8 + 3 * pi) (va_cpy (mu (8 + 3 * po)) (mu (8 + 3 * pi)) 0 0 8)) pi po) := rfl
set_option maxHeartbeats 4000000 in
set_option maxRecDepth 100000 in
theorem k_P_becomeLike_48 (l : Launch) (dC : Nat → ClassId) (dI : Nat → Nat → Nat) (aC : Nat → ClassId) (b : Nat) {p : Program} {e : Env} {s : State} {m : MethodId} {args : Array Value} {below : List Frame} {meth : Method} {cd : Code} (hc : cx (dC, dI) (tysx aC) (XC b) w_P_becomeLike b_P_becomeLike R_P 2 none p s m args meth cd) (mu : fm_T) (pi : Nat) (po : Nat) (hpi : pi < 24) (hpo : po < 24) (H : Heap) (locs : List Loc) (ls : Array Slot) (F : fm_T) (hP : va_P (dC, dI) clsx (fm_w (LC aC b) b 99 mu) H) (hS : va_S (fm_A b 99) s.heap H locs) (hl : lv_has ls 2 [(0, .ref (b + (7 + 3 * pi))), (1, .ref (b + (7 + 3 * po)))]) (hf : F = f_P_becomeLike_48 mu pi po) : W p l e { frames := 1, cells := 0, slots := 0, locals := 40 } s m args below meth cd H locs 0 0 (MQ below (va_Qv (fun u => u = F) (fm_B (dC, dI) clsx (tysx aC) (LC aC b) b 99) (fm_A b 99)) args s 0 0 (fm_A b 99)) (F0 m 48 ls []) := by
  obtain ⟨hx, hb, hr, hml, hown, hts, hlocks, hK, hX⟩ := hc
  have hg : ∀ w ∈ gtbl, w.before args s = true := fun w h => hts w (List.mem_cons_of_mem _ h)
  have hf := hf.trans (e_P_becomeLike_48 mu pi po)
  refine lv_aload_n hx hb d_P_becomeLike_48 rfl (lv_at hl 1 rfl) ?_
  refine fm_get (C := R_P) (T := T_P) (n := 9) (ci := 3) hx hb hg uw_P hown hK hP (7 + 3 * po) (lc_ltP hpo) (lc_P aC b _ hpo) rfl 6 (by decide) (hg _ fl_P_9) (fun _ h9 => h9) rfl d_P_becomeLike_49 ?_
  refine lv_iconst (v := 0) hx hb d_P_becomeLike_52 (by decide) ?_
  refine lv_aload_n hx hb d_P_becomeLike_53 rfl (lv_at hl 0 rfl) ?_
  refine fm_get (C := R_P) (T := T_P) (n := 9) (ci := 3) hx hb hg uw_P hown hK hP (7 + 3 * pi) (lc_ltP hpi) (lc_P aC b _ hpi) rfl 6 (by decide) (hg _ fl_P_9) (fun _ h9 => h9) rfl d_P_becomeLike_54 ?_
  refine lv_iconst (v := 0) hx hb d_P_becomeLike_57 (by decide) ?_
  refine lv_bipush (v := 8) hx hb d_P_becomeLike_58 (by decide) ?_
  refine fm_copy hx hb (by rw [hml]; exact hl.1.symm) hown (hg _ ml_P_38) (hg _ nt_System_arraycopy) (hg _ st_System_arraycopy) (hg _ in_System) hK (fun _ h => h) hP hS (8 + 3 * po) (8 + 3 * pi) (lc_ltPpl hpo) (lc_ltPpl hpi) 0 (lc_Ppl aC b _ hpo) (lc_Ppl aC b _ hpi) rfl 0 0 8 rfl rfl rfl (by decide) (by decide) (by decide) (by decide) (lc_Ppl aC b _ hpi) (Nat.le_of_ble_eq_true rfl) (Nat.le_of_ble_eq_true rfl) d_P_becomeLike_60 (fun H locs hP hS => ?_)
  exact k_P_becomeLike_63 l dC dI aC b ⟨hx, hb, hr, hml, hown, hts, hlocks, hK, hX⟩  (va_up mu (8 + 3 * pi) (va_cpy (mu (8 + 3 * po)) (mu (8 + 3 * pi)) 0 0 8)) pi po hpi hpo _ _ ls _ hP hS (lv_sub hl [0, 1] rfl) hf
def f_P_becomeLike_32 (mu : fm_T) (pi : Nat) (po : Nat) : fm_T := (f_P_becomeLike_48 (fm_up (fm_up mu (7 + 3 * pi) 4 (mu (7 + 3 * po) 4)) (7 + 3 * pi) 5 ((fm_up mu (7 + 3 * pi) 4 (mu (7 + 3 * po) 4)) (7 + 3 * po) 5)) pi po)
theorem e_P_becomeLike_32 (mu : fm_T) (pi : Nat) (po : Nat) : f_P_becomeLike_32 mu pi po = (f_P_becomeLike_48 (fm_up (fm_up mu (7 + 3 * pi) 4 (mu (7 + 3 * po) 4)) (7 + 3 * pi) 5 ((fm_up mu (7 + 3 * pi) 4 (mu (7 + 3 * po) 4)) (7 + 3 * po) 5)) pi po) := rfl
set_option maxHeartbeats 4000000 in
set_option maxRecDepth 100000 in
theorem k_P_becomeLike_32 (l : Launch) (dC : Nat → ClassId) (dI : Nat → Nat → Nat) (aC : Nat → ClassId) (b : Nat) {p : Program} {e : Env} {s : State} {m : MethodId} {args : Array Value} {below : List Frame} {meth : Method} {cd : Code} (hc : cx (dC, dI) (tysx aC) (XC b) w_P_becomeLike b_P_becomeLike R_P 2 none p s m args meth cd) (mu : fm_T) (pi : Nat) (po : Nat) (hpi : pi < 24) (hpo : po < 24) (H : Heap) (locs : List Loc) (ls : Array Slot) (F : fm_T) (hP : va_P (dC, dI) clsx (fm_w (LC aC b) b 99 mu) H) (hS : va_S (fm_A b 99) s.heap H locs) (hl : lv_has ls 2 [(0, .ref (b + (7 + 3 * pi))), (1, .ref (b + (7 + 3 * po)))]) (hf : F = f_P_becomeLike_32 mu pi po) : W p l e { frames := 1, cells := 0, slots := 0, locals := 40 } s m args below meth cd H locs 0 0 (MQ below (va_Qv (fun u => u = F) (fm_B (dC, dI) clsx (tysx aC) (LC aC b) b 99) (fm_A b 99)) args s 0 0 (fm_A b 99)) (F0 m 32 ls []) := by
  obtain ⟨hx, hb, hr, hml, hown, hts, hlocks, hK, hX⟩ := hc
  have hg : ∀ w ∈ gtbl, w.before args s = true := fun w h => hts w (List.mem_cons_of_mem _ h)
  have hf := hf.trans (e_P_becomeLike_32 mu pi po)
  refine lv_aload_n hx hb d_P_becomeLike_32 rfl (lv_at hl 0 rfl) ?_
  refine lv_aload_n hx hb d_P_becomeLike_33 rfl (lv_at hl 1 rfl) ?_
  refine fm_get (C := R_P) (T := T_P) (n := 9) (ci := 3) hx hb hg uw_P hown hK hP (7 + 3 * po) (lc_ltP hpo) (lc_P aC b _ hpo) rfl 4 (by decide) (hg _ fl_P_32) (fun _ h9 => h9) rfl d_P_becomeLike_34 ?_
  refine fm_put (v := .int (mu (7 + 3 * po) 4)) (x := (mu (7 + 3 * po) 4)) (ty := .int) (C := R_P) (T := T_P) (n := 9) (ci := 3) hx hb hg uw_P ty_P tk_P nm_P hown hK (fun _ h => h) hP hS (7 + 3 * pi) (lc_ltP hpi) (lc_P aC b _ hpi) rfl 4 (by decide) (hg _ fl_P_32) (fun _ h9 => h9) rfl (by decide +kernel) rfl rfl (Nat.le_of_ble_eq_true rfl) (lc_P aC b _ hpi) d_P_becomeLike_37 (fun H locs hP hS => ?_)
  refine lv_aload_n hx hb d_P_becomeLike_40 rfl (lv_at hl 0 rfl) ?_
  refine lv_aload_n hx hb d_P_becomeLike_41 rfl (lv_at hl 1 rfl) ?_
  refine fm_get (C := R_P) (T := T_P) (n := 9) (ci := 3) hx hb hg uw_P hown hK hP (7 + 3 * po) (lc_ltP hpo) (lc_P aC b _ hpo) rfl 5 (by decide) (hg _ fl_P_35) (fun _ h9 => h9) rfl d_P_becomeLike_42 ?_
  refine fm_put (v := .int ((fm_up mu (7 + 3 * pi) 4 (mu (7 + 3 * po) 4)) (7 + 3 * po) 5)) (x := ((fm_up mu (7 + 3 * pi) 4 (mu (7 + 3 * po) 4)) (7 + 3 * po) 5)) (ty := .int) (C := R_P) (T := T_P) (n := 9) (ci := 3) hx hb hg uw_P ty_P tk_P nm_P hown hK (fun _ h => h) hP hS (7 + 3 * pi) (lc_ltP hpi) (lc_P aC b _ hpi) rfl 5 (by decide) (hg _ fl_P_35) (fun _ h9 => h9) rfl (by decide +kernel) rfl rfl (Nat.le_of_ble_eq_true rfl) (lc_P aC b _ hpi) d_P_becomeLike_45 (fun H locs hP hS => ?_)
  exact k_P_becomeLike_48 l dC dI aC b ⟨hx, hb, hr, hml, hown, hts, hlocks, hK, hX⟩  (fm_up (fm_up mu (7 + 3 * pi) 4 (mu (7 + 3 * po) 4)) (7 + 3 * pi) 5 ((fm_up mu (7 + 3 * pi) 4 (mu (7 + 3 * po) 4)) (7 + 3 * po) 5)) pi po hpi hpo _ _ ls _ hP hS (lv_sub hl [0, 1] rfl) hf
def f_P_becomeLike_16 (mu : fm_T) (pi : Nat) (po : Nat) : fm_T := (f_P_becomeLike_32 (fm_up (fm_up mu (7 + 3 * pi) 2 (mu (7 + 3 * po) 2)) (7 + 3 * pi) 3 ((fm_up mu (7 + 3 * pi) 2 (mu (7 + 3 * po) 2)) (7 + 3 * po) 3)) pi po)
theorem e_P_becomeLike_16 (mu : fm_T) (pi : Nat) (po : Nat) : f_P_becomeLike_16 mu pi po = (f_P_becomeLike_32 (fm_up (fm_up mu (7 + 3 * pi) 2 (mu (7 + 3 * po) 2)) (7 + 3 * pi) 3 ((fm_up mu (7 + 3 * pi) 2 (mu (7 + 3 * po) 2)) (7 + 3 * po) 3)) pi po) := rfl
set_option maxHeartbeats 4000000 in
set_option maxRecDepth 100000 in
theorem k_P_becomeLike_16 (l : Launch) (dC : Nat → ClassId) (dI : Nat → Nat → Nat) (aC : Nat → ClassId) (b : Nat) {p : Program} {e : Env} {s : State} {m : MethodId} {args : Array Value} {below : List Frame} {meth : Method} {cd : Code} (hc : cx (dC, dI) (tysx aC) (XC b) w_P_becomeLike b_P_becomeLike R_P 2 none p s m args meth cd) (mu : fm_T) (pi : Nat) (po : Nat) (hpi : pi < 24) (hpo : po < 24) (H : Heap) (locs : List Loc) (ls : Array Slot) (F : fm_T) (hP : va_P (dC, dI) clsx (fm_w (LC aC b) b 99 mu) H) (hS : va_S (fm_A b 99) s.heap H locs) (hl : lv_has ls 2 [(0, .ref (b + (7 + 3 * pi))), (1, .ref (b + (7 + 3 * po)))]) (hf : F = f_P_becomeLike_16 mu pi po) : W p l e { frames := 1, cells := 0, slots := 0, locals := 40 } s m args below meth cd H locs 0 0 (MQ below (va_Qv (fun u => u = F) (fm_B (dC, dI) clsx (tysx aC) (LC aC b) b 99) (fm_A b 99)) args s 0 0 (fm_A b 99)) (F0 m 16 ls []) := by
  obtain ⟨hx, hb, hr, hml, hown, hts, hlocks, hK, hX⟩ := hc
  have hg : ∀ w ∈ gtbl, w.before args s = true := fun w h => hts w (List.mem_cons_of_mem _ h)
  have hf := hf.trans (e_P_becomeLike_16 mu pi po)
  refine lv_aload_n hx hb d_P_becomeLike_16 rfl (lv_at hl 0 rfl) ?_
  refine lv_aload_n hx hb d_P_becomeLike_17 rfl (lv_at hl 1 rfl) ?_
  refine fm_get (C := R_P) (T := T_P) (n := 9) (ci := 3) hx hb hg uw_P hown hK hP (7 + 3 * po) (lc_ltP hpo) (lc_P aC b _ hpo) rfl 2 (by decide) (hg _ fl_P_26) (fun _ h9 => h9) rfl d_P_becomeLike_18 ?_
  refine fm_put (v := .int (mu (7 + 3 * po) 2)) (x := (mu (7 + 3 * po) 2)) (ty := .int) (C := R_P) (T := T_P) (n := 9) (ci := 3) hx hb hg uw_P ty_P tk_P nm_P hown hK (fun _ h => h) hP hS (7 + 3 * pi) (lc_ltP hpi) (lc_P aC b _ hpi) rfl 2 (by decide) (hg _ fl_P_26) (fun _ h9 => h9) rfl (by decide +kernel) rfl rfl (Nat.le_of_ble_eq_true rfl) (lc_P aC b _ hpi) d_P_becomeLike_21 (fun H locs hP hS => ?_)
  refine lv_aload_n hx hb d_P_becomeLike_24 rfl (lv_at hl 0 rfl) ?_
  refine lv_aload_n hx hb d_P_becomeLike_25 rfl (lv_at hl 1 rfl) ?_
  refine fm_get (C := R_P) (T := T_P) (n := 9) (ci := 3) hx hb hg uw_P hown hK hP (7 + 3 * po) (lc_ltP hpo) (lc_P aC b _ hpo) rfl 3 (by decide) (hg _ fl_P_29) (fun _ h9 => h9) rfl d_P_becomeLike_26 ?_
  refine fm_put (v := .int ((fm_up mu (7 + 3 * pi) 2 (mu (7 + 3 * po) 2)) (7 + 3 * po) 3)) (x := ((fm_up mu (7 + 3 * pi) 2 (mu (7 + 3 * po) 2)) (7 + 3 * po) 3)) (ty := .int) (C := R_P) (T := T_P) (n := 9) (ci := 3) hx hb hg uw_P ty_P tk_P nm_P hown hK (fun _ h => h) hP hS (7 + 3 * pi) (lc_ltP hpi) (lc_P aC b _ hpi) rfl 3 (by decide) (hg _ fl_P_29) (fun _ h9 => h9) rfl (by decide +kernel) rfl rfl (Nat.le_of_ble_eq_true rfl) (lc_P aC b _ hpi) d_P_becomeLike_29 (fun H locs hP hS => ?_)
  exact k_P_becomeLike_32 l dC dI aC b ⟨hx, hb, hr, hml, hown, hts, hlocks, hK, hX⟩  (fm_up (fm_up mu (7 + 3 * pi) 2 (mu (7 + 3 * po) 2)) (7 + 3 * pi) 3 ((fm_up mu (7 + 3 * pi) 2 (mu (7 + 3 * po) 2)) (7 + 3 * po) 3)) pi po hpi hpo _ _ ls _ hP hS (lv_sub hl [0, 1] rfl) hf
def f_P_becomeLike (mu : fm_T) (pi : Nat) (po : Nat) : fm_T := (f_P_becomeLike_16 (fm_up (fm_up mu (7 + 3 * pi) 0 (mu (7 + 3 * po) 0)) (7 + 3 * pi) 1 ((fm_up mu (7 + 3 * pi) 0 (mu (7 + 3 * po) 0)) (7 + 3 * po) 1)) pi po)
theorem e_P_becomeLike (mu : fm_T) (pi : Nat) (po : Nat) : f_P_becomeLike mu pi po = (f_P_becomeLike_16 (fm_up (fm_up mu (7 + 3 * pi) 0 (mu (7 + 3 * po) 0)) (7 + 3 * pi) 1 ((fm_up mu (7 + 3 * pi) 0 (mu (7 + 3 * po) 0)) (7 + 3 * po) 1)) pi po) := rfl
set_option maxHeartbeats 4000000 in
set_option maxRecDepth 100000 in
theorem k_P_becomeLike (l : Launch) (dC : Nat → ClassId) (dI : Nat → Nat → Nat) (aC : Nat → ClassId) (b : Nat) {p : Program} {e : Env} {s : State} {m : MethodId} {args : Array Value} {below : List Frame} {meth : Method} {cd : Code} (hc : cx (dC, dI) (tysx aC) (XC b) w_P_becomeLike b_P_becomeLike R_P 2 none p s m args meth cd) (mu : fm_T) (pi : Nat) (po : Nat) (hpi : pi < 24) (hpo : po < 24) (hz : mu (7 + 3 * po) 1 = 0 ∨ mu (7 + 3 * po) 1 = 1) (H : Heap) (locs : List Loc) (ls : Array Slot) (F : fm_T) (hP : va_P (dC, dI) clsx (fm_w (LC aC b) b 99 mu) H) (hS : va_S (fm_A b 99) s.heap H locs) (hl : lv_has ls 2 [(0, .ref (b + (7 + 3 * pi))), (1, .ref (b + (7 + 3 * po)))]) (hf : F = f_P_becomeLike mu pi po) : W p l e { frames := 1, cells := 0, slots := 0, locals := 40 } s m args below meth cd H locs 0 0 (MQ below (va_Qv (fun u => u = F) (fm_B (dC, dI) clsx (tysx aC) (LC aC b) b 99) (fm_A b 99)) args s 0 0 (fm_A b 99)) (F0 m 0 ls []) := by
  obtain ⟨hx, hb, hr, hml, hown, hts, hlocks, hK, hX⟩ := hc
  have hg : ∀ w ∈ gtbl, w.before args s = true := fun w h => hts w (List.mem_cons_of_mem _ h)
  have hf := hf.trans (e_P_becomeLike mu pi po)
  refine lv_aload_n hx hb d_P_becomeLike_0 rfl (lv_at hl 0 rfl) ?_
  refine lv_aload_n hx hb d_P_becomeLike_1 rfl (lv_at hl 1 rfl) ?_
  refine fm_get (C := R_P) (T := T_P) (n := 9) (ci := 3) hx hb hg uw_P hown hK hP (7 + 3 * po) (lc_ltP hpo) (lc_P aC b _ hpo) rfl 0 (by decide) (hg _ fl_P_18) (fun _ h9 => h9) rfl d_P_becomeLike_2 ?_
  refine fm_put (v := .int (mu (7 + 3 * po) 0)) (x := (mu (7 + 3 * po) 0)) (ty := .int) (C := R_P) (T := T_P) (n := 9) (ci := 3) hx hb hg uw_P ty_P tk_P nm_P hown hK (fun _ h => h) hP hS (7 + 3 * pi) (lc_ltP hpi) (lc_P aC b _ hpi) rfl 0 (by decide) (hg _ fl_P_18) (fun _ h9 => h9) rfl (by decide +kernel) rfl rfl (Nat.le_of_ble_eq_true rfl) (lc_P aC b _ hpi) d_P_becomeLike_5 (fun H locs hP hS => ?_)
  refine lv_aload_n hx hb d_P_becomeLike_8 rfl (lv_at hl 0 rfl) ?_
  refine lv_aload_n hx hb d_P_becomeLike_9 rfl (lv_at hl 1 rfl) ?_
  refine fm_get (C := R_P) (T := T_P) (n := 9) (ci := 3) hx hb hg uw_P hown hK hP (7 + 3 * po) (lc_ltP hpo) (lc_P aC b _ hpo) rfl 1 (by decide) (hg _ fl_P_22) (fun _ h9 => h9) rfl d_P_becomeLike_10 ?_
  refine fm_put (v := .int ((fm_up mu (7 + 3 * pi) 0 (mu (7 + 3 * po) 0)) (7 + 3 * po) 1)) (x := ((fm_up mu (7 + 3 * pi) 0 (mu (7 + 3 * po) 0)) (7 + 3 * po) 1)) (ty := .boolean) (C := R_P) (T := T_P) (n := 9) (ci := 3) hx hb hg uw_P ty_P tk_P nm_P hown hK (fun _ h => h) hP hS (7 + 3 * pi) (lc_ltP hpi) (lc_P aC b _ hpi) rfl 1 (by decide) (hg _ fl_P_22) (fun _ h9 => h9) rfl (by decide +kernel) (nz_b (by rw [fm_up_slot (by decide)]; exact hz)) (ft_b (by rw [fm_up_slot (by decide)]; exact hz)) (Nat.le_of_ble_eq_true rfl) (lc_P aC b _ hpi) d_P_becomeLike_13 (fun H locs hP hS => ?_)
  exact k_P_becomeLike_16 l dC dI aC b ⟨hx, hb, hr, hml, hown, hts, hlocks, hK, hX⟩  (fm_up (fm_up mu (7 + 3 * pi) 0 (mu (7 + 3 * po) 0)) (7 + 3 * pi) 1 ((fm_up mu (7 + 3 * pi) 0 (mu (7 + 3 * po) 0)) (7 + 3 * po) 1)) pi po hpi hpo _ _ ls _ hP hS (lv_sub hl [0, 1] rfl) hf
set_option maxHeartbeats 4000000 in
set_option maxRecDepth 100000 in
theorem c_P_becomeLike (l : Launch) (dC : Nat → ClassId) (dI : Nat → Nat → Nat) (aC : Nat → ClassId) (b : Nat) (mu : fm_T) (pi : Nat) (po : Nat) (hpi : pi < 24) (hpo : po < 24) (hz : mu (7 + 3 * po) 1 = 0 ∨ mu (7 + 3 * po) 1 = 1) : Met l y_P_becomeLike w_P_becomeLike { frames := 1, cells := 0, slots := 0, locals := 40 } (va_Pc [.ref (b + (7 + 3 * pi)), .ref (b + (7 + 3 * po))] (fm_C (dC, dI) clsx (tysx aC) (LC aC b) b 99 (XC b) mu)) (va_Qv (fun u => u = (f_P_becomeLike mu pi po)) (fm_B (dC, dI) clsx (tysx aC) (LC aC b) b 99) (fm_A b 99)) 0 0 (fm_A b 99) := by
  refine Met.ofW (cc := b_P_becomeLike) (maxL := 2) (ret := none) (by decide) rfl ?_
  intro p e s m args below meth cd s₁ B hml hv
  obtain ⟨rfl, hP, hK, hX⟩ := hv
  have hl := lv_entry ([.ref (b + (7 + 3 * pi)), .ref (b + (7 + 3 * po))]) (n := 2) (Nat.le_of_ble_eq_true rfl)
  rw [lg_entry_eq]
  generalize (lg_sl ([.ref (b + (7 + 3 * pi)), .ref (b + (7 + 3 * po))]) ++ List.replicate (2 - (lg_sl ([.ref (b + (7 + 3 * pi)), .ref (b + (7 + 3 * po))])).length) Slot.unset).toArray = ls at hl ⊢
  exact k_P_becomeLike l dC dI aC b ⟨B.exec, B.bytes, B.returns, hml, findClass_of_methodNamed B.named, atoms_spec (ws := w_P_becomeLike) B.pre, B.notSynchronized, hK, hX⟩ mu pi po hpi hpo hz _ _ ls _ hP va_S.rf hl rfl
