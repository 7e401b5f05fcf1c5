/-! printed by wip/whole/gen: D_wall D_place D_input D_report D_doNextCommand D_sendSnapshot D_deliver D_lose D_copy D_flight D_packet D_position D_view D_predicted D_count -/
def f_D_wall (mu : fm_T) (px : Int32) (py : Int32) : Int32 × fm_T := (if (mu 0 4) = 0 then (if (f_D_isSquare px py) = 0 then (0, mu) else (if (f_F_isOccupied mu (f_D_placeOf px py)) = 0 then (1, fm_up mu 2 ((f_D_placeOf px py).toNatClampNeg) 1) else (0, mu))) else (0, mu))
theorem e_D_wall (mu : fm_T) (px : Int32) (py : Int32) : f_D_wall mu px py = (if (mu 0 4) = 0 then (if (f_D_isSquare px py) = 0 then (0, mu) else (if (f_F_isOccupied mu (f_D_placeOf px py)) = 0 then (1, fm_up mu 2 ((f_D_placeOf px py).toNatClampNeg) 1) else (0, mu))) else (0, mu)) := rfl
set_option maxHeartbeats 4000000 in
set_option maxRecDepth 100000 in
theorem k_D_wall (l : Launch) (dC : Nat → ClassId) (dI : Nat → Nat → Nat) (aC : Nat → ClassId) (b : Nat) {p : Program} {e : Env} {s : State} {m : MethodId} {args : Array Value} {below : List Frame} {meth : Method} {cd : Code} (hc : cx (dC, dI) (tysx aC) (XC b) w_D_wall b_D_wall R_D 3 (some .boolean) p s m args meth cd) (mu : fm_T) (px : Int32) (py : Int32)  (H : Heap) (locs : List Loc) (ls : Array Slot) (F : Int32 × fm_T) (hP : va_P (dC, dI) clsx (fm_w (LC aC b) b 99 mu) H) (hS : va_S (fm_A b 99) s.heap H locs) (hl : lv_has ls 3 [(0, .ref (b + 0)), (1, .int px), (2, .int py)]) (hf : F = f_D_wall mu px py) : W p l e { frames := 1, cells := 0, slots := 0, locals := 22 } s m args below meth cd H locs 0 0 (MQ below (va_Qi (fun r u => r = F.1 ∧ u = F.2) (fm_B (dC, dI) clsx (tysx aC) (LC aC b) b 99) (fm_A b 99)) args s 0 0 (fm_A b 99)) (F0 m 0 ls []) := by
  obtain ⟨hx, hb, hr, hml, hown, hts, hlocks, hK, hX⟩ := hc
  have hg : ∀ w ∈ gtbl, w.before args s = true := fun w h => hts w (List.mem_cons_of_mem _ h)
  have hf := hf.trans (e_D_wall mu px py)
  refine lv_aload_n hx hb d_D_wall_0 rfl (lv_at hl 0 rfl) ?_
  refine fm_get (C := R_D) (T := T_D) (n := 5) (ci := 0) hx hb hg uw_D hown hK hP (0) (by decide) (lc_D aC b _) rfl 4 (by decide) (hg _ fl_D_43) (fun _ h9 => h9) rfl d_D_wall_1 ?_
  refine lv_if_ne (tgt := 30) hx hb d_D_wall_4 rfl (fun h4 => ?_) (fun h4 => ?_)
  · have hf := hf.trans (if_neg h4)
    refine lv_iconst (v := 0) hx hb d_D_wall_30 (by decide) ?_
    exact rw_zret hx hb hr hlocks hK hP hS rfl hf d_D_wall_31
  · have hf := hf.trans (if_pos h4)
    refine lv_iload_n hx hb d_D_wall_7 rfl (lv_at hl 1 rfl) ?_
    refine lv_iload_n hx hb d_D_wall_8 rfl (lv_at hl 2 rfl) ?_
    refine ro_call (va_runS (As := [.int px, .int py]) (rest := []) ⟨hx, hb, hml, hown, hts⟩ (c_D_isSquare l dC dI aC b mu px py) (cw_S (fun w h => List.mem_cons_of_mem _ h) hts ks_D_isSquare ml_D_47 ⟨Nat.le_of_ble_eq_true rfl, Nat.le_of_ble_eq_true rfl⟩ rfl rfl) (fm_preS XC_bl (XC_mv hX hS) hK hP) rfl rfl hl.1 rfl (lv_room (Nat.le_of_ble_eq_true rfl)) d_D_wall_9 ⟨Nat.zero_le _, Nat.zero_le _⟩) ?_
    refine lv_if_eq (tgt := 30) hx hb d_D_wall_12 rfl (fun h12 => ?_) (fun h12 => ?_)
    · have hf := hf.trans (if_pos h12)
      refine lv_iconst (v := 0) hx hb d_D_wall_30 (by decide) ?_
      exact rw_zret hx hb hr hlocks hK hP hS rfl hf d_D_wall_31
    · have hf := hf.trans (if_neg h12)
      refine lv_aload_n hx hb d_D_wall_15 rfl (lv_at hl 0 rfl) ?_
      refine fm_get (C := R_D) (T := T_D) (n := 5) (ci := 0) hx hb hg uw_D hown hK hP (0) (by decide) (lc_D aC b _) rfl 0 (by decide) (hg _ fl_D_10) (fun _ h9 => h9) rfl d_D_wall_16 ?_
      refine lv_iload_n hx hb d_D_wall_19 rfl (lv_at hl 1 rfl) ?_
      refine lv_iload_n hx hb d_D_wall_20 rfl (lv_at hl 2 rfl) ?_
      refine ro_call (va_runS (As := [.int px, .int py]) (rest := [.ref (b + 1)]) ⟨hx, hb, hml, hown, hts⟩ (c_D_placeOf l dC dI aC b mu px py) (cw_S (fun w h => List.mem_cons_of_mem _ h) hts ks_D_placeOf ml_D_51 ⟨Nat.le_of_ble_eq_true rfl, Nat.le_of_ble_eq_true rfl⟩ rfl rfl) (fm_preS XC_bl (XC_mv hX hS) hK hP) rfl rfl hl.1 rfl (lv_room (Nat.le_of_ble_eq_true rfl)) d_D_wall_21 ⟨Nat.zero_le _, Nat.zero_le _⟩) ?_
      refine ro_call (va_runV (As := [.int (f_D_placeOf px py)]) (rest := []) ⟨hx, hb, hml, hown, hts⟩ (c_F_isOccupied l dC dI aC b mu (f_D_placeOf px py)) (cw_V (fun w h => List.mem_cons_of_mem _ h) hts kv_F_isOccupied ml_D_55 ⟨Nat.le_of_ble_eq_true rfl, Nat.le_of_ble_eq_true rfl⟩ rfl rfl) (fm_preV XC_bl (XC_mv hX hS) hK hP (1) (by decide) (lc_F aC b _) rfl) rfl rfl hl.1 rfl (lv_room (Nat.le_of_ble_eq_true rfl)) d_D_wall_24 ⟨Nat.zero_le _, Nat.zero_le _⟩) ?_
      refine lv_if_eq (tgt := 32) hx hb d_D_wall_27 rfl (fun h27 => ?_) (fun h27 => ?_)
      · have hf := hf.trans (if_pos h27)
        refine lv_aload_n hx hb d_D_wall_32 rfl (lv_at hl 0 rfl) ?_
        refine fm_get (C := R_D) (T := T_D) (n := 5) (ci := 0) hx hb hg uw_D hown hK hP (0) (by decide) (lc_D aC b _) rfl 0 (by decide) (hg _ fl_D_10) (fun _ h9 => h9) rfl d_D_wall_33 ?_
        refine fm_get (C := R_F) (T := T_F) (n := 3) (ci := 1) hx hb hg uw_F hown hK hP (1) (by decide) (lc_F aC b _) rfl 0 (by decide) (hg _ fl_D_59) (fun _ h9 => h9) rfl d_D_wall_36 ?_
        refine lv_iload_n hx hb d_D_wall_39 rfl (lv_at hl 1 rfl) ?_
        refine lv_iload_n hx hb d_D_wall_40 rfl (lv_at hl 2 rfl) ?_
        refine ro_call (va_runS (As := [.int px, .int py]) (rest := [.ref (b + 2)]) ⟨hx, hb, hml, hown, hts⟩ (c_D_placeOf l dC dI aC b mu px py) (cw_S (fun w h => List.mem_cons_of_mem _ h) hts ks_D_placeOf ml_D_51 ⟨Nat.le_of_ble_eq_true rfl, Nat.le_of_ble_eq_true rfl⟩ rfl rfl) (fm_preS XC_bl (XC_mv hX hS) hK hP) rfl rfl hl.1 rfl (lv_room (Nat.le_of_ble_eq_true rfl)) d_D_wall_41 ⟨Nat.zero_le _, Nat.zero_le _⟩) ?_
        refine lv_iconst (v := 1) hx hb d_D_wall_44 (by decide) ?_
        refine fm_zast hx hb hK (fun _ h => h) hP hS (2) (by decide) 1 (lc_walls aC b _) rfl ((f_D_placeOf px py).toNatClampNeg) (vp_e (n := 256) (sq_in h12)) (vp_l (n := 256) (sq_in h12)) (by decide) rfl (lc_walls aC b _) d_D_wall_45 (fun H locs hP hS => ?_)
        refine lv_iconst (v := 1) hx hb d_D_wall_46 (by decide) ?_
        exact rw_zret hx hb hr hlocks hK hP hS rfl hf d_D_wall_47
      · have hf := hf.trans (if_neg h27)
        refine lv_iconst (v := 0) hx hb d_D_wall_30 (by decide) ?_
        exact rw_zret hx hb hr hlocks hK hP hS rfl hf d_D_wall_31
set_option maxHeartbeats 4000000 in
set_option maxRecDepth 100000 in
theorem c_D_wall (l : Launch) (dC : Nat → ClassId) (dI : Nat → Nat → Nat) (aC : Nat → ClassId) (b : Nat) (mu : fm_T) (px : Int32) (py : Int32)  : Met l y_D_wall w_D_wall { frames := 1, cells := 0, slots := 0, locals := 22 } (va_Pc [.ref (b + 0), .int px, .int py] (fm_C (dC, dI) clsx (tysx aC) (LC aC b) b 99 (XC b) mu)) (va_Qi (fun r u => r = (f_D_wall mu px py).1 ∧ u = (f_D_wall mu px py).2) (fm_B (dC, dI) clsx (tysx aC) (LC aC b) b 99) (fm_A b 99)) 0 0 (fm_A b 99) := by
  refine Met.ofW (cc := b_D_wall) (maxL := 3) (ret := (some .boolean)) (by decide) rfl ?_
  intro p e s m args below meth cd s₁ B hml hv
  obtain ⟨rfl, hP, hK, hX⟩ := hv
  have hl := lv_entry ([.ref (b + 0), .int px, .int py]) (n := 3) (Nat.le_of_ble_eq_true rfl)
  rw [lg_entry_eq]
  generalize (lg_sl ([.ref (b + 0), .int px, .int py]) ++ List.replicate (3 - (lg_sl ([.ref (b + 0), .int px, .int py])).length) Slot.unset).toArray = ls at hl ⊢
  exact k_D_wall l dC dI aC b ⟨B.exec, B.bytes, B.returns, hml, findClass_of_methodNamed B.named, atoms_spec (ws := w_D_wall) B.pre, B.notSynchronized, hK, hX⟩ mu px py _ _ ls _ hP va_S.rf hl rfl
def f_D_place (mu : fm_T) (en : Int32) (px : Int32) (py : Int32) (dr : Int32) : Int32 × fm_T := (if (mu 0 4) = 0 then (if (f_D_isEntity en) = 0 then (0, mu) else (if (f_F_isFree mu px py) = 0 then (0, mu) else (if (f_D_isClient en) = 0 then (if (f_D_isDirection dr) = 0 then (0, mu) else (1, fm_up (fm_up mu 4 en.toNatClampNeg dr) 3 en.toNatClampNeg (f_D_placeOf px py))) else (1, fm_up (fm_up mu (81 + 6 * en.toNatClampNeg) 2 (f_D_placeOf px py)) 3 en.toNatClampNeg (f_D_placeOf px py))))) else (0, mu))
theorem e_D_place (mu : fm_T) (en : Int32) (px : Int32) (py : Int32) (dr : Int32) : f_D_place mu en px py dr = (if (mu 0 4) = 0 then (if (f_D_isEntity en) = 0 then (0, mu) else (if (f_F_isFree mu px py) = 0 then (0, mu) else (if (f_D_isClient en) = 0 then (if (f_D_isDirection dr) = 0 then (0, mu) else (1, fm_up (fm_up mu 4 en.toNatClampNeg dr) 3 en.toNatClampNeg (f_D_placeOf px py))) else (1, fm_up (fm_up mu (81 + 6 * en.toNatClampNeg) 2 (f_D_placeOf px py)) 3 en.toNatClampNeg (f_D_placeOf px py))))) else (0, mu)) := rfl
set_option maxHeartbeats 4000000 in
set_option maxRecDepth 100000 in
theorem k_D_place (l : Launch) (dC : Nat → ClassId) (dI : Nat → Nat → Nat) (aC : Nat → ClassId) (b : Nat) {p : Program} {e : Env} {s : State} {m : MethodId} {args : Array Value} {below : List Frame} {meth : Method} {cd : Code} (hc : cx (dC, dI) (tysx aC) (XC b) w_D_place b_D_place R_D 5 (some .boolean) p s m args meth cd) (mu : fm_T) (en : Int32) (px : Int32) (py : Int32) (dr : Int32)  (H : Heap) (locs : List Loc) (ls : Array Slot) (F : Int32 × fm_T) (hP : va_P (dC, dI) clsx (fm_w (LC aC b) b 99 mu) H) (hS : va_S (fm_A b 99) s.heap H locs) (hl : lv_has ls 5 [(0, .ref (b + 0)), (1, .int en), (2, .int px), (3, .int py), (4, .int dr)]) (hf : F = f_D_place mu en px py dr) : W p l e { frames := 2, cells := 0, slots := 0, locals := 43 } s m args below meth cd H locs 0 0 (MQ below (va_Qi (fun r u => r = F.1 ∧ u = F.2) (fm_B (dC, dI) clsx (tysx aC) (LC aC b) b 99) (fm_A b 99)) args s 0 0 (fm_A b 99)) (F0 m 0 ls []) := by
  obtain ⟨hx, hb, hr, hml, hown, hts, hlocks, hK, hX⟩ := hc
  have hg : ∀ w ∈ gtbl, w.before args s = true := fun w h => hts w (List.mem_cons_of_mem _ h)
  have hf := hf.trans (e_D_place mu en px py dr)
  refine lv_aload_n hx hb d_D_place_0 rfl (lv_at hl 0 rfl) ?_
  refine fm_get (C := R_D) (T := T_D) (n := 5) (ci := 0) hx hb hg uw_D hown hK hP (0) (by decide) (lc_D aC b _) rfl 4 (by decide) (hg _ fl_D_43) (fun _ h9 => h9) rfl d_D_place_1 ?_
  refine lv_if_ne (tgt := 26) hx hb d_D_place_4 rfl (fun h4 => ?_) (fun h4 => ?_)
  · have hf := hf.trans (if_neg h4)
    refine lv_iconst (v := 0) hx hb d_D_place_26 (by decide) ?_
    exact rw_zret hx hb hr hlocks hK hP hS rfl hf d_D_place_27
  · have hf := hf.trans (if_pos h4)
    refine lv_iload_n hx hb d_D_place_7 rfl (lv_at hl 1 rfl) ?_
    refine ro_call (va_runS (As := [.int en]) (rest := []) ⟨hx, hb, hml, hown, hts⟩ (c_D_isEntity l dC dI aC b mu en) (cw_S (fun w h => List.mem_cons_of_mem _ h) hts ks_D_isEntity ml_D_63 ⟨Nat.le_of_ble_eq_true rfl, Nat.le_of_ble_eq_true rfl⟩ rfl rfl) (fm_preS XC_bl (XC_mv hX hS) hK hP) rfl rfl hl.1 rfl (lv_room (Nat.le_of_ble_eq_true rfl)) d_D_place_8 ⟨Nat.zero_le _, Nat.zero_le _⟩) ?_
    refine lv_if_eq (tgt := 26) hx hb d_D_place_11 rfl (fun h11 => ?_) (fun h11 => ?_)
    · have hf := hf.trans (if_pos h11)
      refine lv_iconst (v := 0) hx hb d_D_place_26 (by decide) ?_
      exact rw_zret hx hb hr hlocks hK hP hS rfl hf d_D_place_27
    · have hf := hf.trans (if_neg h11)
      refine lv_aload_n hx hb d_D_place_14 rfl (lv_at hl 0 rfl) ?_
      refine fm_get (C := R_D) (T := T_D) (n := 5) (ci := 0) hx hb hg uw_D hown hK hP (0) (by decide) (lc_D aC b _) rfl 0 (by decide) (hg _ fl_D_10) (fun _ h9 => h9) rfl d_D_place_15 ?_
      refine lv_iload_n hx hb d_D_place_18 rfl (lv_at hl 2 rfl) ?_
      refine lv_iload_n hx hb d_D_place_19 rfl (lv_at hl 3 rfl) ?_
      refine ro_call (va_runV (As := [.int px, .int py]) (rest := []) ⟨hx, hb, hml, hown, hts⟩ (c_F_isFree l dC dI aC b mu px py) (cw_V (fun w h => List.mem_cons_of_mem _ h) hts kv_F_isFree ml_D_66 ⟨Nat.le_of_ble_eq_true rfl, Nat.le_of_ble_eq_true rfl⟩ rfl rfl) (fm_preV XC_bl (XC_mv hX hS) hK hP (1) (by decide) (lc_F aC b _) rfl) rfl rfl hl.1 rfl (lv_room (Nat.le_of_ble_eq_true rfl)) d_D_place_20 ⟨Nat.zero_le _, Nat.zero_le _⟩) ?_
      refine lv_if_ne (tgt := 28) hx hb d_D_place_23 rfl (fun h23 => ?_) (fun h23 => ?_)
      · have hf := hf.trans (if_neg h23)
        refine lv_iload_n hx hb d_D_place_28 rfl (lv_at hl 1 rfl) ?_
        refine ro_call (va_runS (As := [.int en]) (rest := []) ⟨hx, hb, hml, hown, hts⟩ (c_D_isClient l dC dI aC b mu en) (cw_S (fun w h => List.mem_cons_of_mem _ h) hts ks_D_isClient ml_D_69 ⟨Nat.le_of_ble_eq_true rfl, Nat.le_of_ble_eq_true rfl⟩ rfl rfl) (fm_preS XC_bl (XC_mv hX hS) hK hP) rfl rfl hl.1 rfl (lv_room (Nat.le_of_ble_eq_true rfl)) d_D_place_29 ⟨Nat.zero_le _, Nat.zero_le _⟩) ?_
        refine lv_if_eq (tgt := 52) hx hb d_D_place_32 rfl (fun h32 => ?_) (fun h32 => ?_)
        · have hf := hf.trans (if_pos h32)
          refine lv_iload hx hb d_D_place_52 (lv_at hl 4 rfl) ?_
          refine ro_call (va_runS (As := [.int dr]) (rest := []) ⟨hx, hb, hml, hown, hts⟩ (c_D_isDirection l dC dI aC b mu dr) (cw_S (fun w h => List.mem_cons_of_mem _ h) hts ks_D_isDirection ml_D_75 ⟨Nat.le_of_ble_eq_true rfl, Nat.le_of_ble_eq_true rfl⟩ rfl rfl) (fm_preS XC_bl (XC_mv hX hS) hK hP) rfl rfl hl.1 rfl (lv_room (Nat.le_of_ble_eq_true rfl)) d_D_place_54 ⟨Nat.zero_le _, Nat.zero_le _⟩) ?_
          refine lv_if_eq (tgt := 74) hx hb d_D_place_57 rfl (fun h57 => ?_) (fun h57 => ?_)
          · have hf := hf.trans (if_pos h57)
            refine lv_iconst (v := 0) hx hb d_D_place_74 (by decide) ?_
            exact rw_zret hx hb hr hlocks hK hP hS rfl hf d_D_place_75
          · have hf := hf.trans (if_neg h57)
            refine lv_aload_n hx hb d_D_place_60 rfl (lv_at hl 0 rfl) ?_
            refine fm_get (C := R_D) (T := T_D) (n := 5) (ci := 0) hx hb hg uw_D hown hK hP (0) (by decide) (lc_D aC b _) rfl 0 (by decide) (hg _ fl_D_10) (fun _ h9 => h9) rfl d_D_place_61 ?_
            refine fm_get (C := R_F) (T := T_F) (n := 3) (ci := 1) hx hb hg uw_F hown hK hP (1) (by decide) (lc_F aC b _) rfl 2 (by decide) (hg _ fl_D_78) (fun _ h9 => h9) rfl d_D_place_64 ?_
            refine lv_iload_n hx hb d_D_place_67 rfl (lv_at hl 1 rfl) ?_
            refine lv_iload hx hb d_D_place_68 (lv_at hl 4 rfl) ?_
            refine fm_iast hx hb hK (fun _ h => h) hP hS (4) (by decide) 0 (lc_dirs aC b _) rfl en.toNatClampNeg (vp_e (n := 8) (en_in h11)) (vp_l (n := 8) (en_in h11)) (by decide) (lc_dirs aC b _) d_D_place_70 (fun H locs hP hS => ?_)
            refine lv_goto (tgt := 76) hx hb d_D_place_71 rfl ?_
            refine lv_aload_n hx hb d_D_place_76 rfl (lv_at hl 0 rfl) ?_
            refine fm_get (C := R_D) (T := T_D) (n := 5) (ci := 0) hx hb hg uw_D hown hK hP (0) (by decide) (lc_D aC b _) rfl 0 (by decide) (hg _ fl_D_10) (fun _ h9 => h9) rfl d_D_place_77 ?_
            refine fm_get (C := R_F) (T := T_F) (n := 3) (ci := 1) hx hb hg uw_F hown hK hP (1) (by decide) (lc_F aC b _) rfl 1 (by decide) (hg _ fl_D_35) (fun _ h9 => h9) rfl d_D_place_80 ?_
            refine lv_iload_n hx hb d_D_place_83 rfl (lv_at hl 1 rfl) ?_
            refine lv_iload_n hx hb d_D_place_84 rfl (lv_at hl 2 rfl) ?_
            refine lv_iload_n hx hb d_D_place_85 rfl (lv_at hl 3 rfl) ?_
            refine ro_call (va_runS (As := [.int px, .int py]) (rest := [.int en, .ref (b + 3)]) ⟨hx, hb, hml, hown, hts⟩ (c_D_placeOf l dC dI aC b (fm_up mu 4 en.toNatClampNeg dr) px py) (cw_S (fun w h => List.mem_cons_of_mem _ h) hts ks_D_placeOf ml_D_51 ⟨Nat.le_of_ble_eq_true rfl, Nat.le_of_ble_eq_true rfl⟩ rfl rfl) (fm_preS XC_bl (XC_mv hX hS) hK hP) rfl rfl hl.1 rfl (lv_room (Nat.le_of_ble_eq_true rfl)) d_D_place_86 ⟨Nat.zero_le _, Nat.zero_le _⟩) ?_
            refine fm_iast hx hb hK (fun _ h => h) hP hS (3) (by decide) 0 (lc_places aC b _) rfl en.toNatClampNeg (vp_e (n := 8) (en_in h11)) (vp_l (n := 8) (en_in h11)) (by decide) (lc_places aC b _) d_D_place_89 (fun H locs hP hS => ?_)
            refine lv_iconst (v := 1) hx hb d_D_place_90 (by decide) ?_
            exact rw_zret hx hb hr hlocks hK hP hS rfl hf d_D_place_91
        · have hf := hf.trans (if_neg h32)
          refine lv_aload_n hx hb d_D_place_35 rfl (lv_at hl 0 rfl) ?_
          refine fm_get (C := R_D) (T := T_D) (n := 5) (ci := 0) hx hb hg uw_D hown hK hP (0) (by decide) (lc_D aC b _) rfl 2 (by decide) (hg _ fl_D_25) (fun _ h9 => h9) rfl d_D_place_36 ?_
          refine lv_iload_n hx hb d_D_place_39 rfl (lv_at hl 1 rfl) ?_
          refine fm_aald (a := b + (81 + 6 * en.toNatClampNeg)) hx hb hK hP (79) (by decide) 3 (lc_clients aC b _) rfl en.toNatClampNeg (vp_e (n := 3) (cl_in h32)) (vp_l (n := 3) (cl_in h32)) (by decide) rfl d_D_place_40 ?_
          refine lv_iload_n hx hb d_D_place_41 rfl (lv_at hl 2 rfl) ?_
          refine lv_iload_n hx hb d_D_place_42 rfl (lv_at hl 3 rfl) ?_
          refine ro_call (va_runS (As := [.int px, .int py]) (rest := [.ref (b + (81 + 6 * en.toNatClampNeg))]) ⟨hx, hb, hml, hown, hts⟩ (c_D_placeOf l dC dI aC b mu px py) (cw_S (fun w h => List.mem_cons_of_mem _ h) hts ks_D_placeOf ml_D_51 ⟨Nat.le_of_ble_eq_true rfl, Nat.le_of_ble_eq_true rfl⟩ rfl rfl) (fm_preS XC_bl (XC_mv hX hS) hK hP) rfl rfl hl.1 rfl (lv_room (Nat.le_of_ble_eq_true rfl)) d_D_place_43 ⟨Nat.zero_le _, Nat.zero_le _⟩) ?_
          refine fm_put (v := .int (f_D_placeOf px py)) (x := (f_D_placeOf px py)) (ty := .int) (C := R_C) (T := T_C) (n := 6) (ci := 4) hx hb hg uw_C ty_C tk_C nm_C hown hK (fun _ h => h) hP hS (81 + 6 * en.toNatClampNeg) (lc_ltC (vp_l (n := 3) (cl_in h32))) (lc_C aC b _ (vp_l (n := 3) (cl_in h32))) rfl 2 (by decide) (hg _ fl_D_72) (fun _ h9 => h9) rfl (by decide +kernel) rfl rfl (Nat.le_of_ble_eq_true rfl) (lc_C aC b _ (vp_l (n := 3) (cl_in h32))) d_D_place_46 (fun H locs hP hS => ?_)
          refine lv_goto (tgt := 76) hx hb d_D_place_49 rfl ?_
          refine lv_aload_n hx hb d_D_place_76 rfl (lv_at hl 0 rfl) ?_
          refine fm_get (C := R_D) (T := T_D) (n := 5) (ci := 0) hx hb hg uw_D hown hK hP (0) (by decide) (lc_D aC b _) rfl 0 (by decide) (hg _ fl_D_10) (fun _ h9 => h9) rfl d_D_place_77 ?_
          refine fm_get (C := R_F) (T := T_F) (n := 3) (ci := 1) hx hb hg uw_F hown hK hP (1) (by decide) (lc_F aC b _) rfl 1 (by decide) (hg _ fl_D_35) (fun _ h9 => h9) rfl d_D_place_80 ?_
          refine lv_iload_n hx hb d_D_place_83 rfl (lv_at hl 1 rfl) ?_
          refine lv_iload_n hx hb d_D_place_84 rfl (lv_at hl 2 rfl) ?_
          refine lv_iload_n hx hb d_D_place_85 rfl (lv_at hl 3 rfl) ?_
          refine ro_call (va_runS (As := [.int px, .int py]) (rest := [.int en, .ref (b + 3)]) ⟨hx, hb, hml, hown, hts⟩ (c_D_placeOf l dC dI aC b (fm_up mu (81 + 6 * en.toNatClampNeg) 2 (f_D_placeOf px py)) px py) (cw_S (fun w h => List.mem_cons_of_mem _ h) hts ks_D_placeOf ml_D_51 ⟨Nat.le_of_ble_eq_true rfl, Nat.le_of_ble_eq_true rfl⟩ rfl rfl) (fm_preS XC_bl (XC_mv hX hS) hK hP) rfl rfl hl.1 rfl (lv_room (Nat.le_of_ble_eq_true rfl)) d_D_place_86 ⟨Nat.zero_le _, Nat.zero_le _⟩) ?_
          refine fm_iast hx hb hK (fun _ h => h) hP hS (3) (by decide) 0 (lc_places aC b _) rfl en.toNatClampNeg (vp_e (n := 8) (en_in h11)) (vp_l (n := 8) (en_in h11)) (by decide) (lc_places aC b _) d_D_place_89 (fun H locs hP hS => ?_)
          refine lv_iconst (v := 1) hx hb d_D_place_90 (by decide) ?_
          exact rw_zret hx hb hr hlocks hK hP hS rfl hf d_D_place_91
      · have hf := hf.trans (if_pos h23)
        refine lv_iconst (v := 0) hx hb d_D_place_26 (by decide) ?_
        exact rw_zret hx hb hr hlocks hK hP hS rfl hf d_D_place_27
set_option maxHeartbeats 4000000 in
set_option maxRecDepth 100000 in
theorem c_D_place (l : Launch) (dC : Nat → ClassId) (dI : Nat → Nat → Nat) (aC : Nat → ClassId) (b : Nat) (mu : fm_T) (en : Int32) (px : Int32) (py : Int32) (dr : Int32)  : Met l y_D_place w_D_place { frames := 2, cells := 0, slots := 0, locals := 43 } (va_Pc [.ref (b + 0), .int en, .int px, .int py, .int dr] (fm_C (dC, dI) clsx (tysx aC) (LC aC b) b 99 (XC b) mu)) (va_Qi (fun r u => r = (f_D_place mu en px py dr).1 ∧ u = (f_D_place mu en px py dr).2) (fm_B (dC, dI) clsx (tysx aC) (LC aC b) b 99) (fm_A b 99)) 0 0 (fm_A b 99) := by
  refine Met.ofW (cc := b_D_place) (maxL := 5) (ret := (some .boolean)) (by decide) rfl ?_
  intro p e s m args below meth cd s₁ B hml hv
  obtain ⟨rfl, hP, hK, hX⟩ := hv
  have hl := lv_entry ([.ref (b + 0), .int en, .int px, .int py, .int dr]) (n := 5) (Nat.le_of_ble_eq_true rfl)
  rw [lg_entry_eq]
  generalize (lg_sl ([.ref (b + 0), .int en, .int px, .int py, .int dr]) ++ List.replicate (5 - (lg_sl ([.ref (b + 0), .int en, .int px, .int py, .int dr])).length) Slot.unset).toArray = ls at hl ⊢
  exact k_D_place l dC dI aC b ⟨B.exec, B.bytes, B.returns, hml, findClass_of_methodNamed B.named, atoms_spec (ws := w_D_place) B.pre, B.notSynchronized, hK, hX⟩ mu en px py dr _ _ ls _ hP va_S.rf hl rfl
def f_D_input (mu : fm_T) (cli : Int32) (cmd : Int32) : Int32 × fm_T := (if (f_D_isClient cli) = 0 then ((-1), mu) else (if (f_D_isCommand cmd) = 0 then ((-1), mu) else (if (f_C_unseenCommands mu cli.toNatClampNeg) < 12 then ((f_C_addCommand mu cli.toNatClampNeg cmd) (81 + 6 * cli.toNatClampNeg) 3, (f_C_addCommand mu cli.toNatClampNeg cmd)) else ((-1), mu))))
theorem e_D_input (mu : fm_T) (cli : Int32) (cmd : Int32) : f_D_input mu cli cmd = (if (f_D_isClient cli) = 0 then ((-1), mu) else (if (f_D_isCommand cmd) = 0 then ((-1), mu) else (if (f_C_unseenCommands mu cli.toNatClampNeg) < 12 then ((f_C_addCommand mu cli.toNatClampNeg cmd) (81 + 6 * cli.toNatClampNeg) 3, (f_C_addCommand mu cli.toNatClampNeg cmd)) else ((-1), mu)))) := rfl
set_option maxHeartbeats 4000000 in
set_option maxRecDepth 100000 in
theorem k_D_input (l : Launch) (dC : Nat → ClassId) (dI : Nat → Nat → Nat) (aC : Nat → ClassId) (b : Nat) {p : Program} {e : Env} {s : State} {m : MethodId} {args : Array Value} {below : List Frame} {meth : Method} {cd : Code} (hc : cx (dC, dI) (tysx aC) (XC b) w_D_input b_D_input R_D 4 (some .int) p s m args meth cd) (mu : fm_T) (cli : Int32) (cmd : Int32)  (H : Heap) (locs : List Loc) (ls : Array Slot) (F : Int32 × fm_T) (hP : va_P (dC, dI) clsx (fm_w (LC aC b) b 99 mu) H) (hS : va_S (fm_A b 99) s.heap H locs) (hl : lv_has ls 4 [(0, .ref (b + 0)), (1, .int cli), (2, .int cmd)]) (hf : F = f_D_input mu cli cmd) : W p l e { frames := 2, cells := 0, slots := 0, locals := 40 } s m args below meth cd H locs 0 0 (MQ below (va_Qi (fun r u => r = F.1 ∧ u = F.2) (fm_B (dC, dI) clsx (tysx aC) (LC aC b) b 99) (fm_A b 99)) args s 0 0 (fm_A b 99)) (F0 m 0 ls []) := by
  obtain ⟨hx, hb, hr, hml, hown, hts, hlocks, hK, hX⟩ := hc
  have hg : ∀ w ∈ gtbl, w.before args s = true := fun w h => hts w (List.mem_cons_of_mem _ h)
  have hf := hf.trans (e_D_input mu cli cmd)
  refine lv_iload_n hx hb d_D_input_0 rfl (lv_at hl 1 rfl) ?_
  refine ro_call (va_runS (As := [.int cli]) (rest := []) ⟨hx, hb, hml, hown, hts⟩ (c_D_isClient l dC dI aC b mu cli) (cw_S (fun w h => List.mem_cons_of_mem _ h) hts ks_D_isClient ml_D_69 ⟨Nat.le_of_ble_eq_true rfl, Nat.le_of_ble_eq_true rfl⟩ rfl rfl) (fm_preS XC_bl (XC_mv hX hS) hK hP) rfl rfl hl.1 rfl (lv_room (Nat.le_of_ble_eq_true rfl)) d_D_input_1 ⟨Nat.zero_le _, Nat.zero_le _⟩) ?_
  refine lv_if_eq (tgt := 14) hx hb d_D_input_4 rfl (fun h4 => ?_) (fun h4 => ?_)
  · have hf := hf.trans (if_pos h4)
    refine lv_iconst (v := (-1)) hx hb d_D_input_14 (by decide) ?_
    exact rw_iret hx hb hr hlocks hK hP hS hf d_D_input_15
  · have hf := hf.trans (if_neg h4)
    refine lv_iload_n hx hb d_D_input_7 rfl (lv_at hl 2 rfl) ?_
    refine ro_call (va_runS (As := [.int cmd]) (rest := []) ⟨hx, hb, hml, hown, hts⟩ (c_D_isCommand l dC dI aC b mu cmd) (cw_S (fun w h => List.mem_cons_of_mem _ h) hts ks_D_isCommand ml_D_81 ⟨Nat.le_of_ble_eq_true rfl, Nat.le_of_ble_eq_true rfl⟩ rfl rfl) (fm_preS XC_bl (XC_mv hX hS) hK hP) rfl rfl hl.1 rfl (lv_room (Nat.le_of_ble_eq_true rfl)) d_D_input_8 ⟨Nat.zero_le _, Nat.zero_le _⟩) ?_
    refine lv_if_ne (tgt := 16) hx hb d_D_input_11 rfl (fun h11 => ?_) (fun h11 => ?_)
    · have hf := hf.trans (if_neg h11)
      refine lv_aload_n hx hb d_D_input_16 rfl (lv_at hl 0 rfl) ?_
      refine fm_get (C := R_D) (T := T_D) (n := 5) (ci := 0) hx hb hg uw_D hown hK hP (0) (by decide) (lc_D aC b _) rfl 2 (by decide) (hg _ fl_D_25) (fun _ h9 => h9) rfl d_D_input_17 ?_
      refine lv_iload_n hx hb d_D_input_20 rfl (lv_at hl 1 rfl) ?_
      refine fm_aald (a := b + (81 + 6 * cli.toNatClampNeg)) hx hb hK hP (79) (by decide) 3 (lc_clients aC b _) rfl cli.toNatClampNeg (vp_e (n := 3) (cl_in h4)) (vp_l (n := 3) (cl_in h4)) (by decide) rfl d_D_input_21 ?_
      refine lv_astore_n (lv' := [(3, .ref (b + (81 + 6 * cli.toNatClampNeg))), (0, .ref (b + 0)), (1, .int cli), (2, .int cmd)]) hx hb d_D_input_22 rfl hl (by decide) rfl (fun ls hl => ?_)
      refine lv_aload_n hx hb d_D_input_23 rfl (lv_at hl 0 rfl) ?_
      refine ro_call (va_runV (As := []) (rest := []) ⟨hx, hb, hml, hown, hts⟩ (c_C_unseenCommands l dC dI aC b mu cli.toNatClampNeg (vp_l (n := 3) (cl_in h4))) (cw_V (fun w h => List.mem_cons_of_mem _ h) hts kv_C_unseenCommands ml_D_84 ⟨Nat.le_of_ble_eq_true rfl, Nat.le_of_ble_eq_true rfl⟩ rfl rfl) (fm_preV XC_bl (XC_mv hX hS) hK hP (81 + 6 * cli.toNatClampNeg) (lc_ltC (vp_l (n := 3) (cl_in h4))) (lc_C aC b _ (vp_l (n := 3) (cl_in h4))) rfl) rfl rfl hl.1 rfl (lv_room (Nat.le_of_ble_eq_true rfl)) d_D_input_24 ⟨Nat.zero_le _, Nat.zero_le _⟩) ?_
      refine lv_bipush (v := 12) hx hb d_D_input_27 (by decide) ?_
      refine lv_icmp_lt (tgt := 34) hx hb d_D_input_29 rfl (fun h29 => ?_) (fun h29 => ?_)
      · have hf := hf.trans (if_pos h29)
        refine lv_aload_n hx hb d_D_input_34 rfl (lv_at hl 0 rfl) ?_
        refine lv_iload_n hx hb d_D_input_35 rfl (lv_at hl 3 rfl) ?_
        refine fm_callv (va_runV (As := [.int cmd]) (rest := []) ⟨hx, hb, hml, hown, hts⟩ (c_C_addCommand l dC dI aC b mu cli.toNatClampNeg cmd (vp_l (n := 3) (cl_in h4))) (cw_V (fun w h => List.mem_cons_of_mem _ h) hts kv_C_addCommand ml_D_88 ⟨Nat.le_of_ble_eq_true rfl, Nat.le_of_ble_eq_true rfl⟩ rfl rfl) (fm_preV XC_bl (XC_mv hX hS) hK hP (81 + 6 * cli.toNatClampNeg) (lc_ltC (vp_l (n := 3) (cl_in h4))) (lc_C aC b _ (vp_l (n := 3) (cl_in h4))) rfl) rfl rfl hl.1 rfl (lv_room (Nat.le_of_ble_eq_true rfl)) d_D_input_36 ⟨Nat.zero_le _, Nat.zero_le _⟩) hS (fun _ h => h) (fun u H locs hp hP hS => ?_)
        subst hp
        refine lv_aload_n hx hb d_D_input_39 rfl (lv_at hl 0 rfl) ?_
        refine fm_get (C := R_C) (T := T_C) (n := 6) (ci := 4) hx hb hg uw_C hown hK hP (81 + 6 * cli.toNatClampNeg) (lc_ltC (vp_l (n := 3) (cl_in h4))) (lc_C aC b _ (vp_l (n := 3) (cl_in h4))) rfl 3 (by decide) (hg _ fl_D_91) (fun _ h9 => h9) rfl d_D_input_40 ?_
        exact rw_iret hx hb hr hlocks hK hP hS hf d_D_input_43
      · have hf := hf.trans (if_neg h29)
        refine lv_iconst (v := (-1)) hx hb d_D_input_32 (by decide) ?_
        exact rw_iret hx hb hr hlocks hK hP hS hf d_D_input_33
    · have hf := hf.trans (if_pos h11)
      refine lv_iconst (v := (-1)) hx hb d_D_input_14 (by decide) ?_
      exact rw_iret hx hb hr hlocks hK hP hS hf d_D_input_15
set_option maxHeartbeats 4000000 in
set_option maxRecDepth 100000 in
theorem c_D_input (l : Launch) (dC : Nat → ClassId) (dI : Nat → Nat → Nat) (aC : Nat → ClassId) (b : Nat) (mu : fm_T) (cli : Int32) (cmd : Int32)  : Met l y_D_input w_D_input { frames := 2, cells := 0, slots := 0, locals := 40 } (va_Pc [.ref (b + 0), .int cli, .int cmd] (fm_C (dC, dI) clsx (tysx aC) (LC aC b) b 99 (XC b) mu)) (va_Qi (fun r u => r = (f_D_input mu cli cmd).1 ∧ u = (f_D_input mu cli cmd).2) (fm_B (dC, dI) clsx (tysx aC) (LC aC b) b 99) (fm_A b 99)) 0 0 (fm_A b 99) := by
  refine Met.ofW (cc := b_D_input) (maxL := 4) (ret := (some .int)) (by decide) rfl ?_
  intro p e s m args below meth cd s₁ B hml hv
  obtain ⟨rfl, hP, hK, hX⟩ := hv
  have hl := lv_entry ([.ref (b + 0), .int cli, .int cmd]) (n := 4) (Nat.le_of_ble_eq_true rfl)
  rw [lg_entry_eq]
  generalize (lg_sl ([.ref (b + 0), .int cli, .int cmd]) ++ List.replicate (4 - (lg_sl ([.ref (b + 0), .int cli, .int cmd])).length) Slot.unset).toArray = ls at hl ⊢
  exact k_D_input l dC dI aC b ⟨B.exec, B.bytes, B.returns, hml, findClass_of_methodNamed B.named, atoms_spec (ws := w_D_input) B.pre, B.notSynchronized, hK, hX⟩ mu cli cmd _ _ ls _ hP va_S.rf hl rfl
def f_D_report (mu : fm_T) (cli : Int32) : Int32 × fm_T := (if (f_D_isClient cli) = 0 then (0, mu) else (fm_opt (f_N_addLast mu).1 (1, (f_N_addLast mu).2) (fun a13 => (1, (f_C_writeReport (fm_up ((f_N_addLast mu).2) (7 + 3 * (pn a13)) 0 cli) cli.toNatClampNeg (pn a13))))))
theorem e_D_report (mu : fm_T) (cli : Int32) : f_D_report mu cli = (if (f_D_isClient cli) = 0 then (0, mu) else (fm_opt (f_N_addLast mu).1 (1, (f_N_addLast mu).2) (fun a13 => (1, (f_C_writeReport (fm_up ((f_N_addLast mu).2) (7 + 3 * (pn a13)) 0 cli) cli.toNatClampNeg (pn a13)))))) := rfl
set_option maxHeartbeats 4000000 in
set_option maxRecDepth 100000 in
theorem k_D_report (l : Launch) (dC : Nat → ClassId) (dI : Nat → Nat → Nat) (aC : Nat → ClassId) (b : Nat) {p : Program} {e : Env} {s : State} {m : MethodId} {args : Array Value} {below : List Frame} {meth : Method} {cd : Code} (hc : cx (dC, dI) (tysx aC) (XC b) w_D_report b_D_report R_D 3 (some .boolean) p s m args meth cd) (mu : fm_T) (cli : Int32) (hI : SafC mu) (H : Heap) (locs : List Loc) (ls : Array Slot) (F : Int32 × fm_T) (hP : va_P (dC, dI) clsx (fm_w (LC aC b) b 99 mu) H) (hS : va_S (fm_A b 99) s.heap H locs) (hl : lv_has ls 3 [(0, .ref (b + 0)), (1, .int cli)]) (hf : F = f_D_report mu cli) : W p l e { frames := 2, cells := 0, slots := 0, locals := 46 } s m args below meth cd H locs 0 0 (MQ below (va_Qi (fun r u => r = F.1 ∧ u = F.2) (fm_B (dC, dI) clsx (tysx aC) (LC aC b) b 99) (fm_A b 99)) args s 0 0 (fm_A b 99)) (F0 m 0 ls []) := by
  obtain ⟨hx, hb, hr, hml, hown, hts, hlocks, hK, hX⟩ := hc
  have hg : ∀ w ∈ gtbl, w.before args s = true := fun w h => hts w (List.mem_cons_of_mem _ h)
  have hf := hf.trans (e_D_report mu cli)
  refine lv_iload_n hx hb d_D_report_0 rfl (lv_at hl 1 rfl) ?_
  refine ro_call (va_runS (As := [.int cli]) (rest := []) ⟨hx, hb, hml, hown, hts⟩ (c_D_isClient l dC dI aC b mu cli) (cw_S (fun w h => List.mem_cons_of_mem _ h) hts ks_D_isClient ml_D_69 ⟨Nat.le_of_ble_eq_true rfl, Nat.le_of_ble_eq_true rfl⟩ rfl rfl) (fm_preS XC_bl (XC_mv hX hS) hK hP) rfl rfl hl.1 rfl (lv_room (Nat.le_of_ble_eq_true rfl)) d_D_report_1 ⟨Nat.zero_le _, Nat.zero_le _⟩) ?_
  refine lv_if_ne (tgt := 9) hx hb d_D_report_4 rfl (fun h4 => ?_) (fun h4 => ?_)
  · have hf := hf.trans (if_neg h4)
    refine lv_aload_n hx hb d_D_report_9 rfl (lv_at hl 0 rfl) ?_
    refine fm_get (C := R_D) (T := T_D) (n := 5) (ci := 0) hx hb hg uw_D hown hK hP (0) (by decide) (lc_D aC b _) rfl 1 (by decide) (hg _ fl_D_19) (fun _ h9 => h9) rfl d_D_report_10 ?_
    refine fm_callq (va_runV (As := []) (rest := []) ⟨hx, hb, hml, hown, hts⟩ (c_N_addLast l dC dI aC b mu hI) (cw_V (fun w h => List.mem_cons_of_mem _ h) hts kv_N_addLast ml_D_94 ⟨Nat.le_of_ble_eq_true rfl, Nat.le_of_ble_eq_true rfl⟩ rfl rfl) (fm_preV XC_bl (XC_mv hX hS) hK hP (5) (by decide) (lc_N aC b _) rfl) rfl rfl hl.1 rfl (lv_room (Nat.le_of_ble_eq_true rfl)) d_D_report_13 ⟨Nat.zero_le _, Nat.zero_le _⟩) hS (fun _ h => h) (fun r u H locs hp hP hS => ?_)
    obtain ⟨rfl, rfl⟩ := hp
    rcases hq : (f_N_addLast mu).1 with _ | a13
    · have hf := hf.trans (fm_opt_none hq)
      show W p l e _ s m args below meth cd _ _ _ _ _ (F0 m _ ls [.null])
      refine lv_astore_nN (lv' := [(2, .null), (0, .ref (b + 0)), (1, .int cli)]) hx hb d_D_report_16 rfl hl (by decide) rfl (fun ls hl => ?_)
      refine lv_aload_nN hx hb d_D_report_17 rfl (lv_at hl 0 rfl) ?_
      refine lv_ifnullN (tgt := 36) hx hb d_D_report_18 rfl ?_
      refine lv_iconst (v := 1) hx hb d_D_report_36 (by decide) ?_
      exact rw_zret hx hb hr hlocks hK hP hS rfl hf d_D_report_37
    · have hf := hf.trans (fm_opt_some hq)
      show W p l e _ s m args below meth cd _ _ _ _ _ (F0 m _ ls [.ref (b + (7 + 3 * (pn a13)))])
      refine lv_astore_n (lv' := [(2, .ref (b + (7 + 3 * (pn a13)))), (0, .ref (b + 0)), (1, .int cli)]) hx hb d_D_report_16 rfl hl (by decide) rfl (fun ls hl => ?_)
      refine lv_aload_n hx hb d_D_report_17 rfl (lv_at hl 0 rfl) ?_
      refine lv_ifnull hx hb d_D_report_18 ?_
      refine lv_aload_n hx hb d_D_report_21 rfl (lv_at hl 0 rfl) ?_
      refine lv_iload_n hx hb d_D_report_22 rfl (lv_at hl 2 rfl) ?_
      refine fm_put (v := .int cli) (x := cli) (ty := .int) (C := R_P) (T := T_P) (n := 9) (ci := 3) hx hb hg uw_P ty_P tk_P nm_P hown hK (fun _ h => h) hP hS (7 + 3 * (pn a13)) (lc_ltP (pn_lt _)) (lc_P aC b _ (pn_lt _)) rfl 0 (by decide) (hg _ fl_D_98) (fun _ h9 => h9) rfl (by decide +kernel) rfl rfl (Nat.le_of_ble_eq_true rfl) (lc_P aC b _ (pn_lt _)) d_D_report_23 (fun H locs hP hS => ?_)
      refine lv_aload_n hx hb d_D_report_26 rfl (lv_at hl 1 rfl) ?_
      refine fm_get (C := R_D) (T := T_D) (n := 5) (ci := 0) hx hb hg uw_D hown hK hP (0) (by decide) (lc_D aC b _) rfl 2 (by decide) (hg _ fl_D_25) (fun _ h9 => h9) rfl d_D_report_27 ?_
      refine lv_iload_n hx hb d_D_report_30 rfl (lv_at hl 2 rfl) ?_
      refine fm_aald (a := b + (81 + 6 * cli.toNatClampNeg)) hx hb hK hP (79) (by decide) 3 (lc_clients aC b _) rfl cli.toNatClampNeg (vp_e (n := 3) (cl_in h4)) (vp_l (n := 3) (cl_in h4)) (by decide) rfl d_D_report_31 ?_
      refine lv_aload_n hx hb d_D_report_32 rfl (lv_at hl 0 rfl) ?_
      refine fm_callv (va_runV (As := [.ref (b + (7 + 3 * (pn a13)))]) (rest := []) ⟨hx, hb, hml, hown, hts⟩ (c_C_writeReport l dC dI aC b (fm_up ((f_N_addLast mu).2) (7 + 3 * (pn a13)) 0 cli) cli.toNatClampNeg (pn a13) (vp_l (n := 3) (cl_in h4)) (pn_lt _)) (cw_V (fun w h => List.mem_cons_of_mem _ h) hts kv_C_writeReport ml_D_103 ⟨Nat.le_of_ble_eq_true rfl, Nat.le_of_ble_eq_true rfl⟩ rfl rfl) (fm_preV XC_bl (XC_mv hX hS) hK hP (81 + 6 * cli.toNatClampNeg) (lc_ltC (vp_l (n := 3) (cl_in h4))) (lc_C aC b _ (vp_l (n := 3) (cl_in h4))) rfl) rfl rfl hl.1 rfl (lv_room (Nat.le_of_ble_eq_true rfl)) d_D_report_33 ⟨Nat.zero_le _, Nat.zero_le _⟩) hS (fun _ h => h) (fun u H locs hp hP hS => ?_)
      subst hp
      refine lv_iconst (v := 1) hx hb d_D_report_36 (by decide) ?_
      exact rw_zret hx hb hr hlocks hK hP hS rfl hf d_D_report_37
  · have hf := hf.trans (if_pos h4)
    refine lv_iconst (v := 0) hx hb d_D_report_7 (by decide) ?_
    exact rw_zret hx hb hr hlocks hK hP hS rfl hf d_D_report_8
set_option maxHeartbeats 4000000 in
set_option maxRecDepth 100000 in
theorem c_D_report (l : Launch) (dC : Nat → ClassId) (dI : Nat → Nat → Nat) (aC : Nat → ClassId) (b : Nat) (mu : fm_T) (cli : Int32) (hI : SafC mu) : Met l y_D_report w_D_report { frames := 2, cells := 0, slots := 0, locals := 46 } (va_Pc [.ref (b + 0), .int cli] (fm_C (dC, dI) clsx (tysx aC) (LC aC b) b 99 (XC b) mu)) (va_Qi (fun r u => r = (f_D_report mu cli).1 ∧ u = (f_D_report mu cli).2) (fm_B (dC, dI) clsx (tysx aC) (LC aC b) b 99) (fm_A b 99)) 0 0 (fm_A b 99) := by
  refine Met.ofW (cc := b_D_report) (maxL := 3) (ret := (some .boolean)) (by decide) rfl ?_
  intro p e s m args below meth cd s₁ B hml hv
  obtain ⟨rfl, hP, hK, hX⟩ := hv
  have hl := lv_entry ([.ref (b + 0), .int cli]) (n := 3) (Nat.le_of_ble_eq_true rfl)
  rw [lg_entry_eq]
  generalize (lg_sl ([.ref (b + 0), .int cli]) ++ List.replicate (3 - (lg_sl ([.ref (b + 0), .int cli])).length) Slot.unset).toArray = ls at hl ⊢
  exact k_D_report l dC dI aC b ⟨B.exec, B.bytes, B.returns, hml, findClass_of_methodNamed B.named, atoms_spec (ws := w_D_report) B.pre, B.notSynchronized, hK, hX⟩ mu cli hI _ _ ls _ hP va_S.rf hl rfl
def f_D_doNextCommand (mu : fm_T) (cn : Nat) : fm_T := (if ((f_A_takeNextCommand mu cn).1) = (-1) then (f_A_takeNextCommand mu cn).2 else fm_up ((f_A_takeNextCommand mu cn).2) 3 cn (f_F_after ((f_A_takeNextCommand mu cn).2) (((f_A_takeNextCommand mu cn).2) 3 cn) ((f_A_takeNextCommand mu cn).1)))
theorem e_D_doNextCommand (mu : fm_T) (cn : Nat) : f_D_doNextCommand mu cn = (if ((f_A_takeNextCommand mu cn).1) = (-1) then (f_A_takeNextCommand mu cn).2 else fm_up ((f_A_takeNextCommand mu cn).2) 3 cn (f_F_after ((f_A_takeNextCommand mu cn).2) (((f_A_takeNextCommand mu cn).2) 3 cn) ((f_A_takeNextCommand mu cn).1))) := rfl
set_option maxHeartbeats 4000000 in
set_option maxRecDepth 100000 in
theorem k_D_doNextCommand (l : Launch) (dC : Nat → ClassId) (dI : Nat → Nat → Nat) (aC : Nat → ClassId) (b : Nat) {p : Program} {e : Env} {s : State} {m : MethodId} {args : Array Value} {below : List Frame} {meth : Method} {cd : Code} (hc : cx (dC, dI) (tysx aC) (XC b) w_D_doNextCommand b_D_doNextCommand R_D 3 none p s m args meth cd) (mu : fm_T) (cn : Nat) (hcn : cn < 3) (hI : SafC mu) (H : Heap) (locs : List Loc) (ls : Array Slot) (F : fm_T) (hP : va_P (dC, dI) clsx (fm_w (LC aC b) b 99 mu) H) (hS : va_S (fm_A b 99) s.heap H locs) (hl : lv_has ls 3 [(0, .ref (b + 0)), (1, .int (nI cn))]) (hf : F = f_D_doNextCommand mu cn) : W p l e { frames := 3, cells := 0, slots := 0, locals := 67 } s m args below meth cd H locs 0 0 (MQ below (va_Qv (fun u => u = F) (fm_B (dC, dI) clsx (tysx aC) (LC aC b) b 99) (fm_A b 99)) args s 0 0 (fm_A b 99)) (F0 m 0 ls []) := by
  obtain ⟨hx, hb, hr, hml, hown, hts, hlocks, hK, hX⟩ := hc
  have hg : ∀ w ∈ gtbl, w.before args s = true := fun w h => hts w (List.mem_cons_of_mem _ h)
  have hf := hf.trans (e_D_doNextCommand mu cn)
  refine lv_aload_n hx hb d_D_doNextCommand_0 rfl (lv_at hl 0 rfl) ?_
  refine fm_get (C := R_D) (T := T_D) (n := 5) (ci := 0) hx hb hg uw_D hown hK hP (0) (by decide) (lc_D aC b _) rfl 3 (by decide) (hg _ fl_D_31) (fun _ h9 => h9) rfl d_D_doNextCommand_1 ?_
  refine lv_iload_n hx hb d_D_doNextCommand_4 rfl (lv_at hl 1 rfl) ?_
  refine fm_aald (a := b + (84 + 6 * cn)) hx hb hK hP (80) (by decide) 4 (lc_accounts aC b _) rfl cn rfl (by omega) (by decide) rfl d_D_doNextCommand_5 ?_
  refine fm_calli (va_runV (As := []) (rest := []) ⟨hx, hb, hml, hown, hts⟩ (c_A_takeNextCommand l dC dI aC b mu cn (by omega)) (cw_V (fun w h => List.mem_cons_of_mem _ h) hts kv_A_takeNextCommand ml_D_180 ⟨Nat.le_of_ble_eq_true rfl, Nat.le_of_ble_eq_true rfl⟩ rfl rfl) (fm_preV XC_bl (XC_mv hX hS) hK hP (84 + 6 * cn) (lc_ltA (by omega)) (lc_A aC b _ (by omega)) rfl) rfl rfl hl.1 rfl (lv_room (Nat.le_of_ble_eq_true rfl)) d_D_doNextCommand_6 ⟨Nat.zero_le _, Nat.zero_le _⟩) hS (fun _ h => h) (fun r u H locs hp hP hS => ?_)
  obtain ⟨rfl, rfl⟩ := hp
  refine lv_istore_n (lv' := [(2, .int ((f_A_takeNextCommand mu cn).1)), (0, .ref (b + 0)), (1, .int (nI cn))]) hx hb d_D_doNextCommand_9 rfl hl (by decide) rfl (fun ls hl => ?_)
  refine lv_iload_n hx hb d_D_doNextCommand_10 rfl (lv_at hl 0 rfl) ?_
  refine lv_iconst (v := (-1)) hx hb d_D_doNextCommand_11 (by decide) ?_
  refine lv_icmp_eq (tgt := 41) hx hb d_D_doNextCommand_12 rfl (fun h12 => ?_) (fun h12 => ?_)
  · have hf := hf.trans (if_pos h12)
    exact rw_vret hx hb hr hlocks hK hP hS hf d_D_doNextCommand_41
  · have hf := hf.trans (if_neg h12)
    refine lv_aload_n hx hb d_D_doNextCommand_15 rfl (lv_at hl 1 rfl) ?_
    refine fm_get (C := R_D) (T := T_D) (n := 5) (ci := 0) hx hb hg uw_D hown hK hP (0) (by decide) (lc_D aC b _) rfl 0 (by decide) (hg _ fl_D_10) (fun _ h9 => h9) rfl d_D_doNextCommand_16 ?_
    refine fm_get (C := R_F) (T := T_F) (n := 3) (ci := 1) hx hb hg uw_F hown hK hP (1) (by decide) (lc_F aC b _) rfl 1 (by decide) (hg _ fl_D_35) (fun _ h9 => h9) rfl d_D_doNextCommand_19 ?_
    refine lv_iload_n hx hb d_D_doNextCommand_22 rfl (lv_at hl 2 rfl) ?_
    refine lv_aload_n hx hb d_D_doNextCommand_23 rfl (lv_at hl 1 rfl) ?_
    refine fm_get (C := R_D) (T := T_D) (n := 5) (ci := 0) hx hb hg uw_D hown hK hP (0) (by decide) (lc_D aC b _) rfl 0 (by decide) (hg _ fl_D_10) (fun _ h9 => h9) rfl d_D_doNextCommand_24 ?_
    refine lv_aload_n hx hb d_D_doNextCommand_27 rfl (lv_at hl 1 rfl) ?_
    refine fm_get (C := R_D) (T := T_D) (n := 5) (ci := 0) hx hb hg uw_D hown hK hP (0) (by decide) (lc_D aC b _) rfl 0 (by decide) (hg _ fl_D_10) (fun _ h9 => h9) rfl d_D_doNextCommand_28 ?_
    refine fm_get (C := R_F) (T := T_F) (n := 3) (ci := 1) hx hb hg uw_F hown hK hP (1) (by decide) (lc_F aC b _) rfl 1 (by decide) (hg _ fl_D_35) (fun _ h9 => h9) rfl d_D_doNextCommand_31 ?_
    refine lv_iload_n hx hb d_D_doNextCommand_34 rfl (lv_at hl 2 rfl) ?_
    refine fm_iald hx hb hK hP (3) (by decide) 0 (lc_places aC b _) rfl cn rfl (by omega) (by decide) d_D_doNextCommand_35 ?_
    refine lv_iload_n hx hb d_D_doNextCommand_36 rfl (lv_at hl 0 rfl) ?_
    refine ro_call (va_runV (As := [.int (((f_A_takeNextCommand mu cn).2) 3 cn), .int ((f_A_takeNextCommand mu cn).1)]) (rest := [.int (nI cn), .ref (b + 3)]) ⟨hx, hb, hml, hown, hts⟩ (c_F_after l dC dI aC b ((f_A_takeNextCommand mu cn).2) (((f_A_takeNextCommand mu cn).2) 3 cn) ((f_A_takeNextCommand mu cn).1) (tn_in hI hcn h12)) (cw_V (fun w h => List.mem_cons_of_mem _ h) hts kv_F_after ml_D_170 ⟨Nat.le_of_ble_eq_true rfl, Nat.le_of_ble_eq_true rfl⟩ rfl rfl) (fm_preV XC_bl (XC_mv hX hS) hK hP (1) (by decide) (lc_F aC b _) rfl) rfl rfl hl.1 rfl (lv_room (Nat.le_of_ble_eq_true rfl)) d_D_doNextCommand_37 ⟨Nat.zero_le _, Nat.zero_le _⟩) ?_
    refine fm_iast hx hb hK (fun _ h => h) hP hS (3) (by decide) 0 (lc_places aC b _) rfl cn rfl (by omega) (by decide) (lc_places aC b _) d_D_doNextCommand_40 (fun H locs hP hS => ?_)
    exact rw_vret hx hb hr hlocks hK hP hS hf d_D_doNextCommand_41
set_option maxHeartbeats 4000000 in
set_option maxRecDepth 100000 in
theorem c_D_doNextCommand (l : Launch) (dC : Nat → ClassId) (dI : Nat → Nat → Nat) (aC : Nat → ClassId) (b : Nat) (mu : fm_T) (cn : Nat) (hcn : cn < 3) (hI : SafC mu) : Met l y_D_doNextCommand w_D_doNextCommand { frames := 3, cells := 0, slots := 0, locals := 67 } (va_Pc [.ref (b + 0), .int (nI cn)] (fm_C (dC, dI) clsx (tysx aC) (LC aC b) b 99 (XC b) mu)) (va_Qv (fun u => u = (f_D_doNextCommand mu cn)) (fm_B (dC, dI) clsx (tysx aC) (LC aC b) b 99) (fm_A b 99)) 0 0 (fm_A b 99) := by
  refine Met.ofW (cc := b_D_doNextCommand) (maxL := 3) (ret := none) (by decide) rfl ?_
  intro p e s m args below meth cd s₁ B hml hv
  obtain ⟨rfl, hP, hK, hX⟩ := hv
  have hl := lv_entry ([.ref (b + 0), .int (nI cn)]) (n := 3) (Nat.le_of_ble_eq_true rfl)
  rw [lg_entry_eq]
  generalize (lg_sl ([.ref (b + 0), .int (nI cn)]) ++ List.replicate (3 - (lg_sl ([.ref (b + 0), .int (nI cn)])).length) Slot.unset).toArray = ls at hl ⊢
  exact k_D_doNextCommand l dC dI aC b ⟨B.exec, B.bytes, B.returns, hml, findClass_of_methodNamed B.named, atoms_spec (ws := w_D_doNextCommand) B.pre, B.notSynchronized, hK, hX⟩ mu cn hcn hI _ _ ls _ hP va_S.rf hl rfl
def f_D_sendSnapshot (mu : fm_T) (cn : Nat) : fm_T := (fm_opt (f_N_addLast (f_A_remember mu cn (mu 0 4) cn)).1 (f_N_addLast (f_A_remember mu cn (mu 0 4) cn)).2 (fun a24 => (f_A_writeSnapshot (fm_up ((f_N_addLast (f_A_remember mu cn (mu 0 4) cn)).2) (7 + 3 * (pn a24)) 0 (nI cn)) cn (pn a24) ((fm_up ((f_N_addLast (f_A_remember mu cn (mu 0 4) cn)).2) (7 + 3 * (pn a24)) 0 (nI cn)) 0 4))))
theorem e_D_sendSnapshot (mu : fm_T) (cn : Nat) : f_D_sendSnapshot mu cn = (fm_opt (f_N_addLast (f_A_remember mu cn (mu 0 4) cn)).1 (f_N_addLast (f_A_remember mu cn (mu 0 4) cn)).2 (fun a24 => (f_A_writeSnapshot (fm_up ((f_N_addLast (f_A_remember mu cn (mu 0 4) cn)).2) (7 + 3 * (pn a24)) 0 (nI cn)) cn (pn a24) ((fm_up ((f_N_addLast (f_A_remember mu cn (mu 0 4) cn)).2) (7 + 3 * (pn a24)) 0 (nI cn)) 0 4)))) := rfl
set_option maxHeartbeats 4000000 in
set_option maxRecDepth 100000 in
theorem k_D_sendSnapshot (l : Launch) (dC : Nat → ClassId) (dI : Nat → Nat → Nat) (aC : Nat → ClassId) (b : Nat) {p : Program} {e : Env} {s : State} {m : MethodId} {args : Array Value} {below : List Frame} {meth : Method} {cd : Code} (hc : cx (dC, dI) (tysx aC) (XC b) w_D_sendSnapshot b_D_sendSnapshot R_D 4 none p s m args meth cd) (mu : fm_T) (cn : Nat) (hcn : cn < 3) (hI : SafC mu) (H : Heap) (locs : List Loc) (ls : Array Slot) (F : fm_T) (hP : va_P (dC, dI) clsx (fm_w (LC aC b) b 99 mu) H) (hS : va_S (fm_A b 99) s.heap H locs) (hl : lv_has ls 4 [(0, .ref (b + 0)), (1, .int (nI cn))]) (hf : F = f_D_sendSnapshot mu cn) : W p l e { frames := 5, cells := 0, slots := 0, locals := 113 } s m args below meth cd H locs 0 0 (MQ below (va_Qv (fun u => u = F) (fm_B (dC, dI) clsx (tysx aC) (LC aC b) b 99) (fm_A b 99)) args s 0 0 (fm_A b 99)) (F0 m 0 ls []) := by
  obtain ⟨hx, hb, hr, hml, hown, hts, hlocks, hK, hX⟩ := hc
  have hg : ∀ w ∈ gtbl, w.before args s = true := fun w h => hts w (List.mem_cons_of_mem _ h)
  have hf := hf.trans (e_D_sendSnapshot mu cn)
  refine lv_aload_n hx hb d_D_sendSnapshot_0 rfl (lv_at hl 0 rfl) ?_
  refine fm_get (C := R_D) (T := T_D) (n := 5) (ci := 0) hx hb hg uw_D hown hK hP (0) (by decide) (lc_D aC b _) rfl 3 (by decide) (hg _ fl_D_31) (fun _ h9 => h9) rfl d_D_sendSnapshot_1 ?_
  refine lv_iload_n hx hb d_D_sendSnapshot_4 rfl (lv_at hl 1 rfl) ?_
  refine fm_aald (a := b + (84 + 6 * cn)) hx hb hK hP (80) (by decide) 4 (lc_accounts aC b _) rfl cn rfl (by omega) (by decide) rfl d_D_sendSnapshot_5 ?_
  refine lv_astore_n (lv' := [(2, .ref (b + (84 + 6 * cn))), (0, .ref (b + 0)), (1, .int (nI cn))]) hx hb d_D_sendSnapshot_6 rfl hl (by decide) rfl (fun ls hl => ?_)
  refine lv_aload_n hx hb d_D_sendSnapshot_7 rfl (lv_at hl 0 rfl) ?_
  refine lv_aload_n hx hb d_D_sendSnapshot_8 rfl (lv_at hl 1 rfl) ?_
  refine fm_get (C := R_D) (T := T_D) (n := 5) (ci := 0) hx hb hg uw_D hown hK hP (0) (by decide) (lc_D aC b _) rfl 4 (by decide) (hg _ fl_D_43) (fun _ h9 => h9) rfl d_D_sendSnapshot_9 ?_
  refine lv_aload_n hx hb d_D_sendSnapshot_12 rfl (lv_at hl 1 rfl) ?_
  refine fm_get (C := R_D) (T := T_D) (n := 5) (ci := 0) hx hb hg uw_D hown hK hP (0) (by decide) (lc_D aC b _) rfl 0 (by decide) (hg _ fl_D_10) (fun _ h9 => h9) rfl d_D_sendSnapshot_13 ?_
  refine lv_iload_n hx hb d_D_sendSnapshot_16 rfl (lv_at hl 2 rfl) ?_
  refine fm_callv (va_runV (As := [.int (mu 0 4), .ref (b + 1), .int (nI cn)]) (rest := []) ⟨hx, hb, hml, hown, hts⟩ (c_A_remember l dC dI aC b mu cn (mu 0 4) cn hcn (by omega)) (cw_V (fun w h => List.mem_cons_of_mem _ h) hts kv_A_remember ml_D_183 ⟨Nat.le_of_ble_eq_true rfl, Nat.le_of_ble_eq_true rfl⟩ rfl rfl) (fm_preV XC_bl (XC_mv hX hS) hK hP (84 + 6 * cn) (lc_ltA (by omega)) (lc_A aC b _ (by omega)) rfl) rfl rfl hl.1 rfl (lv_room (Nat.le_of_ble_eq_true rfl)) d_D_sendSnapshot_17 ⟨Nat.zero_le _, Nat.zero_le _⟩) hS (fun _ h => h) (fun u H locs hp hP hS => ?_)
  subst hp
  refine lv_aload_n hx hb d_D_sendSnapshot_20 rfl (lv_at hl 1 rfl) ?_
  refine fm_get (C := R_D) (T := T_D) (n := 5) (ci := 0) hx hb hg uw_D hown hK hP (0) (by decide) (lc_D aC b _) rfl 1 (by decide) (hg _ fl_D_19) (fun _ h9 => h9) rfl d_D_sendSnapshot_21 ?_
  refine fm_callq (va_runV (As := []) (rest := []) ⟨hx, hb, hml, hown, hts⟩ (c_N_addLast l dC dI aC b (f_A_remember mu cn (mu 0 4) cn) (saf_remember hI hcn _ _)) (cw_V (fun w h => List.mem_cons_of_mem _ h) hts kv_N_addLast ml_D_94 ⟨Nat.le_of_ble_eq_true rfl, Nat.le_of_ble_eq_true rfl⟩ rfl rfl) (fm_preV XC_bl (XC_mv hX hS) hK hP (5) (by decide) (lc_N aC b _) rfl) rfl rfl hl.1 rfl (lv_room (Nat.le_of_ble_eq_true rfl)) d_D_sendSnapshot_24 ⟨Nat.zero_le _, Nat.zero_le _⟩) hS (fun _ h => h) (fun r u H locs hp hP hS => ?_)
  obtain ⟨rfl, rfl⟩ := hp
  rcases hq : (f_N_addLast (f_A_remember mu cn (mu 0 4) cn)).1 with _ | a24
  · have hf := hf.trans (fm_opt_none hq)
    show W p l e _ s m args below meth cd _ _ _ _ _ (F0 m _ ls [.null])
    refine lv_astore_nN (lv' := [(3, .null), (2, .ref (b + (84 + 6 * cn))), (0, .ref (b + 0)), (1, .int (nI cn))]) hx hb d_D_sendSnapshot_27 rfl hl (by decide) rfl (fun ls hl => ?_)
    refine lv_aload_nN hx hb d_D_sendSnapshot_28 rfl (lv_at hl 0 rfl) ?_
    refine lv_ifnullN (tgt := 46) hx hb d_D_sendSnapshot_29 rfl ?_
    exact rw_vret hx hb hr hlocks hK hP hS hf d_D_sendSnapshot_46
  · have hf := hf.trans (fm_opt_some hq)
    show W p l e _ s m args below meth cd _ _ _ _ _ (F0 m _ ls [.ref (b + (7 + 3 * (pn a24)))])
    refine lv_astore_n (lv' := [(3, .ref (b + (7 + 3 * (pn a24)))), (2, .ref (b + (84 + 6 * cn))), (0, .ref (b + 0)), (1, .int (nI cn))]) hx hb d_D_sendSnapshot_27 rfl hl (by decide) rfl (fun ls hl => ?_)
    refine lv_aload_n hx hb d_D_sendSnapshot_28 rfl (lv_at hl 0 rfl) ?_
    refine lv_ifnull hx hb d_D_sendSnapshot_29 ?_
    refine lv_aload_n hx hb d_D_sendSnapshot_32 rfl (lv_at hl 0 rfl) ?_
    refine lv_iload_n hx hb d_D_sendSnapshot_33 rfl (lv_at hl 3 rfl) ?_
    refine fm_put (v := .int (nI cn)) (x := (nI cn)) (ty := .int) (C := R_P) (T := T_P) (n := 9) (ci := 3) hx hb hg uw_P ty_P tk_P nm_P hown hK (fun _ h => h) hP hS (7 + 3 * (pn a24)) (lc_ltP (pn_lt _)) (lc_P aC b _ (pn_lt _)) rfl 0 (by decide) (hg _ fl_D_98) (fun _ h9 => h9) rfl (by decide +kernel) rfl rfl (Nat.le_of_ble_eq_true rfl) (lc_P aC b _ (pn_lt _)) d_D_sendSnapshot_34 (fun H locs hP hS => ?_)
    refine lv_aload_n hx hb d_D_sendSnapshot_37 rfl (lv_at hl 1 rfl) ?_
    refine lv_aload_n hx hb d_D_sendSnapshot_38 rfl (lv_at hl 0 rfl) ?_
    refine lv_aload_n hx hb d_D_sendSnapshot_39 rfl (lv_at hl 2 rfl) ?_
    refine fm_get (C := R_D) (T := T_D) (n := 5) (ci := 0) hx hb hg uw_D hown hK hP (0) (by decide) (lc_D aC b _) rfl 4 (by decide) (hg _ fl_D_43) (fun _ h9 => h9) rfl d_D_sendSnapshot_40 ?_
    refine fm_callv (va_runV (As := [.ref (b + (7 + 3 * (pn a24))), .int ((fm_up ((f_N_addLast (f_A_remember mu cn (mu 0 4) cn)).2) (7 + 3 * (pn a24)) 0 (nI cn)) 0 4)]) (rest := []) ⟨hx, hb, hml, hown, hts⟩ (c_A_writeSnapshot l dC dI aC b (fm_up ((f_N_addLast (f_A_remember mu cn (mu 0 4) cn)).2) (7 + 3 * (pn a24)) 0 (nI cn)) cn (pn a24) ((fm_up ((f_N_addLast (f_A_remember mu cn (mu 0 4) cn)).2) (7 + 3 * (pn a24)) 0 (nI cn)) 0 4) hcn (pn_lt _)) (cw_V (fun w h => List.mem_cons_of_mem _ h) hts kv_A_writeSnapshot ml_D_187 ⟨Nat.le_of_ble_eq_true rfl, Nat.le_of_ble_eq_true rfl⟩ rfl rfl) (fm_preV XC_bl (XC_mv hX hS) hK hP (84 + 6 * cn) (lc_ltA (by omega)) (lc_A aC b _ (by omega)) rfl) rfl rfl hl.1 rfl (lv_room (Nat.le_of_ble_eq_true rfl)) d_D_sendSnapshot_43 ⟨Nat.zero_le _, Nat.zero_le _⟩) hS (fun _ h => h) (fun u H locs hp hP hS => ?_)
    subst hp
    exact rw_vret hx hb hr hlocks hK hP hS hf d_D_sendSnapshot_46
set_option maxHeartbeats 4000000 in
set_option maxRecDepth 100000 in
theorem c_D_sendSnapshot (l : Launch) (dC : Nat → ClassId) (dI : Nat → Nat → Nat) (aC : Nat → ClassId) (b : Nat) (mu : fm_T) (cn : Nat) (hcn : cn < 3) (hI : SafC mu) : Met l y_D_sendSnapshot w_D_sendSnapshot { frames := 5, cells := 0, slots := 0, locals := 113 } (va_Pc [.ref (b + 0), .int (nI cn)] (fm_C (dC, dI) clsx (tysx aC) (LC aC b) b 99 (XC b) mu)) (va_Qv (fun u => u = (f_D_sendSnapshot mu cn)) (fm_B (dC, dI) clsx (tysx aC) (LC aC b) b 99) (fm_A b 99)) 0 0 (fm_A b 99) := by
  refine Met.ofW (cc := b_D_sendSnapshot) (maxL := 4) (ret := none) (by decide) rfl ?_
  intro p e s m args below meth cd s₁ B hml hv
  obtain ⟨rfl, hP, hK, hX⟩ := hv
  have hl := lv_entry ([.ref (b + 0), .int (nI cn)]) (n := 4) (Nat.le_of_ble_eq_true rfl)
  rw [lg_entry_eq]
  generalize (lg_sl ([.ref (b + 0), .int (nI cn)]) ++ List.replicate (4 - (lg_sl ([.ref (b + 0), .int (nI cn)])).length) Slot.unset).toArray = ls at hl ⊢
  exact k_D_sendSnapshot l dC dI aC b ⟨B.exec, B.bytes, B.returns, hml, findClass_of_methodNamed B.named, atoms_spec (ws := w_D_sendSnapshot) B.pre, B.notSynchronized, hK, hX⟩ mu cn hcn hI _ _ ls _ hP va_S.rf hl rfl
def f_D_deliver (mu : fm_T) (kk : Int32) : Int32 × fm_T := (if (f_N_has mu kk) = 0 then ((-1), mu) else (if (((f_N_takeOut mu kk).2) (7 + 3 * (pn (f_N_takeOut mu kk).1)) 1) = 0 then (1, (f_A_readReport ((f_N_takeOut mu kk).2) ((((f_N_takeOut mu kk).2) (7 + 3 * (pn (f_N_takeOut mu kk).1)) 0).toNatClampNeg) (pn (f_N_takeOut mu kk).1))) else (if ((f_C_takeSnapshot ((f_N_takeOut mu kk).2) ((((f_N_takeOut mu kk).2) (7 + 3 * (pn (f_N_takeOut mu kk).1)) 0).toNatClampNeg) (pn (f_N_takeOut mu kk).1)).1) = 0 then (0, (f_C_takeSnapshot ((f_N_takeOut mu kk).2) ((((f_N_takeOut mu kk).2) (7 + 3 * (pn (f_N_takeOut mu kk).1)) 0).toNatClampNeg) (pn (f_N_takeOut mu kk).1)).2) else (1, (f_C_takeSnapshot ((f_N_takeOut mu kk).2) ((((f_N_takeOut mu kk).2) (7 + 3 * (pn (f_N_takeOut mu kk).1)) 0).toNatClampNeg) (pn (f_N_takeOut mu kk).1)).2))))
theorem e_D_deliver (mu : fm_T) (kk : Int32) : f_D_deliver mu kk = (if (f_N_has mu kk) = 0 then ((-1), mu) else (if (((f_N_takeOut mu kk).2) (7 + 3 * (pn (f_N_takeOut mu kk).1)) 1) = 0 then (1, (f_A_readReport ((f_N_takeOut mu kk).2) ((((f_N_takeOut mu kk).2) (7 + 3 * (pn (f_N_takeOut mu kk).1)) 0).toNatClampNeg) (pn (f_N_takeOut mu kk).1))) else (if ((f_C_takeSnapshot ((f_N_takeOut mu kk).2) ((((f_N_takeOut mu kk).2) (7 + 3 * (pn (f_N_takeOut mu kk).1)) 0).toNatClampNeg) (pn (f_N_takeOut mu kk).1)).1) = 0 then (0, (f_C_takeSnapshot ((f_N_takeOut mu kk).2) ((((f_N_takeOut mu kk).2) (7 + 3 * (pn (f_N_takeOut mu kk).1)) 0).toNatClampNeg) (pn (f_N_takeOut mu kk).1)).2) else (1, (f_C_takeSnapshot ((f_N_takeOut mu kk).2) ((((f_N_takeOut mu kk).2) (7 + 3 * (pn (f_N_takeOut mu kk).1)) 0).toNatClampNeg) (pn (f_N_takeOut mu kk).1)).2)))) := rfl
set_option maxHeartbeats 4000000 in
set_option maxRecDepth 100000 in
theorem k_D_deliver (l : Launch) (dC : Nat → ClassId) (dI : Nat → Nat → Nat) (aC : Nat → ClassId) (b : Nat) {p : Program} {e : Env} {s : State} {m : MethodId} {args : Array Value} {below : List Frame} {meth : Method} {cd : Code} (hc : cx (dC, dI) (tysx aC) (XC b) w_D_deliver b_D_deliver R_D 3 (some .int) p s m args meth cd) (mu : fm_T) (kk : Int32) (hI : SafC mu) (H : Heap) (locs : List Loc) (ls : Array Slot) (F : Int32 × fm_T) (hP : va_P (dC, dI) clsx (fm_w (LC aC b) b 99 mu) H) (hS : va_S (fm_A b 99) s.heap H locs) (hl : lv_has ls 3 [(0, .ref (b + 0)), (1, .int kk)]) (hf : F = f_D_deliver mu kk) : W p l e { frames := 2, cells := 0, slots := 0, locals := 61 } s m args below meth cd H locs 0 0 (MQ below (va_Qi (fun r u => r = F.1 ∧ u = F.2) (fm_B (dC, dI) clsx (tysx aC) (LC aC b) b 99) (fm_A b 99)) args s 0 0 (fm_A b 99)) (F0 m 0 ls []) := by
  obtain ⟨hx, hb, hr, hml, hown, hts, hlocks, hK, hX⟩ := hc
  have hg : ∀ w ∈ gtbl, w.before args s = true := fun w h => hts w (List.mem_cons_of_mem _ h)
  have hf := hf.trans (e_D_deliver mu kk)
  refine lv_aload_n hx hb d_D_deliver_0 rfl (lv_at hl 0 rfl) ?_
  refine fm_get (C := R_D) (T := T_D) (n := 5) (ci := 0) hx hb hg uw_D hown hK hP (0) (by decide) (lc_D aC b _) rfl 1 (by decide) (hg _ fl_D_19) (fun _ h9 => h9) rfl d_D_deliver_1 ?_
  refine lv_iload_n hx hb d_D_deliver_4 rfl (lv_at hl 1 rfl) ?_
  refine ro_call (va_runV (As := [.int kk]) (rest := []) ⟨hx, hb, hml, hown, hts⟩ (c_N_has l dC dI aC b mu kk) (cw_V (fun w h => List.mem_cons_of_mem _ h) hts kv_N_has ml_D_116 ⟨Nat.le_of_ble_eq_true rfl, Nat.le_of_ble_eq_true rfl⟩ rfl rfl) (fm_preV XC_bl (XC_mv hX hS) hK hP (5) (by decide) (lc_N aC b _) rfl) rfl rfl hl.1 rfl (lv_room (Nat.le_of_ble_eq_true rfl)) d_D_deliver_5 ⟨Nat.zero_le _, Nat.zero_le _⟩) ?_
  refine lv_if_ne (tgt := 13) hx hb d_D_deliver_8 rfl (fun h8 => ?_) (fun h8 => ?_)
  · have hf := hf.trans (if_neg h8)
    refine lv_aload_n hx hb d_D_deliver_13 rfl (lv_at hl 0 rfl) ?_
    refine fm_get (C := R_D) (T := T_D) (n := 5) (ci := 0) hx hb hg uw_D hown hK hP (0) (by decide) (lc_D aC b _) rfl 1 (by decide) (hg _ fl_D_19) (fun _ h9 => h9) rfl d_D_deliver_14 ?_
    refine lv_iload_n hx hb d_D_deliver_17 rfl (lv_at hl 1 rfl) ?_
    refine fm_callq (va_runV (As := [.int kk]) (rest := []) ⟨hx, hb, hml, hown, hts⟩ (c_N_takeOut l dC dI aC b mu kk hI (has0 h8) (has1 h8)) (cw_V (fun w h => List.mem_cons_of_mem _ h) hts kv_N_takeOut ml_D_119 ⟨Nat.le_of_ble_eq_true rfl, Nat.le_of_ble_eq_true rfl⟩ rfl rfl) (fm_preV XC_bl (XC_mv hX hS) hK hP (5) (by decide) (lc_N aC b _) rfl) rfl rfl hl.1 rfl (lv_room (Nat.le_of_ble_eq_true rfl)) d_D_deliver_18 ⟨Nat.zero_le _, Nat.zero_le _⟩) hS (fun _ h => h) (fun r u H locs hp hP hS => ?_)
    obtain ⟨rfl, rfl⟩ := hp
    show W p l e _ s m args below meth cd _ _ _ _ _ (F0 m _ ls [.ref (b + (7 + 3 * (pn (f_N_takeOut mu kk).1)))])
    refine lv_astore_n (lv' := [(2, .ref (b + (7 + 3 * (pn (f_N_takeOut mu kk).1)))), (0, .ref (b + 0)), (1, .int kk)]) hx hb d_D_deliver_21 rfl hl (by decide) rfl (fun ls hl => ?_)
    refine lv_aload_n hx hb d_D_deliver_22 rfl (lv_at hl 0 rfl) ?_
    refine fm_get (C := R_P) (T := T_P) (n := 9) (ci := 3) hx hb hg uw_P hown hK hP (7 + 3 * (pn (f_N_takeOut mu kk).1)) (lc_ltP (pn_lt _)) (lc_P aC b _ (pn_lt _)) rfl 1 (by decide) (hg _ fl_D_123) (fun _ h9 => h9) rfl d_D_deliver_23 ?_
    refine lv_if_eq (tgt := 51) hx hb d_D_deliver_26 rfl (fun h26 => ?_) (fun h26 => ?_)
    · have hf := hf.trans (if_pos h26)
      refine lv_aload_n hx hb d_D_deliver_51 rfl (lv_at hl 1 rfl) ?_
      refine fm_get (C := R_D) (T := T_D) (n := 5) (ci := 0) hx hb hg uw_D hown hK hP (0) (by decide) (lc_D aC b _) rfl 3 (by decide) (hg _ fl_D_31) (fun _ h9 => h9) rfl d_D_deliver_52 ?_
      refine lv_aload_n hx hb d_D_deliver_55 rfl (lv_at hl 0 rfl) ?_
      refine fm_get (C := R_P) (T := T_P) (n := 9) (ci := 3) hx hb hg uw_P hown hK hP (7 + 3 * (pn (f_N_takeOut mu kk).1)) (lc_ltP (pn_lt _)) (lc_P aC b _ (pn_lt _)) rfl 0 (by decide) (hg _ fl_D_98) (fun _ h9 => h9) rfl d_D_deliver_56 ?_
      refine fm_aald (a := b + (84 + 6 * ((((f_N_takeOut mu kk).2) (7 + 3 * (pn (f_N_takeOut mu kk).1)) 0).toNatClampNeg))) hx hb hK hP (80) (by decide) 4 (lc_accounts aC b _) rfl ((((f_N_takeOut mu kk).2) (7 + 3 * (pn (f_N_takeOut mu kk).1)) 0).toNatClampNeg) (vp_e (n := 3) (saf_pc (saf_take hI (has0 h8) (has1 h8)) (pn_lt _))) (vp_l (n := 3) (saf_pc (saf_take hI (has0 h8) (has1 h8)) (pn_lt _))) (by decide) rfl d_D_deliver_59 ?_
      refine lv_aload_n hx hb d_D_deliver_60 rfl (lv_at hl 0 rfl) ?_
      refine fm_callv (va_runV (As := [.ref (b + (7 + 3 * (pn (f_N_takeOut mu kk).1)))]) (rest := []) ⟨hx, hb, hml, hown, hts⟩ (c_A_readReport l dC dI aC b ((f_N_takeOut mu kk).2) ((((f_N_takeOut mu kk).2) (7 + 3 * (pn (f_N_takeOut mu kk).1)) 0).toNatClampNeg) (pn (f_N_takeOut mu kk).1) (vp_l (n := 3) (saf_pc (saf_take hI (has0 h8) (has1 h8)) (pn_lt _))) (pn_lt _)) (cw_V (fun w h => List.mem_cons_of_mem _ h) hts kv_A_readReport ml_D_131 ⟨Nat.le_of_ble_eq_true rfl, Nat.le_of_ble_eq_true rfl⟩ rfl rfl) (fm_preV XC_bl (XC_mv hX hS) hK hP (84 + 6 * ((((f_N_takeOut mu kk).2) (7 + 3 * (pn (f_N_takeOut mu kk).1)) 0).toNatClampNeg)) (lc_ltA (vp_l (n := 3) (saf_pc (saf_take hI (has0 h8) (has1 h8)) (pn_lt _)))) (lc_A aC b _ (vp_l (n := 3) (saf_pc (saf_take hI (has0 h8) (has1 h8)) (pn_lt _)))) rfl) rfl rfl hl.1 rfl (lv_room (Nat.le_of_ble_eq_true rfl)) d_D_deliver_61 ⟨Nat.zero_le _, Nat.zero_le _⟩) hS (fun _ h => h) (fun u H locs hp hP hS => ?_)
      subst hp
      refine lv_iconst (v := 1) hx hb d_D_deliver_64 (by decide) ?_
      exact rw_iret hx hb hr hlocks hK hP hS hf d_D_deliver_65
    · have hf := hf.trans (if_neg h26)
      refine lv_aload_n hx hb d_D_deliver_29 rfl (lv_at hl 1 rfl) ?_
      refine fm_get (C := R_D) (T := T_D) (n := 5) (ci := 0) hx hb hg uw_D hown hK hP (0) (by decide) (lc_D aC b _) rfl 2 (by decide) (hg _ fl_D_25) (fun _ h9 => h9) rfl d_D_deliver_30 ?_
      refine lv_aload_n hx hb d_D_deliver_33 rfl (lv_at hl 0 rfl) ?_
      refine fm_get (C := R_P) (T := T_P) (n := 9) (ci := 3) hx hb hg uw_P hown hK hP (7 + 3 * (pn (f_N_takeOut mu kk).1)) (lc_ltP (pn_lt _)) (lc_P aC b _ (pn_lt _)) rfl 0 (by decide) (hg _ fl_D_98) (fun _ h9 => h9) rfl d_D_deliver_34 ?_
      refine fm_aald (a := b + (81 + 6 * ((((f_N_takeOut mu kk).2) (7 + 3 * (pn (f_N_takeOut mu kk).1)) 0).toNatClampNeg))) hx hb hK hP (79) (by decide) 3 (lc_clients aC b _) rfl ((((f_N_takeOut mu kk).2) (7 + 3 * (pn (f_N_takeOut mu kk).1)) 0).toNatClampNeg) (vp_e (n := 3) (saf_pc (saf_take hI (has0 h8) (has1 h8)) (pn_lt _))) (vp_l (n := 3) (saf_pc (saf_take hI (has0 h8) (has1 h8)) (pn_lt _))) (by decide) rfl d_D_deliver_37 ?_
      refine lv_aload_n hx hb d_D_deliver_38 rfl (lv_at hl 0 rfl) ?_
      refine fm_calli (va_runV (As := [.ref (b + (7 + 3 * (pn (f_N_takeOut mu kk).1)))]) (rest := []) ⟨hx, hb, hml, hown, hts⟩ (c_C_takeSnapshot l dC dI aC b ((f_N_takeOut mu kk).2) ((((f_N_takeOut mu kk).2) (7 + 3 * (pn (f_N_takeOut mu kk).1)) 0).toNatClampNeg) (pn (f_N_takeOut mu kk).1) (vp_l (n := 3) (saf_pc (saf_take hI (has0 h8) (has1 h8)) (pn_lt _))) (pn_lt _)) (cw_V (fun w h => List.mem_cons_of_mem _ h) hts kv_C_takeSnapshot ml_D_127 ⟨Nat.le_of_ble_eq_true rfl, Nat.le_of_ble_eq_true rfl⟩ rfl rfl) (fm_preV XC_bl (XC_mv hX hS) hK hP (81 + 6 * ((((f_N_takeOut mu kk).2) (7 + 3 * (pn (f_N_takeOut mu kk).1)) 0).toNatClampNeg)) (lc_ltC (vp_l (n := 3) (saf_pc (saf_take hI (has0 h8) (has1 h8)) (pn_lt _)))) (lc_C aC b _ (vp_l (n := 3) (saf_pc (saf_take hI (has0 h8) (has1 h8)) (pn_lt _)))) rfl) rfl rfl hl.1 rfl (lv_room (Nat.le_of_ble_eq_true rfl)) d_D_deliver_39 ⟨Nat.zero_le _, Nat.zero_le _⟩) hS (fun _ h => h) (fun r u H locs hp hP hS => ?_)
      obtain ⟨rfl, rfl⟩ := hp
      refine lv_if_eq (tgt := 49) hx hb d_D_deliver_42 rfl (fun h42 => ?_) (fun h42 => ?_)
      · have hf := hf.trans (if_pos h42)
        refine lv_iconst (v := 0) hx hb d_D_deliver_49 (by decide) ?_
        exact rw_iret hx hb hr hlocks hK hP hS hf d_D_deliver_50
      · have hf := hf.trans (if_neg h42)
        refine lv_iconst (v := 1) hx hb d_D_deliver_45 (by decide) ?_
        refine lv_goto (tgt := 50) hx hb d_D_deliver_46 rfl ?_
        exact rw_iret hx hb hr hlocks hK hP hS hf d_D_deliver_50
  · have hf := hf.trans (if_pos h8)
    refine lv_iconst (v := (-1)) hx hb d_D_deliver_11 (by decide) ?_
    exact rw_iret hx hb hr hlocks hK hP hS hf d_D_deliver_12
set_option maxHeartbeats 4000000 in
set_option maxRecDepth 100000 in
theorem c_D_deliver (l : Launch) (dC : Nat → ClassId) (dI : Nat → Nat → Nat) (aC : Nat → ClassId) (b : Nat) (mu : fm_T) (kk : Int32) (hI : SafC mu) : Met l y_D_deliver w_D_deliver { frames := 2, cells := 0, slots := 0, locals := 61 } (va_Pc [.ref (b + 0), .int kk] (fm_C (dC, dI) clsx (tysx aC) (LC aC b) b 99 (XC b) mu)) (va_Qi (fun r u => r = (f_D_deliver mu kk).1 ∧ u = (f_D_deliver mu kk).2) (fm_B (dC, dI) clsx (tysx aC) (LC aC b) b 99) (fm_A b 99)) 0 0 (fm_A b 99) := by
  refine Met.ofW (cc := b_D_deliver) (maxL := 3) (ret := (some .int)) (by decide) rfl ?_
  intro p e s m args below meth cd s₁ B hml hv
  obtain ⟨rfl, hP, hK, hX⟩ := hv
  have hl := lv_entry ([.ref (b + 0), .int kk]) (n := 3) (Nat.le_of_ble_eq_true rfl)
  rw [lg_entry_eq]
  generalize (lg_sl ([.ref (b + 0), .int kk]) ++ List.replicate (3 - (lg_sl ([.ref (b + 0), .int kk])).length) Slot.unset).toArray = ls at hl ⊢
  exact k_D_deliver l dC dI aC b ⟨B.exec, B.bytes, B.returns, hml, findClass_of_methodNamed B.named, atoms_spec (ws := w_D_deliver) B.pre, B.notSynchronized, hK, hX⟩ mu kk hI _ _ ls _ hP va_S.rf hl rfl
def f_D_lose (mu : fm_T) (kk : Int32) : Int32 × fm_T := (if (f_N_has mu kk) = 0 then (0, mu) else (1, (f_N_takeOut mu kk).2))
theorem e_D_lose (mu : fm_T) (kk : Int32) : f_D_lose mu kk = (if (f_N_has mu kk) = 0 then (0, mu) else (1, (f_N_takeOut mu kk).2)) := rfl
set_option maxHeartbeats 4000000 in
set_option maxRecDepth 100000 in
theorem k_D_lose (l : Launch) (dC : Nat → ClassId) (dI : Nat → Nat → Nat) (aC : Nat → ClassId) (b : Nat) {p : Program} {e : Env} {s : State} {m : MethodId} {args : Array Value} {below : List Frame} {meth : Method} {cd : Code} (hc : cx (dC, dI) (tysx aC) (XC b) w_D_lose b_D_lose R_D 2 (some .boolean) p s m args meth cd) (mu : fm_T) (kk : Int32) (hI : SafC mu) (H : Heap) (locs : List Loc) (ls : Array Slot) (F : Int32 × fm_T) (hP : va_P (dC, dI) clsx (fm_w (LC aC b) b 99 mu) H) (hS : va_S (fm_A b 99) s.heap H locs) (hl : lv_has ls 2 [(0, .ref (b + 0)), (1, .int kk)]) (hf : F = f_D_lose mu kk) : W p l e { frames := 1, cells := 0, slots := 0, locals := 23 } s m args below meth cd H locs 0 0 (MQ below (va_Qi (fun r u => r = F.1 ∧ u = F.2) (fm_B (dC, dI) clsx (tysx aC) (LC aC b) b 99) (fm_A b 99)) args s 0 0 (fm_A b 99)) (F0 m 0 ls []) := by
  obtain ⟨hx, hb, hr, hml, hown, hts, hlocks, hK, hX⟩ := hc
  have hg : ∀ w ∈ gtbl, w.before args s = true := fun w h => hts w (List.mem_cons_of_mem _ h)
  have hf := hf.trans (e_D_lose mu kk)
  refine lv_aload_n hx hb d_D_lose_0 rfl (lv_at hl 0 rfl) ?_
  refine fm_get (C := R_D) (T := T_D) (n := 5) (ci := 0) hx hb hg uw_D hown hK hP (0) (by decide) (lc_D aC b _) rfl 1 (by decide) (hg _ fl_D_19) (fun _ h9 => h9) rfl d_D_lose_1 ?_
  refine lv_iload_n hx hb d_D_lose_4 rfl (lv_at hl 1 rfl) ?_
  refine ro_call (va_runV (As := [.int kk]) (rest := []) ⟨hx, hb, hml, hown, hts⟩ (c_N_has l dC dI aC b mu kk) (cw_V (fun w h => List.mem_cons_of_mem _ h) hts kv_N_has ml_D_116 ⟨Nat.le_of_ble_eq_true rfl, Nat.le_of_ble_eq_true rfl⟩ rfl rfl) (fm_preV XC_bl (XC_mv hX hS) hK hP (5) (by decide) (lc_N aC b _) rfl) rfl rfl hl.1 rfl (lv_room (Nat.le_of_ble_eq_true rfl)) d_D_lose_5 ⟨Nat.zero_le _, Nat.zero_le _⟩) ?_
  refine lv_if_ne (tgt := 13) hx hb d_D_lose_8 rfl (fun h8 => ?_) (fun h8 => ?_)
  · have hf := hf.trans (if_neg h8)
    refine lv_aload_n hx hb d_D_lose_13 rfl (lv_at hl 0 rfl) ?_
    refine fm_get (C := R_D) (T := T_D) (n := 5) (ci := 0) hx hb hg uw_D hown hK hP (0) (by decide) (lc_D aC b _) rfl 1 (by decide) (hg _ fl_D_19) (fun _ h9 => h9) rfl d_D_lose_14 ?_
    refine lv_iload_n hx hb d_D_lose_17 rfl (lv_at hl 1 rfl) ?_
    refine fm_callq (va_runV (As := [.int kk]) (rest := []) ⟨hx, hb, hml, hown, hts⟩ (c_N_takeOut l dC dI aC b mu kk hI (has0 h8) (has1 h8)) (cw_V (fun w h => List.mem_cons_of_mem _ h) hts kv_N_takeOut ml_D_119 ⟨Nat.le_of_ble_eq_true rfl, Nat.le_of_ble_eq_true rfl⟩ rfl rfl) (fm_preV XC_bl (XC_mv hX hS) hK hP (5) (by decide) (lc_N aC b _) rfl) rfl rfl hl.1 rfl (lv_room (Nat.le_of_ble_eq_true rfl)) d_D_lose_18 ⟨Nat.zero_le _, Nat.zero_le _⟩) hS (fun _ h => h) (fun r u H locs hp hP hS => ?_)
    obtain ⟨rfl, rfl⟩ := hp
    show W p l e _ s m args below meth cd _ _ _ _ _ (F0 m _ ls [.ref (b + (7 + 3 * (pn (f_N_takeOut mu kk).1)))])
    refine lv_pop hx hb d_D_lose_21 rfl ?_
    refine lv_iconst (v := 1) hx hb d_D_lose_22 (by decide) ?_
    exact rw_zret hx hb hr hlocks hK hP hS rfl hf d_D_lose_23
  · have hf := hf.trans (if_pos h8)
    refine lv_iconst (v := 0) hx hb d_D_lose_11 (by decide) ?_
    exact rw_zret hx hb hr hlocks hK hP hS rfl hf d_D_lose_12
set_option maxHeartbeats 4000000 in
set_option maxRecDepth 100000 in
theorem c_D_lose (l : Launch) (dC : Nat → ClassId) (dI : Nat → Nat → Nat) (aC : Nat → ClassId) (b : Nat) (mu : fm_T) (kk : Int32) (hI : SafC mu) : Met l y_D_lose w_D_lose { frames := 1, cells := 0, slots := 0, locals := 23 } (va_Pc [.ref (b + 0), .int kk] (fm_C (dC, dI) clsx (tysx aC) (LC aC b) b 99 (XC b) mu)) (va_Qi (fun r u => r = (f_D_lose mu kk).1 ∧ u = (f_D_lose mu kk).2) (fm_B (dC, dI) clsx (tysx aC) (LC aC b) b 99) (fm_A b 99)) 0 0 (fm_A b 99) := by
  refine Met.ofW (cc := b_D_lose) (maxL := 2) (ret := (some .boolean)) (by decide) rfl ?_
  intro p e s m args below meth cd s₁ B hml hv
  obtain ⟨rfl, hP, hK, hX⟩ := hv
  have hl := lv_entry ([.ref (b + 0), .int kk]) (n := 2) (Nat.le_of_ble_eq_true rfl)
  rw [lg_entry_eq]
  generalize (lg_sl ([.ref (b + 0), .int kk]) ++ List.replicate (2 - (lg_sl ([.ref (b + 0), .int kk])).length) Slot.unset).toArray = ls at hl ⊢
  exact k_D_lose l dC dI aC b ⟨B.exec, B.bytes, B.returns, hml, findClass_of_methodNamed B.named, atoms_spec (ws := w_D_lose) B.pre, B.notSynchronized, hK, hX⟩ mu kk hI _ _ ls _ hP va_S.rf hl rfl
def f_D_copy (mu : fm_T) (kk : Int32) : Int32 × fm_T := (if (f_N_has mu kk) = 0 then (0, mu) else (fm_opt (f_N_addLast mu).1 (0, (f_N_addLast mu).2) (fun a17 => (1, (f_P_becomeLike ((f_N_addLast mu).2) (pn a17) (pn (((f_N_addLast mu).2) 6 kk.toNatClampNeg)))))))
theorem e_D_copy (mu : fm_T) (kk : Int32) : f_D_copy mu kk = (if (f_N_has mu kk) = 0 then (0, mu) else (fm_opt (f_N_addLast mu).1 (0, (f_N_addLast mu).2) (fun a17 => (1, (f_P_becomeLike ((f_N_addLast mu).2) (pn a17) (pn (((f_N_addLast mu).2) 6 kk.toNatClampNeg))))))) := rfl
set_option maxHeartbeats 4000000 in
set_option maxRecDepth 100000 in
theorem k_D_copy (l : Launch) (dC : Nat → ClassId) (dI : Nat → Nat → Nat) (aC : Nat → ClassId) (b : Nat) {p : Program} {e : Env} {s : State} {m : MethodId} {args : Array Value} {below : List Frame} {meth : Method} {cd : Code} (hc : cx (dC, dI) (tysx aC) (XC b) w_D_copy b_D_copy R_D 3 (some .boolean) p s m args meth cd) (mu : fm_T) (kk : Int32) (hI : SafC mu) (H : Heap) (locs : List Loc) (ls : Array Slot) (F : Int32 × fm_T) (hP : va_P (dC, dI) clsx (fm_w (LC aC b) b 99 mu) H) (hS : va_S (fm_A b 99) s.heap H locs) (hl : lv_has ls 3 [(0, .ref (b + 0)), (1, .int kk)]) (hf : F = f_D_copy mu kk) : W p l e { frames := 2, cells := 0, slots := 0, locals := 61 } s m args below meth cd H locs 0 0 (MQ below (va_Qi (fun r u => r = F.1 ∧ u = F.2) (fm_B (dC, dI) clsx (tysx aC) (LC aC b) b 99) (fm_A b 99)) args s 0 0 (fm_A b 99)) (F0 m 0 ls []) := by
  obtain ⟨hx, hb, hr, hml, hown, hts, hlocks, hK, hX⟩ := hc
  have hg : ∀ w ∈ gtbl, w.before args s = true := fun w h => hts w (List.mem_cons_of_mem _ h)
  have hf := hf.trans (e_D_copy mu kk)
  refine lv_aload_n hx hb d_D_copy_0 rfl (lv_at hl 0 rfl) ?_
  refine fm_get (C := R_D) (T := T_D) (n := 5) (ci := 0) hx hb hg uw_D hown hK hP (0) (by decide) (lc_D aC b _) rfl 1 (by decide) (hg _ fl_D_19) (fun _ h9 => h9) rfl d_D_copy_1 ?_
  refine lv_iload_n hx hb d_D_copy_4 rfl (lv_at hl 1 rfl) ?_
  refine ro_call (va_runV (As := [.int kk]) (rest := []) ⟨hx, hb, hml, hown, hts⟩ (c_N_has l dC dI aC b mu kk) (cw_V (fun w h => List.mem_cons_of_mem _ h) hts kv_N_has ml_D_116 ⟨Nat.le_of_ble_eq_true rfl, Nat.le_of_ble_eq_true rfl⟩ rfl rfl) (fm_preV XC_bl (XC_mv hX hS) hK hP (5) (by decide) (lc_N aC b _) rfl) rfl rfl hl.1 rfl (lv_room (Nat.le_of_ble_eq_true rfl)) d_D_copy_5 ⟨Nat.zero_le _, Nat.zero_le _⟩) ?_
  refine lv_if_ne (tgt := 13) hx hb d_D_copy_8 rfl (fun h8 => ?_) (fun h8 => ?_)
  · have hf := hf.trans (if_neg h8)
    refine lv_aload_n hx hb d_D_copy_13 rfl (lv_at hl 0 rfl) ?_
    refine fm_get (C := R_D) (T := T_D) (n := 5) (ci := 0) hx hb hg uw_D hown hK hP (0) (by decide) (lc_D aC b _) rfl 1 (by decide) (hg _ fl_D_19) (fun _ h9 => h9) rfl d_D_copy_14 ?_
    refine fm_callq (va_runV (As := []) (rest := []) ⟨hx, hb, hml, hown, hts⟩ (c_N_addLast l dC dI aC b mu hI) (cw_V (fun w h => List.mem_cons_of_mem _ h) hts kv_N_addLast ml_D_94 ⟨Nat.le_of_ble_eq_true rfl, Nat.le_of_ble_eq_true rfl⟩ rfl rfl) (fm_preV XC_bl (XC_mv hX hS) hK hP (5) (by decide) (lc_N aC b _) rfl) rfl rfl hl.1 rfl (lv_room (Nat.le_of_ble_eq_true rfl)) d_D_copy_17 ⟨Nat.zero_le _, Nat.zero_le _⟩) hS (fun _ h => h) (fun r u H locs hp hP hS => ?_)
    obtain ⟨rfl, rfl⟩ := hp
    rcases hq : (f_N_addLast mu).1 with _ | a17
    · have hf := hf.trans (fm_opt_none hq)
      show W p l e _ s m args below meth cd _ _ _ _ _ (F0 m _ ls [.null])
      refine lv_astore_nN (lv' := [(2, .null), (0, .ref (b + 0)), (1, .int kk)]) hx hb d_D_copy_20 rfl hl (by decide) rfl (fun ls hl => ?_)
      refine lv_aload_nN hx hb d_D_copy_21 rfl (lv_at hl 0 rfl) ?_
      refine lv_ifnonnullN hx hb d_D_copy_22 ?_
      refine lv_iconst (v := 0) hx hb d_D_copy_25 (by decide) ?_
      exact rw_zret hx hb hr hlocks hK hP hS rfl hf d_D_copy_26
    · have hf := hf.trans (fm_opt_some hq)
      show W p l e _ s m args below meth cd _ _ _ _ _ (F0 m _ ls [.ref (b + (7 + 3 * (pn a17)))])
      refine lv_astore_n (lv' := [(2, .ref (b + (7 + 3 * (pn a17)))), (0, .ref (b + 0)), (1, .int kk)]) hx hb d_D_copy_20 rfl hl (by decide) rfl (fun ls hl => ?_)
      refine lv_aload_n hx hb d_D_copy_21 rfl (lv_at hl 0 rfl) ?_
      refine lv_ifnonnull (tgt := 27) hx hb d_D_copy_22 rfl ?_
      refine lv_aload_n hx hb d_D_copy_27 rfl (lv_at hl 0 rfl) ?_
      refine lv_aload_n hx hb d_D_copy_28 rfl (lv_at hl 1 rfl) ?_
      refine fm_get (C := R_D) (T := T_D) (n := 5) (ci := 0) hx hb hg uw_D hown hK hP (0) (by decide) (lc_D aC b _) rfl 1 (by decide) (hg _ fl_D_19) (fun _ h9 => h9) rfl d_D_copy_29 ?_
      refine fm_get (C := R_N) (T := T_N) (n := 2) (ci := 2) hx hb hg uw_N hown hK hP (5) (by decide) (lc_N aC b _) rfl 0 (by decide) (hg _ fl_D_134) (fun _ h9 => h9) rfl d_D_copy_32 ?_
      refine lv_iload_n hx hb d_D_copy_35 rfl (lv_at hl 2 rfl) ?_
      refine fm_aald (a := b + (7 + 3 * (pn (((f_N_addLast mu).2) 6 kk.toNatClampNeg)))) hx hb hK hP (6) (by decide) 2 (lc_packets aC b _) rfl kk.toNatClampNeg (vp_e (n := 24) (tk_in hI (has0 h8) (has1 h8))) (vp_l (n := 24) (tk_in hI (has0 h8) (has1 h8))) (by decide) rfl d_D_copy_36 ?_
      refine fm_callv (va_runV (As := [.ref (b + (7 + 3 * (pn (((f_N_addLast mu).2) 6 kk.toNatClampNeg))))]) (rest := []) ⟨hx, hb, hml, hown, hts⟩ (c_P_becomeLike l dC dI aC b ((f_N_addLast mu).2) (pn a17) (pn (((f_N_addLast mu).2) 6 kk.toNatClampNeg)) (pn_lt _) (pn_lt _) (saf_b (saf_add hI) (pn_lt _))) (cw_V (fun w h => List.mem_cons_of_mem _ h) hts kv_P_becomeLike ml_D_138 ⟨Nat.le_of_ble_eq_true rfl, Nat.le_of_ble_eq_true rfl⟩ rfl rfl) (fm_preV XC_bl (XC_mv hX hS) hK hP (7 + 3 * (pn a17)) (lc_ltP (pn_lt _)) (lc_P aC b _ (pn_lt _)) rfl) rfl rfl hl.1 rfl (lv_room (Nat.le_of_ble_eq_true rfl)) d_D_copy_37 ⟨Nat.zero_le _, Nat.zero_le _⟩) hS (fun _ h => h) (fun u H locs hp hP hS => ?_)
      subst hp
      refine lv_iconst (v := 1) hx hb d_D_copy_40 (by decide) ?_
      exact rw_zret hx hb hr hlocks hK hP hS rfl hf d_D_copy_41
  · have hf := hf.trans (if_pos h8)
    refine lv_iconst (v := 0) hx hb d_D_copy_11 (by decide) ?_
    exact rw_zret hx hb hr hlocks hK hP hS rfl hf d_D_copy_12
set_option maxHeartbeats 4000000 in
set_option maxRecDepth 100000 in
theorem c_D_copy (l : Launch) (dC : Nat → ClassId) (dI : Nat → Nat → Nat) (aC : Nat → ClassId) (b : Nat) (mu : fm_T) (kk : Int32) (hI : SafC mu) : Met l y_D_copy w_D_copy { frames := 2, cells := 0, slots := 0, locals := 61 } (va_Pc [.ref (b + 0), .int kk] (fm_C (dC, dI) clsx (tysx aC) (LC aC b) b 99 (XC b) mu)) (va_Qi (fun r u => r = (f_D_copy mu kk).1 ∧ u = (f_D_copy mu kk).2) (fm_B (dC, dI) clsx (tysx aC) (LC aC b) b 99) (fm_A b 99)) 0 0 (fm_A b 99) := by
  refine Met.ofW (cc := b_D_copy) (maxL := 3) (ret := (some .boolean)) (by decide) rfl ?_
  intro p e s m args below meth cd s₁ B hml hv
  obtain ⟨rfl, hP, hK, hX⟩ := hv
  have hl := lv_entry ([.ref (b + 0), .int kk]) (n := 3) (Nat.le_of_ble_eq_true rfl)
  rw [lg_entry_eq]
  generalize (lg_sl ([.ref (b + 0), .int kk]) ++ List.replicate (3 - (lg_sl ([.ref (b + 0), .int kk])).length) Slot.unset).toArray = ls at hl ⊢
  exact k_D_copy l dC dI aC b ⟨B.exec, B.bytes, B.returns, hml, findClass_of_methodNamed B.named, atoms_spec (ws := w_D_copy) B.pre, B.notSynchronized, hK, hX⟩ mu kk hI _ _ ls _ hP va_S.rf hl rfl
def f_D_flight (mu : fm_T) : Int32 := mu 5 1
theorem e_D_flight (mu : fm_T) : f_D_flight mu = mu 5 1 := rfl
set_option maxHeartbeats 4000000 in
set_option maxRecDepth 100000 in
theorem k_D_flight (l : Launch) (dC : Nat → ClassId) (dI : Nat → Nat → Nat) (aC : Nat → ClassId) (b : Nat) {p : Program} {e : Env} {s : State} {m : MethodId} {args : Array Value} {below : List Frame} {meth : Method} {cd : Code} (hc : cx (dC, dI) (tysx aC) (XC b) w_D_flight b_D_flight R_D 1 (some .int) p s m args meth cd) (mu : fm_T)   (ls : Array Slot) (F : Int32) (hP : va_P (dC, dI) clsx (fm_w (LC aC b) b 99 mu) s.heap) (hl : lv_has ls 1 [(0, .ref (b + 0))]) (hf : F = f_D_flight mu) : W p l e { frames := 0, cells := 0, slots := 0, locals := 0 } s m args below meth cd s.heap [] 0 0 (MQ below (QcRead F) args s 0 0 (fun _ => False)) (F0 m 0 ls []) := by
  obtain ⟨hx, hb, hr, hml, hown, hts, hlocks, hK, hX⟩ := hc
  have hg : ∀ w ∈ gtbl, w.before args s = true := fun w h => hts w (List.mem_cons_of_mem _ h)
  have hS : va_S (fm_A b 99) s.heap s.heap [] := va_S.rf
  have hf := hf.trans (e_D_flight mu)
  refine lv_aload_n hx hb d_D_flight_0 rfl (lv_at hl 0 rfl) ?_
  refine fm_get (C := R_D) (T := T_D) (n := 5) (ci := 0) hx hb hg uw_D hown hK hP (0) (by decide) (lc_D aC b _) rfl 1 (by decide) (hg _ fl_D_19) (fun _ h9 => h9) rfl d_D_flight_1 ?_
  refine fm_get (C := R_N) (T := T_N) (n := 2) (ci := 2) hx hb hg uw_N hown hK hP (5) (by decide) (lc_N aC b _) rfl 1 (by decide) (hg _ fl_D_141) (fun _ h9 => h9) rfl d_D_flight_4 ?_
  exact ro_iret hx hb hr hlocks hf d_D_flight_7
set_option maxHeartbeats 4000000 in
set_option maxRecDepth 100000 in
theorem c_D_flight (l : Launch) (dC : Nat → ClassId) (dI : Nat → Nat → Nat) (aC : Nat → ClassId) (b : Nat) (mu : fm_T)   : Met l y_D_flight w_D_flight { frames := 0, cells := 0, slots := 0, locals := 0 } (va_Pc [.ref (b + 0)] (fm_C (dC, dI) clsx (tysx aC) (LC aC b) b 99 (XC b) mu)) (QcRead (f_D_flight mu)) 0 0 (fun _ => False) := by
  refine Met.ofW (cc := b_D_flight) (maxL := 1) (ret := (some .int)) (by decide) rfl ?_
  intro p e s m args below meth cd s₁ B hml hv
  obtain ⟨rfl, hP, hK, hX⟩ := hv
  have hl := lv_entry ([.ref (b + 0)]) (n := 1) (Nat.le_of_ble_eq_true rfl)
  rw [lg_entry_eq]
  generalize (lg_sl ([.ref (b + 0)]) ++ List.replicate (1 - (lg_sl ([.ref (b + 0)])).length) Slot.unset).toArray = ls at hl ⊢
  exact k_D_flight l dC dI aC b ⟨B.exec, B.bytes, B.returns, hml, findClass_of_methodNamed B.named, atoms_spec (ws := w_D_flight) B.pre, B.notSynchronized, hK, hX⟩ mu  ls _ hP hl rfl
def f_D_packet (mu : fm_T) (kk : Int32) (wh : Int32) : Int32 := (if (f_N_has mu kk) = 0 then (-1) else (if wh = 0 then mu (7 + 3 * (pn (mu 6 kk.toNatClampNeg))) 0 else (if wh = 1 then (if (mu (7 + 3 * (pn (mu 6 kk.toNatClampNeg))) 1) = 0 then 0 else 1) else (if wh = 2 then mu (7 + 3 * (pn (mu 6 kk.toNatClampNeg))) 2 else (if wh = 3 then mu (7 + 3 * (pn (mu 6 kk.toNatClampNeg))) 3 else (if wh = 4 then (if (mu (7 + 3 * (pn (mu 6 kk.toNatClampNeg))) 1) = 0 then mu (7 + 3 * (pn (mu 6 kk.toNatClampNeg))) 7 else mu (7 + 3 * (pn (mu 6 kk.toNatClampNeg))) 5) else (if wh = 5 then mu (7 + 3 * (pn (mu 6 kk.toNatClampNeg))) 4 else (-1))))))))
theorem e_D_packet (mu : fm_T) (kk : Int32) (wh : Int32) : f_D_packet mu kk wh = (if (f_N_has mu kk) = 0 then (-1) else (if wh = 0 then mu (7 + 3 * (pn (mu 6 kk.toNatClampNeg))) 0 else (if wh = 1 then (if (mu (7 + 3 * (pn (mu 6 kk.toNatClampNeg))) 1) = 0 then 0 else 1) else (if wh = 2 then mu (7 + 3 * (pn (mu 6 kk.toNatClampNeg))) 2 else (if wh = 3 then mu (7 + 3 * (pn (mu 6 kk.toNatClampNeg))) 3 else (if wh = 4 then (if (mu (7 + 3 * (pn (mu 6 kk.toNatClampNeg))) 1) = 0 then mu (7 + 3 * (pn (mu 6 kk.toNatClampNeg))) 7 else mu (7 + 3 * (pn (mu 6 kk.toNatClampNeg))) 5) else (if wh = 5 then mu (7 + 3 * (pn (mu 6 kk.toNatClampNeg))) 4 else (-1)))))))) := rfl
set_option maxHeartbeats 4000000 in
set_option maxRecDepth 100000 in
theorem k_D_packet (l : Launch) (dC : Nat → ClassId) (dI : Nat → Nat → Nat) (aC : Nat → ClassId) (b : Nat) {p : Program} {e : Env} {s : State} {m : MethodId} {args : Array Value} {below : List Frame} {meth : Method} {cd : Code} (hc : cx (dC, dI) (tysx aC) (XC b) w_D_packet b_D_packet R_D 4 (some .int) p s m args meth cd) (mu : fm_T) (kk : Int32) (wh : Int32) (hI : SafC mu) (ls : Array Slot) (F : Int32) (hP : va_P (dC, dI) clsx (fm_w (LC aC b) b 99 mu) s.heap) (hl : lv_has ls 4 [(0, .ref (b + 0)), (1, .int kk), (2, .int wh)]) (hf : F = f_D_packet mu kk wh) : W p l e { frames := 1, cells := 0, slots := 0, locals := 21 } s m args below meth cd s.heap [] 0 0 (MQ below (QcRead F) args s 0 0 (fun _ => False)) (F0 m 0 ls []) := by
  obtain ⟨hx, hb, hr, hml, hown, hts, hlocks, hK, hX⟩ := hc
  have hg : ∀ w ∈ gtbl, w.before args s = true := fun w h => hts w (List.mem_cons_of_mem _ h)
  have hS : va_S (fm_A b 99) s.heap s.heap [] := va_S.rf
  have hf := hf.trans (e_D_packet mu kk wh)
  refine lv_aload_n hx hb d_D_packet_0 rfl (lv_at hl 0 rfl) ?_
  refine fm_get (C := R_D) (T := T_D) (n := 5) (ci := 0) hx hb hg uw_D hown hK hP (0) (by decide) (lc_D aC b _) rfl 1 (by decide) (hg _ fl_D_19) (fun _ h9 => h9) rfl d_D_packet_1 ?_
  refine lv_iload_n hx hb d_D_packet_4 rfl (lv_at hl 1 rfl) ?_
  refine ro_call (va_runV (As := [.int kk]) (rest := []) ⟨hx, hb, hml, hown, hts⟩ (c_N_has l dC dI aC b mu kk) (cw_V (fun w h => List.mem_cons_of_mem _ h) hts kv_N_has ml_D_116 ⟨Nat.le_of_ble_eq_true rfl, Nat.le_of_ble_eq_true rfl⟩ rfl rfl) (fm_preV XC_bl (XC_mv hX hS) hK hP (5) (by decide) (lc_N aC b _) rfl) rfl rfl hl.1 rfl (lv_room (Nat.le_of_ble_eq_true rfl)) d_D_packet_5 ⟨Nat.zero_le _, Nat.zero_le _⟩) ?_
  refine lv_if_ne (tgt := 13) hx hb d_D_packet_8 rfl (fun h8 => ?_) (fun h8 => ?_)
  · have hf := hf.trans (if_neg h8)
    refine lv_aload_n hx hb d_D_packet_13 rfl (lv_at hl 0 rfl) ?_
    refine fm_get (C := R_D) (T := T_D) (n := 5) (ci := 0) hx hb hg uw_D hown hK hP (0) (by decide) (lc_D aC b _) rfl 1 (by decide) (hg _ fl_D_19) (fun _ h9 => h9) rfl d_D_packet_14 ?_
    refine fm_get (C := R_N) (T := T_N) (n := 2) (ci := 2) hx hb hg uw_N hown hK hP (5) (by decide) (lc_N aC b _) rfl 0 (by decide) (hg _ fl_D_134) (fun _ h9 => h9) rfl d_D_packet_17 ?_
    refine lv_iload_n hx hb d_D_packet_20 rfl (lv_at hl 1 rfl) ?_
    refine fm_aald (a := b + (7 + 3 * (pn (mu 6 kk.toNatClampNeg)))) hx hb hK hP (6) (by decide) 2 (lc_packets aC b _) rfl kk.toNatClampNeg (vp_e (n := 24) (tk_in hI (has0 h8) (has1 h8))) (vp_l (n := 24) (tk_in hI (has0 h8) (has1 h8))) (by decide) rfl d_D_packet_21 ?_
    refine lv_astore_n (lv' := [(3, .ref (b + (7 + 3 * (pn (mu 6 kk.toNatClampNeg))))), (0, .ref (b + 0)), (1, .int kk), (2, .int wh)]) hx hb d_D_packet_22 rfl hl (by decide) rfl (fun ls hl => ?_)
    refine lv_iload_n hx hb d_D_packet_23 rfl (lv_at hl 3 rfl) ?_
    by_cases h24_0 : wh = 0
    · refine lv_tableIn (tgt := 64) hx hb d_D_packet_24 (by rw [h24_0]; decide) (by rw [h24_0]; decide) (by rw [h24_0]; rfl) rfl ?_
      have hf := hf.trans (if_pos h24_0)
      refine lv_aload_n hx hb d_D_packet_64 rfl (lv_at hl 0 rfl) ?_
      refine fm_get (C := R_P) (T := T_P) (n := 9) (ci := 3) hx hb hg uw_P hown hK hP (7 + 3 * (pn (mu 6 kk.toNatClampNeg))) (lc_ltP (pn_lt _)) (lc_P aC b _ (pn_lt _)) rfl 0 (by decide) (hg _ fl_D_98) (fun _ h9 => h9) rfl d_D_packet_65 ?_
      exact ro_iret hx hb hr hlocks hf d_D_packet_68
    have hf := hf.trans (if_neg h24_0)
    by_cases h24_1 : wh = 1
    · refine lv_tableIn (tgt := 69) hx hb d_D_packet_24 (by rw [h24_1]; decide) (by rw [h24_1]; decide) (by rw [h24_1]; rfl) rfl ?_
      have hf := hf.trans (if_pos h24_1)
      refine lv_aload_n hx hb d_D_packet_69 rfl (lv_at hl 0 rfl) ?_
      refine fm_get (C := R_P) (T := T_P) (n := 9) (ci := 3) hx hb hg uw_P hown hK hP (7 + 3 * (pn (mu 6 kk.toNatClampNeg))) (lc_ltP (pn_lt _)) (lc_P aC b _ (pn_lt _)) rfl 1 (by decide) (hg _ fl_D_123) (fun _ h9 => h9) rfl d_D_packet_70 ?_
      refine lv_if_eq (tgt := 80) hx hb d_D_packet_73 rfl (fun h73 => ?_) (fun h73 => ?_)
      · have hf := hf.trans (if_pos h73)
        refine lv_iconst (v := 0) hx hb d_D_packet_80 (by decide) ?_
        exact ro_iret hx hb hr hlocks hf d_D_packet_81
      · have hf := hf.trans (if_neg h73)
        refine lv_iconst (v := 1) hx hb d_D_packet_76 (by decide) ?_
        refine lv_goto (tgt := 81) hx hb d_D_packet_77 rfl ?_
        exact ro_iret hx hb hr hlocks hf d_D_packet_81
    have hf := hf.trans (if_neg h24_1)
    by_cases h24_2 : wh = 2
    · refine lv_tableIn (tgt := 82) hx hb d_D_packet_24 (by rw [h24_2]; decide) (by rw [h24_2]; decide) (by rw [h24_2]; rfl) rfl ?_
      have hf := hf.trans (if_pos h24_2)
      refine lv_aload_n hx hb d_D_packet_82 rfl (lv_at hl 0 rfl) ?_
      refine fm_get (C := R_P) (T := T_P) (n := 9) (ci := 3) hx hb hg uw_P hown hK hP (7 + 3 * (pn (mu 6 kk.toNatClampNeg))) (lc_ltP (pn_lt _)) (lc_P aC b _ (pn_lt _)) rfl 2 (by decide) (hg _ fl_D_144) (fun _ h9 => h9) rfl d_D_packet_83 ?_
      exact ro_iret hx hb hr hlocks hf d_D_packet_86
    have hf := hf.trans (if_neg h24_2)
    by_cases h24_3 : wh = 3
    · refine lv_tableIn (tgt := 87) hx hb d_D_packet_24 (by rw [h24_3]; decide) (by rw [h24_3]; decide) (by rw [h24_3]; rfl) rfl ?_
      have hf := hf.trans (if_pos h24_3)
      refine lv_aload_n hx hb d_D_packet_87 rfl (lv_at hl 0 rfl) ?_
      refine fm_get (C := R_P) (T := T_P) (n := 9) (ci := 3) hx hb hg uw_P hown hK hP (7 + 3 * (pn (mu 6 kk.toNatClampNeg))) (lc_ltP (pn_lt _)) (lc_P aC b _ (pn_lt _)) rfl 3 (by decide) (hg _ fl_D_145) (fun _ h9 => h9) rfl d_D_packet_88 ?_
      exact ro_iret hx hb hr hlocks hf d_D_packet_91
    have hf := hf.trans (if_neg h24_3)
    by_cases h24_4 : wh = 4
    · refine lv_tableIn (tgt := 92) hx hb d_D_packet_24 (by rw [h24_4]; decide) (by rw [h24_4]; decide) (by rw [h24_4]; rfl) rfl ?_
      have hf := hf.trans (if_pos h24_4)
      refine lv_aload_n hx hb d_D_packet_92 rfl (lv_at hl 0 rfl) ?_
      refine fm_get (C := R_P) (T := T_P) (n := 9) (ci := 3) hx hb hg uw_P hown hK hP (7 + 3 * (pn (mu 6 kk.toNatClampNeg))) (lc_ltP (pn_lt _)) (lc_P aC b _ (pn_lt _)) rfl 1 (by decide) (hg _ fl_D_123) (fun _ h9 => h9) rfl d_D_packet_93 ?_
      refine lv_if_eq (tgt := 106) hx hb d_D_packet_96 rfl (fun h96 => ?_) (fun h96 => ?_)
      · have hf := hf.trans (if_pos h96)
        refine lv_aload_n hx hb d_D_packet_106 rfl (lv_at hl 0 rfl) ?_
        refine fm_get (C := R_P) (T := T_P) (n := 9) (ci := 3) hx hb hg uw_P hown hK hP (7 + 3 * (pn (mu 6 kk.toNatClampNeg))) (lc_ltP (pn_lt _)) (lc_P aC b _ (pn_lt _)) rfl 7 (by decide) (hg _ fl_D_151) (fun _ h9 => h9) rfl d_D_packet_107 ?_
        exact ro_iret hx hb hr hlocks hf d_D_packet_110
      · have hf := hf.trans (if_neg h96)
        refine lv_aload_n hx hb d_D_packet_99 rfl (lv_at hl 0 rfl) ?_
        refine fm_get (C := R_P) (T := T_P) (n := 9) (ci := 3) hx hb hg uw_P hown hK hP (7 + 3 * (pn (mu 6 kk.toNatClampNeg))) (lc_ltP (pn_lt _)) (lc_P aC b _ (pn_lt _)) rfl 5 (by decide) (hg _ fl_D_148) (fun _ h9 => h9) rfl d_D_packet_100 ?_
        refine lv_goto (tgt := 110) hx hb d_D_packet_103 rfl ?_
        exact ro_iret hx hb hr hlocks hf d_D_packet_110
    have hf := hf.trans (if_neg h24_4)
    by_cases h24_5 : wh = 5
    · refine lv_tableIn (tgt := 111) hx hb d_D_packet_24 (by rw [h24_5]; decide) (by rw [h24_5]; decide) (by rw [h24_5]; rfl) rfl ?_
      have hf := hf.trans (if_pos h24_5)
      refine lv_aload_n hx hb d_D_packet_111 rfl (lv_at hl 0 rfl) ?_
      refine fm_get (C := R_P) (T := T_P) (n := 9) (ci := 3) hx hb hg uw_P hown hK hP (7 + 3 * (pn (mu 6 kk.toNatClampNeg))) (lc_ltP (pn_lt _)) (lc_P aC b _ (pn_lt _)) rfl 4 (by decide) (hg _ fl_D_154) (fun _ h9 => h9) rfl d_D_packet_112 ?_
      exact ro_iret hx hb hr hlocks hf d_D_packet_115
    have hf := hf.trans (if_neg h24_5)
    refine lv_tableOut (tgt := 116) hx hb d_D_packet_24 (sw_out wh h24_0 h24_1 h24_2 h24_3 h24_4 h24_5) rfl ?_
    refine lv_iconst (v := (-1)) hx hb d_D_packet_116 (by decide) ?_
    exact ro_iret hx hb hr hlocks hf d_D_packet_117
  · have hf := hf.trans (if_pos h8)
    refine lv_iconst (v := (-1)) hx hb d_D_packet_11 (by decide) ?_
    exact ro_iret hx hb hr hlocks hf d_D_packet_12
set_option maxHeartbeats 4000000 in
set_option maxRecDepth 100000 in
theorem c_D_packet (l : Launch) (dC : Nat → ClassId) (dI : Nat → Nat → Nat) (aC : Nat → ClassId) (b : Nat) (mu : fm_T) (kk : Int32) (wh : Int32) (hI : SafC mu) : Met l y_D_packet w_D_packet { frames := 1, cells := 0, slots := 0, locals := 21 } (va_Pc [.ref (b + 0), .int kk, .int wh] (fm_C (dC, dI) clsx (tysx aC) (LC aC b) b 99 (XC b) mu)) (QcRead (f_D_packet mu kk wh)) 0 0 (fun _ => False) := by
  refine Met.ofW (cc := b_D_packet) (maxL := 4) (ret := (some .int)) (by decide) rfl ?_
  intro p e s m args below meth cd s₁ B hml hv
  obtain ⟨rfl, hP, hK, hX⟩ := hv
  have hl := lv_entry ([.ref (b + 0), .int kk, .int wh]) (n := 4) (Nat.le_of_ble_eq_true rfl)
  rw [lg_entry_eq]
  generalize (lg_sl ([.ref (b + 0), .int kk, .int wh]) ++ List.replicate (4 - (lg_sl ([.ref (b + 0), .int kk, .int wh])).length) Slot.unset).toArray = ls at hl ⊢
  exact k_D_packet l dC dI aC b ⟨B.exec, B.bytes, B.returns, hml, findClass_of_methodNamed B.named, atoms_spec (ws := w_D_packet) B.pre, B.notSynchronized, hK, hX⟩ mu kk wh hI ls _ hP hl rfl
def f_D_position (mu : fm_T) (en : Int32) : Int32 := (if (f_D_isEntity en) = 0 then (-1) else mu 3 en.toNatClampNeg)
theorem e_D_position (mu : fm_T) (en : Int32) : f_D_position mu en = (if (f_D_isEntity en) = 0 then (-1) else mu 3 en.toNatClampNeg) := rfl
set_option maxHeartbeats 4000000 in
set_option maxRecDepth 100000 in
theorem k_D_position (l : Launch) (dC : Nat → ClassId) (dI : Nat → Nat → Nat) (aC : Nat → ClassId) (b : Nat) {p : Program} {e : Env} {s : State} {m : MethodId} {args : Array Value} {below : List Frame} {meth : Method} {cd : Code} (hc : cx (dC, dI) (tysx aC) (XC b) w_D_position b_D_position R_D 2 (some .int) p s m args meth cd) (mu : fm_T) (en : Int32)  (ls : Array Slot) (F : Int32) (hP : va_P (dC, dI) clsx (fm_w (LC aC b) b 99 mu) s.heap) (hl : lv_has ls 2 [(0, .ref (b + 0)), (1, .int en)]) (hf : F = f_D_position mu en) : W p l e { frames := 1, cells := 0, slots := 0, locals := 20 } s m args below meth cd s.heap [] 0 0 (MQ below (QcRead F) args s 0 0 (fun _ => False)) (F0 m 0 ls []) := by
  obtain ⟨hx, hb, hr, hml, hown, hts, hlocks, hK, hX⟩ := hc
  have hg : ∀ w ∈ gtbl, w.before args s = true := fun w h => hts w (List.mem_cons_of_mem _ h)
  have hS : va_S (fm_A b 99) s.heap s.heap [] := va_S.rf
  have hf := hf.trans (e_D_position mu en)
  refine lv_iload_n hx hb d_D_position_0 rfl (lv_at hl 1 rfl) ?_
  refine ro_call (va_runS (As := [.int en]) (rest := []) ⟨hx, hb, hml, hown, hts⟩ (c_D_isEntity l dC dI aC b mu en) (cw_S (fun w h => List.mem_cons_of_mem _ h) hts ks_D_isEntity ml_D_63 ⟨Nat.le_of_ble_eq_true rfl, Nat.le_of_ble_eq_true rfl⟩ rfl rfl) (fm_preS XC_bl (XC_mv hX hS) hK hP) rfl rfl hl.1 rfl (lv_room (Nat.le_of_ble_eq_true rfl)) d_D_position_1 ⟨Nat.zero_le _, Nat.zero_le _⟩) ?_
  refine lv_if_eq (tgt := 19) hx hb d_D_position_4 rfl (fun h4 => ?_) (fun h4 => ?_)
  · have hf := hf.trans (if_pos h4)
    refine lv_iconst (v := (-1)) hx hb d_D_position_19 (by decide) ?_
    exact ro_iret hx hb hr hlocks hf d_D_position_20
  · have hf := hf.trans (if_neg h4)
    refine lv_aload_n hx hb d_D_position_7 rfl (lv_at hl 0 rfl) ?_
    refine fm_get (C := R_D) (T := T_D) (n := 5) (ci := 0) hx hb hg uw_D hown hK hP (0) (by decide) (lc_D aC b _) rfl 0 (by decide) (hg _ fl_D_10) (fun _ h9 => h9) rfl d_D_position_8 ?_
    refine fm_get (C := R_F) (T := T_F) (n := 3) (ci := 1) hx hb hg uw_F hown hK hP (1) (by decide) (lc_F aC b _) rfl 1 (by decide) (hg _ fl_D_35) (fun _ h9 => h9) rfl d_D_position_11 ?_
    refine lv_iload_n hx hb d_D_position_14 rfl (lv_at hl 1 rfl) ?_
    refine fm_iald hx hb hK hP (3) (by decide) 0 (lc_places aC b _) rfl en.toNatClampNeg (vp_e (n := 8) (en_in h4)) (vp_l (n := 8) (en_in h4)) (by decide) d_D_position_15 ?_
    refine lv_goto (tgt := 20) hx hb d_D_position_16 rfl ?_
    exact ro_iret hx hb hr hlocks hf d_D_position_20
set_option maxHeartbeats 4000000 in
set_option maxRecDepth 100000 in
theorem c_D_position (l : Launch) (dC : Nat → ClassId) (dI : Nat → Nat → Nat) (aC : Nat → ClassId) (b : Nat) (mu : fm_T) (en : Int32)  : Met l y_D_position w_D_position { frames := 1, cells := 0, slots := 0, locals := 20 } (va_Pc [.ref (b + 0), .int en] (fm_C (dC, dI) clsx (tysx aC) (LC aC b) b 99 (XC b) mu)) (QcRead (f_D_position mu en)) 0 0 (fun _ => False) := by
  refine Met.ofW (cc := b_D_position) (maxL := 2) (ret := (some .int)) (by decide) rfl ?_
  intro p e s m args below meth cd s₁ B hml hv
  obtain ⟨rfl, hP, hK, hX⟩ := hv
  have hl := lv_entry ([.ref (b + 0), .int en]) (n := 2) (Nat.le_of_ble_eq_true rfl)
  rw [lg_entry_eq]
  generalize (lg_sl ([.ref (b + 0), .int en]) ++ List.replicate (2 - (lg_sl ([.ref (b + 0), .int en])).length) Slot.unset).toArray = ls at hl ⊢
  exact k_D_position l dC dI aC b ⟨B.exec, B.bytes, B.returns, hml, findClass_of_methodNamed B.named, atoms_spec (ws := w_D_position) B.pre, B.notSynchronized, hK, hX⟩ mu en ls _ hP hl rfl
def f_D_view (mu : fm_T) (cli : Int32) (en : Int32) : Int32 := (if (f_D_isClient cli) = 0 then (-1) else (if (f_D_isEntity en) = 0 then (-1) else mu (83 + 6 * cli.toNatClampNeg) en.toNatClampNeg))
theorem e_D_view (mu : fm_T) (cli : Int32) (en : Int32) : f_D_view mu cli en = (if (f_D_isClient cli) = 0 then (-1) else (if (f_D_isEntity en) = 0 then (-1) else mu (83 + 6 * cli.toNatClampNeg) en.toNatClampNeg)) := rfl
set_option maxHeartbeats 4000000 in
set_option maxRecDepth 100000 in
theorem k_D_view (l : Launch) (dC : Nat → ClassId) (dI : Nat → Nat → Nat) (aC : Nat → ClassId) (b : Nat) {p : Program} {e : Env} {s : State} {m : MethodId} {args : Array Value} {below : List Frame} {meth : Method} {cd : Code} (hc : cx (dC, dI) (tysx aC) (XC b) w_D_view b_D_view R_D 3 (some .int) p s m args meth cd) (mu : fm_T) (cli : Int32) (en : Int32)  (ls : Array Slot) (F : Int32) (hP : va_P (dC, dI) clsx (fm_w (LC aC b) b 99 mu) s.heap) (hl : lv_has ls 3 [(0, .ref (b + 0)), (1, .int cli), (2, .int en)]) (hf : F = f_D_view mu cli en) : W p l e { frames := 1, cells := 0, slots := 0, locals := 20 } s m args below meth cd s.heap [] 0 0 (MQ below (QcRead F) args s 0 0 (fun _ => False)) (F0 m 0 ls []) := by
  obtain ⟨hx, hb, hr, hml, hown, hts, hlocks, hK, hX⟩ := hc
  have hg : ∀ w ∈ gtbl, w.before args s = true := fun w h => hts w (List.mem_cons_of_mem _ h)
  have hS : va_S (fm_A b 99) s.heap s.heap [] := va_S.rf
  have hf := hf.trans (e_D_view mu cli en)
  refine lv_iload_n hx hb d_D_view_0 rfl (lv_at hl 1 rfl) ?_
  refine ro_call (va_runS (As := [.int cli]) (rest := []) ⟨hx, hb, hml, hown, hts⟩ (c_D_isClient l dC dI aC b mu cli) (cw_S (fun w h => List.mem_cons_of_mem _ h) hts ks_D_isClient ml_D_69 ⟨Nat.le_of_ble_eq_true rfl, Nat.le_of_ble_eq_true rfl⟩ rfl rfl) (fm_preS XC_bl (XC_mv hX hS) hK hP) rfl rfl hl.1 rfl (lv_room (Nat.le_of_ble_eq_true rfl)) d_D_view_1 ⟨Nat.zero_le _, Nat.zero_le _⟩) ?_
  refine lv_if_eq (tgt := 28) hx hb d_D_view_4 rfl (fun h4 => ?_) (fun h4 => ?_)
  · have hf := hf.trans (if_pos h4)
    refine lv_iconst (v := (-1)) hx hb d_D_view_28 (by decide) ?_
    exact ro_iret hx hb hr hlocks hf d_D_view_29
  · have hf := hf.trans (if_neg h4)
    refine lv_iload_n hx hb d_D_view_7 rfl (lv_at hl 2 rfl) ?_
    refine ro_call (va_runS (As := [.int en]) (rest := []) ⟨hx, hb, hml, hown, hts⟩ (c_D_isEntity l dC dI aC b mu en) (cw_S (fun w h => List.mem_cons_of_mem _ h) hts ks_D_isEntity ml_D_63 ⟨Nat.le_of_ble_eq_true rfl, Nat.le_of_ble_eq_true rfl⟩ rfl rfl) (fm_preS XC_bl (XC_mv hX hS) hK hP) rfl rfl hl.1 rfl (lv_room (Nat.le_of_ble_eq_true rfl)) d_D_view_8 ⟨Nat.zero_le _, Nat.zero_le _⟩) ?_
    refine lv_if_eq (tgt := 28) hx hb d_D_view_11 rfl (fun h11 => ?_) (fun h11 => ?_)
    · have hf := hf.trans (if_pos h11)
      refine lv_iconst (v := (-1)) hx hb d_D_view_28 (by decide) ?_
      exact ro_iret hx hb hr hlocks hf d_D_view_29
    · have hf := hf.trans (if_neg h11)
      refine lv_aload_n hx hb d_D_view_14 rfl (lv_at hl 0 rfl) ?_
      refine fm_get (C := R_D) (T := T_D) (n := 5) (ci := 0) hx hb hg uw_D hown hK hP (0) (by decide) (lc_D aC b _) rfl 2 (by decide) (hg _ fl_D_25) (fun _ h9 => h9) rfl d_D_view_15 ?_
      refine lv_iload_n hx hb d_D_view_18 rfl (lv_at hl 1 rfl) ?_
      refine fm_aald (a := b + (81 + 6 * cli.toNatClampNeg)) hx hb hK hP (79) (by decide) 3 (lc_clients aC b _) rfl cli.toNatClampNeg (vp_e (n := 3) (cl_in h4)) (vp_l (n := 3) (cl_in h4)) (by decide) rfl d_D_view_19 ?_
      refine fm_get (C := R_C) (T := T_C) (n := 6) (ci := 4) hx hb hg uw_C hown hK hP (81 + 6 * cli.toNatClampNeg) (lc_ltC (vp_l (n := 3) (cl_in h4))) (lc_C aC b _ (vp_l (n := 3) (cl_in h4))) rfl 1 (by decide) (hg _ fl_D_157) (fun _ h9 => h9) rfl d_D_view_20 ?_
      refine lv_iload_n hx hb d_D_view_23 rfl (lv_at hl 2 rfl) ?_
      refine fm_iald hx hb hK hP (83 + 6 * cli.toNatClampNeg) (lc_ltCsh (vp_l (n := 3) (cl_in h4))) 0 (lc_Csh aC b _ (vp_l (n := 3) (cl_in h4))) rfl en.toNatClampNeg (vp_e (n := 8) (en_in h11)) (vp_l (n := 8) (en_in h11)) (by decide) d_D_view_24 ?_
      refine lv_goto (tgt := 29) hx hb d_D_view_25 rfl ?_
      exact ro_iret hx hb hr hlocks hf d_D_view_29
set_option maxHeartbeats 4000000 in
set_option maxRecDepth 100000 in
theorem c_D_view (l : Launch) (dC : Nat → ClassId) (dI : Nat → Nat → Nat) (aC : Nat → ClassId) (b : Nat) (mu : fm_T) (cli : Int32) (en : Int32)  : Met l y_D_view w_D_view { frames := 1, cells := 0, slots := 0, locals := 20 } (va_Pc [.ref (b + 0), .int cli, .int en] (fm_C (dC, dI) clsx (tysx aC) (LC aC b) b 99 (XC b) mu)) (QcRead (f_D_view mu cli en)) 0 0 (fun _ => False) := by
  refine Met.ofW (cc := b_D_view) (maxL := 3) (ret := (some .int)) (by decide) rfl ?_
  intro p e s m args below meth cd s₁ B hml hv
  obtain ⟨rfl, hP, hK, hX⟩ := hv
  have hl := lv_entry ([.ref (b + 0), .int cli, .int en]) (n := 3) (Nat.le_of_ble_eq_true rfl)
  rw [lg_entry_eq]
  generalize (lg_sl ([.ref (b + 0), .int cli, .int en]) ++ List.replicate (3 - (lg_sl ([.ref (b + 0), .int cli, .int en])).length) Slot.unset).toArray = ls at hl ⊢
  exact k_D_view l dC dI aC b ⟨B.exec, B.bytes, B.returns, hml, findClass_of_methodNamed B.named, atoms_spec (ws := w_D_view) B.pre, B.notSynchronized, hK, hX⟩ mu cli en ls _ hP hl rfl
def f_D_predicted_46 : Nat → fm_T → Nat → Int32 → Int32 → Nat → Int32
  | 0, _, _, _, _, _ => 0
  | n + 1, mu, ci, re, uns, j => (if uns ≤ (nI j) then re else (f_D_predicted_46 n mu ci (f_F_after mu re (f_C_commandAt mu ci (((mu (81 + 6 * ci) 4) + 1) + (nI j)))) uns (j + 1)))
theorem e_D_predicted_46 (n : Nat) (mu : fm_T) (ci : Nat) (re : Int32) (uns : Int32) (j : Nat) : f_D_predicted_46 (n + 1) mu ci re uns j = (if uns ≤ (nI j) then re else (f_D_predicted_46 n mu ci (f_F_after mu re (f_C_commandAt mu ci (((mu (81 + 6 * ci) 4) + 1) + (nI j)))) uns (j + 1))) := rfl
set_option maxHeartbeats 4000000 in
set_option maxRecDepth 100000 in
theorem k_D_predicted_46 (l : Launch) (dC : Nat → ClassId) (dI : Nat → Nat → Nat) (aC : Nat → ClassId) (b : Nat) {p : Program} {e : Env} {s : State} {m : MethodId} {args : Array Value} {below : List Frame} {meth : Method} {cd : Code} (hc : cx (dC, dI) (tysx aC) (XC b) w_D_predicted b_D_predicted R_D 6 (some .int) p s m args meth cd) : ∀ (n : Nat) (mu : fm_T) (ci : Nat) (re : Int32) (uns : Int32) (j : Nat) (hci : ci < 3) (hI : SafC mu) (hj : j ≤ uns.toNatClampNeg) (hn : uns.toNatClampNeg < j + n) (ls : Array Slot) (F : Int32) (hP : va_P (dC, dI) clsx (fm_w (LC aC b) b 99 mu) s.heap) (hl : lv_has ls 6 [(0, .ref (b + 0)), (2, .ref (b + (81 + 6 * ci))), (3, .int re), (4, .int uns), (5, .int (nI j))]) (hf : F = f_D_predicted_46 n mu ci re uns j), W p l e { frames := 3, cells := 0, slots := 0, locals := 67 } s m args below meth cd s.heap [] 0 0 (MQ below (QcRead F) args s 0 0 (fun _ => False)) (F0 m 46 ls []) := by
  obtain ⟨hx, hb, hr, hml, hown, hts, hlocks, hK, hX⟩ := hc
  have hg : ∀ w ∈ gtbl, w.before args s = true := fun w h => hts w (List.mem_cons_of_mem _ h)
  have hS : va_S (fm_A b 99) s.heap s.heap [] := va_S.rf
  intro n
  induction n with
  | zero =>
    intro mu ci re uns j hci hI hj hn ls F hP hl hf
    exfalso
    omega
  | succ n ih =>
    intro mu ci re uns j hci hI hj hn ls F hP hl hf
    have hf := hf.trans (e_D_predicted_46 n mu ci re uns j)
    refine lv_iload hx hb d_D_predicted_46 (lv_at hl 4 rfl) ?_
    refine lv_iload hx hb d_D_predicted_48 (lv_at hl 3 rfl) ?_
    refine lv_icmp_ge (tgt := 81) hx hb d_D_predicted_50 rfl (fun h50 => ?_) (fun h50 => ?_)
    · have hf := hf.trans (if_pos h50)
      refine lv_iload_n hx hb d_D_predicted_81 rfl (lv_at hl 2 rfl) ?_
      exact ro_iret hx hb hr hlocks hf d_D_predicted_82
    · have hf := hf.trans (if_neg h50)
      have hj8 : j < uns.toNatClampNeg := lp_ltn hj h50
      refine lv_aload_n hx hb d_D_predicted_53 rfl (lv_at hl 0 rfl) ?_
      refine fm_get (C := R_D) (T := T_D) (n := 5) (ci := 0) hx hb hg uw_D hown hK hP (0) (by decide) (lc_D aC b _) rfl 0 (by decide) (hg _ fl_D_10) (fun _ h9 => h9) rfl d_D_predicted_54 ?_
      refine lv_iload_n hx hb d_D_predicted_57 rfl (lv_at hl 2 rfl) ?_
      refine lv_aload_n hx hb d_D_predicted_58 rfl (lv_at hl 1 rfl) ?_
      refine lv_aload_n hx hb d_D_predicted_59 rfl (lv_at hl 1 rfl) ?_
      refine fm_get (C := R_C) (T := T_C) (n := 6) (ci := 4) hx hb hg uw_C hown hK hP (81 + 6 * ci) (lc_ltC hci) (lc_C aC b _ hci) rfl 4 (by decide) (hg _ fl_D_163) (fun _ h9 => h9) rfl d_D_predicted_60 ?_
      refine lv_iconst (v := 1) hx hb d_D_predicted_63 (by decide) ?_
      refine lv_iadd hx hb d_D_predicted_64 ?_
      refine lv_iload hx hb d_D_predicted_65 (lv_at hl 4 rfl) ?_
      refine lv_iadd hx hb d_D_predicted_67 ?_
      refine ro_call (va_runV (As := [.int (((mu (81 + 6 * ci) 4) + 1) + (nI j))]) (rest := [.int re, .ref (b + 1)]) ⟨hx, hb, hml, hown, hts⟩ (c_C_commandAt l dC dI aC b mu ci (((mu (81 + 6 * ci) 4) + 1) + (nI j)) hci) (cw_V (fun w h => List.mem_cons_of_mem _ h) hts kv_C_commandAt ml_D_166 ⟨Nat.le_of_ble_eq_true rfl, Nat.le_of_ble_eq_true rfl⟩ rfl rfl) (fm_preV XC_bl (XC_mv hX hS) hK hP (81 + 6 * ci) (lc_ltC hci) (lc_C aC b _ hci) rfl) rfl rfl hl.1 rfl (lv_room (Nat.le_of_ble_eq_true rfl)) d_D_predicted_68 ⟨Nat.zero_le _, Nat.zero_le _⟩) ?_
      refine ro_call (va_runV (As := [.int re, .int (f_C_commandAt mu ci (((mu (81 + 6 * ci) 4) + 1) + (nI j)))]) (rest := []) ⟨hx, hb, hml, hown, hts⟩ (c_F_after l dC dI aC b mu re (f_C_commandAt mu ci (((mu (81 + 6 * ci) 4) + 1) + (nI j))) (saf_cmd hI hci _)) (cw_V (fun w h => List.mem_cons_of_mem _ h) hts kv_F_after ml_D_170 ⟨Nat.le_of_ble_eq_true rfl, Nat.le_of_ble_eq_true rfl⟩ rfl rfl) (fm_preV XC_bl (XC_mv hX hS) hK hP (1) (by decide) (lc_F aC b _) rfl) rfl rfl hl.1 rfl (lv_room (Nat.le_of_ble_eq_true rfl)) d_D_predicted_71 ⟨Nat.zero_le _, Nat.zero_le _⟩) ?_
      refine lv_istore_n (lv' := [(3, .int (f_F_after mu re (f_C_commandAt mu ci (((mu (81 + 6 * ci) 4) + 1) + (nI j))))), (0, .ref (b + 0)), (2, .ref (b + (81 + 6 * ci))), (4, .int uns), (5, .int (nI j))]) hx hb d_D_predicted_74 rfl hl (by decide) rfl (fun ls hl => ?_)
      refine lv_iinc (k := 4) (v := (nI (j + 1))) (lv' := [(5, .int (nI (j + 1))), (3, .int (f_F_after mu re (f_C_commandAt mu ci (((mu (81 + 6 * ci) 4) + 1) + (nI j))))), (0, .ref (b + 0)), (2, .ref (b + (81 + 6 * ci))), (4, .int uns)]) hx hb d_D_predicted_75 hl rfl (nI_1 _) (by decide) rfl (fun ls hl => ?_)
      refine lv_goto (tgt := 46) hx hb d_D_predicted_78 rfl ?_
      exact ih mu ci (f_F_after mu re (f_C_commandAt mu ci (((mu (81 + 6 * ci) 4) + 1) + (nI j)))) uns (j + 1) hci hI (by omega) (by omega)  ls _ hP  (lv_sub hl [2, 3, 1, 4, 0] rfl) hf
def f_D_predicted (mu : fm_T) (cli : Int32) : Int32 := (if (f_D_isClient cli) = 0 then (-1) else (if (mu (81 + 6 * cli.toNatClampNeg) 5) = 0 then (f_D_predicted_46 ((f_C_unseenCommands mu cli.toNatClampNeg).toNatClampNeg + 1) mu cli.toNatClampNeg (mu (81 + 6 * cli.toNatClampNeg) 2) (f_C_unseenCommands mu cli.toNatClampNeg) 0) else (f_D_predicted_46 ((f_C_unseenCommands mu cli.toNatClampNeg).toNatClampNeg + 1) mu cli.toNatClampNeg (mu (83 + 6 * cli.toNatClampNeg) cli.toNatClampNeg) (f_C_unseenCommands mu cli.toNatClampNeg) 0)))
theorem e_D_predicted (mu : fm_T) (cli : Int32) : f_D_predicted mu cli = (if (f_D_isClient cli) = 0 then (-1) else (if (mu (81 + 6 * cli.toNatClampNeg) 5) = 0 then (f_D_predicted_46 ((f_C_unseenCommands mu cli.toNatClampNeg).toNatClampNeg + 1) mu cli.toNatClampNeg (mu (81 + 6 * cli.toNatClampNeg) 2) (f_C_unseenCommands mu cli.toNatClampNeg) 0) else (f_D_predicted_46 ((f_C_unseenCommands mu cli.toNatClampNeg).toNatClampNeg + 1) mu cli.toNatClampNeg (mu (83 + 6 * cli.toNatClampNeg) cli.toNatClampNeg) (f_C_unseenCommands mu cli.toNatClampNeg) 0))) := rfl
set_option maxHeartbeats 4000000 in
set_option maxRecDepth 100000 in
theorem k_D_predicted (l : Launch) (dC : Nat → ClassId) (dI : Nat → Nat → Nat) (aC : Nat → ClassId) (b : Nat) {p : Program} {e : Env} {s : State} {m : MethodId} {args : Array Value} {below : List Frame} {meth : Method} {cd : Code} (hc : cx (dC, dI) (tysx aC) (XC b) w_D_predicted b_D_predicted R_D 6 (some .int) p s m args meth cd) (mu : fm_T) (cli : Int32) (hI : SafC mu) (ls : Array Slot) (F : Int32) (hP : va_P (dC, dI) clsx (fm_w (LC aC b) b 99 mu) s.heap) (hl : lv_has ls 6 [(0, .ref (b + 0)), (1, .int cli)]) (hf : F = f_D_predicted mu cli) : W p l e { frames := 3, cells := 0, slots := 0, locals := 67 } s m args below meth cd s.heap [] 0 0 (MQ below (QcRead F) args s 0 0 (fun _ => False)) (F0 m 0 ls []) := by
  obtain ⟨hx, hb, hr, hml, hown, hts, hlocks, hK, hX⟩ := hc
  have hg : ∀ w ∈ gtbl, w.before args s = true := fun w h => hts w (List.mem_cons_of_mem _ h)
  have hS : va_S (fm_A b 99) s.heap s.heap [] := va_S.rf
  have hf := hf.trans (e_D_predicted mu cli)
  refine lv_iload_n hx hb d_D_predicted_0 rfl (lv_at hl 1 rfl) ?_
  refine ro_call (va_runS (As := [.int cli]) (rest := []) ⟨hx, hb, hml, hown, hts⟩ (c_D_isClient l dC dI aC b mu cli) (cw_S (fun w h => List.mem_cons_of_mem _ h) hts ks_D_isClient ml_D_69 ⟨Nat.le_of_ble_eq_true rfl, Nat.le_of_ble_eq_true rfl⟩ rfl rfl) (fm_preS XC_bl (XC_mv hX hS) hK hP) rfl rfl hl.1 rfl (lv_room (Nat.le_of_ble_eq_true rfl)) d_D_predicted_1 ⟨Nat.zero_le _, Nat.zero_le _⟩) ?_
  refine lv_if_ne (tgt := 9) hx hb d_D_predicted_4 rfl (fun h4 => ?_) (fun h4 => ?_)
  · have hf := hf.trans (if_neg h4)
    refine lv_aload_n hx hb d_D_predicted_9 rfl (lv_at hl 0 rfl) ?_
    refine fm_get (C := R_D) (T := T_D) (n := 5) (ci := 0) hx hb hg uw_D hown hK hP (0) (by decide) (lc_D aC b _) rfl 2 (by decide) (hg _ fl_D_25) (fun _ h9 => h9) rfl d_D_predicted_10 ?_
    refine lv_iload_n hx hb d_D_predicted_13 rfl (lv_at hl 1 rfl) ?_
    refine fm_aald (a := b + (81 + 6 * cli.toNatClampNeg)) hx hb hK hP (79) (by decide) 3 (lc_clients aC b _) rfl cli.toNatClampNeg (vp_e (n := 3) (cl_in h4)) (vp_l (n := 3) (cl_in h4)) (by decide) rfl d_D_predicted_14 ?_
    refine lv_astore_n (lv' := [(2, .ref (b + (81 + 6 * cli.toNatClampNeg))), (0, .ref (b + 0)), (1, .int cli)]) hx hb d_D_predicted_15 rfl hl (by decide) rfl (fun ls hl => ?_)
    refine lv_aload_n hx hb d_D_predicted_16 rfl (lv_at hl 0 rfl) ?_
    refine fm_get (C := R_C) (T := T_C) (n := 6) (ci := 4) hx hb hg uw_C hown hK hP (81 + 6 * cli.toNatClampNeg) (lc_ltC (vp_l (n := 3) (cl_in h4))) (lc_C aC b _ (vp_l (n := 3) (cl_in h4))) rfl 5 (by decide) (hg _ fl_D_160) (fun _ h9 => h9) rfl d_D_predicted_17 ?_
    refine lv_if_ne (tgt := 30) hx hb d_D_predicted_20 rfl (fun h20 => ?_) (fun h20 => ?_)
    · have hf := hf.trans (if_neg h20)
      refine lv_aload_n hx hb d_D_predicted_30 rfl (lv_at hl 0 rfl) ?_
      refine fm_get (C := R_C) (T := T_C) (n := 6) (ci := 4) hx hb hg uw_C hown hK hP (81 + 6 * cli.toNatClampNeg) (lc_ltC (vp_l (n := 3) (cl_in h4))) (lc_C aC b _ (vp_l (n := 3) (cl_in h4))) rfl 1 (by decide) (hg _ fl_D_157) (fun _ h9 => h9) rfl d_D_predicted_31 ?_
      refine lv_iload_n hx hb d_D_predicted_34 rfl (lv_at hl 2 rfl) ?_
      refine fm_iald hx hb hK hP (83 + 6 * cli.toNatClampNeg) (lc_ltCsh (vp_l (n := 3) (cl_in h4))) 0 (lc_Csh aC b _ (vp_l (n := 3) (cl_in h4))) rfl cli.toNatClampNeg (vp_e (n := 8) (vp_mono (cl_in h4) (by decide))) (vp_l (n := 8) (vp_mono (cl_in h4) (by decide))) (by decide) d_D_predicted_35 ?_
      refine lv_istore_n (lv' := [(3, .int (mu (83 + 6 * cli.toNatClampNeg) cli.toNatClampNeg)), (2, .ref (b + (81 + 6 * cli.toNatClampNeg))), (0, .ref (b + 0)), (1, .int cli)]) hx hb d_D_predicted_36 rfl hl (by decide) rfl (fun ls hl => ?_)
      refine lv_aload_n hx hb d_D_predicted_37 rfl (lv_at hl 1 rfl) ?_
      refine ro_call (va_runV (As := []) (rest := []) ⟨hx, hb, hml, hown, hts⟩ (c_C_unseenCommands l dC dI aC b mu cli.toNatClampNeg (vp_l (n := 3) (cl_in h4))) (cw_V (fun w h => List.mem_cons_of_mem _ h) hts kv_C_unseenCommands ml_D_84 ⟨Nat.le_of_ble_eq_true rfl, Nat.le_of_ble_eq_true rfl⟩ rfl rfl) (fm_preV XC_bl (XC_mv hX hS) hK hP (81 + 6 * cli.toNatClampNeg) (lc_ltC (vp_l (n := 3) (cl_in h4))) (lc_C aC b _ (vp_l (n := 3) (cl_in h4))) rfl) rfl rfl hl.1 rfl (lv_room (Nat.le_of_ble_eq_true rfl)) d_D_predicted_38 ⟨Nat.zero_le _, Nat.zero_le _⟩) ?_
      refine lv_istore (lv' := [(4, .int (f_C_unseenCommands mu cli.toNatClampNeg)), (3, .int (mu (83 + 6 * cli.toNatClampNeg) cli.toNatClampNeg)), (2, .ref (b + (81 + 6 * cli.toNatClampNeg))), (0, .ref (b + 0)), (1, .int cli)]) hx hb d_D_predicted_41 hl (by decide) rfl (fun ls hl => ?_)
      refine lv_iconst (v := 0) hx hb d_D_predicted_43 (by decide) ?_
      refine lv_istore (lv' := [(5, .int 0), (4, .int (f_C_unseenCommands mu cli.toNatClampNeg)), (3, .int (mu (83 + 6 * cli.toNatClampNeg) cli.toNatClampNeg)), (2, .ref (b + (81 + 6 * cli.toNatClampNeg))), (0, .ref (b + 0)), (1, .int cli)]) hx hb d_D_predicted_44 hl (by decide) rfl (fun ls hl => ?_)
      exact k_D_predicted_46 l dC dI aC b ⟨hx, hb, hr, hml, hown, hts, hlocks, hK, hX⟩ ((f_C_unseenCommands mu cli.toNatClampNeg).toNatClampNeg + 1) mu cli.toNatClampNeg (mu (83 + 6 * cli.toNatClampNeg) cli.toNatClampNeg) (f_C_unseenCommands mu cli.toNatClampNeg) 0 (vp_l (n := 3) (cl_in h4)) hI (Nat.zero_le _) (by omega)  ls _ hP  (lv_sub hl [4, 3, 2, 1, 0] rfl) hf
    · have hf := hf.trans (if_pos h20)
      refine lv_aload_n hx hb d_D_predicted_23 rfl (lv_at hl 0 rfl) ?_
      refine fm_get (C := R_C) (T := T_C) (n := 6) (ci := 4) hx hb hg uw_C hown hK hP (81 + 6 * cli.toNatClampNeg) (lc_ltC (vp_l (n := 3) (cl_in h4))) (lc_C aC b _ (vp_l (n := 3) (cl_in h4))) rfl 2 (by decide) (hg _ fl_D_72) (fun _ h9 => h9) rfl d_D_predicted_24 ?_
      refine lv_goto (tgt := 36) hx hb d_D_predicted_27 rfl ?_
      refine lv_istore_n (lv' := [(3, .int (mu (81 + 6 * cli.toNatClampNeg) 2)), (2, .ref (b + (81 + 6 * cli.toNatClampNeg))), (0, .ref (b + 0)), (1, .int cli)]) hx hb d_D_predicted_36 rfl hl (by decide) rfl (fun ls hl => ?_)
      refine lv_aload_n hx hb d_D_predicted_37 rfl (lv_at hl 1 rfl) ?_
      refine ro_call (va_runV (As := []) (rest := []) ⟨hx, hb, hml, hown, hts⟩ (c_C_unseenCommands l dC dI aC b mu cli.toNatClampNeg (vp_l (n := 3) (cl_in h4))) (cw_V (fun w h => List.mem_cons_of_mem _ h) hts kv_C_unseenCommands ml_D_84 ⟨Nat.le_of_ble_eq_true rfl, Nat.le_of_ble_eq_true rfl⟩ rfl rfl) (fm_preV XC_bl (XC_mv hX hS) hK hP (81 + 6 * cli.toNatClampNeg) (lc_ltC (vp_l (n := 3) (cl_in h4))) (lc_C aC b _ (vp_l (n := 3) (cl_in h4))) rfl) rfl rfl hl.1 rfl (lv_room (Nat.le_of_ble_eq_true rfl)) d_D_predicted_38 ⟨Nat.zero_le _, Nat.zero_le _⟩) ?_
      refine lv_istore (lv' := [(4, .int (f_C_unseenCommands mu cli.toNatClampNeg)), (3, .int (mu (81 + 6 * cli.toNatClampNeg) 2)), (2, .ref (b + (81 + 6 * cli.toNatClampNeg))), (0, .ref (b + 0)), (1, .int cli)]) hx hb d_D_predicted_41 hl (by decide) rfl (fun ls hl => ?_)
      refine lv_iconst (v := 0) hx hb d_D_predicted_43 (by decide) ?_
      refine lv_istore (lv' := [(5, .int 0), (4, .int (f_C_unseenCommands mu cli.toNatClampNeg)), (3, .int (mu (81 + 6 * cli.toNatClampNeg) 2)), (2, .ref (b + (81 + 6 * cli.toNatClampNeg))), (0, .ref (b + 0)), (1, .int cli)]) hx hb d_D_predicted_44 hl (by decide) rfl (fun ls hl => ?_)
      exact k_D_predicted_46 l dC dI aC b ⟨hx, hb, hr, hml, hown, hts, hlocks, hK, hX⟩ ((f_C_unseenCommands mu cli.toNatClampNeg).toNatClampNeg + 1) mu cli.toNatClampNeg (mu (81 + 6 * cli.toNatClampNeg) 2) (f_C_unseenCommands mu cli.toNatClampNeg) 0 (vp_l (n := 3) (cl_in h4)) hI (Nat.zero_le _) (by omega)  ls _ hP  (lv_sub hl [4, 3, 2, 1, 0] rfl) hf
  · have hf := hf.trans (if_pos h4)
    refine lv_iconst (v := (-1)) hx hb d_D_predicted_7 (by decide) ?_
    exact ro_iret hx hb hr hlocks hf d_D_predicted_8
set_option maxHeartbeats 4000000 in
set_option maxRecDepth 100000 in
theorem c_D_predicted (l : Launch) (dC : Nat → ClassId) (dI : Nat → Nat → Nat) (aC : Nat → ClassId) (b : Nat) (mu : fm_T) (cli : Int32) (hI : SafC mu) : Met l y_D_predicted w_D_predicted { frames := 3, cells := 0, slots := 0, locals := 67 } (va_Pc [.ref (b + 0), .int cli] (fm_C (dC, dI) clsx (tysx aC) (LC aC b) b 99 (XC b) mu)) (QcRead (f_D_predicted mu cli)) 0 0 (fun _ => False) := by
  refine Met.ofW (cc := b_D_predicted) (maxL := 6) (ret := (some .int)) (by decide) rfl ?_
  intro p e s m args below meth cd s₁ B hml hv
  obtain ⟨rfl, hP, hK, hX⟩ := hv
  have hl := lv_entry ([.ref (b + 0), .int cli]) (n := 6) (Nat.le_of_ble_eq_true rfl)
  rw [lg_entry_eq]
  generalize (lg_sl ([.ref (b + 0), .int cli]) ++ List.replicate (6 - (lg_sl ([.ref (b + 0), .int cli])).length) Slot.unset).toArray = ls at hl ⊢
  exact k_D_predicted l dC dI aC b ⟨B.exec, B.bytes, B.returns, hml, findClass_of_methodNamed B.named, atoms_spec (ws := w_D_predicted) B.pre, B.notSynchronized, hK, hX⟩ mu cli hI ls _ hP hl rfl
def f_D_count (mu : fm_T) (cli : Int32) (wh : Int32) : Int32 := (if (f_D_isClient cli) = 0 then (-1) else (if wh = 0 then mu (81 + 6 * cli.toNatClampNeg) 3 else (if wh = 1 then mu (81 + 6 * cli.toNatClampNeg) 4 else (if wh = 2 then mu (84 + 6 * cli.toNatClampNeg) 2 else (if wh = 3 then f_A_heldCommands mu cli.toNatClampNeg else (if wh = 4 then mu (81 + 6 * cli.toNatClampNeg) 5 else (if wh = 5 then mu (84 + 6 * cli.toNatClampNeg) 3 else (-1))))))))
theorem e_D_count (mu : fm_T) (cli : Int32) (wh : Int32) : f_D_count mu cli wh = (if (f_D_isClient cli) = 0 then (-1) else (if wh = 0 then mu (81 + 6 * cli.toNatClampNeg) 3 else (if wh = 1 then mu (81 + 6 * cli.toNatClampNeg) 4 else (if wh = 2 then mu (84 + 6 * cli.toNatClampNeg) 2 else (if wh = 3 then f_A_heldCommands mu cli.toNatClampNeg else (if wh = 4 then mu (81 + 6 * cli.toNatClampNeg) 5 else (if wh = 5 then mu (84 + 6 * cli.toNatClampNeg) 3 else (-1)))))))) := rfl
set_option maxHeartbeats 4000000 in
set_option maxRecDepth 100000 in
theorem k_D_count (l : Launch) (dC : Nat → ClassId) (dI : Nat → Nat → Nat) (aC : Nat → ClassId) (b : Nat) {p : Program} {e : Env} {s : State} {m : MethodId} {args : Array Value} {below : List Frame} {meth : Method} {cd : Code} (hc : cx (dC, dI) (tysx aC) (XC b) w_D_count b_D_count R_D 3 (some .int) p s m args meth cd) (mu : fm_T) (cli : Int32) (wh : Int32)  (ls : Array Slot) (F : Int32) (hP : va_P (dC, dI) clsx (fm_w (LC aC b) b 99 mu) s.heap) (hl : lv_has ls 3 [(0, .ref (b + 0)), (1, .int cli), (2, .int wh)]) (hf : F = f_D_count mu cli wh) : W p l e { frames := 1, cells := 0, slots := 0, locals := 22 } s m args below meth cd s.heap [] 0 0 (MQ below (QcRead F) args s 0 0 (fun _ => False)) (F0 m 0 ls []) := by
  obtain ⟨hx, hb, hr, hml, hown, hts, hlocks, hK, hX⟩ := hc
  have hg : ∀ w ∈ gtbl, w.before args s = true := fun w h => hts w (List.mem_cons_of_mem _ h)
  have hS : va_S (fm_A b 99) s.heap s.heap [] := va_S.rf
  have hf := hf.trans (e_D_count mu cli wh)
  refine lv_iload_n hx hb d_D_count_0 rfl (lv_at hl 1 rfl) ?_
  refine ro_call (va_runS (As := [.int cli]) (rest := []) ⟨hx, hb, hml, hown, hts⟩ (c_D_isClient l dC dI aC b mu cli) (cw_S (fun w h => List.mem_cons_of_mem _ h) hts ks_D_isClient ml_D_69 ⟨Nat.le_of_ble_eq_true rfl, Nat.le_of_ble_eq_true rfl⟩ rfl rfl) (fm_preS XC_bl (XC_mv hX hS) hK hP) rfl rfl hl.1 rfl (lv_room (Nat.le_of_ble_eq_true rfl)) d_D_count_1 ⟨Nat.zero_le _, Nat.zero_le _⟩) ?_
  refine lv_if_ne (tgt := 9) hx hb d_D_count_4 rfl (fun h4 => ?_) (fun h4 => ?_)
  · have hf := hf.trans (if_neg h4)
    refine lv_iload_n hx hb d_D_count_9 rfl (lv_at hl 2 rfl) ?_
    by_cases h10_0 : wh = 0
    · refine lv_tableIn (tgt := 48) hx hb d_D_count_10 (by rw [h10_0]; decide) (by rw [h10_0]; decide) (by rw [h10_0]; rfl) rfl ?_
      have hf := hf.trans (if_pos h10_0)
      refine lv_aload_n hx hb d_D_count_48 rfl (lv_at hl 0 rfl) ?_
      refine fm_get (C := R_D) (T := T_D) (n := 5) (ci := 0) hx hb hg uw_D hown hK hP (0) (by decide) (lc_D aC b _) rfl 2 (by decide) (hg _ fl_D_25) (fun _ h9 => h9) rfl d_D_count_49 ?_
      refine lv_iload_n hx hb d_D_count_52 rfl (lv_at hl 1 rfl) ?_
      refine fm_aald (a := b + (81 + 6 * cli.toNatClampNeg)) hx hb hK hP (79) (by decide) 3 (lc_clients aC b _) rfl cli.toNatClampNeg (vp_e (n := 3) (cl_in h4)) (vp_l (n := 3) (cl_in h4)) (by decide) rfl d_D_count_53 ?_
      refine fm_get (C := R_C) (T := T_C) (n := 6) (ci := 4) hx hb hg uw_C hown hK hP (81 + 6 * cli.toNatClampNeg) (lc_ltC (vp_l (n := 3) (cl_in h4))) (lc_C aC b _ (vp_l (n := 3) (cl_in h4))) rfl 3 (by decide) (hg _ fl_D_91) (fun _ h9 => h9) rfl d_D_count_54 ?_
      exact ro_iret hx hb hr hlocks hf d_D_count_57
    have hf := hf.trans (if_neg h10_0)
    by_cases h10_1 : wh = 1
    · refine lv_tableIn (tgt := 58) hx hb d_D_count_10 (by rw [h10_1]; decide) (by rw [h10_1]; decide) (by rw [h10_1]; rfl) rfl ?_
      have hf := hf.trans (if_pos h10_1)
      refine lv_aload_n hx hb d_D_count_58 rfl (lv_at hl 0 rfl) ?_
      refine fm_get (C := R_D) (T := T_D) (n := 5) (ci := 0) hx hb hg uw_D hown hK hP (0) (by decide) (lc_D aC b _) rfl 2 (by decide) (hg _ fl_D_25) (fun _ h9 => h9) rfl d_D_count_59 ?_
      refine lv_iload_n hx hb d_D_count_62 rfl (lv_at hl 1 rfl) ?_
      refine fm_aald (a := b + (81 + 6 * cli.toNatClampNeg)) hx hb hK hP (79) (by decide) 3 (lc_clients aC b _) rfl cli.toNatClampNeg (vp_e (n := 3) (cl_in h4)) (vp_l (n := 3) (cl_in h4)) (by decide) rfl d_D_count_63 ?_
      refine fm_get (C := R_C) (T := T_C) (n := 6) (ci := 4) hx hb hg uw_C hown hK hP (81 + 6 * cli.toNatClampNeg) (lc_ltC (vp_l (n := 3) (cl_in h4))) (lc_C aC b _ (vp_l (n := 3) (cl_in h4))) rfl 4 (by decide) (hg _ fl_D_163) (fun _ h9 => h9) rfl d_D_count_64 ?_
      exact ro_iret hx hb hr hlocks hf d_D_count_67
    have hf := hf.trans (if_neg h10_1)
    by_cases h10_2 : wh = 2
    · refine lv_tableIn (tgt := 68) hx hb d_D_count_10 (by rw [h10_2]; decide) (by rw [h10_2]; decide) (by rw [h10_2]; rfl) rfl ?_
      have hf := hf.trans (if_pos h10_2)
      refine lv_aload_n hx hb d_D_count_68 rfl (lv_at hl 0 rfl) ?_
      refine fm_get (C := R_D) (T := T_D) (n := 5) (ci := 0) hx hb hg uw_D hown hK hP (0) (by decide) (lc_D aC b _) rfl 3 (by decide) (hg _ fl_D_31) (fun _ h9 => h9) rfl d_D_count_69 ?_
      refine lv_iload_n hx hb d_D_count_72 rfl (lv_at hl 1 rfl) ?_
      refine fm_aald (a := b + (84 + 6 * cli.toNatClampNeg)) hx hb hK hP (80) (by decide) 4 (lc_accounts aC b _) rfl cli.toNatClampNeg (vp_e (n := 3) (cl_in h4)) (vp_l (n := 3) (cl_in h4)) (by decide) rfl d_D_count_73 ?_
      refine fm_get (C := R_A) (T := T_A) (n := 4) (ci := 5) hx hb hg uw_A hown hK hP (84 + 6 * cli.toNatClampNeg) (lc_ltA (vp_l (n := 3) (cl_in h4))) (lc_A aC b _ (vp_l (n := 3) (cl_in h4))) rfl 2 (by decide) (hg _ fl_D_173) (fun _ h9 => h9) rfl d_D_count_74 ?_
      exact ro_iret hx hb hr hlocks hf d_D_count_77
    have hf := hf.trans (if_neg h10_2)
    by_cases h10_3 : wh = 3
    · refine lv_tableIn (tgt := 78) hx hb d_D_count_10 (by rw [h10_3]; decide) (by rw [h10_3]; decide) (by rw [h10_3]; rfl) rfl ?_
      have hf := hf.trans (if_pos h10_3)
      refine lv_aload_n hx hb d_D_count_78 rfl (lv_at hl 0 rfl) ?_
      refine fm_get (C := R_D) (T := T_D) (n := 5) (ci := 0) hx hb hg uw_D hown hK hP (0) (by decide) (lc_D aC b _) rfl 3 (by decide) (hg _ fl_D_31) (fun _ h9 => h9) rfl d_D_count_79 ?_
      refine lv_iload_n hx hb d_D_count_82 rfl (lv_at hl 1 rfl) ?_
      refine fm_aald (a := b + (84 + 6 * cli.toNatClampNeg)) hx hb hK hP (80) (by decide) 4 (lc_accounts aC b _) rfl cli.toNatClampNeg (vp_e (n := 3) (cl_in h4)) (vp_l (n := 3) (cl_in h4)) (by decide) rfl d_D_count_83 ?_
      refine ro_call (va_runV (As := []) (rest := []) ⟨hx, hb, hml, hown, hts⟩ (c_A_heldCommands l dC dI aC b mu cli.toNatClampNeg (vp_l (n := 3) (cl_in h4))) (cw_V (fun w h => List.mem_cons_of_mem _ h) hts kv_A_heldCommands ml_D_174 ⟨Nat.le_of_ble_eq_true rfl, Nat.le_of_ble_eq_true rfl⟩ rfl rfl) (fm_preV XC_bl (XC_mv hX hS) hK hP (84 + 6 * cli.toNatClampNeg) (lc_ltA (vp_l (n := 3) (cl_in h4))) (lc_A aC b _ (vp_l (n := 3) (cl_in h4))) rfl) rfl rfl hl.1 rfl (lv_room (Nat.le_of_ble_eq_true rfl)) d_D_count_84 ⟨Nat.zero_le _, Nat.zero_le _⟩) ?_
      exact ro_iret hx hb hr hlocks hf d_D_count_87
    have hf := hf.trans (if_neg h10_3)
    by_cases h10_4 : wh = 4
    · refine lv_tableIn (tgt := 88) hx hb d_D_count_10 (by rw [h10_4]; decide) (by rw [h10_4]; decide) (by rw [h10_4]; rfl) rfl ?_
      have hf := hf.trans (if_pos h10_4)
      refine lv_aload_n hx hb d_D_count_88 rfl (lv_at hl 0 rfl) ?_
      refine fm_get (C := R_D) (T := T_D) (n := 5) (ci := 0) hx hb hg uw_D hown hK hP (0) (by decide) (lc_D aC b _) rfl 2 (by decide) (hg _ fl_D_25) (fun _ h9 => h9) rfl d_D_count_89 ?_
      refine lv_iload_n hx hb d_D_count_92 rfl (lv_at hl 1 rfl) ?_
      refine fm_aald (a := b + (81 + 6 * cli.toNatClampNeg)) hx hb hK hP (79) (by decide) 3 (lc_clients aC b _) rfl cli.toNatClampNeg (vp_e (n := 3) (cl_in h4)) (vp_l (n := 3) (cl_in h4)) (by decide) rfl d_D_count_93 ?_
      refine fm_get (C := R_C) (T := T_C) (n := 6) (ci := 4) hx hb hg uw_C hown hK hP (81 + 6 * cli.toNatClampNeg) (lc_ltC (vp_l (n := 3) (cl_in h4))) (lc_C aC b _ (vp_l (n := 3) (cl_in h4))) rfl 5 (by decide) (hg _ fl_D_160) (fun _ h9 => h9) rfl d_D_count_94 ?_
      exact ro_iret hx hb hr hlocks hf d_D_count_97
    have hf := hf.trans (if_neg h10_4)
    by_cases h10_5 : wh = 5
    · refine lv_tableIn (tgt := 98) hx hb d_D_count_10 (by rw [h10_5]; decide) (by rw [h10_5]; decide) (by rw [h10_5]; rfl) rfl ?_
      have hf := hf.trans (if_pos h10_5)
      refine lv_aload_n hx hb d_D_count_98 rfl (lv_at hl 0 rfl) ?_
      refine fm_get (C := R_D) (T := T_D) (n := 5) (ci := 0) hx hb hg uw_D hown hK hP (0) (by decide) (lc_D aC b _) rfl 3 (by decide) (hg _ fl_D_31) (fun _ h9 => h9) rfl d_D_count_99 ?_
      refine lv_iload_n hx hb d_D_count_102 rfl (lv_at hl 1 rfl) ?_
      refine fm_aald (a := b + (84 + 6 * cli.toNatClampNeg)) hx hb hK hP (80) (by decide) 4 (lc_accounts aC b _) rfl cli.toNatClampNeg (vp_e (n := 3) (cl_in h4)) (vp_l (n := 3) (cl_in h4)) (by decide) rfl d_D_count_103 ?_
      refine fm_get (C := R_A) (T := T_A) (n := 4) (ci := 5) hx hb hg uw_A hown hK hP (84 + 6 * cli.toNatClampNeg) (lc_ltA (vp_l (n := 3) (cl_in h4))) (lc_A aC b _ (vp_l (n := 3) (cl_in h4))) rfl 3 (by decide) (hg _ fl_D_177) (fun _ h9 => h9) rfl d_D_count_104 ?_
      exact ro_iret hx hb hr hlocks hf d_D_count_107
    have hf := hf.trans (if_neg h10_5)
    refine lv_tableOut (tgt := 108) hx hb d_D_count_10 (sw_out wh h10_0 h10_1 h10_2 h10_3 h10_4 h10_5) rfl ?_
    refine lv_iconst (v := (-1)) hx hb d_D_count_108 (by decide) ?_
    exact ro_iret hx hb hr hlocks hf d_D_count_109
  · have hf := hf.trans (if_pos h4)
    refine lv_iconst (v := (-1)) hx hb d_D_count_7 (by decide) ?_
    exact ro_iret hx hb hr hlocks hf d_D_count_8
set_option maxHeartbeats 4000000 in
set_option maxRecDepth 100000 in
theorem c_D_count (l : Launch) (dC : Nat → ClassId) (dI : Nat → Nat → Nat) (aC : Nat → ClassId) (b : Nat) (mu : fm_T) (cli : Int32) (wh : Int32)  : Met l y_D_count w_D_count { frames := 1, cells := 0, slots := 0, locals := 22 } (va_Pc [.ref (b + 0), .int cli, .int wh] (fm_C (dC, dI) clsx (tysx aC) (LC aC b) b 99 (XC b) mu)) (QcRead (f_D_count mu cli wh)) 0 0 (fun _ => False) := by
  refine Met.ofW (cc := b_D_count) (maxL := 3) (ret := (some .int)) (by decide) rfl ?_
  intro p e s m args below meth cd s₁ B hml hv
  obtain ⟨rfl, hP, hK, hX⟩ := hv
  have hl := lv_entry ([.ref (b + 0), .int cli, .int wh]) (n := 3) (Nat.le_of_ble_eq_true rfl)
  rw [lg_entry_eq]
  generalize (lg_sl ([.ref (b + 0), .int cli, .int wh]) ++ List.replicate (3 - (lg_sl ([.ref (b + 0), .int cli, .int wh])).length) Slot.unset).toArray = ls at hl ⊢
  exact k_D_count l dC dI aC b ⟨B.exec, B.bytes, B.returns, hml, findClass_of_methodNamed B.named, atoms_spec (ws := w_D_count) B.pre, B.notSynchronized, hK, hX⟩ mu cli wh ls _ hP hl rfl
