/-! printed by wip/whole/gen: M_tick -/
def f_M_tick_267 : Nat → fm_T → Nat → Int32 × fm_T
  | 0, mu, _ => (0, mu)
  | n + 1, mu, j => (if 3 ≤ (nI j) then (mu 0 2, mu) else (if (mu 8 j) ≤ 0 then (f_M_tick_267 n (f_M_send mu (nI j) 1 (mu 0 2) 0 (mu 4 (((3 * (mu 0 2)) + (nI j)).toNatClampNeg))) (j + 1)) else (if 6 < ((mu 0 2) - (mu 8 j)) then (f_M_tick_267 n (f_M_send mu (nI j) 1 (mu 0 2) 0 (mu 4 (((3 * (mu 0 2)) + (nI j)).toNatClampNeg))) (j + 1)) else (f_M_tick_267 n (f_M_send mu (nI j) 1 (mu 0 2) (mu 8 j) (mu 4 (((3 * (mu 0 2)) + (nI j)).toNatClampNeg))) (j + 1)))))
theorem e_M_tick_267 (n : Nat) (mu : fm_T) (j : Nat) : f_M_tick_267 (n + 1) mu j = (if 3 ≤ (nI j) then (mu 0 2, mu) else (if (mu 8 j) ≤ 0 then (f_M_tick_267 n (f_M_send mu (nI j) 1 (mu 0 2) 0 (mu 4 (((3 * (mu 0 2)) + (nI j)).toNatClampNeg))) (j + 1)) else (if 6 < ((mu 0 2) - (mu 8 j)) then (f_M_tick_267 n (f_M_send mu (nI j) 1 (mu 0 2) 0 (mu 4 (((3 * (mu 0 2)) + (nI j)).toNatClampNeg))) (j + 1)) else (f_M_tick_267 n (f_M_send mu (nI j) 1 (mu 0 2) (mu 8 j) (mu 4 (((3 * (mu 0 2)) + (nI j)).toNatClampNeg))) (j + 1))))) := rfl
set_option maxHeartbeats 4000000 in
set_option maxRecDepth 100000 in
theorem k_M_tick_267 (l : Launch) (dC : Nat → ClassId) (dI : Nat → Nat → Nat) (aC : Nat → ClassId) (b : Nat) {p : Program} {e : Env} {s : State} {m : MethodId} {args : Array Value} {below : List Frame} {meth : Method} {cd : Code} (hc : cx (dC, dI) (tysx aC) (XM) w_M_tick b_M_tick R_M 7 (some .int) p s m args meth cd) : ∀ (n : Nat) (mu : fm_T) (j : Nat) (hj : j ≤ 3) (hn : 3 < j + n) (hI : SafM mu) (H : Heap) (locs : List Loc) (ls : Array Slot) (F : Int32 × fm_T) (hP : va_P (dC, dI) clsx (fm_w (LM aC b) b 11 mu) H) (hS : va_S (fm_A b 11) s.heap H locs) (hl : lv_has ls 7 [(0, .ref (b + 0)), (3, .int (nI j))]) (hf : F = f_M_tick_267 n mu j), W p l e { frames := 2, cells := 0, slots := 0, locals := 45 } s m args below meth cd H locs 0 0 (MQ below (va_Qi (fun r u => r = F.1 ∧ u = F.2) (fm_B (dC, dI) clsx (tysx aC) (LM aC b) b 11) (fm_A b 11)) args s 0 0 (fm_A b 11)) (F0 m 267 ls []) := by
  obtain ⟨hx, hb, hr, hml, hown, hts, hlocks, hK, hX⟩ := hc
  have hg : ∀ w ∈ gtbl, w.before args s = true := fun w h => hts w (List.mem_cons_of_mem _ h)
  intro n
  induction n with
  | zero =>
    intro mu j hj hn hI H locs ls F hP hS hl hf
    exfalso
    omega
  | succ n ih =>
    intro mu j hj hn hI H locs ls F hP hS hl hf
    have hf := hf.trans (e_M_tick_267 n mu j)
    refine lv_iload_n hx hb d_M_tick_267 rfl (lv_at hl 1 rfl) ?_
    refine lv_iconst (v := 3) hx hb d_M_tick_268 (by decide) ?_
    refine lv_icmp_ge (tgt := 348) hx hb d_M_tick_269 rfl (fun h269 => ?_) (fun h269 => ?_)
    · have hf := hf.trans (if_pos h269)
      refine lv_aload_n hx hb d_M_tick_348 rfl (lv_at hl 0 rfl) ?_
      refine fm_get (C := R_M) (T := T_M) (n := 12) (ci := 6) hx hb hg uw_M hown hK hP (0) (by decide) (lm_M aC b _) rfl 2 (by decide) (hg _ fl_M_45) (fun _ h9 => h9) rfl d_M_tick_349 ?_
      exact rw_iret hx hb hr hlocks hK hP hS hf d_M_tick_352
    · have hf := hf.trans (if_neg h269)
      have hj8 : j < 3 := lp_lt rfl hj (by decide) h269
      refine lv_aload_n hx hb d_M_tick_272 rfl (lv_at hl 0 rfl) ?_
      refine fm_get (C := R_M) (T := T_M) (n := 12) (ci := 6) hx hb hg uw_M hown hK hP (0) (by decide) (lm_M aC b _) rfl 8 (by decide) (hg _ fl_M_32) (fun _ h9 => h9) rfl d_M_tick_273 ?_
      refine lv_iload_n hx hb d_M_tick_276 rfl (lv_at hl 1 rfl) ?_
      refine fm_iald hx hb hK hP (8) (by decide) 0 (lm_acked aC b _) rfl j rfl (by omega) (by decide) d_M_tick_277 ?_
      refine lv_if_le (tgt := 301) hx hb d_M_tick_278 rfl (fun h278 => ?_) (fun h278 => ?_)
      · have hf := hf.trans (if_pos h278)
        refine lv_iconst (v := 0) hx hb d_M_tick_301 (by decide) ?_
        refine lv_istore (lv' := [(4, .int 0), (0, .ref (b + 0)), (3, .int (nI j))]) hx hb d_M_tick_302 hl (by decide) rfl (fun ls hl => ?_)
        refine lv_aload_n hx hb d_M_tick_304 rfl (lv_at hl 1 rfl) ?_
        refine lv_iload_n hx hb d_M_tick_305 rfl (lv_at hl 2 rfl) ?_
        refine lv_iconst (v := 1) hx hb d_M_tick_306 (by decide) ?_
        refine lv_aload_n hx hb d_M_tick_307 rfl (lv_at hl 1 rfl) ?_
        refine fm_get (C := R_M) (T := T_M) (n := 12) (ci := 6) hx hb hg uw_M hown hK hP (0) (by decide) (lm_M aC b _) rfl 2 (by decide) (hg _ fl_M_45) (fun _ h9 => h9) rfl d_M_tick_308 ?_
        refine lv_iload hx hb d_M_tick_311 (lv_at hl 0 rfl) ?_
        refine lv_if_eq (tgt := 325) hx hb d_M_tick_313 rfl (fun _ => ?_) (fun h => absurd h (by decide))
        refine lv_iconst (v := 0) hx hb d_M_tick_325 (by decide) ?_
        refine lv_aload_n hx hb d_M_tick_326 rfl (lv_at hl 1 rfl) ?_
        refine fm_get (C := R_M) (T := T_M) (n := 12) (ci := 6) hx hb hg uw_M hown hK hP (0) (by decide) (lm_M aC b _) rfl 4 (by decide) (hg _ fl_M_20) (fun _ h9 => h9) rfl d_M_tick_327 ?_
        refine lv_iconst (v := 3) hx hb d_M_tick_330 (by decide) ?_
        refine lv_aload_n hx hb d_M_tick_331 rfl (lv_at hl 1 rfl) ?_
        refine fm_get (C := R_M) (T := T_M) (n := 12) (ci := 6) hx hb hg uw_M hown hK hP (0) (by decide) (lm_M aC b _) rfl 2 (by decide) (hg _ fl_M_45) (fun _ h9 => h9) rfl d_M_tick_332 ?_
        refine lv_imul hx hb d_M_tick_335 ?_
        refine lv_iload_n hx hb d_M_tick_336 rfl (lv_at hl 2 rfl) ?_
        refine lv_iadd hx hb d_M_tick_337 ?_
        refine fm_iald hx hb hK hP (4) (by decide) 0 (lm_doneAt aC b _) rfl (((3 * (mu 0 2)) + (nI j)).toNatClampNeg) (vp_e (n := 1539) (lin_in (k := 3) rfl (smf_now hI) (vp_in_nI hj8 (by decide)) (by decide))) (vp_l (n := 1539) (lin_in (k := 3) rfl (smf_now hI) (vp_in_nI hj8 (by decide)) (by decide))) (by decide) d_M_tick_338 ?_
        refine fm_callv (va_runV (As := [.int (nI j), .int 1, .int (mu 0 2), .int 0, .int (mu 4 (((3 * (mu 0 2)) + (nI j)).toNatClampNeg))]) (rest := []) ⟨hx, hb, hml, hown, hts⟩ (c_M_send l dC dI aC b mu (nI j) 1 (mu 0 2) 0 (mu 4 (((3 * (mu 0 2)) + (nI j)).toNatClampNeg)) hI) (cw_V (fun w h => List.mem_cons_of_mem _ h) hts kv_M_send ml_M_63 ⟨Nat.le_of_ble_eq_true rfl, Nat.le_of_ble_eq_true rfl⟩ rfl rfl) (fm_preV XM_bl (XM_mv hX hS) hK hP (0) (by decide) (lm_M aC b _) rfl) rfl rfl hl.1 rfl (lv_room (Nat.le_of_ble_eq_true rfl)) d_M_tick_339 ⟨Nat.zero_le _, Nat.zero_le _⟩) hS (fun _ h => h) (fun u H locs hp hP hS => ?_)
        subst hp
        refine lv_iinc (k := 2) (v := (nI (j + 1))) (lv' := [(3, .int (nI (j + 1))), (4, .int 0), (0, .ref (b + 0))]) hx hb d_M_tick_342 hl rfl (nI_1 _) (by decide) rfl (fun ls hl => ?_)
        refine lv_goto (tgt := 267) hx hb d_M_tick_345 rfl ?_
        exact ih (f_M_send mu (nI j) 1 (mu 0 2) 0 (mu 4 (((3 * (mu 0 2)) + (nI j)).toNatClampNeg))) (j + 1) (by omega) (by omega) (smf_send hI (vp_in_nI hj8 (by decide)) (smf_now hI) z513 (smf_done hI _)) _ _ ls _ hP hS (lv_sub hl [2, 0] rfl) hf
      · have hf := hf.trans (if_neg h278)
        refine lv_aload_n hx hb d_M_tick_281 rfl (lv_at hl 0 rfl) ?_
        refine fm_get (C := R_M) (T := T_M) (n := 12) (ci := 6) hx hb hg uw_M hown hK hP (0) (by decide) (lm_M aC b _) rfl 2 (by decide) (hg _ fl_M_45) (fun _ h9 => h9) rfl d_M_tick_282 ?_
        refine lv_aload_n hx hb d_M_tick_285 rfl (lv_at hl 0 rfl) ?_
        refine fm_get (C := R_M) (T := T_M) (n := 12) (ci := 6) hx hb hg uw_M hown hK hP (0) (by decide) (lm_M aC b _) rfl 8 (by decide) (hg _ fl_M_32) (fun _ h9 => h9) rfl d_M_tick_286 ?_
        refine lv_iload_n hx hb d_M_tick_289 rfl (lv_at hl 1 rfl) ?_
        refine fm_iald hx hb hK hP (8) (by decide) 0 (lm_acked aC b _) rfl j rfl (by omega) (by decide) d_M_tick_290 ?_
        refine lv_isub hx hb d_M_tick_291 ?_
        refine lv_bipush (v := 6) hx hb d_M_tick_292 (by decide) ?_
        refine lv_icmp_gt (tgt := 301) hx hb d_M_tick_294 rfl (fun h294 => ?_) (fun h294 => ?_)
        · have hf := hf.trans (if_pos h294)
          refine lv_iconst (v := 0) hx hb d_M_tick_301 (by decide) ?_
          refine lv_istore (lv' := [(4, .int 0), (0, .ref (b + 0)), (3, .int (nI j))]) hx hb d_M_tick_302 hl (by decide) rfl (fun ls hl => ?_)
          refine lv_aload_n hx hb d_M_tick_304 rfl (lv_at hl 1 rfl) ?_
          refine lv_iload_n hx hb d_M_tick_305 rfl (lv_at hl 2 rfl) ?_
          refine lv_iconst (v := 1) hx hb d_M_tick_306 (by decide) ?_
          refine lv_aload_n hx hb d_M_tick_307 rfl (lv_at hl 1 rfl) ?_
          refine fm_get (C := R_M) (T := T_M) (n := 12) (ci := 6) hx hb hg uw_M hown hK hP (0) (by decide) (lm_M aC b _) rfl 2 (by decide) (hg _ fl_M_45) (fun _ h9 => h9) rfl d_M_tick_308 ?_
          refine lv_iload hx hb d_M_tick_311 (lv_at hl 0 rfl) ?_
          refine lv_if_eq (tgt := 325) hx hb d_M_tick_313 rfl (fun _ => ?_) (fun h => absurd h (by decide))
          refine lv_iconst (v := 0) hx hb d_M_tick_325 (by decide) ?_
          refine lv_aload_n hx hb d_M_tick_326 rfl (lv_at hl 1 rfl) ?_
          refine fm_get (C := R_M) (T := T_M) (n := 12) (ci := 6) hx hb hg uw_M hown hK hP (0) (by decide) (lm_M aC b _) rfl 4 (by decide) (hg _ fl_M_20) (fun _ h9 => h9) rfl d_M_tick_327 ?_
          refine lv_iconst (v := 3) hx hb d_M_tick_330 (by decide) ?_
          refine lv_aload_n hx hb d_M_tick_331 rfl (lv_at hl 1 rfl) ?_
          refine fm_get (C := R_M) (T := T_M) (n := 12) (ci := 6) hx hb hg uw_M hown hK hP (0) (by decide) (lm_M aC b _) rfl 2 (by decide) (hg _ fl_M_45) (fun _ h9 => h9) rfl d_M_tick_332 ?_
          refine lv_imul hx hb d_M_tick_335 ?_
          refine lv_iload_n hx hb d_M_tick_336 rfl (lv_at hl 2 rfl) ?_
          refine lv_iadd hx hb d_M_tick_337 ?_
          refine fm_iald hx hb hK hP (4) (by decide) 0 (lm_doneAt aC b _) rfl (((3 * (mu 0 2)) + (nI j)).toNatClampNeg) (vp_e (n := 1539) (lin_in (k := 3) rfl (smf_now hI) (vp_in_nI hj8 (by decide)) (by decide))) (vp_l (n := 1539) (lin_in (k := 3) rfl (smf_now hI) (vp_in_nI hj8 (by decide)) (by decide))) (by decide) d_M_tick_338 ?_
          refine fm_callv (va_runV (As := [.int (nI j), .int 1, .int (mu 0 2), .int 0, .int (mu 4 (((3 * (mu 0 2)) + (nI j)).toNatClampNeg))]) (rest := []) ⟨hx, hb, hml, hown, hts⟩ (c_M_send l dC dI aC b mu (nI j) 1 (mu 0 2) 0 (mu 4 (((3 * (mu 0 2)) + (nI j)).toNatClampNeg)) hI) (cw_V (fun w h => List.mem_cons_of_mem _ h) hts kv_M_send ml_M_63 ⟨Nat.le_of_ble_eq_true rfl, Nat.le_of_ble_eq_true rfl⟩ rfl rfl) (fm_preV XM_bl (XM_mv hX hS) hK hP (0) (by decide) (lm_M aC b _) rfl) rfl rfl hl.1 rfl (lv_room (Nat.le_of_ble_eq_true rfl)) d_M_tick_339 ⟨Nat.zero_le _, Nat.zero_le _⟩) hS (fun _ h => h) (fun u H locs hp hP hS => ?_)
          subst hp
          refine lv_iinc (k := 2) (v := (nI (j + 1))) (lv' := [(3, .int (nI (j + 1))), (4, .int 0), (0, .ref (b + 0))]) hx hb d_M_tick_342 hl rfl (nI_1 _) (by decide) rfl (fun ls hl => ?_)
          refine lv_goto (tgt := 267) hx hb d_M_tick_345 rfl ?_
          exact ih (f_M_send mu (nI j) 1 (mu 0 2) 0 (mu 4 (((3 * (mu 0 2)) + (nI j)).toNatClampNeg))) (j + 1) (by omega) (by omega) (smf_send hI (vp_in_nI hj8 (by decide)) (smf_now hI) z513 (smf_done hI _)) _ _ ls _ hP hS (lv_sub hl [2, 0] rfl) hf
        · have hf := hf.trans (if_neg h294)
          refine lv_iconst (v := 1) hx hb d_M_tick_297 (by decide) ?_
          refine lv_goto (tgt := 302) hx hb d_M_tick_298 rfl ?_
          refine lv_istore (lv' := [(4, .int 1), (0, .ref (b + 0)), (3, .int (nI j))]) hx hb d_M_tick_302 hl (by decide) rfl (fun ls hl => ?_)
          refine lv_aload_n hx hb d_M_tick_304 rfl (lv_at hl 1 rfl) ?_
          refine lv_iload_n hx hb d_M_tick_305 rfl (lv_at hl 2 rfl) ?_
          refine lv_iconst (v := 1) hx hb d_M_tick_306 (by decide) ?_
          refine lv_aload_n hx hb d_M_tick_307 rfl (lv_at hl 1 rfl) ?_
          refine fm_get (C := R_M) (T := T_M) (n := 12) (ci := 6) hx hb hg uw_M hown hK hP (0) (by decide) (lm_M aC b _) rfl 2 (by decide) (hg _ fl_M_45) (fun _ h9 => h9) rfl d_M_tick_308 ?_
          refine lv_iload hx hb d_M_tick_311 (lv_at hl 0 rfl) ?_
          refine lv_if_eq (tgt := 325) hx hb d_M_tick_313 rfl (fun h => absurd h (by decide)) (fun _ => ?_)
          refine lv_aload_n hx hb d_M_tick_316 rfl (lv_at hl 1 rfl) ?_
          refine fm_get (C := R_M) (T := T_M) (n := 12) (ci := 6) hx hb hg uw_M hown hK hP (0) (by decide) (lm_M aC b _) rfl 8 (by decide) (hg _ fl_M_32) (fun _ h9 => h9) rfl d_M_tick_317 ?_
          refine lv_iload_n hx hb d_M_tick_320 rfl (lv_at hl 2 rfl) ?_
          refine fm_iald hx hb hK hP (8) (by decide) 0 (lm_acked aC b _) rfl j rfl (by omega) (by decide) d_M_tick_321 ?_
          refine lv_goto (tgt := 326) hx hb d_M_tick_322 rfl ?_
          refine lv_aload_n hx hb d_M_tick_326 rfl (lv_at hl 1 rfl) ?_
          refine fm_get (C := R_M) (T := T_M) (n := 12) (ci := 6) hx hb hg uw_M hown hK hP (0) (by decide) (lm_M aC b _) rfl 4 (by decide) (hg _ fl_M_20) (fun _ h9 => h9) rfl d_M_tick_327 ?_
          refine lv_iconst (v := 3) hx hb d_M_tick_330 (by decide) ?_
          refine lv_aload_n hx hb d_M_tick_331 rfl (lv_at hl 1 rfl) ?_
          refine fm_get (C := R_M) (T := T_M) (n := 12) (ci := 6) hx hb hg uw_M hown hK hP (0) (by decide) (lm_M aC b _) rfl 2 (by decide) (hg _ fl_M_45) (fun _ h9 => h9) rfl d_M_tick_332 ?_
          refine lv_imul hx hb d_M_tick_335 ?_
          refine lv_iload_n hx hb d_M_tick_336 rfl (lv_at hl 2 rfl) ?_
          refine lv_iadd hx hb d_M_tick_337 ?_
          refine fm_iald hx hb hK hP (4) (by decide) 0 (lm_doneAt aC b _) rfl (((3 * (mu 0 2)) + (nI j)).toNatClampNeg) (vp_e (n := 1539) (lin_in (k := 3) rfl (smf_now hI) (vp_in_nI hj8 (by decide)) (by decide))) (vp_l (n := 1539) (lin_in (k := 3) rfl (smf_now hI) (vp_in_nI hj8 (by decide)) (by decide))) (by decide) d_M_tick_338 ?_
          refine fm_callv (va_runV (As := [.int (nI j), .int 1, .int (mu 0 2), .int (mu 8 j), .int (mu 4 (((3 * (mu 0 2)) + (nI j)).toNatClampNeg))]) (rest := []) ⟨hx, hb, hml, hown, hts⟩ (c_M_send l dC dI aC b mu (nI j) 1 (mu 0 2) (mu 8 j) (mu 4 (((3 * (mu 0 2)) + (nI j)).toNatClampNeg)) hI) (cw_V (fun w h => List.mem_cons_of_mem _ h) hts kv_M_send ml_M_63 ⟨Nat.le_of_ble_eq_true rfl, Nat.le_of_ble_eq_true rfl⟩ rfl rfl) (fm_preV XM_bl (XM_mv hX hS) hK hP (0) (by decide) (lm_M aC b _) rfl) rfl rfl hl.1 rfl (lv_room (Nat.le_of_ble_eq_true rfl)) d_M_tick_339 ⟨Nat.zero_le _, Nat.zero_le _⟩) hS (fun _ h => h) (fun u H locs hp hP hS => ?_)
          subst hp
          refine lv_iinc (k := 2) (v := (nI (j + 1))) (lv' := [(3, .int (nI (j + 1))), (4, .int 1), (0, .ref (b + 0))]) hx hb d_M_tick_342 hl rfl (nI_1 _) (by decide) rfl (fun ls hl => ?_)
          refine lv_goto (tgt := 267) hx hb d_M_tick_345 rfl ?_
          exact ih (f_M_send mu (nI j) 1 (mu 0 2) (mu 8 j) (mu 4 (((3 * (mu 0 2)) + (nI j)).toNatClampNeg))) (j + 1) (by omega) (by omega) (smf_send hI (vp_in_nI hj8 (by decide)) (smf_now hI) (smf_ack hI _) (smf_done hI _)) _ _ ls _ hP hS (lv_sub hl [2, 0] rfl) hf
def f_M_tick_183 : Nat → fm_T → Nat → Nat → Nat → Int32 × fm_T
  | 0, mu, _, _, _ => (0, mu)
  | n + 1, mu, wa, ia, j => (if 8 ≤ (nI j) then (f_M_tick_267 4 mu 0) else (if ((fm_up mu 3 (ia + j) (f_M_stepFrom mu (mu 3 (wa + j)) (mu 2 j))) 3 (ia + j)) = ((fm_up mu 3 (ia + j) (f_M_stepFrom mu (mu 3 (wa + j)) (mu 2 j))) 3 (wa + j)) then (f_M_tick_183 n (fm_up (fm_up mu 3 (ia + j) (f_M_stepFrom mu (mu 3 (wa + j)) (mu 2 j))) 2 j ((((fm_up mu 3 (ia + j) (f_M_stepFrom mu (mu 3 (wa + j)) (mu 2 j))) 2 j) + 2) - (((fm_up mu 3 (ia + j) (f_M_stepFrom mu (mu 3 (wa + j)) (mu 2 j))) 2 j) + 2) / 4 * 4)) wa ia (j + 1)) else (f_M_tick_183 n (fm_up (fm_up mu 3 (ia + j) (f_M_stepFrom mu (mu 3 (wa + j)) (mu 2 j))) 2 j ((fm_up mu 3 (ia + j) (f_M_stepFrom mu (mu 3 (wa + j)) (mu 2 j))) 2 j)) wa ia (j + 1))))
theorem e_M_tick_183 (n : Nat) (mu : fm_T) (wa : Nat) (ia : Nat) (j : Nat) : f_M_tick_183 (n + 1) mu wa ia j = (if 8 ≤ (nI j) then (f_M_tick_267 4 mu 0) else (if ((fm_up mu 3 (ia + j) (f_M_stepFrom mu (mu 3 (wa + j)) (mu 2 j))) 3 (ia + j)) = ((fm_up mu 3 (ia + j) (f_M_stepFrom mu (mu 3 (wa + j)) (mu 2 j))) 3 (wa + j)) then (f_M_tick_183 n (fm_up (fm_up mu 3 (ia + j) (f_M_stepFrom mu (mu 3 (wa + j)) (mu 2 j))) 2 j ((((fm_up mu 3 (ia + j) (f_M_stepFrom mu (mu 3 (wa + j)) (mu 2 j))) 2 j) + 2) - (((fm_up mu 3 (ia + j) (f_M_stepFrom mu (mu 3 (wa + j)) (mu 2 j))) 2 j) + 2) / 4 * 4)) wa ia (j + 1)) else (f_M_tick_183 n (fm_up (fm_up mu 3 (ia + j) (f_M_stepFrom mu (mu 3 (wa + j)) (mu 2 j))) 2 j ((fm_up mu 3 (ia + j) (f_M_stepFrom mu (mu 3 (wa + j)) (mu 2 j))) 2 j)) wa ia (j + 1)))) := rfl
set_option maxHeartbeats 4000000 in
set_option maxRecDepth 100000 in
theorem k_M_tick_183 (l : Launch) (dC : Nat → ClassId) (dI : Nat → Nat → Nat) (aC : Nat → ClassId) (b : Nat) {p : Program} {e : Env} {s : State} {m : MethodId} {args : Array Value} {below : List Frame} {meth : Method} {cd : Code} (hc : cx (dC, dI) (tysx aC) (XM) w_M_tick b_M_tick R_M 7 (some .int) p s m args meth cd) : ∀ (n : Nat) (mu : fm_T) (wa : Nat) (ia : Nat) (j : Nat) (hj : j ≤ 8) (hn : 8 < j + n) (hI : SafM mu) (hnow : ∃ t : Nat, mu 0 2 = nI (t + 1) ∧ t < 512 ∧ wa = 8 * t ∧ ia = 8 * t + 8) (H : Heap) (locs : List Loc) (ls : Array Slot) (F : Int32 × fm_T) (hP : va_P (dC, dI) clsx (fm_w (LM aC b) b 11 mu) H) (hS : va_S (fm_A b 11) s.heap H locs) (hl : lv_has ls 7 [(0, .ref (b + 0)), (1, .int (nI wa)), (2, .int (nI ia)), (3, .int (nI j))]) (hf : F = f_M_tick_183 n mu wa ia j), W p l e { frames := 2, cells := 0, slots := 0, locals := 45 } s m args below meth cd H locs 0 0 (MQ below (va_Qi (fun r u => r = F.1 ∧ u = F.2) (fm_B (dC, dI) clsx (tysx aC) (LM aC b) b 11) (fm_A b 11)) args s 0 0 (fm_A b 11)) (F0 m 183 ls []) := by
  obtain ⟨hx, hb, hr, hml, hown, hts, hlocks, hK, hX⟩ := hc
  have hg : ∀ w ∈ gtbl, w.before args s = true := fun w h => hts w (List.mem_cons_of_mem _ h)
  intro n
  induction n with
  | zero =>
    intro mu wa ia j hj hn hI hnow H locs ls F hP hS hl hf
    exfalso
    omega
  | succ n ih =>
    intro mu wa ia j hj hn hI hnow H locs ls F hP hS hl hf
    have hf := hf.trans (e_M_tick_183 n mu wa ia j)
    refine lv_iload_n hx hb d_M_tick_183 rfl (lv_at hl 3 rfl) ?_
    refine lv_bipush (v := 8) hx hb d_M_tick_184 (by decide) ?_
    refine lv_icmp_ge (tgt := 265) hx hb d_M_tick_186 rfl (fun h186 => ?_) (fun h186 => ?_)
    · have hf := hf.trans (if_pos h186)
      refine lv_iconst (v := 0) hx hb d_M_tick_265 (by decide) ?_
      refine lv_istore_n (lv' := [(3, .int 0), (0, .ref (b + 0)), (1, .int (nI wa)), (2, .int (nI ia))]) hx hb d_M_tick_266 rfl hl (by decide) rfl (fun ls hl => ?_)
      exact k_M_tick_267 l dC dI aC b ⟨hx, hb, hr, hml, hown, hts, hlocks, hK, hX⟩ 4 mu 0 (by decide) (by decide) hI _ _ ls _ hP hS (lv_sub hl [1, 0] rfl) hf
    · have hf := hf.trans (if_neg h186)
      have hj8 : j < 8 := lp_lt rfl hj (by decide) h186
      obtain ⟨t, ht, ht2, hw1, hw2⟩ := hnow
      refine lv_aload_n hx hb d_M_tick_189 rfl (lv_at hl 0 rfl) ?_
      refine fm_get (C := R_M) (T := T_M) (n := 12) (ci := 6) hx hb hg uw_M hown hK hP (0) (by decide) (lm_M aC b _) rfl 3 (by decide) (hg _ fl_M_17) (fun _ h9 => h9) rfl d_M_tick_190 ?_
      refine lv_iload_n hx hb d_M_tick_193 rfl (lv_at hl 2 rfl) ?_
      refine lv_iload_n hx hb d_M_tick_194 rfl (lv_at hl 3 rfl) ?_
      refine lv_iadd hx hb d_M_tick_195 ?_
      refine lv_cv (y := nI (ia + j)) (nI_add _ _) ?_
      refine lv_aload_n hx hb d_M_tick_196 rfl (lv_at hl 0 rfl) ?_
      refine lv_aload_n hx hb d_M_tick_197 rfl (lv_at hl 0 rfl) ?_
      refine fm_get (C := R_M) (T := T_M) (n := 12) (ci := 6) hx hb hg uw_M hown hK hP (0) (by decide) (lm_M aC b _) rfl 3 (by decide) (hg _ fl_M_17) (fun _ h9 => h9) rfl d_M_tick_198 ?_
      refine lv_iload_n hx hb d_M_tick_201 rfl (lv_at hl 1 rfl) ?_
      refine lv_iload_n hx hb d_M_tick_202 rfl (lv_at hl 3 rfl) ?_
      refine lv_iadd hx hb d_M_tick_203 ?_
      refine lv_cv (y := nI (wa + j)) (nI_add _ _) ?_
      refine fm_iald hx hb hK hP (3) (by decide) 0 (lm_stood aC b _) rfl (wa + j) rfl (by omega) (by decide) d_M_tick_204 ?_
      refine lv_aload_n hx hb d_M_tick_205 rfl (lv_at hl 0 rfl) ?_
      refine fm_get (C := R_M) (T := T_M) (n := 12) (ci := 6) hx hb hg uw_M hown hK hP (0) (by decide) (lm_M aC b _) rfl 1 (by decide) (hg _ fl_M_13) (fun _ h9 => h9) rfl d_M_tick_206 ?_
      refine lv_iload_n hx hb d_M_tick_209 rfl (lv_at hl 3 rfl) ?_
      refine fm_iald hx hb hK hP (2) (by decide) 0 (lm_direction aC b _) rfl j rfl (by omega) (by decide) d_M_tick_210 ?_
      refine ro_call (va_runV (As := [.int (mu 3 (wa + j)), .int (mu 2 j)]) (rest := [.int (nI (ia + j)), .ref (b + 3)]) ⟨hx, hb, hml, hown, hts⟩ (c_M_stepFrom l dC dI aC b mu (mu 3 (wa + j)) (mu 2 j)) (cw_V (fun w h => List.mem_cons_of_mem _ h) hts kv_M_stepFrom ml_M_67 ⟨Nat.le_of_ble_eq_true rfl, Nat.le_of_ble_eq_true rfl⟩ rfl rfl) (fm_preV XM_bl (XM_mv hX hS) hK hP (0) (by decide) (lm_M aC b _) rfl) rfl rfl hl.1 rfl (lv_room (Nat.le_of_ble_eq_true rfl)) d_M_tick_211 ⟨Nat.zero_le _, Nat.zero_le _⟩) ?_
      refine fm_iast hx hb hK (fun _ h => h) hP hS (3) (by decide) 0 (lm_stood aC b _) rfl (ia + j) rfl (by omega) (by decide) (lm_stood aC b _) d_M_tick_214 (fun H locs hP hS => ?_)
      refine lv_aload_n hx hb d_M_tick_215 rfl (lv_at hl 0 rfl) ?_
      refine fm_get (C := R_M) (T := T_M) (n := 12) (ci := 6) hx hb hg uw_M hown hK hP (0) (by decide) (lm_M aC b _) rfl 1 (by decide) (hg _ fl_M_13) (fun _ h9 => h9) rfl d_M_tick_216 ?_
      refine lv_iload_n hx hb d_M_tick_219 rfl (lv_at hl 3 rfl) ?_
      refine lv_aload_n hx hb d_M_tick_220 rfl (lv_at hl 0 rfl) ?_
      refine fm_get (C := R_M) (T := T_M) (n := 12) (ci := 6) hx hb hg uw_M hown hK hP (0) (by decide) (lm_M aC b _) rfl 3 (by decide) (hg _ fl_M_17) (fun _ h9 => h9) rfl d_M_tick_221 ?_
      refine lv_iload_n hx hb d_M_tick_224 rfl (lv_at hl 2 rfl) ?_
      refine lv_iload_n hx hb d_M_tick_225 rfl (lv_at hl 3 rfl) ?_
      refine lv_iadd hx hb d_M_tick_226 ?_
      refine lv_cv (y := nI (ia + j)) (nI_add _ _) ?_
      refine fm_iald hx hb hK hP (3) (by decide) 0 (lm_stood aC b _) rfl (ia + j) rfl (by omega) (by decide) d_M_tick_227 ?_
      refine lv_aload_n hx hb d_M_tick_228 rfl (lv_at hl 0 rfl) ?_
      refine fm_get (C := R_M) (T := T_M) (n := 12) (ci := 6) hx hb hg uw_M hown hK hP (0) (by decide) (lm_M aC b _) rfl 3 (by decide) (hg _ fl_M_17) (fun _ h9 => h9) rfl d_M_tick_229 ?_
      refine lv_iload_n hx hb d_M_tick_232 rfl (lv_at hl 1 rfl) ?_
      refine lv_iload_n hx hb d_M_tick_233 rfl (lv_at hl 3 rfl) ?_
      refine lv_iadd hx hb d_M_tick_234 ?_
      refine lv_cv (y := nI (wa + j)) (nI_add _ _) ?_
      refine fm_iald hx hb hK hP (3) (by decide) 0 (lm_stood aC b _) rfl (wa + j) rfl (by omega) (by decide) d_M_tick_235 ?_
      refine lv_icmp_ne (tgt := 252) hx hb d_M_tick_236 rfl (fun h236 => ?_) (fun h236 => ?_)
      · have hf := hf.trans (if_neg h236)
        refine lv_aload_n hx hb d_M_tick_252 rfl (lv_at hl 0 rfl) ?_
        refine fm_get (C := R_M) (T := T_M) (n := 12) (ci := 6) hx hb hg uw_M hown hK hP (0) (by decide) (lm_M aC b _) rfl 1 (by decide) (hg _ fl_M_13) (fun _ h9 => h9) rfl d_M_tick_253 ?_
        refine lv_iload_n hx hb d_M_tick_256 rfl (lv_at hl 3 rfl) ?_
        refine fm_iald hx hb hK hP (2) (by decide) 0 (lm_direction aC b _) rfl j rfl (by omega) (by decide) d_M_tick_257 ?_
        refine fm_iast hx hb hK (fun _ h => h) hP hS (2) (by decide) 0 (lm_direction aC b _) rfl j rfl (by omega) (by decide) (lm_direction aC b _) d_M_tick_258 (fun H locs hP hS => ?_)
        refine lv_iinc (k := 3) (v := (nI (j + 1))) (lv' := [(3, .int (nI (j + 1))), (0, .ref (b + 0)), (1, .int (nI wa)), (2, .int (nI ia))]) hx hb d_M_tick_259 hl rfl (nI_1 _) (by decide) rfl (fun ls hl => ?_)
        refine lv_goto (tgt := 183) hx hb d_M_tick_262 rfl ?_
        exact ih (fm_up (fm_up mu 3 (ia + j) (f_M_stepFrom mu (mu 3 (wa + j)) (mu 2 j))) 2 j ((fm_up mu 3 (ia + j) (f_M_stepFrom mu (mu 3 (wa + j)) (mu 2 j))) 2 j)) wa ia (j + 1) (by omega) (by omega) (smf_up (smf_up hI (om_3 _ _)) (om_2 _ _)) (⟨t, by rw [fm_up_cell (by decide), fm_up_cell (by decide)]; exact ht, ht2, hw1, hw2⟩) _ _ ls _ hP hS (lv_sub hl [1, 2, 3, 0] rfl) hf
      · have hf := hf.trans (if_pos h236)
        refine lv_aload_n hx hb d_M_tick_239 rfl (lv_at hl 0 rfl) ?_
        refine fm_get (C := R_M) (T := T_M) (n := 12) (ci := 6) hx hb hg uw_M hown hK hP (0) (by decide) (lm_M aC b _) rfl 1 (by decide) (hg _ fl_M_13) (fun _ h9 => h9) rfl d_M_tick_240 ?_
        refine lv_iload_n hx hb d_M_tick_243 rfl (lv_at hl 3 rfl) ?_
        refine fm_iald hx hb hK hP (2) (by decide) 0 (lm_direction aC b _) rfl j rfl (by omega) (by decide) d_M_tick_244 ?_
        refine lv_iconst (v := 2) hx hb d_M_tick_245 (by decide) ?_
        refine lv_iadd hx hb d_M_tick_246 ?_
        refine lv_iconst (v := 4) hx hb d_M_tick_247 (by decide) ?_
        refine lv_irem hx hb d_M_tick_248 (by decide) ?_
        refine lv_goto (tgt := 258) hx hb d_M_tick_249 rfl ?_
        refine fm_iast hx hb hK (fun _ h => h) hP hS (2) (by decide) 0 (lm_direction aC b _) rfl j rfl (by omega) (by decide) (lm_direction aC b _) d_M_tick_258 (fun H locs hP hS => ?_)
        refine lv_iinc (k := 3) (v := (nI (j + 1))) (lv' := [(3, .int (nI (j + 1))), (0, .ref (b + 0)), (1, .int (nI wa)), (2, .int (nI ia))]) hx hb d_M_tick_259 hl rfl (nI_1 _) (by decide) rfl (fun ls hl => ?_)
        refine lv_goto (tgt := 183) hx hb d_M_tick_262 rfl ?_
        exact ih (fm_up (fm_up mu 3 (ia + j) (f_M_stepFrom mu (mu 3 (wa + j)) (mu 2 j))) 2 j ((((fm_up mu 3 (ia + j) (f_M_stepFrom mu (mu 3 (wa + j)) (mu 2 j))) 2 j) + 2) - (((fm_up mu 3 (ia + j) (f_M_stepFrom mu (mu 3 (wa + j)) (mu 2 j))) 2 j) + 2) / 4 * 4)) wa ia (j + 1) (by omega) (by omega) (smf_up (smf_up hI (om_3 _ _)) (om_2 _ _)) (⟨t, by rw [fm_up_cell (by decide), fm_up_cell (by decide)]; exact ht, ht2, hw1, hw2⟩) _ _ ls _ hP hS (lv_sub hl [1, 2, 3, 0] rfl) hf
def f_M_tick_30 : Nat → fm_T → Nat → Nat → Nat → Int32 × fm_T
  | 0, mu, _, _, _ => (0, mu)
  | n + 1, mu, wa, ia, j => (if 3 ≤ (nI j) then (f_M_tick_183 6 mu wa ia 3) else (if (mu 7 j) ≤ (mu 4 (((3 * ((mu 0 2) - 1)) + (nI j)).toNatClampNeg)) then (f_M_tick_30 n (fm_up (fm_up mu 3 (ia + j) (mu 3 (wa + j))) 4 (((3 * ((fm_up mu 3 (ia + j) (mu 3 (wa + j))) 0 2)) + (nI j)).toNatClampNeg) (mu 4 (((3 * ((mu 0 2) - 1)) + (nI j)).toNatClampNeg))) wa ia (j + 1)) else (if (mu 6 ((((513 * (nI j)) + (mu 4 (((3 * ((mu 0 2) - 1)) + (nI j)).toNatClampNeg))) + 1).toNatClampNeg)) = 0 then (f_M_tick_30 n (fm_up (fm_up mu 3 (ia + j) (mu 3 (wa + j))) 4 (((3 * ((fm_up mu 3 (ia + j) (mu 3 (wa + j))) 0 2)) + (nI j)).toNatClampNeg) (mu 4 (((3 * ((mu 0 2) - 1)) + (nI j)).toNatClampNeg))) wa ia (j + 1)) else (f_M_tick_30 n (fm_up (fm_up (fm_up mu 3 (ia + j) (f_M_stepFrom mu (mu 3 (wa + j)) (mu 5 ((((513 * (nI j)) + (mu 4 (((3 * ((mu 0 2) - 1)) + (nI j)).toNatClampNeg))) + 1).toNatClampNeg)))) 4 (((3 * ((fm_up mu 3 (ia + j) (f_M_stepFrom mu (mu 3 (wa + j)) (mu 5 ((((513 * (nI j)) + (mu 4 (((3 * ((mu 0 2) - 1)) + (nI j)).toNatClampNeg))) + 1).toNatClampNeg)))) 0 2)) + (nI j)).toNatClampNeg) ((mu 4 (((3 * ((mu 0 2) - 1)) + (nI j)).toNatClampNeg)) + 1)) 6 ((((513 * (nI j)) + (mu 4 (((3 * ((mu 0 2) - 1)) + (nI j)).toNatClampNeg))) + 1).toNatClampNeg) 0) wa ia (j + 1)))))
theorem e_M_tick_30 (n : Nat) (mu : fm_T) (wa : Nat) (ia : Nat) (j : Nat) : f_M_tick_30 (n + 1) mu wa ia j = (if 3 ≤ (nI j) then (f_M_tick_183 6 mu wa ia 3) else (if (mu 7 j) ≤ (mu 4 (((3 * ((mu 0 2) - 1)) + (nI j)).toNatClampNeg)) then (f_M_tick_30 n (fm_up (fm_up mu 3 (ia + j) (mu 3 (wa + j))) 4 (((3 * ((fm_up mu 3 (ia + j) (mu 3 (wa + j))) 0 2)) + (nI j)).toNatClampNeg) (mu 4 (((3 * ((mu 0 2) - 1)) + (nI j)).toNatClampNeg))) wa ia (j + 1)) else (if (mu 6 ((((513 * (nI j)) + (mu 4 (((3 * ((mu 0 2) - 1)) + (nI j)).toNatClampNeg))) + 1).toNatClampNeg)) = 0 then (f_M_tick_30 n (fm_up (fm_up mu 3 (ia + j) (mu 3 (wa + j))) 4 (((3 * ((fm_up mu 3 (ia + j) (mu 3 (wa + j))) 0 2)) + (nI j)).toNatClampNeg) (mu 4 (((3 * ((mu 0 2) - 1)) + (nI j)).toNatClampNeg))) wa ia (j + 1)) else (f_M_tick_30 n (fm_up (fm_up (fm_up mu 3 (ia + j) (f_M_stepFrom mu (mu 3 (wa + j)) (mu 5 ((((513 * (nI j)) + (mu 4 (((3 * ((mu 0 2) - 1)) + (nI j)).toNatClampNeg))) + 1).toNatClampNeg)))) 4 (((3 * ((fm_up mu 3 (ia + j) (f_M_stepFrom mu (mu 3 (wa + j)) (mu 5 ((((513 * (nI j)) + (mu 4 (((3 * ((mu 0 2) - 1)) + (nI j)).toNatClampNeg))) + 1).toNatClampNeg)))) 0 2)) + (nI j)).toNatClampNeg) ((mu 4 (((3 * ((mu 0 2) - 1)) + (nI j)).toNatClampNeg)) + 1)) 6 ((((513 * (nI j)) + (mu 4 (((3 * ((mu 0 2) - 1)) + (nI j)).toNatClampNeg))) + 1).toNatClampNeg) 0) wa ia (j + 1))))) := rfl
set_option maxHeartbeats 4000000 in
set_option maxRecDepth 100000 in
theorem k_M_tick_30 (l : Launch) (dC : Nat → ClassId) (dI : Nat → Nat → Nat) (aC : Nat → ClassId) (b : Nat) {p : Program} {e : Env} {s : State} {m : MethodId} {args : Array Value} {below : List Frame} {meth : Method} {cd : Code} (hc : cx (dC, dI) (tysx aC) (XM) w_M_tick b_M_tick R_M 7 (some .int) p s m args meth cd) : ∀ (n : Nat) (mu : fm_T) (wa : Nat) (ia : Nat) (j : Nat) (hj : j ≤ 3) (hn : 3 < j + n) (hI : SafM mu) (hnow : ∃ t : Nat, mu 0 2 = nI (t + 1) ∧ t < 512 ∧ wa = 8 * t ∧ ia = 8 * t + 8) (H : Heap) (locs : List Loc) (ls : Array Slot) (F : Int32 × fm_T) (hP : va_P (dC, dI) clsx (fm_w (LM aC b) b 11 mu) H) (hS : va_S (fm_A b 11) s.heap H locs) (hl : lv_has ls 7 [(0, .ref (b + 0)), (1, .int (nI wa)), (2, .int (nI ia)), (3, .int (nI j))]) (hf : F = f_M_tick_30 n mu wa ia j), W p l e { frames := 2, cells := 0, slots := 0, locals := 45 } s m args below meth cd H locs 0 0 (MQ below (va_Qi (fun r u => r = F.1 ∧ u = F.2) (fm_B (dC, dI) clsx (tysx aC) (LM aC b) b 11) (fm_A b 11)) args s 0 0 (fm_A b 11)) (F0 m 30 ls []) := by
  obtain ⟨hx, hb, hr, hml, hown, hts, hlocks, hK, hX⟩ := hc
  have hg : ∀ w ∈ gtbl, w.before args s = true := fun w h => hts w (List.mem_cons_of_mem _ h)
  intro n
  induction n with
  | zero =>
    intro mu wa ia j hj hn hI hnow H locs ls F hP hS hl hf
    exfalso
    omega
  | succ n ih =>
    intro mu wa ia j hj hn hI hnow H locs ls F hP hS hl hf
    have hf := hf.trans (e_M_tick_30 n mu wa ia j)
    refine lv_iload_n hx hb d_M_tick_30 rfl (lv_at hl 3 rfl) ?_
    refine lv_iconst (v := 3) hx hb d_M_tick_31 (by decide) ?_
    refine lv_icmp_ge (tgt := 181) hx hb d_M_tick_32 rfl (fun h32 => ?_) (fun h32 => ?_)
    · have hf := hf.trans (if_pos h32)
      refine lv_iconst (v := 3) hx hb d_M_tick_181 (by decide) ?_
      refine lv_istore_n (lv' := [(3, .int 3), (0, .ref (b + 0)), (1, .int (nI wa)), (2, .int (nI ia))]) hx hb d_M_tick_182 rfl hl (by decide) rfl (fun ls hl => ?_)
      exact k_M_tick_183 l dC dI aC b ⟨hx, hb, hr, hml, hown, hts, hlocks, hK, hX⟩ 6 mu wa ia 3 (by decide) (by decide) hI hnow _ _ ls _ hP hS (lv_sub hl [1, 2, 3, 0] rfl) hf
    · have hf := hf.trans (if_neg h32)
      have hj8 : j < 3 := lp_lt rfl hj (by decide) h32
      obtain ⟨t, ht, ht2, hw1, hw2⟩ := hnow
      refine lv_aload_n hx hb d_M_tick_35 rfl (lv_at hl 0 rfl) ?_
      refine fm_get (C := R_M) (T := T_M) (n := 12) (ci := 6) hx hb hg uw_M hown hK hP (0) (by decide) (lm_M aC b _) rfl 4 (by decide) (hg _ fl_M_20) (fun _ h9 => h9) rfl d_M_tick_36 ?_
      refine lv_iconst (v := 3) hx hb d_M_tick_39 (by decide) ?_
      refine lv_aload_n hx hb d_M_tick_40 rfl (lv_at hl 0 rfl) ?_
      refine fm_get (C := R_M) (T := T_M) (n := 12) (ci := 6) hx hb hg uw_M hown hK hP (0) (by decide) (lm_M aC b _) rfl 2 (by decide) (hg _ fl_M_45) (fun _ h9 => h9) rfl d_M_tick_41 ?_
      refine lv_iconst (v := 1) hx hb d_M_tick_44 (by decide) ?_
      refine lv_isub hx hb d_M_tick_45 ?_
      refine lv_imul hx hb d_M_tick_46 ?_
      refine lv_iload_n hx hb d_M_tick_47 rfl (lv_at hl 3 rfl) ?_
      refine lv_iadd hx hb d_M_tick_48 ?_
      refine fm_iald hx hb hK hP (4) (by decide) 0 (lm_doneAt aC b _) rfl (((3 * ((mu 0 2) - 1)) + (nI j)).toNatClampNeg) (vp_e (n := 1539) (tk1_in ht ht2 hj8)) (vp_l (n := 1539) (tk1_in ht ht2 hj8)) (by decide) d_M_tick_49 ?_
      refine lv_istore (lv' := [(4, .int (mu 4 (((3 * ((mu 0 2) - 1)) + (nI j)).toNatClampNeg))), (0, .ref (b + 0)), (1, .int (nI wa)), (2, .int (nI ia)), (3, .int (nI j))]) hx hb d_M_tick_50 hl (by decide) rfl (fun ls hl => ?_)
      refine lv_sipush (v := 513) hx hb d_M_tick_52 (by decide) ?_
      refine lv_iload_n hx hb d_M_tick_55 rfl (lv_at hl 4 rfl) ?_
      refine lv_imul hx hb d_M_tick_56 ?_
      refine lv_iload hx hb d_M_tick_57 (lv_at hl 0 rfl) ?_
      refine lv_iadd hx hb d_M_tick_59 ?_
      refine lv_iconst (v := 1) hx hb d_M_tick_60 (by decide) ?_
      refine lv_iadd hx hb d_M_tick_61 ?_
      refine lv_istore (lv' := [(5, .int (((513 * (nI j)) + (mu 4 (((3 * ((mu 0 2) - 1)) + (nI j)).toNatClampNeg))) + 1)), (4, .int (mu 4 (((3 * ((mu 0 2) - 1)) + (nI j)).toNatClampNeg))), (0, .ref (b + 0)), (1, .int (nI wa)), (2, .int (nI ia)), (3, .int (nI j))]) hx hb d_M_tick_62 hl (by decide) rfl (fun ls hl => ?_)
      refine lv_iload hx hb d_M_tick_64 (lv_at hl 1 rfl) ?_
      refine lv_aload_n hx hb d_M_tick_66 rfl (lv_at hl 2 rfl) ?_
      refine fm_get (C := R_M) (T := T_M) (n := 12) (ci := 6) hx hb hg uw_M hown hK hP (0) (by decide) (lm_M aC b _) rfl 7 (by decide) (hg _ fl_M_29) (fun _ h9 => h9) rfl d_M_tick_67 ?_
      refine lv_iload_n hx hb d_M_tick_70 rfl (lv_at hl 5 rfl) ?_
      refine fm_iald hx hb hK hP (7) (by decide) 0 (lm_issued aC b _) rfl j rfl (by omega) (by decide) d_M_tick_71 ?_
      refine lv_icmp_ge (tgt := 89) hx hb d_M_tick_72 rfl (fun h72 => ?_) (fun h72 => ?_)
      · have hf := hf.trans (if_pos h72)
        refine lv_iconst (v := 0) hx hb d_M_tick_89 (by decide) ?_
        refine lv_istore (lv' := [(6, .int 0), (5, .int (((513 * (nI j)) + (mu 4 (((3 * ((mu 0 2) - 1)) + (nI j)).toNatClampNeg))) + 1)), (4, .int (mu 4 (((3 * ((mu 0 2) - 1)) + (nI j)).toNatClampNeg))), (0, .ref (b + 0)), (1, .int (nI wa)), (2, .int (nI ia)), (3, .int (nI j))]) hx hb d_M_tick_90 hl (by decide) rfl (fun ls hl => ?_)
        refine lv_aload_n hx hb d_M_tick_92 rfl (lv_at hl 3 rfl) ?_
        refine fm_get (C := R_M) (T := T_M) (n := 12) (ci := 6) hx hb hg uw_M hown hK hP (0) (by decide) (lm_M aC b _) rfl 3 (by decide) (hg _ fl_M_17) (fun _ h9 => h9) rfl d_M_tick_93 ?_
        refine lv_iload_n hx hb d_M_tick_96 rfl (lv_at hl 5 rfl) ?_
        refine lv_iload_n hx hb d_M_tick_97 rfl (lv_at hl 6 rfl) ?_
        refine lv_iadd hx hb d_M_tick_98 ?_
        refine lv_cv (y := nI (ia + j)) (nI_add _ _) ?_
        refine lv_iload hx hb d_M_tick_99 (lv_at hl 0 rfl) ?_
        refine lv_if_eq (tgt := 126) hx hb d_M_tick_101 rfl (fun _ => ?_) (fun h => absurd h (by decide))
        refine lv_aload_n hx hb d_M_tick_126 rfl (lv_at hl 3 rfl) ?_
        refine fm_get (C := R_M) (T := T_M) (n := 12) (ci := 6) hx hb hg uw_M hown hK hP (0) (by decide) (lm_M aC b _) rfl 3 (by decide) (hg _ fl_M_17) (fun _ h9 => h9) rfl d_M_tick_127 ?_
        refine lv_iload_n hx hb d_M_tick_130 rfl (lv_at hl 4 rfl) ?_
        refine lv_iload_n hx hb d_M_tick_131 rfl (lv_at hl 6 rfl) ?_
        refine lv_iadd hx hb d_M_tick_132 ?_
        refine lv_cv (y := nI (wa + j)) (nI_add _ _) ?_
        refine fm_iald hx hb hK hP (3) (by decide) 0 (lm_stood aC b _) rfl (wa + j) rfl (by omega) (by decide) d_M_tick_133 ?_
        refine fm_iast hx hb hK (fun _ h => h) hP hS (3) (by decide) 0 (lm_stood aC b _) rfl (ia + j) rfl (by omega) (by decide) (lm_stood aC b _) d_M_tick_134 (fun H locs hP hS => ?_)
        refine lv_aload_n hx hb d_M_tick_135 rfl (lv_at hl 3 rfl) ?_
        refine fm_get (C := R_M) (T := T_M) (n := 12) (ci := 6) hx hb hg uw_M hown hK hP (0) (by decide) (lm_M aC b _) rfl 4 (by decide) (hg _ fl_M_20) (fun _ h9 => h9) rfl d_M_tick_136 ?_
        refine lv_iconst (v := 3) hx hb d_M_tick_139 (by decide) ?_
        refine lv_aload_n hx hb d_M_tick_140 rfl (lv_at hl 3 rfl) ?_
        refine fm_get (C := R_M) (T := T_M) (n := 12) (ci := 6) hx hb hg uw_M hown hK hP (0) (by decide) (lm_M aC b _) rfl 2 (by decide) (hg _ fl_M_45) (fun _ h9 => h9) rfl d_M_tick_141 ?_
        refine lv_imul hx hb d_M_tick_144 ?_
        refine lv_iload_n hx hb d_M_tick_145 rfl (lv_at hl 6 rfl) ?_
        refine lv_iadd hx hb d_M_tick_146 ?_
        refine lv_iload hx hb d_M_tick_147 (lv_at hl 0 rfl) ?_
        refine lv_if_eq (tgt := 159) hx hb d_M_tick_149 rfl (fun _ => ?_) (fun h => absurd h (by decide))
        refine lv_iload hx hb d_M_tick_159 (lv_at hl 2 rfl) ?_
        refine fm_iast hx hb hK (fun _ h => h) hP hS (4) (by decide) 0 (lm_doneAt aC b _) rfl (((3 * ((fm_up mu 3 (ia + j) (mu 3 (wa + j))) 0 2)) + (nI j)).toNatClampNeg) (vp_e (n := 1539) (by rw [fm_up_cell (by decide)]; exact tk2_in ht ht2 hj8)) (vp_l (n := 1539) (by rw [fm_up_cell (by decide)]; exact tk2_in ht ht2 hj8)) (by decide) (lm_doneAt aC b _) d_M_tick_161 (fun H locs hP hS => ?_)
        refine lv_iload hx hb d_M_tick_162 (lv_at hl 0 rfl) ?_
        refine lv_if_eq (tgt := 175) hx hb d_M_tick_164 rfl (fun _ => ?_) (fun h => absurd h (by decide))
        refine lv_iinc (k := 6) (v := (nI (j + 1))) (lv' := [(3, .int (nI (j + 1))), (6, .int 0), (5, .int (((513 * (nI j)) + (mu 4 (((3 * ((mu 0 2) - 1)) + (nI j)).toNatClampNeg))) + 1)), (4, .int (mu 4 (((3 * ((mu 0 2) - 1)) + (nI j)).toNatClampNeg))), (0, .ref (b + 0)), (1, .int (nI wa)), (2, .int (nI ia))]) hx hb d_M_tick_175 hl rfl (nI_1 _) (by decide) rfl (fun ls hl => ?_)
        refine lv_goto (tgt := 30) hx hb d_M_tick_178 rfl ?_
        exact ih (fm_up (fm_up mu 3 (ia + j) (mu 3 (wa + j))) 4 (((3 * ((fm_up mu 3 (ia + j) (mu 3 (wa + j))) 0 2)) + (nI j)).toNatClampNeg) (mu 4 (((3 * ((mu 0 2) - 1)) + (nI j)).toNatClampNeg))) wa ia (j + 1) (by omega) (by omega) (smf_up (smf_up hI (om_3 _ _)) (om_4 (smf_done hI _))) (⟨t, by rw [fm_up_cell (by decide), fm_up_cell (by decide)]; exact ht, ht2, hw1, hw2⟩) _ _ ls _ hP hS (lv_sub hl [4, 5, 6, 0] rfl) hf
      · have hf := hf.trans (if_neg h72)
        refine lv_aload_n hx hb d_M_tick_75 rfl (lv_at hl 2 rfl) ?_
        refine fm_get (C := R_M) (T := T_M) (n := 12) (ci := 6) hx hb hg uw_M hown hK hP (0) (by decide) (lm_M aC b _) rfl 6 (by decide) (hg _ fl_M_26) (fun _ h9 => h9) rfl d_M_tick_76 ?_
        refine lv_iload hx hb d_M_tick_79 (lv_at hl 0 rfl) ?_
        refine fm_zald hx hb hK hP (6) (by decide) 1 (lm_held aC b _) rfl ((((513 * (nI j)) + (mu 4 (((3 * ((mu 0 2) - 1)) + (nI j)).toNatClampNeg))) + 1).toNatClampNeg) (vp_e (n := 1539) (kk_in (smf_done hI _) (smf_iss hI _) h72 hj8)) (vp_l (n := 1539) (kk_in (smf_done hI _) (smf_iss hI _) h72 hj8)) (by decide) d_M_tick_81 ?_
        refine lv_if_eq (tgt := 89) hx hb d_M_tick_82 rfl (fun h82 => ?_) (fun h82 => ?_)
        · have hf := hf.trans (if_pos h82)
          refine lv_iconst (v := 0) hx hb d_M_tick_89 (by decide) ?_
          refine lv_istore (lv' := [(6, .int 0), (5, .int (((513 * (nI j)) + (mu 4 (((3 * ((mu 0 2) - 1)) + (nI j)).toNatClampNeg))) + 1)), (4, .int (mu 4 (((3 * ((mu 0 2) - 1)) + (nI j)).toNatClampNeg))), (0, .ref (b + 0)), (1, .int (nI wa)), (2, .int (nI ia)), (3, .int (nI j))]) hx hb d_M_tick_90 hl (by decide) rfl (fun ls hl => ?_)
          refine lv_aload_n hx hb d_M_tick_92 rfl (lv_at hl 3 rfl) ?_
          refine fm_get (C := R_M) (T := T_M) (n := 12) (ci := 6) hx hb hg uw_M hown hK hP (0) (by decide) (lm_M aC b _) rfl 3 (by decide) (hg _ fl_M_17) (fun _ h9 => h9) rfl d_M_tick_93 ?_
          refine lv_iload_n hx hb d_M_tick_96 rfl (lv_at hl 5 rfl) ?_
          refine lv_iload_n hx hb d_M_tick_97 rfl (lv_at hl 6 rfl) ?_
          refine lv_iadd hx hb d_M_tick_98 ?_
          refine lv_cv (y := nI (ia + j)) (nI_add _ _) ?_
          refine lv_iload hx hb d_M_tick_99 (lv_at hl 0 rfl) ?_
          refine lv_if_eq (tgt := 126) hx hb d_M_tick_101 rfl (fun _ => ?_) (fun h => absurd h (by decide))
          refine lv_aload_n hx hb d_M_tick_126 rfl (lv_at hl 3 rfl) ?_
          refine fm_get (C := R_M) (T := T_M) (n := 12) (ci := 6) hx hb hg uw_M hown hK hP (0) (by decide) (lm_M aC b _) rfl 3 (by decide) (hg _ fl_M_17) (fun _ h9 => h9) rfl d_M_tick_127 ?_
          refine lv_iload_n hx hb d_M_tick_130 rfl (lv_at hl 4 rfl) ?_
          refine lv_iload_n hx hb d_M_tick_131 rfl (lv_at hl 6 rfl) ?_
          refine lv_iadd hx hb d_M_tick_132 ?_
          refine lv_cv (y := nI (wa + j)) (nI_add _ _) ?_
          refine fm_iald hx hb hK hP (3) (by decide) 0 (lm_stood aC b _) rfl (wa + j) rfl (by omega) (by decide) d_M_tick_133 ?_
          refine fm_iast hx hb hK (fun _ h => h) hP hS (3) (by decide) 0 (lm_stood aC b _) rfl (ia + j) rfl (by omega) (by decide) (lm_stood aC b _) d_M_tick_134 (fun H locs hP hS => ?_)
          refine lv_aload_n hx hb d_M_tick_135 rfl (lv_at hl 3 rfl) ?_
          refine fm_get (C := R_M) (T := T_M) (n := 12) (ci := 6) hx hb hg uw_M hown hK hP (0) (by decide) (lm_M aC b _) rfl 4 (by decide) (hg _ fl_M_20) (fun _ h9 => h9) rfl d_M_tick_136 ?_
          refine lv_iconst (v := 3) hx hb d_M_tick_139 (by decide) ?_
          refine lv_aload_n hx hb d_M_tick_140 rfl (lv_at hl 3 rfl) ?_
          refine fm_get (C := R_M) (T := T_M) (n := 12) (ci := 6) hx hb hg uw_M hown hK hP (0) (by decide) (lm_M aC b _) rfl 2 (by decide) (hg _ fl_M_45) (fun _ h9 => h9) rfl d_M_tick_141 ?_
          refine lv_imul hx hb d_M_tick_144 ?_
          refine lv_iload_n hx hb d_M_tick_145 rfl (lv_at hl 6 rfl) ?_
          refine lv_iadd hx hb d_M_tick_146 ?_
          refine lv_iload hx hb d_M_tick_147 (lv_at hl 0 rfl) ?_
          refine lv_if_eq (tgt := 159) hx hb d_M_tick_149 rfl (fun _ => ?_) (fun h => absurd h (by decide))
          refine lv_iload hx hb d_M_tick_159 (lv_at hl 2 rfl) ?_
          refine fm_iast hx hb hK (fun _ h => h) hP hS (4) (by decide) 0 (lm_doneAt aC b _) rfl (((3 * ((fm_up mu 3 (ia + j) (mu 3 (wa + j))) 0 2)) + (nI j)).toNatClampNeg) (vp_e (n := 1539) (by rw [fm_up_cell (by decide)]; exact tk2_in ht ht2 hj8)) (vp_l (n := 1539) (by rw [fm_up_cell (by decide)]; exact tk2_in ht ht2 hj8)) (by decide) (lm_doneAt aC b _) d_M_tick_161 (fun H locs hP hS => ?_)
          refine lv_iload hx hb d_M_tick_162 (lv_at hl 0 rfl) ?_
          refine lv_if_eq (tgt := 175) hx hb d_M_tick_164 rfl (fun _ => ?_) (fun h => absurd h (by decide))
          refine lv_iinc (k := 6) (v := (nI (j + 1))) (lv' := [(3, .int (nI (j + 1))), (6, .int 0), (5, .int (((513 * (nI j)) + (mu 4 (((3 * ((mu 0 2) - 1)) + (nI j)).toNatClampNeg))) + 1)), (4, .int (mu 4 (((3 * ((mu 0 2) - 1)) + (nI j)).toNatClampNeg))), (0, .ref (b + 0)), (1, .int (nI wa)), (2, .int (nI ia))]) hx hb d_M_tick_175 hl rfl (nI_1 _) (by decide) rfl (fun ls hl => ?_)
          refine lv_goto (tgt := 30) hx hb d_M_tick_178 rfl ?_
          exact ih (fm_up (fm_up mu 3 (ia + j) (mu 3 (wa + j))) 4 (((3 * ((fm_up mu 3 (ia + j) (mu 3 (wa + j))) 0 2)) + (nI j)).toNatClampNeg) (mu 4 (((3 * ((mu 0 2) - 1)) + (nI j)).toNatClampNeg))) wa ia (j + 1) (by omega) (by omega) (smf_up (smf_up hI (om_3 _ _)) (om_4 (smf_done hI _))) (⟨t, by rw [fm_up_cell (by decide), fm_up_cell (by decide)]; exact ht, ht2, hw1, hw2⟩) _ _ ls _ hP hS (lv_sub hl [4, 5, 6, 0] rfl) hf
        · have hf := hf.trans (if_neg h82)
          refine lv_iconst (v := 1) hx hb d_M_tick_85 (by decide) ?_
          refine lv_goto (tgt := 90) hx hb d_M_tick_86 rfl ?_
          refine lv_istore (lv' := [(6, .int 1), (5, .int (((513 * (nI j)) + (mu 4 (((3 * ((mu 0 2) - 1)) + (nI j)).toNatClampNeg))) + 1)), (4, .int (mu 4 (((3 * ((mu 0 2) - 1)) + (nI j)).toNatClampNeg))), (0, .ref (b + 0)), (1, .int (nI wa)), (2, .int (nI ia)), (3, .int (nI j))]) hx hb d_M_tick_90 hl (by decide) rfl (fun ls hl => ?_)
          refine lv_aload_n hx hb d_M_tick_92 rfl (lv_at hl 3 rfl) ?_
          refine fm_get (C := R_M) (T := T_M) (n := 12) (ci := 6) hx hb hg uw_M hown hK hP (0) (by decide) (lm_M aC b _) rfl 3 (by decide) (hg _ fl_M_17) (fun _ h9 => h9) rfl d_M_tick_93 ?_
          refine lv_iload_n hx hb d_M_tick_96 rfl (lv_at hl 5 rfl) ?_
          refine lv_iload_n hx hb d_M_tick_97 rfl (lv_at hl 6 rfl) ?_
          refine lv_iadd hx hb d_M_tick_98 ?_
          refine lv_cv (y := nI (ia + j)) (nI_add _ _) ?_
          refine lv_iload hx hb d_M_tick_99 (lv_at hl 0 rfl) ?_
          refine lv_if_eq (tgt := 126) hx hb d_M_tick_101 rfl (fun h => absurd h (by decide)) (fun _ => ?_)
          refine lv_aload_n hx hb d_M_tick_104 rfl (lv_at hl 3 rfl) ?_
          refine lv_aload_n hx hb d_M_tick_105 rfl (lv_at hl 3 rfl) ?_
          refine fm_get (C := R_M) (T := T_M) (n := 12) (ci := 6) hx hb hg uw_M hown hK hP (0) (by decide) (lm_M aC b _) rfl 3 (by decide) (hg _ fl_M_17) (fun _ h9 => h9) rfl d_M_tick_106 ?_
          refine lv_iload_n hx hb d_M_tick_109 rfl (lv_at hl 4 rfl) ?_
          refine lv_iload_n hx hb d_M_tick_110 rfl (lv_at hl 6 rfl) ?_
          refine lv_iadd hx hb d_M_tick_111 ?_
          refine lv_cv (y := nI (wa + j)) (nI_add _ _) ?_
          refine fm_iald hx hb hK hP (3) (by decide) 0 (lm_stood aC b _) rfl (wa + j) rfl (by omega) (by decide) d_M_tick_112 ?_
          refine lv_aload_n hx hb d_M_tick_113 rfl (lv_at hl 3 rfl) ?_
          refine fm_get (C := R_M) (T := T_M) (n := 12) (ci := 6) hx hb hg uw_M hown hK hP (0) (by decide) (lm_M aC b _) rfl 5 (by decide) (hg _ fl_M_23) (fun _ h9 => h9) rfl d_M_tick_114 ?_
          refine lv_iload hx hb d_M_tick_117 (lv_at hl 1 rfl) ?_
          refine fm_iald hx hb hK hP (5) (by decide) 0 (lm_commands aC b _) rfl ((((513 * (nI j)) + (mu 4 (((3 * ((mu 0 2) - 1)) + (nI j)).toNatClampNeg))) + 1).toNatClampNeg) (vp_e (n := 1539) (kk_in (smf_done hI _) (smf_iss hI _) h72 hj8)) (vp_l (n := 1539) (kk_in (smf_done hI _) (smf_iss hI _) h72 hj8)) (by decide) d_M_tick_119 ?_
          refine ro_call (va_runV (As := [.int (mu 3 (wa + j)), .int (mu 5 ((((513 * (nI j)) + (mu 4 (((3 * ((mu 0 2) - 1)) + (nI j)).toNatClampNeg))) + 1).toNatClampNeg))]) (rest := [.int (nI (ia + j)), .ref (b + 3)]) ⟨hx, hb, hml, hown, hts⟩ (c_M_stepFrom l dC dI aC b mu (mu 3 (wa + j)) (mu 5 ((((513 * (nI j)) + (mu 4 (((3 * ((mu 0 2) - 1)) + (nI j)).toNatClampNeg))) + 1).toNatClampNeg))) (cw_V (fun w h => List.mem_cons_of_mem _ h) hts kv_M_stepFrom ml_M_67 ⟨Nat.le_of_ble_eq_true rfl, Nat.le_of_ble_eq_true rfl⟩ rfl rfl) (fm_preV XM_bl (XM_mv hX hS) hK hP (0) (by decide) (lm_M aC b _) rfl) rfl rfl hl.1 rfl (lv_room (Nat.le_of_ble_eq_true rfl)) d_M_tick_120 ⟨Nat.zero_le _, Nat.zero_le _⟩) ?_
          refine lv_goto (tgt := 134) hx hb d_M_tick_123 rfl ?_
          refine fm_iast hx hb hK (fun _ h => h) hP hS (3) (by decide) 0 (lm_stood aC b _) rfl (ia + j) rfl (by omega) (by decide) (lm_stood aC b _) d_M_tick_134 (fun H locs hP hS => ?_)
          refine lv_aload_n hx hb d_M_tick_135 rfl (lv_at hl 3 rfl) ?_
          refine fm_get (C := R_M) (T := T_M) (n := 12) (ci := 6) hx hb hg uw_M hown hK hP (0) (by decide) (lm_M aC b _) rfl 4 (by decide) (hg _ fl_M_20) (fun _ h9 => h9) rfl d_M_tick_136 ?_
          refine lv_iconst (v := 3) hx hb d_M_tick_139 (by decide) ?_
          refine lv_aload_n hx hb d_M_tick_140 rfl (lv_at hl 3 rfl) ?_
          refine fm_get (C := R_M) (T := T_M) (n := 12) (ci := 6) hx hb hg uw_M hown hK hP (0) (by decide) (lm_M aC b _) rfl 2 (by decide) (hg _ fl_M_45) (fun _ h9 => h9) rfl d_M_tick_141 ?_
          refine lv_imul hx hb d_M_tick_144 ?_
          refine lv_iload_n hx hb d_M_tick_145 rfl (lv_at hl 6 rfl) ?_
          refine lv_iadd hx hb d_M_tick_146 ?_
          refine lv_iload hx hb d_M_tick_147 (lv_at hl 0 rfl) ?_
          refine lv_if_eq (tgt := 159) hx hb d_M_tick_149 rfl (fun h => absurd h (by decide)) (fun _ => ?_)
          refine lv_iload hx hb d_M_tick_152 (lv_at hl 2 rfl) ?_
          refine lv_iconst (v := 1) hx hb d_M_tick_154 (by decide) ?_
          refine lv_iadd hx hb d_M_tick_155 ?_
          refine lv_goto (tgt := 161) hx hb d_M_tick_156 rfl ?_
          refine fm_iast hx hb hK (fun _ h => h) hP hS (4) (by decide) 0 (lm_doneAt aC b _) rfl (((3 * ((fm_up mu 3 (ia + j) (f_M_stepFrom mu (mu 3 (wa + j)) (mu 5 ((((513 * (nI j)) + (mu 4 (((3 * ((mu 0 2) - 1)) + (nI j)).toNatClampNeg))) + 1).toNatClampNeg)))) 0 2)) + (nI j)).toNatClampNeg) (vp_e (n := 1539) (by rw [fm_up_cell (by decide)]; exact tk2_in ht ht2 hj8)) (vp_l (n := 1539) (by rw [fm_up_cell (by decide)]; exact tk2_in ht ht2 hj8)) (by decide) (lm_doneAt aC b _) d_M_tick_161 (fun H locs hP hS => ?_)
          refine lv_iload hx hb d_M_tick_162 (lv_at hl 0 rfl) ?_
          refine lv_if_eq (tgt := 175) hx hb d_M_tick_164 rfl (fun h => absurd h (by decide)) (fun _ => ?_)
          refine lv_aload_n hx hb d_M_tick_167 rfl (lv_at hl 3 rfl) ?_
          refine fm_get (C := R_M) (T := T_M) (n := 12) (ci := 6) hx hb hg uw_M hown hK hP (0) (by decide) (lm_M aC b _) rfl 6 (by decide) (hg _ fl_M_26) (fun _ h9 => h9) rfl d_M_tick_168 ?_
          refine lv_iload hx hb d_M_tick_171 (lv_at hl 1 rfl) ?_
          refine lv_iconst (v := 0) hx hb d_M_tick_173 (by decide) ?_
          refine fm_zast hx hb hK (fun _ h => h) hP hS (6) (by decide) 1 (lm_held aC b _) rfl ((((513 * (nI j)) + (mu 4 (((3 * ((mu 0 2) - 1)) + (nI j)).toNatClampNeg))) + 1).toNatClampNeg) (vp_e (n := 1539) (kk_in (smf_done hI _) (smf_iss hI _) h72 hj8)) (vp_l (n := 1539) (kk_in (smf_done hI _) (smf_iss hI _) h72 hj8)) (by decide) rfl (lm_held aC b _) d_M_tick_174 (fun H locs hP hS => ?_)
          refine lv_iinc (k := 6) (v := (nI (j + 1))) (lv' := [(3, .int (nI (j + 1))), (6, .int 1), (5, .int (((513 * (nI j)) + (mu 4 (((3 * ((mu 0 2) - 1)) + (nI j)).toNatClampNeg))) + 1)), (4, .int (mu 4 (((3 * ((mu 0 2) - 1)) + (nI j)).toNatClampNeg))), (0, .ref (b + 0)), (1, .int (nI wa)), (2, .int (nI ia))]) hx hb d_M_tick_175 hl rfl (nI_1 _) (by decide) rfl (fun ls hl => ?_)
          refine lv_goto (tgt := 30) hx hb d_M_tick_178 rfl ?_
          exact ih (fm_up (fm_up (fm_up mu 3 (ia + j) (f_M_stepFrom mu (mu 3 (wa + j)) (mu 5 ((((513 * (nI j)) + (mu 4 (((3 * ((mu 0 2) - 1)) + (nI j)).toNatClampNeg))) + 1).toNatClampNeg)))) 4 (((3 * ((fm_up mu 3 (ia + j) (f_M_stepFrom mu (mu 3 (wa + j)) (mu 5 ((((513 * (nI j)) + (mu 4 (((3 * ((mu 0 2) - 1)) + (nI j)).toNatClampNeg))) + 1).toNatClampNeg)))) 0 2)) + (nI j)).toNatClampNeg) ((mu 4 (((3 * ((mu 0 2) - 1)) + (nI j)).toNatClampNeg)) + 1)) 6 ((((513 * (nI j)) + (mu 4 (((3 * ((mu 0 2) - 1)) + (nI j)).toNatClampNeg))) + 1).toNatClampNeg) 0) wa ia (j + 1) (by omega) (by omega) (smf_up (smf_up (smf_up hI (om_3 _ _)) (om_4 (done_1 (smf_done hI _) (smf_iss hI _) h72))) (om_6 _ _)) (⟨t, by rw [fm_up_cell (by decide), fm_up_cell (by decide), fm_up_cell (by decide)]; exact ht, ht2, hw1, hw2⟩) _ _ ls _ hP hS (lv_sub hl [4, 5, 6, 0] rfl) hf
def f_M_tick (mu : fm_T) : Int32 × fm_T := (f_M_tick_30 4 (fm_up mu 0 2 ((mu 0 2) + 1)) (8 * (mu 0 2).toNatClampNeg) (8 * (mu 0 2).toNatClampNeg + 8) 0)
theorem e_M_tick (mu : fm_T) : f_M_tick mu = (f_M_tick_30 4 (fm_up mu 0 2 ((mu 0 2) + 1)) (8 * (mu 0 2).toNatClampNeg) (8 * (mu 0 2).toNatClampNeg + 8) 0) := rfl
set_option maxHeartbeats 4000000 in
set_option maxRecDepth 100000 in
theorem k_M_tick (l : Launch) (dC : Nat → ClassId) (dI : Nat → Nat → Nat) (aC : Nat → ClassId) (b : Nat) {p : Program} {e : Env} {s : State} {m : MethodId} {args : Array Value} {below : List Frame} {meth : Method} {cd : Code} (hc : cx (dC, dI) (tysx aC) (XM) w_M_tick b_M_tick R_M 7 (some .int) p s m args meth cd) (mu : fm_T)  (hI : SafM mu) (hnow : vp_in (mu 0 2) 512) (H : Heap) (locs : List Loc) (ls : Array Slot) (F : Int32 × fm_T) (hP : va_P (dC, dI) clsx (fm_w (LM aC b) b 11 mu) H) (hS : va_S (fm_A b 11) s.heap H locs) (hl : lv_has ls 7 [(0, .ref (b + 0))]) (hf : F = f_M_tick mu) : W p l e { frames := 2, cells := 0, slots := 0, locals := 45 } s m args below meth cd H locs 0 0 (MQ below (va_Qi (fun r u => r = F.1 ∧ u = F.2) (fm_B (dC, dI) clsx (tysx aC) (LM aC b) b 11) (fm_A b 11)) args s 0 0 (fm_A b 11)) (F0 m 0 ls []) := by
  obtain ⟨hx, hb, hr, hml, hown, hts, hlocks, hK, hX⟩ := hc
  have hg : ∀ w ∈ gtbl, w.before args s = true := fun w h => hts w (List.mem_cons_of_mem _ h)
  have hf := hf.trans (e_M_tick mu)
  refine lv_aload_n hx hb d_M_tick_0 rfl (lv_at hl 0 rfl) ?_
  refine lv_dup hx hb d_M_tick_1 rfl ?_
  refine fm_get (C := R_M) (T := T_M) (n := 12) (ci := 6) hx hb hg uw_M hown hK hP (0) (by decide) (lm_M aC b _) rfl 2 (by decide) (hg _ fl_M_45) (fun _ h9 => h9) rfl d_M_tick_2 ?_
  refine lv_iconst (v := 1) hx hb d_M_tick_5 (by decide) ?_
  refine lv_iadd hx hb d_M_tick_6 ?_
  refine fm_put (v := .int ((mu 0 2) + 1)) (x := ((mu 0 2) + 1)) (ty := .int) (C := R_M) (T := T_M) (n := 12) (ci := 6) hx hb hg uw_M ty_M tk_M nm_M hown hK (fun _ h => h) hP hS (0) (by decide) (lm_M aC b _) rfl 2 (by decide) (hg _ fl_M_45) (fun _ h9 => h9) rfl (by decide +kernel) rfl rfl (Nat.le_of_ble_eq_true rfl) (lm_M aC b _) d_M_tick_7 (fun H locs hP hS => ?_)
  refine lv_bipush (v := 8) hx hb d_M_tick_10 (by decide) ?_
  refine lv_aload_n hx hb d_M_tick_12 rfl (lv_at hl 0 rfl) ?_
  refine fm_get (C := R_M) (T := T_M) (n := 12) (ci := 6) hx hb hg uw_M hown hK hP (0) (by decide) (lm_M aC b _) rfl 2 (by decide) (hg _ fl_M_45) (fun _ h9 => h9) rfl d_M_tick_13 ?_
  refine lv_iconst (v := 1) hx hb d_M_tick_16 (by decide) ?_
  refine lv_isub hx hb d_M_tick_17 ?_
  refine lv_imul hx hb d_M_tick_18 ?_
  refine lv_cv (y := nI (8 * (mu 0 2).toNatClampNeg)) (by rw [fm_up_same]; exact was_e hnow) ?_
  refine lv_istore_n (lv' := [(1, .int (nI (8 * (mu 0 2).toNatClampNeg))), (0, .ref (b + 0))]) hx hb d_M_tick_19 rfl hl (by decide) rfl (fun ls hl => ?_)
  refine lv_bipush (v := 8) hx hb d_M_tick_20 (by decide) ?_
  refine lv_aload_n hx hb d_M_tick_22 rfl (lv_at hl 1 rfl) ?_
  refine fm_get (C := R_M) (T := T_M) (n := 12) (ci := 6) hx hb hg uw_M hown hK hP (0) (by decide) (lm_M aC b _) rfl 2 (by decide) (hg _ fl_M_45) (fun _ h9 => h9) rfl d_M_tick_23 ?_
  refine lv_imul hx hb d_M_tick_26 ?_
  refine lv_cv (y := nI (8 * (mu 0 2).toNatClampNeg + 8)) (by rw [fm_up_same]; exact is_e hnow) ?_
  refine lv_istore_n (lv' := [(2, .int (nI (8 * (mu 0 2).toNatClampNeg + 8))), (1, .int (nI (8 * (mu 0 2).toNatClampNeg))), (0, .ref (b + 0))]) hx hb d_M_tick_27 rfl hl (by decide) rfl (fun ls hl => ?_)
  refine lv_iconst (v := 0) hx hb d_M_tick_28 (by decide) ?_
  refine lv_istore_n (lv' := [(3, .int 0), (2, .int (nI (8 * (mu 0 2).toNatClampNeg + 8))), (1, .int (nI (8 * (mu 0 2).toNatClampNeg))), (0, .ref (b + 0))]) hx hb d_M_tick_29 rfl hl (by decide) rfl (fun ls hl => ?_)
  exact k_M_tick_30 l dC dI aC b ⟨hx, hb, hr, hml, hown, hts, hlocks, hK, hX⟩ 4 (fm_up mu 0 2 ((mu 0 2) + 1)) (8 * (mu 0 2).toNatClampNeg) (8 * (mu 0 2).toNatClampNeg + 8) 0 (by decide) (by decide) (smf_up hI (om_now (now_1 hnow))) (by rw [fm_up_same]; exact now_ex hnow) _ _ ls _ hP hS (lv_sub hl [3, 2, 1, 0] rfl) hf
set_option maxHeartbeats 4000000 in
set_option maxRecDepth 100000 in
theorem c_M_tick (l : Launch) (dC : Nat → ClassId) (dI : Nat → Nat → Nat) (aC : Nat → ClassId) (b : Nat) (mu : fm_T)  (hI : SafM mu) (hnow : vp_in (mu 0 2) 512) : Met l y_M_tick w_M_tick { frames := 2, cells := 0, slots := 0, locals := 45 } (va_Pc [.ref (b + 0)] (fm_C (dC, dI) clsx (tysx aC) (LM aC b) b 11 (XM) mu)) (va_Qi (fun r u => r = (f_M_tick mu).1 ∧ u = (f_M_tick mu).2) (fm_B (dC, dI) clsx (tysx aC) (LM aC b) b 11) (fm_A b 11)) 0 0 (fm_A b 11) := by
  refine Met.ofW (cc := b_M_tick) (maxL := 7) (ret := (some .int)) (by decide) rfl ?_
  intro p e s m args below meth cd s₁ B hml hv
  obtain ⟨rfl, hP, hK, hX⟩ := hv
  have hl := lv_entry ([.ref (b + 0)]) (n := 7) (Nat.le_of_ble_eq_true rfl)
  rw [lg_entry_eq]
  generalize (lg_sl ([.ref (b + 0)]) ++ List.replicate (7 - (lg_sl ([.ref (b + 0)])).length) Slot.unset).toArray = ls at hl ⊢
  exact k_M_tick l dC dI aC b ⟨B.exec, B.bytes, B.returns, hml, findClass_of_methodNamed B.named, atoms_spec (ws := w_M_tick) B.pre, B.notSynchronized, hK, hX⟩ mu hI hnow _ _ ls _ hP va_S.rf hl rfl
