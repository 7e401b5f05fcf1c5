/-! printed by wip/whole/gen: M_deliver M_lose M_copy M_packet M_predicted M_count -/
def f_M_deliver_184 : Nat → fm_T → Int32 → Int32 → Int32 → Int32 → Nat → Int32 × fm_T
  | 0, mu, _, _, _, _, _ => (0, mu)
  | n + 1, mu, cq, mo, to, dn, j => (if (to + mo) < (nI j) then (1, mu) else (if (mu 6 (513 * cq.toNatClampNeg + j)) = 0 then (if (nI j) ≤ dn then (f_M_deliver_184 n (fm_up mu 6 (513 * cq.toNatClampNeg + j) 0) cq mo to dn (j + 1)) else (f_M_deliver_184 n (fm_up mu 6 (513 * cq.toNatClampNeg + j) 1) cq mo to dn (j + 1))) else (f_M_deliver_184 n (fm_up mu 6 (513 * cq.toNatClampNeg + j) 1) cq mo to dn (j + 1))))
theorem e_M_deliver_184 (n : Nat) (mu : fm_T) (cq : Int32) (mo : Int32) (to : Int32) (dn : Int32) (j : Nat) : f_M_deliver_184 (n + 1) mu cq mo to dn j = (if (to + mo) < (nI j) then (1, mu) else (if (mu 6 (513 * cq.toNatClampNeg + j)) = 0 then (if (nI j) ≤ dn then (f_M_deliver_184 n (fm_up mu 6 (513 * cq.toNatClampNeg + j) 0) cq mo to dn (j + 1)) else (f_M_deliver_184 n (fm_up mu 6 (513 * cq.toNatClampNeg + j) 1) cq mo to dn (j + 1))) else (f_M_deliver_184 n (fm_up mu 6 (513 * cq.toNatClampNeg + j) 1) cq mo to dn (j + 1)))) := rfl
set_option maxHeartbeats 4000000 in
set_option maxRecDepth 100000 in
theorem k_M_deliver_184 (l : Launch) (dC : Nat → ClassId) (dI : Nat → Nat → Nat) (aC : Nat → ClassId) (b : Nat) {p : Program} {e : Env} {s : State} {m : MethodId} {args : Array Value} {below : List Frame} {meth : Method} {cd : Code} (hc : cx (dC, dI) (tysx aC) (XM) w_M_deliver b_M_deliver R_M 9 (some .int) p s m args meth cd) : ∀ (n : Nat) (mu : fm_T) (cq : Int32) (mo : Int32) (to : Int32) (dn : Int32) (j : Nat) (hcq : vp_in cq 3) (hE : vp_in (to + mo) 513) (hj : j ≤ (to + mo).toNatClampNeg + 1) (hn : (to + mo).toNatClampNeg + 1 < j + n) (H : Heap) (locs : List Loc) (ls : Array Slot) (F : Int32 × fm_T) (hP : va_P (dC, dI) clsx (fm_w (LM aC b) b 11 mu) H) (hS : va_S (fm_A b 11) s.heap H locs) (hl : lv_has ls 9 [(0, .ref (b + 0)), (2, .int cq), (5, .int mo), (6, .int to), (7, .int dn), (8, .int (nI j))]) (hf : F = f_M_deliver_184 n mu cq mo to dn j), W p l e { frames := 1, cells := 0, slots := 0, locals := 22 } s m args below meth cd H locs 0 0 (MQ below (va_Qi (fun r u => r = F.1 ∧ u = F.2) (fm_B (dC, dI) clsx (tysx aC) (LM aC b) b 11) (fm_A b 11)) args s 0 0 (fm_A b 11)) (F0 m 184 ls []) := by
  obtain ⟨hx, hb, hr, hml, hown, hts, hlocks, hK, hX⟩ := hc
  have hg : ∀ w ∈ gtbl, w.before args s = true := fun w h => hts w (List.mem_cons_of_mem _ h)
  intro n
  induction n with
  | zero =>
    intro mu cq mo to dn j hcq hE hj hn H locs ls F hP hS hl hf
    exfalso
    omega
  | succ n ih =>
    intro mu cq mo to dn j hcq hE hj hn H locs ls F hP hS hl hf
    have hf := hf.trans (e_M_deliver_184 n mu cq mo to dn j)
    refine lv_iload hx hb d_M_deliver_184 (lv_at hl 5 rfl) ?_
    refine lv_iload hx hb d_M_deliver_186 (lv_at hl 3 rfl) ?_
    refine lv_iload hx hb d_M_deliver_188 (lv_at hl 2 rfl) ?_
    refine lv_iadd hx hb d_M_deliver_190 ?_
    refine lv_icmp_gt (tgt := 241) hx hb d_M_deliver_191 rfl (fun h191 => ?_) (fun h191 => ?_)
    · have hf := hf.trans (if_pos h191)
      refine lv_iconst (v := 1) hx hb d_M_deliver_241 (by decide) ?_
      exact rw_iret hx hb hr hlocks hK hP hS hf d_M_deliver_242
    · have hf := hf.trans (if_neg h191)
      have hj8 : j ≤ (to + mo).toNatClampNeg := nle_lt hE hj h191
      have hE2 := vp_l hE
      refine lv_aload_n hx hb d_M_deliver_194 rfl (lv_at hl 0 rfl) ?_
      refine fm_get (C := R_M) (T := T_M) (n := 12) (ci := 6) hx hb hg uw_M hown hK hP (0) (by decide) (lm_M aC b _) rfl 6 (by decide) (hg _ fl_M_26) (fun _ h9 => h9) rfl d_M_deliver_195 ?_
      refine lv_sipush (v := 513) hx hb d_M_deliver_198 (by decide) ?_
      refine lv_iload_n hx hb d_M_deliver_201 rfl (lv_at hl 1 rfl) ?_
      refine lv_imul hx hb d_M_deliver_202 ?_
      refine lv_iload hx hb d_M_deliver_203 (lv_at hl 5 rfl) ?_
      refine lv_iadd hx hb d_M_deliver_205 ?_
      refine lv_cv (y := nI (513 * cq.toNatClampNeg + j)) (off_e hcq) ?_
      have hcq2 := vp_l hcq
      refine lv_aload_n hx hb d_M_deliver_206 rfl (lv_at hl 0 rfl) ?_
      refine fm_get (C := R_M) (T := T_M) (n := 12) (ci := 6) hx hb hg uw_M hown hK hP (0) (by decide) (lm_M aC b _) rfl 6 (by decide) (hg _ fl_M_26) (fun _ h9 => h9) rfl d_M_deliver_207 ?_
      refine lv_sipush (v := 513) hx hb d_M_deliver_210 (by decide) ?_
      refine lv_iload_n hx hb d_M_deliver_213 rfl (lv_at hl 1 rfl) ?_
      refine lv_imul hx hb d_M_deliver_214 ?_
      refine lv_iload hx hb d_M_deliver_215 (lv_at hl 5 rfl) ?_
      refine lv_iadd hx hb d_M_deliver_217 ?_
      refine lv_cv (y := nI (513 * cq.toNatClampNeg + j)) (off_e hcq) ?_
      refine fm_zald hx hb hK hP (6) (by decide) 1 (lm_held aC b _) rfl (513 * cq.toNatClampNeg + j) rfl (by omega) (by decide) d_M_deliver_218 ?_
      refine lv_if_ne (tgt := 229) hx hb d_M_deliver_219 rfl (fun h219 => ?_) (fun h219 => ?_)
      · have hf := hf.trans (if_neg h219)
        refine lv_iconst (v := 1) hx hb d_M_deliver_229 (by decide) ?_
        refine lv_goto (tgt := 234) hx hb d_M_deliver_230 rfl ?_
        refine fm_zast hx hb hK (fun _ h => h) hP hS (6) (by decide) 1 (lm_held aC b _) rfl (513 * cq.toNatClampNeg + j) rfl (by omega) (by decide) rfl (lm_held aC b _) d_M_deliver_234 (fun H locs hP hS => ?_)
        refine lv_iinc (k := 5) (v := (nI (j + 1))) (lv' := [(8, .int (nI (j + 1))), (0, .ref (b + 0)), (2, .int cq), (5, .int mo), (6, .int to), (7, .int dn)]) hx hb d_M_deliver_235 hl rfl (nI_1 _) (by decide) rfl (fun ls hl => ?_)
        refine lv_goto (tgt := 184) hx hb d_M_deliver_238 rfl ?_
        exact ih (fm_up mu 6 (513 * cq.toNatClampNeg + j) 1) cq mo to dn (j + 1) hcq hE (by omega) (by omega) _ _ ls _ hP hS (lv_sub hl [1, 2, 3, 4, 5, 0] rfl) hf
      · have hf := hf.trans (if_pos h219)
        refine lv_iload hx hb d_M_deliver_222 (lv_at hl 5 rfl) ?_
        refine lv_iload hx hb d_M_deliver_224 (lv_at hl 4 rfl) ?_
        refine lv_icmp_le (tgt := 233) hx hb d_M_deliver_226 rfl (fun h226 => ?_) (fun h226 => ?_)
        · have hf := hf.trans (if_pos h226)
          refine lv_iconst (v := 0) hx hb d_M_deliver_233 (by decide) ?_
          refine fm_zast hx hb hK (fun _ h => h) hP hS (6) (by decide) 1 (lm_held aC b _) rfl (513 * cq.toNatClampNeg + j) rfl (by omega) (by decide) rfl (lm_held aC b _) d_M_deliver_234 (fun H locs hP hS => ?_)
          refine lv_iinc (k := 5) (v := (nI (j + 1))) (lv' := [(8, .int (nI (j + 1))), (0, .ref (b + 0)), (2, .int cq), (5, .int mo), (6, .int to), (7, .int dn)]) hx hb d_M_deliver_235 hl rfl (nI_1 _) (by decide) rfl (fun ls hl => ?_)
          refine lv_goto (tgt := 184) hx hb d_M_deliver_238 rfl ?_
          exact ih (fm_up mu 6 (513 * cq.toNatClampNeg + j) 0) cq mo to dn (j + 1) hcq hE (by omega) (by omega) _ _ ls _ hP hS (lv_sub hl [1, 2, 3, 4, 5, 0] rfl) hf
        · have hf := hf.trans (if_neg h226)
          refine lv_iconst (v := 1) hx hb d_M_deliver_229 (by decide) ?_
          refine lv_goto (tgt := 234) hx hb d_M_deliver_230 rfl ?_
          refine fm_zast hx hb hK (fun _ h => h) hP hS (6) (by decide) 1 (lm_held aC b _) rfl (513 * cq.toNatClampNeg + j) rfl (by omega) (by decide) rfl (lm_held aC b _) d_M_deliver_234 (fun H locs hP hS => ?_)
          refine lv_iinc (k := 5) (v := (nI (j + 1))) (lv' := [(8, .int (nI (j + 1))), (0, .ref (b + 0)), (2, .int cq), (5, .int mo), (6, .int to), (7, .int dn)]) hx hb d_M_deliver_235 hl rfl (nI_1 _) (by decide) rfl (fun ls hl => ?_)
          refine lv_goto (tgt := 184) hx hb d_M_deliver_238 rfl ?_
          exact ih (fm_up mu 6 (513 * cq.toNatClampNeg + j) 1) cq mo to dn (j + 1) hcq hE (by omega) (by omega) _ _ ls _ hP hS (lv_sub hl [1, 2, 3, 4, 5, 0] rfl) hf
def f_M_deliver (mu : fm_T) (kk : Int32) : Int32 × fm_T := (if (f_M_there mu kk) = 0 then ((-1), mu) else (if (mu 10 (5 * kk.toNatClampNeg + 1)) = 1 then (if (mu 10 (5 * kk.toNatClampNeg + 2)) ≤ ((f_M_takeOut mu kk) 9 ((mu 10 (5 * kk.toNatClampNeg)).toNatClampNeg)) then (0, fm_up (f_M_takeOut mu kk) 9 ((mu 10 (5 * kk.toNatClampNeg)).toNatClampNeg) ((f_M_takeOut mu kk) 9 ((mu 10 (5 * kk.toNatClampNeg)).toNatClampNeg))) else (1, fm_up (f_M_takeOut mu kk) 9 ((mu 10 (5 * kk.toNatClampNeg)).toNatClampNeg) (mu 10 (5 * kk.toNatClampNeg + 2)))) else (if (mu 10 (5 * kk.toNatClampNeg + 2)) ≤ ((f_M_takeOut mu kk) 8 ((mu 10 (5 * kk.toNatClampNeg)).toNatClampNeg)) then (f_M_deliver_184 514 (fm_up (f_M_takeOut mu kk) 8 ((mu 10 (5 * kk.toNatClampNeg)).toNatClampNeg) ((f_M_takeOut mu kk) 8 ((mu 10 (5 * kk.toNatClampNeg)).toNatClampNeg))) (mu 10 (5 * kk.toNatClampNeg)) (mu 10 (5 * kk.toNatClampNeg + 3)) (mu 10 (5 * kk.toNatClampNeg + 4)) ((fm_up (f_M_takeOut mu kk) 8 ((mu 10 (5 * kk.toNatClampNeg)).toNatClampNeg) ((f_M_takeOut mu kk) 8 ((mu 10 (5 * kk.toNatClampNeg)).toNatClampNeg))) 4 (((3 * ((fm_up (f_M_takeOut mu kk) 8 ((mu 10 (5 * kk.toNatClampNeg)).toNatClampNeg) ((f_M_takeOut mu kk) 8 ((mu 10 (5 * kk.toNatClampNeg)).toNatClampNeg))) 0 2)) + (mu 10 (5 * kk.toNatClampNeg))).toNatClampNeg)) ((mu 10 (5 * kk.toNatClampNeg + 4)).toNatClampNeg + 1)) else (f_M_deliver_184 514 (fm_up (f_M_takeOut mu kk) 8 ((mu 10 (5 * kk.toNatClampNeg)).toNatClampNeg) (mu 10 (5 * kk.toNatClampNeg + 2))) (mu 10 (5 * kk.toNatClampNeg)) (mu 10 (5 * kk.toNatClampNeg + 3)) (mu 10 (5 * kk.toNatClampNeg + 4)) ((fm_up (f_M_takeOut mu kk) 8 ((mu 10 (5 * kk.toNatClampNeg)).toNatClampNeg) (mu 10 (5 * kk.toNatClampNeg + 2))) 4 (((3 * ((fm_up (f_M_takeOut mu kk) 8 ((mu 10 (5 * kk.toNatClampNeg)).toNatClampNeg) (mu 10 (5 * kk.toNatClampNeg + 2))) 0 2)) + (mu 10 (5 * kk.toNatClampNeg))).toNatClampNeg)) ((mu 10 (5 * kk.toNatClampNeg + 4)).toNatClampNeg + 1)))))
theorem e_M_deliver (mu : fm_T) (kk : Int32) : f_M_deliver mu kk = (if (f_M_there mu kk) = 0 then ((-1), mu) else (if (mu 10 (5 * kk.toNatClampNeg + 1)) = 1 then (if (mu 10 (5 * kk.toNatClampNeg + 2)) ≤ ((f_M_takeOut mu kk) 9 ((mu 10 (5 * kk.toNatClampNeg)).toNatClampNeg)) then (0, fm_up (f_M_takeOut mu kk) 9 ((mu 10 (5 * kk.toNatClampNeg)).toNatClampNeg) ((f_M_takeOut mu kk) 9 ((mu 10 (5 * kk.toNatClampNeg)).toNatClampNeg))) else (1, fm_up (f_M_takeOut mu kk) 9 ((mu 10 (5 * kk.toNatClampNeg)).toNatClampNeg) (mu 10 (5 * kk.toNatClampNeg + 2)))) else (if (mu 10 (5 * kk.toNatClampNeg + 2)) ≤ ((f_M_takeOut mu kk) 8 ((mu 10 (5 * kk.toNatClampNeg)).toNatClampNeg)) then (f_M_deliver_184 514 (fm_up (f_M_takeOut mu kk) 8 ((mu 10 (5 * kk.toNatClampNeg)).toNatClampNeg) ((f_M_takeOut mu kk) 8 ((mu 10 (5 * kk.toNatClampNeg)).toNatClampNeg))) (mu 10 (5 * kk.toNatClampNeg)) (mu 10 (5 * kk.toNatClampNeg + 3)) (mu 10 (5 * kk.toNatClampNeg + 4)) ((fm_up (f_M_takeOut mu kk) 8 ((mu 10 (5 * kk.toNatClampNeg)).toNatClampNeg) ((f_M_takeOut mu kk) 8 ((mu 10 (5 * kk.toNatClampNeg)).toNatClampNeg))) 4 (((3 * ((fm_up (f_M_takeOut mu kk) 8 ((mu 10 (5 * kk.toNatClampNeg)).toNatClampNeg) ((f_M_takeOut mu kk) 8 ((mu 10 (5 * kk.toNatClampNeg)).toNatClampNeg))) 0 2)) + (mu 10 (5 * kk.toNatClampNeg))).toNatClampNeg)) ((mu 10 (5 * kk.toNatClampNeg + 4)).toNatClampNeg + 1)) else (f_M_deliver_184 514 (fm_up (f_M_takeOut mu kk) 8 ((mu 10 (5 * kk.toNatClampNeg)).toNatClampNeg) (mu 10 (5 * kk.toNatClampNeg + 2))) (mu 10 (5 * kk.toNatClampNeg)) (mu 10 (5 * kk.toNatClampNeg + 3)) (mu 10 (5 * kk.toNatClampNeg + 4)) ((fm_up (f_M_takeOut mu kk) 8 ((mu 10 (5 * kk.toNatClampNeg)).toNatClampNeg) (mu 10 (5 * kk.toNatClampNeg + 2))) 4 (((3 * ((fm_up (f_M_takeOut mu kk) 8 ((mu 10 (5 * kk.toNatClampNeg)).toNatClampNeg) (mu 10 (5 * kk.toNatClampNeg + 2))) 0 2)) + (mu 10 (5 * kk.toNatClampNeg))).toNatClampNeg)) ((mu 10 (5 * kk.toNatClampNeg + 4)).toNatClampNeg + 1))))) := rfl
set_option maxHeartbeats 4000000 in
set_option maxRecDepth 100000 in
theorem k_M_deliver (l : Launch) (dC : Nat → ClassId) (dI : Nat → Nat → Nat) (aC : Nat → ClassId) (b : Nat) {p : Program} {e : Env} {s : State} {m : MethodId} {args : Array Value} {below : List Frame} {meth : Method} {cd : Code} (hc : cx (dC, dI) (tysx aC) (XM) w_M_deliver b_M_deliver R_M 9 (some .int) p s m args meth cd) (mu : fm_T) (kk : Int32) (hI : SafM mu) (hrep : ∀ i, i < (mu 0 11).toNatClampNeg → ¬ mu 10 (5 * i + 1) = 1 → vp_in (mu 10 (5 * i + 4) + mu 10 (5 * i + 3)) 513 ∧ (mu 10 (5 * i + 4)).toNatClampNeg ≤ (mu 10 (5 * i + 4) + mu 10 (5 * i + 3)).toNatClampNeg) (H : Heap) (locs : List Loc) (ls : Array Slot) (F : Int32 × fm_T) (hP : va_P (dC, dI) clsx (fm_w (LM aC b) b 11 mu) H) (hS : va_S (fm_A b 11) s.heap H locs) (hl : lv_has ls 9 [(0, .ref (b + 0)), (1, .int kk)]) (hf : F = f_M_deliver mu kk) : W p l e { frames := 1, cells := 0, slots := 0, locals := 22 } s m args below meth cd H locs 0 0 (MQ below (va_Qi (fun r u => r = F.1 ∧ u = F.2) (fm_B (dC, dI) clsx (tysx aC) (LM aC b) b 11) (fm_A b 11)) args s 0 0 (fm_A b 11)) (F0 m 0 ls []) := by
  obtain ⟨hx, hb, hr, hml, hown, hts, hlocks, hK, hX⟩ := hc
  have hg : ∀ w ∈ gtbl, w.before args s = true := fun w h => hts w (List.mem_cons_of_mem _ h)
  have hf := hf.trans (e_M_deliver mu kk)
  refine lv_aload_n hx hb d_M_deliver_0 rfl (lv_at hl 0 rfl) ?_
  refine lv_iload_n hx hb d_M_deliver_1 rfl (lv_at hl 1 rfl) ?_
  refine ro_call (va_runV (As := [.int kk]) (rest := []) ⟨hx, hb, hml, hown, hts⟩ (c_M_there l dC dI aC b mu kk) (cw_V (fun w h => List.mem_cons_of_mem _ h) hts kv_M_there ml_M_82 ⟨Nat.le_of_ble_eq_true rfl, Nat.le_of_ble_eq_true rfl⟩ rfl rfl) (fm_preV XM_bl (XM_mv hX hS) hK hP (0) (by decide) (lm_M aC b _) rfl) rfl rfl hl.1 rfl (lv_room (Nat.le_of_ble_eq_true rfl)) d_M_deliver_2 ⟨Nat.zero_le _, Nat.zero_le _⟩) ?_
  refine lv_if_ne (tgt := 10) hx hb d_M_deliver_5 rfl (fun h5 => ?_) (fun h5 => ?_)
  · have hf := hf.trans (if_neg h5)
    have hk := mt_in hI (th0 h5) (th1 h5)
    have hkl := vp_l hk
    have hI1 := smf_take hI (th0 h5) (th1 h5)
    have hkz := mt_lt hI (th0 h5) (th1 h5)
    refine lv_aload_n hx hb d_M_deliver_10 rfl (lv_at hl 0 rfl) ?_
    refine fm_get (C := R_M) (T := T_M) (n := 12) (ci := 6) hx hb hg uw_M hown hK hP (0) (by decide) (lm_M aC b _) rfl 10 (by decide) (hg _ fl_M_38) (fun _ h9 => h9) rfl d_M_deliver_11 ?_
    refine lv_iconst (v := 5) hx hb d_M_deliver_14 (by decide) ?_
    refine lv_iload_n hx hb d_M_deliver_15 rfl (lv_at hl 1 rfl) ?_
    refine lv_imul hx hb d_M_deliver_16 ?_
    refine lv_cv (y := nI (5 * kk.toNatClampNeg)) (mt_e hI (th0 h5) (th1 h5)) ?_
    refine fm_iald hx hb hK hP (10) (by decide) 0 (lm_air aC b _) rfl (5 * kk.toNatClampNeg) rfl (by omega) (by decide) d_M_deliver_17 ?_
    refine lv_istore_n (lv' := [(2, .int (mu 10 (5 * kk.toNatClampNeg))), (0, .ref (b + 0)), (1, .int kk)]) hx hb d_M_deliver_18 rfl hl (by decide) rfl (fun ls hl => ?_)
    refine lv_aload_n hx hb d_M_deliver_19 rfl (lv_at hl 1 rfl) ?_
    refine fm_get (C := R_M) (T := T_M) (n := 12) (ci := 6) hx hb hg uw_M hown hK hP (0) (by decide) (lm_M aC b _) rfl 10 (by decide) (hg _ fl_M_38) (fun _ h9 => h9) rfl d_M_deliver_20 ?_
    refine lv_iconst (v := 5) hx hb d_M_deliver_23 (by decide) ?_
    refine lv_iload_n hx hb d_M_deliver_24 rfl (lv_at hl 2 rfl) ?_
    refine lv_imul hx hb d_M_deliver_25 ?_
    refine lv_cv (y := nI (5 * kk.toNatClampNeg)) (mt_e hI (th0 h5) (th1 h5)) ?_
    refine lv_iconst (v := 1) hx hb d_M_deliver_26 (by decide) ?_
    refine lv_iadd hx hb d_M_deliver_27 ?_
    refine lv_cv (y := nI (5 * kk.toNatClampNeg + 1)) (nI_add _ 1) ?_
    refine fm_iald hx hb hK hP (10) (by decide) 0 (lm_air aC b _) rfl (5 * kk.toNatClampNeg + 1) rfl (by omega) (by decide) d_M_deliver_28 ?_
    refine lv_iconst (v := 1) hx hb d_M_deliver_29 (by decide) ?_
    refine lv_icmp_ne (tgt := 37) hx hb d_M_deliver_30 rfl (fun h30 => ?_) (fun h30 => ?_)
    · have hf := hf.trans (if_neg h30)
      refine lv_iconst (v := 0) hx hb d_M_deliver_37 (by decide) ?_
      refine lv_istore_n (lv' := [(3, .int 0), (2, .int (mu 10 (5 * kk.toNatClampNeg))), (0, .ref (b + 0)), (1, .int kk)]) hx hb d_M_deliver_38 rfl hl (by decide) rfl (fun ls hl => ?_)
      refine lv_aload_n hx hb d_M_deliver_39 rfl (lv_at hl 2 rfl) ?_
      refine fm_get (C := R_M) (T := T_M) (n := 12) (ci := 6) hx hb hg uw_M hown hK hP (0) (by decide) (lm_M aC b _) rfl 10 (by decide) (hg _ fl_M_38) (fun _ h9 => h9) rfl d_M_deliver_40 ?_
      refine lv_iconst (v := 5) hx hb d_M_deliver_43 (by decide) ?_
      refine lv_iload_n hx hb d_M_deliver_44 rfl (lv_at hl 3 rfl) ?_
      refine lv_imul hx hb d_M_deliver_45 ?_
      refine lv_cv (y := nI (5 * kk.toNatClampNeg)) (mt_e hI (th0 h5) (th1 h5)) ?_
      refine lv_iconst (v := 2) hx hb d_M_deliver_46 (by decide) ?_
      refine lv_iadd hx hb d_M_deliver_47 ?_
      refine lv_cv (y := nI (5 * kk.toNatClampNeg + 2)) (nI_add _ 2) ?_
      refine fm_iald hx hb hK hP (10) (by decide) 0 (lm_air aC b _) rfl (5 * kk.toNatClampNeg + 2) rfl (by omega) (by decide) d_M_deliver_48 ?_
      refine lv_istore (lv' := [(4, .int (mu 10 (5 * kk.toNatClampNeg + 2))), (3, .int 0), (2, .int (mu 10 (5 * kk.toNatClampNeg))), (0, .ref (b + 0)), (1, .int kk)]) hx hb d_M_deliver_49 hl (by decide) rfl (fun ls hl => ?_)
      refine lv_aload_n hx hb d_M_deliver_51 rfl (lv_at hl 3 rfl) ?_
      refine fm_get (C := R_M) (T := T_M) (n := 12) (ci := 6) hx hb hg uw_M hown hK hP (0) (by decide) (lm_M aC b _) rfl 10 (by decide) (hg _ fl_M_38) (fun _ h9 => h9) rfl d_M_deliver_52 ?_
      refine lv_iconst (v := 5) hx hb d_M_deliver_55 (by decide) ?_
      refine lv_iload_n hx hb d_M_deliver_56 rfl (lv_at hl 4 rfl) ?_
      refine lv_imul hx hb d_M_deliver_57 ?_
      refine lv_cv (y := nI (5 * kk.toNatClampNeg)) (mt_e hI (th0 h5) (th1 h5)) ?_
      refine lv_iconst (v := 3) hx hb d_M_deliver_58 (by decide) ?_
      refine lv_iadd hx hb d_M_deliver_59 ?_
      refine lv_cv (y := nI (5 * kk.toNatClampNeg + 3)) (nI_add _ 3) ?_
      refine fm_iald hx hb hK hP (10) (by decide) 0 (lm_air aC b _) rfl (5 * kk.toNatClampNeg + 3) rfl (by omega) (by decide) d_M_deliver_60 ?_
      refine lv_istore (lv' := [(5, .int (mu 10 (5 * kk.toNatClampNeg + 3))), (4, .int (mu 10 (5 * kk.toNatClampNeg + 2))), (3, .int 0), (2, .int (mu 10 (5 * kk.toNatClampNeg))), (0, .ref (b + 0)), (1, .int kk)]) hx hb d_M_deliver_61 hl (by decide) rfl (fun ls hl => ?_)
      refine lv_aload_n hx hb d_M_deliver_63 rfl (lv_at hl 4 rfl) ?_
      refine fm_get (C := R_M) (T := T_M) (n := 12) (ci := 6) hx hb hg uw_M hown hK hP (0) (by decide) (lm_M aC b _) rfl 10 (by decide) (hg _ fl_M_38) (fun _ h9 => h9) rfl d_M_deliver_64 ?_
      refine lv_iconst (v := 5) hx hb d_M_deliver_67 (by decide) ?_
      refine lv_iload_n hx hb d_M_deliver_68 rfl (lv_at hl 5 rfl) ?_
      refine lv_imul hx hb d_M_deliver_69 ?_
      refine lv_cv (y := nI (5 * kk.toNatClampNeg)) (mt_e hI (th0 h5) (th1 h5)) ?_
      refine lv_iconst (v := 4) hx hb d_M_deliver_70 (by decide) ?_
      refine lv_iadd hx hb d_M_deliver_71 ?_
      refine lv_cv (y := nI (5 * kk.toNatClampNeg + 4)) (nI_add _ 4) ?_
      refine fm_iald hx hb hK hP (10) (by decide) 0 (lm_air aC b _) rfl (5 * kk.toNatClampNeg + 4) rfl (by omega) (by decide) d_M_deliver_72 ?_
      refine lv_istore (lv' := [(6, .int (mu 10 (5 * kk.toNatClampNeg + 4))), (5, .int (mu 10 (5 * kk.toNatClampNeg + 3))), (4, .int (mu 10 (5 * kk.toNatClampNeg + 2))), (3, .int 0), (2, .int (mu 10 (5 * kk.toNatClampNeg))), (0, .ref (b + 0)), (1, .int kk)]) hx hb d_M_deliver_73 hl (by decide) rfl (fun ls hl => ?_)
      refine lv_aload_n hx hb d_M_deliver_75 rfl (lv_at hl 5 rfl) ?_
      refine lv_iload_n hx hb d_M_deliver_76 rfl (lv_at hl 6 rfl) ?_
      refine fm_callv (va_runV (As := [.int kk]) (rest := []) ⟨hx, hb, hml, hown, hts⟩ (c_M_takeOut l dC dI aC b mu kk hI (th0 h5) (th1 h5)) (cw_V (fun w h => List.mem_cons_of_mem _ h) hts kv_M_takeOut ml_M_85 ⟨Nat.le_of_ble_eq_true rfl, Nat.le_of_ble_eq_true rfl⟩ rfl rfl) (fm_preV XM_bl (XM_mv hX hS) hK hP (0) (by decide) (lm_M aC b _) rfl) rfl rfl hl.1 rfl (lv_room (Nat.le_of_ble_eq_true rfl)) d_M_deliver_77 ⟨Nat.zero_le _, Nat.zero_le _⟩) hS (fun _ h => h) (fun u H locs hp hP hS => ?_)
      subst hp
      refine lv_iload_n hx hb d_M_deliver_80 rfl (lv_at hl 3 rfl) ?_
      refine lv_if_eq (tgt := 135) hx hb d_M_deliver_81 rfl (fun _ => ?_) (fun h => absurd h (by decide))
      refine lv_aload_n hx hb d_M_deliver_135 rfl (lv_at hl 5 rfl) ?_
      refine fm_get (C := R_M) (T := T_M) (n := 12) (ci := 6) hx hb hg uw_M hown hK hP (0) (by decide) (lm_M aC b _) rfl 8 (by decide) (hg _ fl_M_32) (fun _ h9 => h9) rfl d_M_deliver_136 ?_
      refine lv_iload_n hx hb d_M_deliver_139 rfl (lv_at hl 4 rfl) ?_
      refine lv_iload hx hb d_M_deliver_140 (lv_at hl 2 rfl) ?_
      refine lv_aload_n hx hb d_M_deliver_142 rfl (lv_at hl 5 rfl) ?_
      refine fm_get (C := R_M) (T := T_M) (n := 12) (ci := 6) hx hb hg uw_M hown hK hP (0) (by decide) (lm_M aC b _) rfl 8 (by decide) (hg _ fl_M_32) (fun _ h9 => h9) rfl d_M_deliver_143 ?_
      refine lv_iload_n hx hb d_M_deliver_146 rfl (lv_at hl 4 rfl) ?_
      refine fm_iald hx hb hK hP (8) (by decide) 0 (lm_acked aC b _) rfl ((mu 10 (5 * kk.toNatClampNeg)).toNatClampNeg) (vp_e (n := 3) (smf_a0 hI (k5 _))) (vp_l (n := 3) (smf_a0 hI (k5 _))) (by decide) d_M_deliver_147 ?_
      refine lv_icmp_le (tgt := 156) hx hb d_M_deliver_148 rfl (fun h148 => ?_) (fun h148 => ?_)
      · have hf := hf.trans (if_pos h148)
        refine lv_aload_n hx hb d_M_deliver_156 rfl (lv_at hl 5 rfl) ?_
        refine fm_get (C := R_M) (T := T_M) (n := 12) (ci := 6) hx hb hg uw_M hown hK hP (0) (by decide) (lm_M aC b _) rfl 8 (by decide) (hg _ fl_M_32) (fun _ h9 => h9) rfl d_M_deliver_157 ?_
        refine lv_iload_n hx hb d_M_deliver_160 rfl (lv_at hl 4 rfl) ?_
        refine fm_iald hx hb hK hP (8) (by decide) 0 (lm_acked aC b _) rfl ((mu 10 (5 * kk.toNatClampNeg)).toNatClampNeg) (vp_e (n := 3) (smf_a0 hI (k5 _))) (vp_l (n := 3) (smf_a0 hI (k5 _))) (by decide) d_M_deliver_161 ?_
        refine fm_iast hx hb hK (fun _ h => h) hP hS (8) (by decide) 0 (lm_acked aC b _) rfl ((mu 10 (5 * kk.toNatClampNeg)).toNatClampNeg) (vp_e (n := 3) (smf_a0 hI (k5 _))) (vp_l (n := 3) (smf_a0 hI (k5 _))) (by decide) (lm_acked aC b _) d_M_deliver_162 (fun H locs hP hS => ?_)
        refine lv_aload_n hx hb d_M_deliver_163 rfl (lv_at hl 5 rfl) ?_
        refine fm_get (C := R_M) (T := T_M) (n := 12) (ci := 6) hx hb hg uw_M hown hK hP (0) (by decide) (lm_M aC b _) rfl 4 (by decide) (hg _ fl_M_20) (fun _ h9 => h9) rfl d_M_deliver_164 ?_
        refine lv_iconst (v := 3) hx hb d_M_deliver_167 (by decide) ?_
        refine lv_aload_n hx hb d_M_deliver_168 rfl (lv_at hl 5 rfl) ?_
        refine fm_get (C := R_M) (T := T_M) (n := 12) (ci := 6) hx hb hg uw_M hown hK hP (0) (by decide) (lm_M aC b _) rfl 2 (by decide) (hg _ fl_M_45) (fun _ h9 => h9) rfl d_M_deliver_169 ?_
        refine lv_imul hx hb d_M_deliver_172 ?_
        refine lv_iload_n hx hb d_M_deliver_173 rfl (lv_at hl 4 rfl) ?_
        refine lv_iadd hx hb d_M_deliver_174 ?_
        refine fm_iald hx hb hK hP (4) (by decide) 0 (lm_doneAt aC b _) rfl (((3 * ((fm_up (f_M_takeOut mu kk) 8 ((mu 10 (5 * kk.toNatClampNeg)).toNatClampNeg) ((f_M_takeOut mu kk) 8 ((mu 10 (5 * kk.toNatClampNeg)).toNatClampNeg))) 0 2)) + (mu 10 (5 * kk.toNatClampNeg))).toNatClampNeg) (vp_e (n := 1539) (by rw [fm_up_cell (by decide)]; exact lin_in (k := 3) rfl (smf_now hI1) (smf_a0 hI (k5 _)) (by decide))) (vp_l (n := 1539) (by rw [fm_up_cell (by decide)]; exact lin_in (k := 3) rfl (smf_now hI1) (smf_a0 hI (k5 _)) (by decide))) (by decide) d_M_deliver_175 ?_
        refine lv_istore (lv' := [(7, .int ((fm_up (f_M_takeOut mu kk) 8 ((mu 10 (5 * kk.toNatClampNeg)).toNatClampNeg) ((f_M_takeOut mu kk) 8 ((mu 10 (5 * kk.toNatClampNeg)).toNatClampNeg))) 4 (((3 * ((fm_up (f_M_takeOut mu kk) 8 ((mu 10 (5 * kk.toNatClampNeg)).toNatClampNeg) ((f_M_takeOut mu kk) 8 ((mu 10 (5 * kk.toNatClampNeg)).toNatClampNeg))) 0 2)) + (mu 10 (5 * kk.toNatClampNeg))).toNatClampNeg))), (6, .int (mu 10 (5 * kk.toNatClampNeg + 4))), (5, .int (mu 10 (5 * kk.toNatClampNeg + 3))), (4, .int (mu 10 (5 * kk.toNatClampNeg + 2))), (3, .int 0), (2, .int (mu 10 (5 * kk.toNatClampNeg))), (0, .ref (b + 0)), (1, .int kk)]) hx hb d_M_deliver_176 hl (by decide) rfl (fun ls hl => ?_)
        refine lv_iload hx hb d_M_deliver_178 (lv_at hl 1 rfl) ?_
        refine lv_iconst (v := 1) hx hb d_M_deliver_180 (by decide) ?_
        refine lv_iadd hx hb d_M_deliver_181 ?_
        refine lv_cv (y := nI ((mu 10 (5 * kk.toNatClampNeg + 4)).toNatClampNeg + 1)) (plus_e (smf_a4 hI (k5 _))) ?_
        refine lv_istore (lv' := [(8, .int (nI ((mu 10 (5 * kk.toNatClampNeg + 4)).toNatClampNeg + 1))), (7, .int ((fm_up (f_M_takeOut mu kk) 8 ((mu 10 (5 * kk.toNatClampNeg)).toNatClampNeg) ((f_M_takeOut mu kk) 8 ((mu 10 (5 * kk.toNatClampNeg)).toNatClampNeg))) 4 (((3 * ((fm_up (f_M_takeOut mu kk) 8 ((mu 10 (5 * kk.toNatClampNeg)).toNatClampNeg) ((f_M_takeOut mu kk) 8 ((mu 10 (5 * kk.toNatClampNeg)).toNatClampNeg))) 0 2)) + (mu 10 (5 * kk.toNatClampNeg))).toNatClampNeg))), (6, .int (mu 10 (5 * kk.toNatClampNeg + 4))), (5, .int (mu 10 (5 * kk.toNatClampNeg + 3))), (4, .int (mu 10 (5 * kk.toNatClampNeg + 2))), (3, .int 0), (2, .int (mu 10 (5 * kk.toNatClampNeg))), (0, .ref (b + 0)), (1, .int kk)]) hx hb d_M_deliver_182 hl (by decide) rfl (fun ls hl => ?_)
        exact k_M_deliver_184 l dC dI aC b ⟨hx, hb, hr, hml, hown, hts, hlocks, hK, hX⟩ 514 (fm_up (f_M_takeOut mu kk) 8 ((mu 10 (5 * kk.toNatClampNeg)).toNatClampNeg) ((f_M_takeOut mu kk) 8 ((mu 10 (5 * kk.toNatClampNeg)).toNatClampNeg))) (mu 10 (5 * kk.toNatClampNeg)) (mu 10 (5 * kk.toNatClampNeg + 3)) (mu 10 (5 * kk.toNatClampNeg + 4)) ((fm_up (f_M_takeOut mu kk) 8 ((mu 10 (5 * kk.toNatClampNeg)).toNatClampNeg) ((f_M_takeOut mu kk) 8 ((mu 10 (5 * kk.toNatClampNeg)).toNatClampNeg))) 4 (((3 * ((fm_up (f_M_takeOut mu kk) 8 ((mu 10 (5 * kk.toNatClampNeg)).toNatClampNeg) ((f_M_takeOut mu kk) 8 ((mu 10 (5 * kk.toNatClampNeg)).toNatClampNeg))) 0 2)) + (mu 10 (5 * kk.toNatClampNeg))).toNatClampNeg)) ((mu 10 (5 * kk.toNatClampNeg + 4)).toNatClampNeg + 1) (smf_a0 hI (k5 _)) ((hrep _ hkz h30).1) (by have := (hrep _ hkz h30).2; omega) (by have := vp_l (hrep _ hkz h30).1; omega) _ _ ls _ hP hS (lv_sub hl [7, 6, 3, 2, 1, 0] rfl) hf
      · have hf := hf.trans (if_neg h148)
        refine lv_iload hx hb d_M_deliver_151 (lv_at hl 2 rfl) ?_
        refine lv_goto (tgt := 162) hx hb d_M_deliver_153 rfl ?_
        refine fm_iast hx hb hK (fun _ h => h) hP hS (8) (by decide) 0 (lm_acked aC b _) rfl ((mu 10 (5 * kk.toNatClampNeg)).toNatClampNeg) (vp_e (n := 3) (smf_a0 hI (k5 _))) (vp_l (n := 3) (smf_a0 hI (k5 _))) (by decide) (lm_acked aC b _) d_M_deliver_162 (fun H locs hP hS => ?_)
        refine lv_aload_n hx hb d_M_deliver_163 rfl (lv_at hl 5 rfl) ?_
        refine fm_get (C := R_M) (T := T_M) (n := 12) (ci := 6) hx hb hg uw_M hown hK hP (0) (by decide) (lm_M aC b _) rfl 4 (by decide) (hg _ fl_M_20) (fun _ h9 => h9) rfl d_M_deliver_164 ?_
        refine lv_iconst (v := 3) hx hb d_M_deliver_167 (by decide) ?_
        refine lv_aload_n hx hb d_M_deliver_168 rfl (lv_at hl 5 rfl) ?_
        refine fm_get (C := R_M) (T := T_M) (n := 12) (ci := 6) hx hb hg uw_M hown hK hP (0) (by decide) (lm_M aC b _) rfl 2 (by decide) (hg _ fl_M_45) (fun _ h9 => h9) rfl d_M_deliver_169 ?_
        refine lv_imul hx hb d_M_deliver_172 ?_
        refine lv_iload_n hx hb d_M_deliver_173 rfl (lv_at hl 4 rfl) ?_
        refine lv_iadd hx hb d_M_deliver_174 ?_
        refine fm_iald hx hb hK hP (4) (by decide) 0 (lm_doneAt aC b _) rfl (((3 * ((fm_up (f_M_takeOut mu kk) 8 ((mu 10 (5 * kk.toNatClampNeg)).toNatClampNeg) (mu 10 (5 * kk.toNatClampNeg + 2))) 0 2)) + (mu 10 (5 * kk.toNatClampNeg))).toNatClampNeg) (vp_e (n := 1539) (by rw [fm_up_cell (by decide)]; exact lin_in (k := 3) rfl (smf_now hI1) (smf_a0 hI (k5 _)) (by decide))) (vp_l (n := 1539) (by rw [fm_up_cell (by decide)]; exact lin_in (k := 3) rfl (smf_now hI1) (smf_a0 hI (k5 _)) (by decide))) (by decide) d_M_deliver_175 ?_
        refine lv_istore (lv' := [(7, .int ((fm_up (f_M_takeOut mu kk) 8 ((mu 10 (5 * kk.toNatClampNeg)).toNatClampNeg) (mu 10 (5 * kk.toNatClampNeg + 2))) 4 (((3 * ((fm_up (f_M_takeOut mu kk) 8 ((mu 10 (5 * kk.toNatClampNeg)).toNatClampNeg) (mu 10 (5 * kk.toNatClampNeg + 2))) 0 2)) + (mu 10 (5 * kk.toNatClampNeg))).toNatClampNeg))), (6, .int (mu 10 (5 * kk.toNatClampNeg + 4))), (5, .int (mu 10 (5 * kk.toNatClampNeg + 3))), (4, .int (mu 10 (5 * kk.toNatClampNeg + 2))), (3, .int 0), (2, .int (mu 10 (5 * kk.toNatClampNeg))), (0, .ref (b + 0)), (1, .int kk)]) hx hb d_M_deliver_176 hl (by decide) rfl (fun ls hl => ?_)
        refine lv_iload hx hb d_M_deliver_178 (lv_at hl 1 rfl) ?_
        refine lv_iconst (v := 1) hx hb d_M_deliver_180 (by decide) ?_
        refine lv_iadd hx hb d_M_deliver_181 ?_
        refine lv_cv (y := nI ((mu 10 (5 * kk.toNatClampNeg + 4)).toNatClampNeg + 1)) (plus_e (smf_a4 hI (k5 _))) ?_
        refine lv_istore (lv' := [(8, .int (nI ((mu 10 (5 * kk.toNatClampNeg + 4)).toNatClampNeg + 1))), (7, .int ((fm_up (f_M_takeOut mu kk) 8 ((mu 10 (5 * kk.toNatClampNeg)).toNatClampNeg) (mu 10 (5 * kk.toNatClampNeg + 2))) 4 (((3 * ((fm_up (f_M_takeOut mu kk) 8 ((mu 10 (5 * kk.toNatClampNeg)).toNatClampNeg) (mu 10 (5 * kk.toNatClampNeg + 2))) 0 2)) + (mu 10 (5 * kk.toNatClampNeg))).toNatClampNeg))), (6, .int (mu 10 (5 * kk.toNatClampNeg + 4))), (5, .int (mu 10 (5 * kk.toNatClampNeg + 3))), (4, .int (mu 10 (5 * kk.toNatClampNeg + 2))), (3, .int 0), (2, .int (mu 10 (5 * kk.toNatClampNeg))), (0, .ref (b + 0)), (1, .int kk)]) hx hb d_M_deliver_182 hl (by decide) rfl (fun ls hl => ?_)
        exact k_M_deliver_184 l dC dI aC b ⟨hx, hb, hr, hml, hown, hts, hlocks, hK, hX⟩ 514 (fm_up (f_M_takeOut mu kk) 8 ((mu 10 (5 * kk.toNatClampNeg)).toNatClampNeg) (mu 10 (5 * kk.toNatClampNeg + 2))) (mu 10 (5 * kk.toNatClampNeg)) (mu 10 (5 * kk.toNatClampNeg + 3)) (mu 10 (5 * kk.toNatClampNeg + 4)) ((fm_up (f_M_takeOut mu kk) 8 ((mu 10 (5 * kk.toNatClampNeg)).toNatClampNeg) (mu 10 (5 * kk.toNatClampNeg + 2))) 4 (((3 * ((fm_up (f_M_takeOut mu kk) 8 ((mu 10 (5 * kk.toNatClampNeg)).toNatClampNeg) (mu 10 (5 * kk.toNatClampNeg + 2))) 0 2)) + (mu 10 (5 * kk.toNatClampNeg))).toNatClampNeg)) ((mu 10 (5 * kk.toNatClampNeg + 4)).toNatClampNeg + 1) (smf_a0 hI (k5 _)) ((hrep _ hkz h30).1) (by have := (hrep _ hkz h30).2; omega) (by have := vp_l (hrep _ hkz h30).1; omega) _ _ ls _ hP hS (lv_sub hl [7, 6, 3, 2, 1, 0] rfl) hf
    · have hf := hf.trans (if_pos h30)
      refine lv_iconst (v := 1) hx hb d_M_deliver_33 (by decide) ?_
      refine lv_goto (tgt := 38) hx hb d_M_deliver_34 rfl ?_
      refine lv_istore_n (lv' := [(3, .int 1), (2, .int (mu 10 (5 * kk.toNatClampNeg))), (0, .ref (b + 0)), (1, .int kk)]) hx hb d_M_deliver_38 rfl hl (by decide) rfl (fun ls hl => ?_)
      refine lv_aload_n hx hb d_M_deliver_39 rfl (lv_at hl 2 rfl) ?_
      refine fm_get (C := R_M) (T := T_M) (n := 12) (ci := 6) hx hb hg uw_M hown hK hP (0) (by decide) (lm_M aC b _) rfl 10 (by decide) (hg _ fl_M_38) (fun _ h9 => h9) rfl d_M_deliver_40 ?_
      refine lv_iconst (v := 5) hx hb d_M_deliver_43 (by decide) ?_
      refine lv_iload_n hx hb d_M_deliver_44 rfl (lv_at hl 3 rfl) ?_
      refine lv_imul hx hb d_M_deliver_45 ?_
      refine lv_cv (y := nI (5 * kk.toNatClampNeg)) (mt_e hI (th0 h5) (th1 h5)) ?_
      refine lv_iconst (v := 2) hx hb d_M_deliver_46 (by decide) ?_
      refine lv_iadd hx hb d_M_deliver_47 ?_
      refine lv_cv (y := nI (5 * kk.toNatClampNeg + 2)) (nI_add _ 2) ?_
      refine fm_iald hx hb hK hP (10) (by decide) 0 (lm_air aC b _) rfl (5 * kk.toNatClampNeg + 2) rfl (by omega) (by decide) d_M_deliver_48 ?_
      refine lv_istore (lv' := [(4, .int (mu 10 (5 * kk.toNatClampNeg + 2))), (3, .int 1), (2, .int (mu 10 (5 * kk.toNatClampNeg))), (0, .ref (b + 0)), (1, .int kk)]) hx hb d_M_deliver_49 hl (by decide) rfl (fun ls hl => ?_)
      refine lv_aload_n hx hb d_M_deliver_51 rfl (lv_at hl 3 rfl) ?_
      refine fm_get (C := R_M) (T := T_M) (n := 12) (ci := 6) hx hb hg uw_M hown hK hP (0) (by decide) (lm_M aC b _) rfl 10 (by decide) (hg _ fl_M_38) (fun _ h9 => h9) rfl d_M_deliver_52 ?_
      refine lv_iconst (v := 5) hx hb d_M_deliver_55 (by decide) ?_
      refine lv_iload_n hx hb d_M_deliver_56 rfl (lv_at hl 4 rfl) ?_
      refine lv_imul hx hb d_M_deliver_57 ?_
      refine lv_cv (y := nI (5 * kk.toNatClampNeg)) (mt_e hI (th0 h5) (th1 h5)) ?_
      refine lv_iconst (v := 3) hx hb d_M_deliver_58 (by decide) ?_
      refine lv_iadd hx hb d_M_deliver_59 ?_
      refine lv_cv (y := nI (5 * kk.toNatClampNeg + 3)) (nI_add _ 3) ?_
      refine fm_iald hx hb hK hP (10) (by decide) 0 (lm_air aC b _) rfl (5 * kk.toNatClampNeg + 3) rfl (by omega) (by decide) d_M_deliver_60 ?_
      refine lv_istore (lv' := [(5, .int (mu 10 (5 * kk.toNatClampNeg + 3))), (4, .int (mu 10 (5 * kk.toNatClampNeg + 2))), (3, .int 1), (2, .int (mu 10 (5 * kk.toNatClampNeg))), (0, .ref (b + 0)), (1, .int kk)]) hx hb d_M_deliver_61 hl (by decide) rfl (fun ls hl => ?_)
      refine lv_aload_n hx hb d_M_deliver_63 rfl (lv_at hl 4 rfl) ?_
      refine fm_get (C := R_M) (T := T_M) (n := 12) (ci := 6) hx hb hg uw_M hown hK hP (0) (by decide) (lm_M aC b _) rfl 10 (by decide) (hg _ fl_M_38) (fun _ h9 => h9) rfl d_M_deliver_64 ?_
      refine lv_iconst (v := 5) hx hb d_M_deliver_67 (by decide) ?_
      refine lv_iload_n hx hb d_M_deliver_68 rfl (lv_at hl 5 rfl) ?_
      refine lv_imul hx hb d_M_deliver_69 ?_
      refine lv_cv (y := nI (5 * kk.toNatClampNeg)) (mt_e hI (th0 h5) (th1 h5)) ?_
      refine lv_iconst (v := 4) hx hb d_M_deliver_70 (by decide) ?_
      refine lv_iadd hx hb d_M_deliver_71 ?_
      refine lv_cv (y := nI (5 * kk.toNatClampNeg + 4)) (nI_add _ 4) ?_
      refine fm_iald hx hb hK hP (10) (by decide) 0 (lm_air aC b _) rfl (5 * kk.toNatClampNeg + 4) rfl (by omega) (by decide) d_M_deliver_72 ?_
      refine lv_istore (lv' := [(6, .int (mu 10 (5 * kk.toNatClampNeg + 4))), (5, .int (mu 10 (5 * kk.toNatClampNeg + 3))), (4, .int (mu 10 (5 * kk.toNatClampNeg + 2))), (3, .int 1), (2, .int (mu 10 (5 * kk.toNatClampNeg))), (0, .ref (b + 0)), (1, .int kk)]) hx hb d_M_deliver_73 hl (by decide) rfl (fun ls hl => ?_)
      refine lv_aload_n hx hb d_M_deliver_75 rfl (lv_at hl 5 rfl) ?_
      refine lv_iload_n hx hb d_M_deliver_76 rfl (lv_at hl 6 rfl) ?_
      refine fm_callv (va_runV (As := [.int kk]) (rest := []) ⟨hx, hb, hml, hown, hts⟩ (c_M_takeOut l dC dI aC b mu kk hI (th0 h5) (th1 h5)) (cw_V (fun w h => List.mem_cons_of_mem _ h) hts kv_M_takeOut ml_M_85 ⟨Nat.le_of_ble_eq_true rfl, Nat.le_of_ble_eq_true rfl⟩ rfl rfl) (fm_preV XM_bl (XM_mv hX hS) hK hP (0) (by decide) (lm_M aC b _) rfl) rfl rfl hl.1 rfl (lv_room (Nat.le_of_ble_eq_true rfl)) d_M_deliver_77 ⟨Nat.zero_le _, Nat.zero_le _⟩) hS (fun _ h => h) (fun u H locs hp hP hS => ?_)
      subst hp
      refine lv_iload_n hx hb d_M_deliver_80 rfl (lv_at hl 3 rfl) ?_
      refine lv_if_eq (tgt := 135) hx hb d_M_deliver_81 rfl (fun h => absurd h (by decide)) (fun _ => ?_)
      refine lv_iload hx hb d_M_deliver_84 (lv_at hl 2 rfl) ?_
      refine lv_aload_n hx hb d_M_deliver_86 rfl (lv_at hl 5 rfl) ?_
      refine fm_get (C := R_M) (T := T_M) (n := 12) (ci := 6) hx hb hg uw_M hown hK hP (0) (by decide) (lm_M aC b _) rfl 9 (by decide) (hg _ fl_M_35) (fun _ h9 => h9) rfl d_M_deliver_87 ?_
      refine lv_iload_n hx hb d_M_deliver_90 rfl (lv_at hl 4 rfl) ?_
      refine fm_iald hx hb hK hP (9) (by decide) 0 (lm_newest aC b _) rfl ((mu 10 (5 * kk.toNatClampNeg)).toNatClampNeg) (vp_e (n := 3) (smf_a0 hI (k5 _))) (vp_l (n := 3) (smf_a0 hI (k5 _))) (by decide) d_M_deliver_91 ?_
      refine lv_icmp_le (tgt := 99) hx hb d_M_deliver_92 rfl (fun h92 => ?_) (fun h92 => ?_)
      · have hf := hf.trans (if_pos h92)
        refine lv_iconst (v := 0) hx hb d_M_deliver_99 (by decide) ?_
        refine lv_istore (lv' := [(7, .int 0), (6, .int (mu 10 (5 * kk.toNatClampNeg + 4))), (5, .int (mu 10 (5 * kk.toNatClampNeg + 3))), (4, .int (mu 10 (5 * kk.toNatClampNeg + 2))), (3, .int 1), (2, .int (mu 10 (5 * kk.toNatClampNeg))), (0, .ref (b + 0)), (1, .int kk)]) hx hb d_M_deliver_100 hl (by decide) rfl (fun ls hl => ?_)
        refine lv_aload_n hx hb d_M_deliver_102 rfl (lv_at hl 6 rfl) ?_
        refine fm_get (C := R_M) (T := T_M) (n := 12) (ci := 6) hx hb hg uw_M hown hK hP (0) (by decide) (lm_M aC b _) rfl 9 (by decide) (hg _ fl_M_35) (fun _ h9 => h9) rfl d_M_deliver_103 ?_
        refine lv_iload_n hx hb d_M_deliver_106 rfl (lv_at hl 5 rfl) ?_
        refine lv_iload hx hb d_M_deliver_107 (lv_at hl 0 rfl) ?_
        refine lv_if_eq (tgt := 117) hx hb d_M_deliver_109 rfl (fun _ => ?_) (fun h => absurd h (by decide))
        refine lv_aload_n hx hb d_M_deliver_117 rfl (lv_at hl 6 rfl) ?_
        refine fm_get (C := R_M) (T := T_M) (n := 12) (ci := 6) hx hb hg uw_M hown hK hP (0) (by decide) (lm_M aC b _) rfl 9 (by decide) (hg _ fl_M_35) (fun _ h9 => h9) rfl d_M_deliver_118 ?_
        refine lv_iload_n hx hb d_M_deliver_121 rfl (lv_at hl 5 rfl) ?_
        refine fm_iald hx hb hK hP (9) (by decide) 0 (lm_newest aC b _) rfl ((mu 10 (5 * kk.toNatClampNeg)).toNatClampNeg) (vp_e (n := 3) (smf_a0 hI (k5 _))) (vp_l (n := 3) (smf_a0 hI (k5 _))) (by decide) d_M_deliver_122 ?_
        refine fm_iast hx hb hK (fun _ h => h) hP hS (9) (by decide) 0 (lm_newest aC b _) rfl ((mu 10 (5 * kk.toNatClampNeg)).toNatClampNeg) (vp_e (n := 3) (smf_a0 hI (k5 _))) (vp_l (n := 3) (smf_a0 hI (k5 _))) (by decide) (lm_newest aC b _) d_M_deliver_123 (fun H locs hP hS => ?_)
        refine lv_iload hx hb d_M_deliver_124 (lv_at hl 0 rfl) ?_
        refine lv_if_eq (tgt := 133) hx hb d_M_deliver_126 rfl (fun _ => ?_) (fun h => absurd h (by decide))
        refine lv_iconst (v := 0) hx hb d_M_deliver_133 (by decide) ?_
        exact rw_iret hx hb hr hlocks hK hP hS hf d_M_deliver_134
      · have hf := hf.trans (if_neg h92)
        refine lv_iconst (v := 1) hx hb d_M_deliver_95 (by decide) ?_
        refine lv_goto (tgt := 100) hx hb d_M_deliver_96 rfl ?_
        refine lv_istore (lv' := [(7, .int 1), (6, .int (mu 10 (5 * kk.toNatClampNeg + 4))), (5, .int (mu 10 (5 * kk.toNatClampNeg + 3))), (4, .int (mu 10 (5 * kk.toNatClampNeg + 2))), (3, .int 1), (2, .int (mu 10 (5 * kk.toNatClampNeg))), (0, .ref (b + 0)), (1, .int kk)]) hx hb d_M_deliver_100 hl (by decide) rfl (fun ls hl => ?_)
        refine lv_aload_n hx hb d_M_deliver_102 rfl (lv_at hl 6 rfl) ?_
        refine fm_get (C := R_M) (T := T_M) (n := 12) (ci := 6) hx hb hg uw_M hown hK hP (0) (by decide) (lm_M aC b _) rfl 9 (by decide) (hg _ fl_M_35) (fun _ h9 => h9) rfl d_M_deliver_103 ?_
        refine lv_iload_n hx hb d_M_deliver_106 rfl (lv_at hl 5 rfl) ?_
        refine lv_iload hx hb d_M_deliver_107 (lv_at hl 0 rfl) ?_
        refine lv_if_eq (tgt := 117) hx hb d_M_deliver_109 rfl (fun h => absurd h (by decide)) (fun _ => ?_)
        refine lv_iload hx hb d_M_deliver_112 (lv_at hl 3 rfl) ?_
        refine lv_goto (tgt := 123) hx hb d_M_deliver_114 rfl ?_
        refine fm_iast hx hb hK (fun _ h => h) hP hS (9) (by decide) 0 (lm_newest aC b _) rfl ((mu 10 (5 * kk.toNatClampNeg)).toNatClampNeg) (vp_e (n := 3) (smf_a0 hI (k5 _))) (vp_l (n := 3) (smf_a0 hI (k5 _))) (by decide) (lm_newest aC b _) d_M_deliver_123 (fun H locs hP hS => ?_)
        refine lv_iload hx hb d_M_deliver_124 (lv_at hl 0 rfl) ?_
        refine lv_if_eq (tgt := 133) hx hb d_M_deliver_126 rfl (fun h => absurd h (by decide)) (fun _ => ?_)
        refine lv_iconst (v := 1) hx hb d_M_deliver_129 (by decide) ?_
        refine lv_goto (tgt := 134) hx hb d_M_deliver_130 rfl ?_
        exact rw_iret hx hb hr hlocks hK hP hS hf d_M_deliver_134
  · have hf := hf.trans (if_pos h5)
    refine lv_iconst (v := (-1)) hx hb d_M_deliver_8 (by decide) ?_
    exact rw_iret hx hb hr hlocks hK hP hS hf d_M_deliver_9
set_option maxHeartbeats 4000000 in
set_option maxRecDepth 100000 in
theorem c_M_deliver (l : Launch) (dC : Nat → ClassId) (dI : Nat → Nat → Nat) (aC : Nat → ClassId) (b : Nat) (mu : fm_T) (kk : Int32) (hI : SafM mu) (hrep : ∀ i, i < (mu 0 11).toNatClampNeg → ¬ mu 10 (5 * i + 1) = 1 → vp_in (mu 10 (5 * i + 4) + mu 10 (5 * i + 3)) 513 ∧ (mu 10 (5 * i + 4)).toNatClampNeg ≤ (mu 10 (5 * i + 4) + mu 10 (5 * i + 3)).toNatClampNeg) : Met l y_M_deliver w_M_deliver { frames := 1, cells := 0, slots := 0, locals := 22 } (va_Pc [.ref (b + 0), .int kk] (fm_C (dC, dI) clsx (tysx aC) (LM aC b) b 11 (XM) mu)) (va_Qi (fun r u => r = (f_M_deliver mu kk).1 ∧ u = (f_M_deliver mu kk).2) (fm_B (dC, dI) clsx (tysx aC) (LM aC b) b 11) (fm_A b 11)) 0 0 (fm_A b 11) := by
  refine Met.ofW (cc := b_M_deliver) (maxL := 9) (ret := (some .int)) (by decide) rfl ?_
  intro p e s m args below meth cd s₁ B hml hv
  obtain ⟨rfl, hP, hK, hX⟩ := hv
  have hl := lv_entry ([.ref (b + 0), .int kk]) (n := 9) (Nat.le_of_ble_eq_true rfl)
  rw [lg_entry_eq]
  generalize (lg_sl ([.ref (b + 0), .int kk]) ++ List.replicate (9 - (lg_sl ([.ref (b + 0), .int kk])).length) Slot.unset).toArray = ls at hl ⊢
  exact k_M_deliver l dC dI aC b ⟨B.exec, B.bytes, B.returns, hml, findClass_of_methodNamed B.named, atoms_spec (ws := w_M_deliver) B.pre, B.notSynchronized, hK, hX⟩ mu kk hI hrep _ _ ls _ hP va_S.rf hl rfl
def f_M_lose (mu : fm_T) (kk : Int32) : Int32 × fm_T := (if (f_M_there mu kk) = 0 then (0, mu) else (1, (f_M_takeOut mu kk)))
theorem e_M_lose (mu : fm_T) (kk : Int32) : f_M_lose mu kk = (if (f_M_there mu kk) = 0 then (0, mu) else (1, (f_M_takeOut mu kk))) := rfl
set_option maxHeartbeats 4000000 in
set_option maxRecDepth 100000 in
theorem k_M_lose (l : Launch) (dC : Nat → ClassId) (dI : Nat → Nat → Nat) (aC : Nat → ClassId) (b : Nat) {p : Program} {e : Env} {s : State} {m : MethodId} {args : Array Value} {below : List Frame} {meth : Method} {cd : Code} (hc : cx (dC, dI) (tysx aC) (XM) w_M_lose b_M_lose R_M 2 (some .boolean) p s m args meth cd) (mu : fm_T) (kk : Int32) (hI : SafM mu) (H : Heap) (locs : List Loc) (ls : Array Slot) (F : Int32 × fm_T) (hP : va_P (dC, dI) clsx (fm_w (LM aC b) b 11 mu) H) (hS : va_S (fm_A b 11) s.heap H locs) (hl : lv_has ls 2 [(0, .ref (b + 0)), (1, .int kk)]) (hf : F = f_M_lose mu kk) : W p l e { frames := 1, cells := 0, slots := 0, locals := 22 } s m args below meth cd H locs 0 0 (MQ below (va_Qi (fun r u => r = F.1 ∧ u = F.2) (fm_B (dC, dI) clsx (tysx aC) (LM aC b) b 11) (fm_A b 11)) args s 0 0 (fm_A b 11)) (F0 m 0 ls []) := by
  obtain ⟨hx, hb, hr, hml, hown, hts, hlocks, hK, hX⟩ := hc
  have hg : ∀ w ∈ gtbl, w.before args s = true := fun w h => hts w (List.mem_cons_of_mem _ h)
  have hf := hf.trans (e_M_lose mu kk)
  refine lv_aload_n hx hb d_M_lose_0 rfl (lv_at hl 0 rfl) ?_
  refine lv_iload_n hx hb d_M_lose_1 rfl (lv_at hl 1 rfl) ?_
  refine ro_call (va_runV (As := [.int kk]) (rest := []) ⟨hx, hb, hml, hown, hts⟩ (c_M_there l dC dI aC b mu kk) (cw_V (fun w h => List.mem_cons_of_mem _ h) hts kv_M_there ml_M_82 ⟨Nat.le_of_ble_eq_true rfl, Nat.le_of_ble_eq_true rfl⟩ rfl rfl) (fm_preV XM_bl (XM_mv hX hS) hK hP (0) (by decide) (lm_M aC b _) rfl) rfl rfl hl.1 rfl (lv_room (Nat.le_of_ble_eq_true rfl)) d_M_lose_2 ⟨Nat.zero_le _, Nat.zero_le _⟩) ?_
  refine lv_if_ne (tgt := 10) hx hb d_M_lose_5 rfl (fun h5 => ?_) (fun h5 => ?_)
  · have hf := hf.trans (if_neg h5)
    refine lv_aload_n hx hb d_M_lose_10 rfl (lv_at hl 0 rfl) ?_
    refine lv_iload_n hx hb d_M_lose_11 rfl (lv_at hl 1 rfl) ?_
    refine fm_callv (va_runV (As := [.int kk]) (rest := []) ⟨hx, hb, hml, hown, hts⟩ (c_M_takeOut l dC dI aC b mu kk hI (th0 h5) (th1 h5)) (cw_V (fun w h => List.mem_cons_of_mem _ h) hts kv_M_takeOut ml_M_85 ⟨Nat.le_of_ble_eq_true rfl, Nat.le_of_ble_eq_true rfl⟩ rfl rfl) (fm_preV XM_bl (XM_mv hX hS) hK hP (0) (by decide) (lm_M aC b _) rfl) rfl rfl hl.1 rfl (lv_room (Nat.le_of_ble_eq_true rfl)) d_M_lose_12 ⟨Nat.zero_le _, Nat.zero_le _⟩) hS (fun _ h => h) (fun u H locs hp hP hS => ?_)
    subst hp
    refine lv_iconst (v := 1) hx hb d_M_lose_15 (by decide) ?_
    exact rw_zret hx hb hr hlocks hK hP hS rfl hf d_M_lose_16
  · have hf := hf.trans (if_pos h5)
    refine lv_iconst (v := 0) hx hb d_M_lose_8 (by decide) ?_
    exact rw_zret hx hb hr hlocks hK hP hS rfl hf d_M_lose_9
set_option maxHeartbeats 4000000 in
set_option maxRecDepth 100000 in
theorem c_M_lose (l : Launch) (dC : Nat → ClassId) (dI : Nat → Nat → Nat) (aC : Nat → ClassId) (b : Nat) (mu : fm_T) (kk : Int32) (hI : SafM mu) : Met l y_M_lose w_M_lose { frames := 1, cells := 0, slots := 0, locals := 22 } (va_Pc [.ref (b + 0), .int kk] (fm_C (dC, dI) clsx (tysx aC) (LM aC b) b 11 (XM) mu)) (va_Qi (fun r u => r = (f_M_lose mu kk).1 ∧ u = (f_M_lose mu kk).2) (fm_B (dC, dI) clsx (tysx aC) (LM aC b) b 11) (fm_A b 11)) 0 0 (fm_A b 11) := by
  refine Met.ofW (cc := b_M_lose) (maxL := 2) (ret := (some .boolean)) (by decide) rfl ?_
  intro p e s m args below meth cd s₁ B hml hv
  obtain ⟨rfl, hP, hK, hX⟩ := hv
  have hl := lv_entry ([.ref (b + 0), .int kk]) (n := 2) (Nat.le_of_ble_eq_true rfl)
  rw [lg_entry_eq]
  generalize (lg_sl ([.ref (b + 0), .int kk]) ++ List.replicate (2 - (lg_sl ([.ref (b + 0), .int kk])).length) Slot.unset).toArray = ls at hl ⊢
  exact k_M_lose l dC dI aC b ⟨B.exec, B.bytes, B.returns, hml, findClass_of_methodNamed B.named, atoms_spec (ws := w_M_lose) B.pre, B.notSynchronized, hK, hX⟩ mu kk hI _ _ ls _ hP va_S.rf hl rfl
def f_M_copy (mu : fm_T) (kk : Int32) : Int32 × fm_T := (if (f_M_there mu kk) = 0 then (0, mu) else (if (mu 0 11) = 24 then (0, mu) else (1, (f_M_send mu (mu 10 (5 * kk.toNatClampNeg)) (mu 10 (5 * kk.toNatClampNeg + 1)) (mu 10 (5 * kk.toNatClampNeg + 2)) (mu 10 (5 * kk.toNatClampNeg + 3)) (mu 10 (5 * kk.toNatClampNeg + 4))))))
theorem e_M_copy (mu : fm_T) (kk : Int32) : f_M_copy mu kk = (if (f_M_there mu kk) = 0 then (0, mu) else (if (mu 0 11) = 24 then (0, mu) else (1, (f_M_send mu (mu 10 (5 * kk.toNatClampNeg)) (mu 10 (5 * kk.toNatClampNeg + 1)) (mu 10 (5 * kk.toNatClampNeg + 2)) (mu 10 (5 * kk.toNatClampNeg + 3)) (mu 10 (5 * kk.toNatClampNeg + 4)))))) := rfl
set_option maxHeartbeats 4000000 in
set_option maxRecDepth 100000 in
theorem k_M_copy (l : Launch) (dC : Nat → ClassId) (dI : Nat → Nat → Nat) (aC : Nat → ClassId) (b : Nat) {p : Program} {e : Env} {s : State} {m : MethodId} {args : Array Value} {below : List Frame} {meth : Method} {cd : Code} (hc : cx (dC, dI) (tysx aC) (XM) w_M_copy b_M_copy R_M 3 (some .boolean) p s m args meth cd) (mu : fm_T) (kk : Int32) (hI : SafM mu) (H : Heap) (locs : List Loc) (ls : Array Slot) (F : Int32 × fm_T) (hP : va_P (dC, dI) clsx (fm_w (LM aC b) b 11 mu) H) (hS : va_S (fm_A b 11) s.heap H locs) (hl : lv_has ls 3 [(0, .ref (b + 0)), (1, .int kk)]) (hf : F = f_M_copy mu kk) : W p l e { frames := 1, cells := 0, slots := 0, locals := 26 } s m args below meth cd H locs 0 0 (MQ below (va_Qi (fun r u => r = F.1 ∧ u = F.2) (fm_B (dC, dI) clsx (tysx aC) (LM aC b) b 11) (fm_A b 11)) args s 0 0 (fm_A b 11)) (F0 m 0 ls []) := by
  obtain ⟨hx, hb, hr, hml, hown, hts, hlocks, hK, hX⟩ := hc
  have hg : ∀ w ∈ gtbl, w.before args s = true := fun w h => hts w (List.mem_cons_of_mem _ h)
  have hf := hf.trans (e_M_copy mu kk)
  refine lv_aload_n hx hb d_M_copy_0 rfl (lv_at hl 0 rfl) ?_
  refine lv_iload_n hx hb d_M_copy_1 rfl (lv_at hl 1 rfl) ?_
  refine ro_call (va_runV (As := [.int kk]) (rest := []) ⟨hx, hb, hml, hown, hts⟩ (c_M_there l dC dI aC b mu kk) (cw_V (fun w h => List.mem_cons_of_mem _ h) hts kv_M_there ml_M_82 ⟨Nat.le_of_ble_eq_true rfl, Nat.le_of_ble_eq_true rfl⟩ rfl rfl) (fm_preV XM_bl (XM_mv hX hS) hK hP (0) (by decide) (lm_M aC b _) rfl) rfl rfl hl.1 rfl (lv_room (Nat.le_of_ble_eq_true rfl)) d_M_copy_2 ⟨Nat.zero_le _, Nat.zero_le _⟩) ?_
  refine lv_if_eq (tgt := 17) hx hb d_M_copy_5 rfl (fun h5 => ?_) (fun h5 => ?_)
  · have hf := hf.trans (if_pos h5)
    refine lv_iconst (v := 0) hx hb d_M_copy_17 (by decide) ?_
    exact rw_zret hx hb hr hlocks hK hP hS rfl hf d_M_copy_18
  · have hf := hf.trans (if_neg h5)
    refine lv_aload_n hx hb d_M_copy_8 rfl (lv_at hl 0 rfl) ?_
    refine fm_get (C := R_M) (T := T_M) (n := 12) (ci := 6) hx hb hg uw_M hown hK hP (0) (by decide) (lm_M aC b _) rfl 11 (by decide) (hg _ fl_M_60) (fun _ h9 => h9) rfl d_M_copy_9 ?_
    refine lv_bipush (v := 24) hx hb d_M_copy_12 (by decide) ?_
    refine lv_icmp_ne (tgt := 19) hx hb d_M_copy_14 rfl (fun h14 => ?_) (fun h14 => ?_)
    · have hf := hf.trans (if_neg h14)
      refine lv_iconst (v := 5) hx hb d_M_copy_19 (by decide) ?_
      refine lv_iload_n hx hb d_M_copy_20 rfl (lv_at hl 1 rfl) ?_
      refine lv_imul hx hb d_M_copy_21 ?_
      refine lv_cv (y := nI (5 * kk.toNatClampNeg)) (mt_e hI (th0 h5) (th1 h5)) ?_
      refine lv_istore_n (lv' := [(2, .int (nI (5 * kk.toNatClampNeg))), (0, .ref (b + 0)), (1, .int kk)]) hx hb d_M_copy_22 rfl hl (by decide) rfl (fun ls hl => ?_)
      have hkl := vp_l (mt_in hI (th0 h5) (th1 h5))
      refine lv_aload_n hx hb d_M_copy_23 rfl (lv_at hl 1 rfl) ?_
      refine lv_aload_n hx hb d_M_copy_24 rfl (lv_at hl 1 rfl) ?_
      refine fm_get (C := R_M) (T := T_M) (n := 12) (ci := 6) hx hb hg uw_M hown hK hP (0) (by decide) (lm_M aC b _) rfl 10 (by decide) (hg _ fl_M_38) (fun _ h9 => h9) rfl d_M_copy_25 ?_
      refine lv_iload_n hx hb d_M_copy_28 rfl (lv_at hl 0 rfl) ?_
      refine fm_iald hx hb hK hP (10) (by decide) 0 (lm_air aC b _) rfl (5 * kk.toNatClampNeg) rfl (by omega) (by decide) d_M_copy_29 ?_
      refine lv_aload_n hx hb d_M_copy_30 rfl (lv_at hl 1 rfl) ?_
      refine fm_get (C := R_M) (T := T_M) (n := 12) (ci := 6) hx hb hg uw_M hown hK hP (0) (by decide) (lm_M aC b _) rfl 10 (by decide) (hg _ fl_M_38) (fun _ h9 => h9) rfl d_M_copy_31 ?_
      refine lv_iload_n hx hb d_M_copy_34 rfl (lv_at hl 0 rfl) ?_
      refine lv_iconst (v := 1) hx hb d_M_copy_35 (by decide) ?_
      refine lv_iadd hx hb d_M_copy_36 ?_
      refine lv_cv (y := nI (5 * kk.toNatClampNeg + 1)) (nI_add _ 1) ?_
      refine fm_iald hx hb hK hP (10) (by decide) 0 (lm_air aC b _) rfl (5 * kk.toNatClampNeg + 1) rfl (by omega) (by decide) d_M_copy_37 ?_
      refine lv_aload_n hx hb d_M_copy_38 rfl (lv_at hl 1 rfl) ?_
      refine fm_get (C := R_M) (T := T_M) (n := 12) (ci := 6) hx hb hg uw_M hown hK hP (0) (by decide) (lm_M aC b _) rfl 10 (by decide) (hg _ fl_M_38) (fun _ h9 => h9) rfl d_M_copy_39 ?_
      refine lv_iload_n hx hb d_M_copy_42 rfl (lv_at hl 0 rfl) ?_
      refine lv_iconst (v := 2) hx hb d_M_copy_43 (by decide) ?_
      refine lv_iadd hx hb d_M_copy_44 ?_
      refine lv_cv (y := nI (5 * kk.toNatClampNeg + 2)) (nI_add _ 2) ?_
      refine fm_iald hx hb hK hP (10) (by decide) 0 (lm_air aC b _) rfl (5 * kk.toNatClampNeg + 2) rfl (by omega) (by decide) d_M_copy_45 ?_
      refine lv_aload_n hx hb d_M_copy_46 rfl (lv_at hl 1 rfl) ?_
      refine fm_get (C := R_M) (T := T_M) (n := 12) (ci := 6) hx hb hg uw_M hown hK hP (0) (by decide) (lm_M aC b _) rfl 10 (by decide) (hg _ fl_M_38) (fun _ h9 => h9) rfl d_M_copy_47 ?_
      refine lv_iload_n hx hb d_M_copy_50 rfl (lv_at hl 0 rfl) ?_
      refine lv_iconst (v := 3) hx hb d_M_copy_51 (by decide) ?_
      refine lv_iadd hx hb d_M_copy_52 ?_
      refine lv_cv (y := nI (5 * kk.toNatClampNeg + 3)) (nI_add _ 3) ?_
      refine fm_iald hx hb hK hP (10) (by decide) 0 (lm_air aC b _) rfl (5 * kk.toNatClampNeg + 3) rfl (by omega) (by decide) d_M_copy_53 ?_
      refine lv_aload_n hx hb d_M_copy_54 rfl (lv_at hl 1 rfl) ?_
      refine fm_get (C := R_M) (T := T_M) (n := 12) (ci := 6) hx hb hg uw_M hown hK hP (0) (by decide) (lm_M aC b _) rfl 10 (by decide) (hg _ fl_M_38) (fun _ h9 => h9) rfl d_M_copy_55 ?_
      refine lv_iload_n hx hb d_M_copy_58 rfl (lv_at hl 0 rfl) ?_
      refine lv_iconst (v := 4) hx hb d_M_copy_59 (by decide) ?_
      refine lv_iadd hx hb d_M_copy_60 ?_
      refine lv_cv (y := nI (5 * kk.toNatClampNeg + 4)) (nI_add _ 4) ?_
      refine fm_iald hx hb hK hP (10) (by decide) 0 (lm_air aC b _) rfl (5 * kk.toNatClampNeg + 4) rfl (by omega) (by decide) d_M_copy_61 ?_
      refine fm_callv (va_runV (As := [.int (mu 10 (5 * kk.toNatClampNeg)), .int (mu 10 (5 * kk.toNatClampNeg + 1)), .int (mu 10 (5 * kk.toNatClampNeg + 2)), .int (mu 10 (5 * kk.toNatClampNeg + 3)), .int (mu 10 (5 * kk.toNatClampNeg + 4))]) (rest := []) ⟨hx, hb, hml, hown, hts⟩ (c_M_send l dC dI aC b mu (mu 10 (5 * kk.toNatClampNeg)) (mu 10 (5 * kk.toNatClampNeg + 1)) (mu 10 (5 * kk.toNatClampNeg + 2)) (mu 10 (5 * kk.toNatClampNeg + 3)) (mu 10 (5 * kk.toNatClampNeg + 4)) hI) (cw_V (fun w h => List.mem_cons_of_mem _ h) hts kv_M_send ml_M_63 ⟨Nat.le_of_ble_eq_true rfl, Nat.le_of_ble_eq_true rfl⟩ rfl rfl) (fm_preV XM_bl (XM_mv hX hS) hK hP (0) (by decide) (lm_M aC b _) rfl) rfl rfl hl.1 rfl (lv_room (Nat.le_of_ble_eq_true rfl)) d_M_copy_62 ⟨Nat.zero_le _, Nat.zero_le _⟩) hS (fun _ h => h) (fun u H locs hp hP hS => ?_)
      subst hp
      refine lv_iconst (v := 1) hx hb d_M_copy_65 (by decide) ?_
      exact rw_zret hx hb hr hlocks hK hP hS rfl hf d_M_copy_66
    · have hf := hf.trans (if_pos h14)
      refine lv_iconst (v := 0) hx hb d_M_copy_17 (by decide) ?_
      exact rw_zret hx hb hr hlocks hK hP hS rfl hf d_M_copy_18
set_option maxHeartbeats 4000000 in
set_option maxRecDepth 100000 in
theorem c_M_copy (l : Launch) (dC : Nat → ClassId) (dI : Nat → Nat → Nat) (aC : Nat → ClassId) (b : Nat) (mu : fm_T) (kk : Int32) (hI : SafM mu) : Met l y_M_copy w_M_copy { frames := 1, cells := 0, slots := 0, locals := 26 } (va_Pc [.ref (b + 0), .int kk] (fm_C (dC, dI) clsx (tysx aC) (LM aC b) b 11 (XM) mu)) (va_Qi (fun r u => r = (f_M_copy mu kk).1 ∧ u = (f_M_copy mu kk).2) (fm_B (dC, dI) clsx (tysx aC) (LM aC b) b 11) (fm_A b 11)) 0 0 (fm_A b 11) := by
  refine Met.ofW (cc := b_M_copy) (maxL := 3) (ret := (some .boolean)) (by decide) rfl ?_
  intro p e s m args below meth cd s₁ B hml hv
  obtain ⟨rfl, hP, hK, hX⟩ := hv
  have hl := lv_entry ([.ref (b + 0), .int kk]) (n := 3) (Nat.le_of_ble_eq_true rfl)
  rw [lg_entry_eq]
  generalize (lg_sl ([.ref (b + 0), .int kk]) ++ List.replicate (3 - (lg_sl ([.ref (b + 0), .int kk])).length) Slot.unset).toArray = ls at hl ⊢
  exact k_M_copy l dC dI aC b ⟨B.exec, B.bytes, B.returns, hml, findClass_of_methodNamed B.named, atoms_spec (ws := w_M_copy) B.pre, B.notSynchronized, hK, hX⟩ mu kk hI _ _ ls _ hP va_S.rf hl rfl
def f_M_packet (mu : fm_T) (kk : Int32) (wh : Int32) : Int32 := (if (f_M_there mu kk) = 0 then (-1) else (if wh < 0 then (-1) else (if wh ≤ 5 then (if wh = 2 then f_M_size mu (5 * kk.toNatClampNeg) else (if 2 ≤ wh then mu 10 ((((nI (5 * kk.toNatClampNeg)) + wh) - 1).toNatClampNeg) else mu 10 (((nI (5 * kk.toNatClampNeg)) + wh).toNatClampNeg))) else (-1))))
theorem e_M_packet (mu : fm_T) (kk : Int32) (wh : Int32) : f_M_packet mu kk wh = (if (f_M_there mu kk) = 0 then (-1) else (if wh < 0 then (-1) else (if wh ≤ 5 then (if wh = 2 then f_M_size mu (5 * kk.toNatClampNeg) else (if 2 ≤ wh then mu 10 ((((nI (5 * kk.toNatClampNeg)) + wh) - 1).toNatClampNeg) else mu 10 (((nI (5 * kk.toNatClampNeg)) + wh).toNatClampNeg))) else (-1)))) := rfl
set_option maxHeartbeats 4000000 in
set_option maxRecDepth 100000 in
theorem k_M_packet (l : Launch) (dC : Nat → ClassId) (dI : Nat → Nat → Nat) (aC : Nat → ClassId) (b : Nat) {p : Program} {e : Env} {s : State} {m : MethodId} {args : Array Value} {below : List Frame} {meth : Method} {cd : Code} (hc : cx (dC, dI) (tysx aC) (XM) w_M_packet b_M_packet R_M 4 (some .int) p s m args meth cd) (mu : fm_T) (kk : Int32) (wh : Int32) (hI : SafM mu) (ls : Array Slot) (F : Int32) (hP : va_P (dC, dI) clsx (fm_w (LM aC b) b 11 mu) s.heap) (hl : lv_has ls 4 [(0, .ref (b + 0)), (1, .int kk), (2, .int wh)]) (hf : F = f_M_packet mu kk wh) : W p l e { frames := 4, cells := 0, slots := 0, locals := 97 } s m args below meth cd s.heap [] 0 0 (MQ below (QcRead F) args s 0 0 (fun _ => False)) (F0 m 0 ls []) := by
  obtain ⟨hx, hb, hr, hml, hown, hts, hlocks, hK, hX⟩ := hc
  have hg : ∀ w ∈ gtbl, w.before args s = true := fun w h => hts w (List.mem_cons_of_mem _ h)
  have hS : va_S (fm_A b 11) s.heap s.heap [] := va_S.rf
  have hf := hf.trans (e_M_packet mu kk wh)
  refine lv_aload_n hx hb d_M_packet_0 rfl (lv_at hl 0 rfl) ?_
  refine lv_iload_n hx hb d_M_packet_1 rfl (lv_at hl 1 rfl) ?_
  refine ro_call (va_runV (As := [.int kk]) (rest := []) ⟨hx, hb, hml, hown, hts⟩ (c_M_there l dC dI aC b mu kk) (cw_V (fun w h => List.mem_cons_of_mem _ h) hts kv_M_there ml_M_82 ⟨Nat.le_of_ble_eq_true rfl, Nat.le_of_ble_eq_true rfl⟩ rfl rfl) (fm_preV XM_bl (XM_mv hX hS) hK hP (0) (by decide) (lm_M aC b _) rfl) rfl rfl hl.1 rfl (lv_room (Nat.le_of_ble_eq_true rfl)) d_M_packet_2 ⟨Nat.zero_le _, Nat.zero_le _⟩) ?_
  refine lv_if_eq (tgt := 17) hx hb d_M_packet_5 rfl (fun h5 => ?_) (fun h5 => ?_)
  · have hf := hf.trans (if_pos h5)
    refine lv_iconst (v := (-1)) hx hb d_M_packet_17 (by decide) ?_
    exact ro_iret hx hb hr hlocks hf d_M_packet_18
  · have hf := hf.trans (if_neg h5)
    refine lv_iload_n hx hb d_M_packet_8 rfl (lv_at hl 2 rfl) ?_
    refine lv_if_lt (tgt := 17) hx hb d_M_packet_9 rfl (fun h9 => ?_) (fun h9 => ?_)
    · have hf := hf.trans (if_pos h9)
      refine lv_iconst (v := (-1)) hx hb d_M_packet_17 (by decide) ?_
      exact ro_iret hx hb hr hlocks hf d_M_packet_18
    · have hf := hf.trans (if_neg h9)
      refine lv_iload_n hx hb d_M_packet_12 rfl (lv_at hl 2 rfl) ?_
      refine lv_iconst (v := 5) hx hb d_M_packet_13 (by decide) ?_
      refine lv_icmp_le (tgt := 19) hx hb d_M_packet_14 rfl (fun h14 => ?_) (fun h14 => ?_)
      · have hf := hf.trans (if_pos h14)
        refine lv_iconst (v := 5) hx hb d_M_packet_19 (by decide) ?_
        refine lv_iload_n hx hb d_M_packet_20 rfl (lv_at hl 1 rfl) ?_
        refine lv_imul hx hb d_M_packet_21 ?_
        refine lv_cv (y := nI (5 * kk.toNatClampNeg)) (mt_e hI (th0 h5) (th1 h5)) ?_
        refine lv_istore_n (lv' := [(3, .int (nI (5 * kk.toNatClampNeg))), (0, .ref (b + 0)), (1, .int kk), (2, .int wh)]) hx hb d_M_packet_22 rfl hl (by decide) rfl (fun ls hl => ?_)
        have hk := mt_in hI (th0 h5) (th1 h5)
        have hkl := vp_l hk
        refine lv_iload_n hx hb d_M_packet_23 rfl (lv_at hl 3 rfl) ?_
        refine lv_iconst (v := 2) hx hb d_M_packet_24 (by decide) ?_
        refine lv_icmp_ne (tgt := 36) hx hb d_M_packet_25 rfl (fun h25 => ?_) (fun h25 => ?_)
        · have hf := hf.trans (if_neg h25)
          refine lv_iload_n hx hb d_M_packet_36 rfl (lv_at hl 3 rfl) ?_
          refine lv_iconst (v := 2) hx hb d_M_packet_37 (by decide) ?_
          refine lv_icmp_ge (tgt := 52) hx hb d_M_packet_38 rfl (fun h38 => ?_) (fun h38 => ?_)
          · have hf := hf.trans (if_pos h38)
            refine lv_aload_n hx hb d_M_packet_52 rfl (lv_at hl 1 rfl) ?_
            refine fm_get (C := R_M) (T := T_M) (n := 12) (ci := 6) hx hb hg uw_M hown hK hP (0) (by decide) (lm_M aC b _) rfl 10 (by decide) (hg _ fl_M_38) (fun _ h9 => h9) rfl d_M_packet_53 ?_
            refine lv_iload_n hx hb d_M_packet_56 rfl (lv_at hl 0 rfl) ?_
            refine lv_iload_n hx hb d_M_packet_57 rfl (lv_at hl 3 rfl) ?_
            refine lv_iadd hx hb d_M_packet_58 ?_
            refine lv_iconst (v := 1) hx hb d_M_packet_59 (by decide) ?_
            refine lv_isub hx hb d_M_packet_60 ?_
            refine fm_iald hx hb hK hP (10) (by decide) 0 (lm_air aC b _) rfl ((((nI (5 * kk.toNatClampNeg)) + wh) - 1).toNatClampNeg) (vp_e (n := 120) (pb_in hk h14 h38 h25)) (vp_l (n := 120) (pb_in hk h14 h38 h25)) (by decide) d_M_packet_61 ?_
            exact ro_iret hx hb hr hlocks hf d_M_packet_62
          · have hf := hf.trans (if_neg h38)
            refine lv_aload_n hx hb d_M_packet_41 rfl (lv_at hl 1 rfl) ?_
            refine fm_get (C := R_M) (T := T_M) (n := 12) (ci := 6) hx hb hg uw_M hown hK hP (0) (by decide) (lm_M aC b _) rfl 10 (by decide) (hg _ fl_M_38) (fun _ h9 => h9) rfl d_M_packet_42 ?_
            refine lv_iload_n hx hb d_M_packet_45 rfl (lv_at hl 0 rfl) ?_
            refine lv_iload_n hx hb d_M_packet_46 rfl (lv_at hl 3 rfl) ?_
            refine lv_iadd hx hb d_M_packet_47 ?_
            refine fm_iald hx hb hK hP (10) (by decide) 0 (lm_air aC b _) rfl (((nI (5 * kk.toNatClampNeg)) + wh).toNatClampNeg) (vp_e (n := 120) (pa_in hk h9 h38)) (vp_l (n := 120) (pa_in hk h9 h38)) (by decide) d_M_packet_48 ?_
            refine lv_goto (tgt := 62) hx hb d_M_packet_49 rfl ?_
            exact ro_iret hx hb hr hlocks hf d_M_packet_62
        · have hf := hf.trans (if_pos h25)
          refine lv_aload_n hx hb d_M_packet_28 rfl (lv_at hl 1 rfl) ?_
          refine lv_iload_n hx hb d_M_packet_29 rfl (lv_at hl 0 rfl) ?_
          refine ro_call (va_runV (As := [.int (nI (5 * kk.toNatClampNeg))]) (rest := []) ⟨hx, hb, hml, hown, hts⟩ (c_M_size l dC dI aC b mu (5 * kk.toNatClampNeg) hI (by omega)) (cw_V (fun w h => List.mem_cons_of_mem _ h) hts kv_M_size ml_M_89 ⟨Nat.le_of_ble_eq_true rfl, Nat.le_of_ble_eq_true rfl⟩ rfl rfl) (fm_preV XM_bl (XM_mv hX hS) hK hP (0) (by decide) (lm_M aC b _) rfl) rfl rfl hl.1 rfl (lv_room (Nat.le_of_ble_eq_true rfl)) d_M_packet_30 ⟨Nat.zero_le _, Nat.zero_le _⟩) ?_
          refine lv_goto (tgt := 62) hx hb d_M_packet_33 rfl ?_
          exact ro_iret hx hb hr hlocks hf d_M_packet_62
      · have hf := hf.trans (if_neg h14)
        refine lv_iconst (v := (-1)) hx hb d_M_packet_17 (by decide) ?_
        exact ro_iret hx hb hr hlocks hf d_M_packet_18
set_option maxHeartbeats 4000000 in
set_option maxRecDepth 100000 in
theorem c_M_packet (l : Launch) (dC : Nat → ClassId) (dI : Nat → Nat → Nat) (aC : Nat → ClassId) (b : Nat) (mu : fm_T) (kk : Int32) (wh : Int32) (hI : SafM mu) : Met l y_M_packet w_M_packet { frames := 4, cells := 0, slots := 0, locals := 97 } (va_Pc [.ref (b + 0), .int kk, .int wh] (fm_C (dC, dI) clsx (tysx aC) (LM aC b) b 11 (XM) mu)) (QcRead (f_M_packet mu kk wh)) 0 0 (fun _ => False) := by
  refine Met.ofW (cc := b_M_packet) (maxL := 4) (ret := (some .int)) (by decide) rfl ?_
  intro p e s m args below meth cd s₁ B hml hv
  obtain ⟨rfl, hP, hK, hX⟩ := hv
  have hl := lv_entry ([.ref (b + 0), .int kk, .int wh]) (n := 4) (Nat.le_of_ble_eq_true rfl)
  rw [lg_entry_eq]
  generalize (lg_sl ([.ref (b + 0), .int kk, .int wh]) ++ List.replicate (4 - (lg_sl ([.ref (b + 0), .int kk, .int wh])).length) Slot.unset).toArray = ls at hl ⊢
  exact k_M_packet l dC dI aC b ⟨B.exec, B.bytes, B.returns, hml, findClass_of_methodNamed B.named, atoms_spec (ws := w_M_packet) B.pre, B.notSynchronized, hK, hX⟩ mu kk wh hI ls _ hP hl rfl
def f_M_predicted_34 : Nat → fm_T → Int32 → Int32 → Nat → Int32
  | 0, _, _, _, _ => 0
  | n + 1, mu, cli, pp, j => (if (mu 7 cli.toNatClampNeg) < (nI j) then pp else (f_M_predicted_34 n mu cli (f_M_stepFrom mu pp (mu 5 (513 * cli.toNatClampNeg + j))) (j + 1)))
theorem e_M_predicted_34 (n : Nat) (mu : fm_T) (cli : Int32) (pp : Int32) (j : Nat) : f_M_predicted_34 (n + 1) mu cli pp j = (if (mu 7 cli.toNatClampNeg) < (nI j) then pp else (f_M_predicted_34 n mu cli (f_M_stepFrom mu pp (mu 5 (513 * cli.toNatClampNeg + j))) (j + 1))) := rfl
set_option maxHeartbeats 4000000 in
set_option maxRecDepth 100000 in
theorem k_M_predicted_34 (l : Launch) (dC : Nat → ClassId) (dI : Nat → Nat → Nat) (aC : Nat → ClassId) (b : Nat) {p : Program} {e : Env} {s : State} {m : MethodId} {args : Array Value} {below : List Frame} {meth : Method} {cd : Code} (hc : cx (dC, dI) (tysx aC) (XM) w_M_predicted b_M_predicted R_M 4 (some .int) p s m args meth cd) : ∀ (n : Nat) (mu : fm_T) (cli : Int32) (pp : Int32) (j : Nat) (hI : SafM mu) (hcl : vp_in cli 3) (hj : j ≤ 513) (hn : 513 < j + n) (ls : Array Slot) (F : Int32) (hP : va_P (dC, dI) clsx (fm_w (LM aC b) b 11 mu) s.heap) (hl : lv_has ls 4 [(0, .ref (b + 0)), (1, .int cli), (2, .int pp), (3, .int (nI j))]) (hf : F = f_M_predicted_34 n mu cli pp j), W p l e { frames := 2, cells := 0, slots := 0, locals := 45 } s m args below meth cd s.heap [] 0 0 (MQ below (QcRead F) args s 0 0 (fun _ => False)) (F0 m 34 ls []) := by
  obtain ⟨hx, hb, hr, hml, hown, hts, hlocks, hK, hX⟩ := hc
  have hg : ∀ w ∈ gtbl, w.before args s = true := fun w h => hts w (List.mem_cons_of_mem _ h)
  have hS : va_S (fm_A b 11) s.heap s.heap [] := va_S.rf
  intro n
  induction n with
  | zero =>
    intro mu cli pp j hI hcl hj hn ls F hP hl hf
    exfalso
    omega
  | succ n ih =>
    intro mu cli pp j hI hcl hj hn ls F hP hl hf
    have hf := hf.trans (e_M_predicted_34 n mu cli pp j)
    refine lv_iload_n hx hb d_M_predicted_34 rfl (lv_at hl 3 rfl) ?_
    refine lv_aload_n hx hb d_M_predicted_35 rfl (lv_at hl 0 rfl) ?_
    refine fm_get (C := R_M) (T := T_M) (n := 12) (ci := 6) hx hb hg uw_M hown hK hP (0) (by decide) (lm_M aC b _) rfl 7 (by decide) (hg _ fl_M_29) (fun _ h9 => h9) rfl d_M_predicted_36 ?_
    refine lv_iload_n hx hb d_M_predicted_39 rfl (lv_at hl 1 rfl) ?_
    refine fm_iald hx hb hK hP (7) (by decide) 0 (lm_issued aC b _) rfl cli.toNatClampNeg (vp_e (n := 3) hcl) (vp_l (n := 3) hcl) (by decide) d_M_predicted_40 ?_
    refine lv_icmp_gt (tgt := 68) hx hb d_M_predicted_41 rfl (fun h41 => ?_) (fun h41 => ?_)
    · have hf := hf.trans (if_pos h41)
      refine lv_iload_n hx hb d_M_predicted_68 rfl (lv_at hl 2 rfl) ?_
      exact ro_iret hx hb hr hlocks hf d_M_predicted_69
    · have hf := hf.trans (if_neg h41)
      have hj8 : j ≤ 512 := nle_iss (smf_iss hI _) h41 hj
      have hcl2 := vp_l hcl
      refine lv_aload_n hx hb d_M_predicted_44 rfl (lv_at hl 0 rfl) ?_
      refine lv_iload_n hx hb d_M_predicted_45 rfl (lv_at hl 2 rfl) ?_
      refine lv_aload_n hx hb d_M_predicted_46 rfl (lv_at hl 0 rfl) ?_
      refine fm_get (C := R_M) (T := T_M) (n := 12) (ci := 6) hx hb hg uw_M hown hK hP (0) (by decide) (lm_M aC b _) rfl 5 (by decide) (hg _ fl_M_23) (fun _ h9 => h9) rfl d_M_predicted_47 ?_
      refine lv_sipush (v := 513) hx hb d_M_predicted_50 (by decide) ?_
      refine lv_iload_n hx hb d_M_predicted_53 rfl (lv_at hl 1 rfl) ?_
      refine lv_imul hx hb d_M_predicted_54 ?_
      refine lv_iload_n hx hb d_M_predicted_55 rfl (lv_at hl 3 rfl) ?_
      refine lv_iadd hx hb d_M_predicted_56 ?_
      refine lv_cv (y := nI (513 * cli.toNatClampNeg + j)) (off_e hcl) ?_
      refine fm_iald hx hb hK hP (5) (by decide) 0 (lm_commands aC b _) rfl (513 * cli.toNatClampNeg + j) rfl (by omega) (by decide) d_M_predicted_57 ?_
      refine ro_call (va_runV (As := [.int pp, .int (mu 5 (513 * cli.toNatClampNeg + j))]) (rest := []) ⟨hx, hb, hml, hown, hts⟩ (c_M_stepFrom l dC dI aC b mu pp (mu 5 (513 * cli.toNatClampNeg + j))) (cw_V (fun w h => List.mem_cons_of_mem _ h) hts kv_M_stepFrom ml_M_67 ⟨Nat.le_of_ble_eq_true rfl, Nat.le_of_ble_eq_true rfl⟩ rfl rfl) (fm_preV XM_bl (XM_mv hX hS) hK hP (0) (by decide) (lm_M aC b _) rfl) rfl rfl hl.1 rfl (lv_room (Nat.le_of_ble_eq_true rfl)) d_M_predicted_58 ⟨Nat.zero_le _, Nat.zero_le _⟩) ?_
      refine lv_istore_n (lv' := [(2, .int (f_M_stepFrom mu pp (mu 5 (513 * cli.toNatClampNeg + j)))), (0, .ref (b + 0)), (1, .int cli), (3, .int (nI j))]) hx hb d_M_predicted_61 rfl hl (by decide) rfl (fun ls hl => ?_)
      refine lv_iinc (k := 3) (v := (nI (j + 1))) (lv' := [(3, .int (nI (j + 1))), (2, .int (f_M_stepFrom mu pp (mu 5 (513 * cli.toNatClampNeg + j)))), (0, .ref (b + 0)), (1, .int cli)]) hx hb d_M_predicted_62 hl rfl (nI_1 _) (by decide) rfl (fun ls hl => ?_)
      refine lv_goto (tgt := 34) hx hb d_M_predicted_65 rfl ?_
      exact ih mu cli (f_M_stepFrom mu pp (mu 5 (513 * cli.toNatClampNeg + j))) (j + 1) hI hcl (by omega) (by omega)  ls _ hP  (lv_sub hl [2, 3, 1, 0] rfl) hf
def f_M_predicted (mu : fm_T) (cli : Int32) : Int32 := (if (f_M_client cli) = 0 then (-1) else (f_M_predicted_34 514 mu cli (mu 3 (((8 * (mu 9 cli.toNatClampNeg)) + cli).toNatClampNeg)) ((f_M_seen mu cli).toNatClampNeg + 1)))
theorem e_M_predicted (mu : fm_T) (cli : Int32) : f_M_predicted mu cli = (if (f_M_client cli) = 0 then (-1) else (f_M_predicted_34 514 mu cli (mu 3 (((8 * (mu 9 cli.toNatClampNeg)) + cli).toNatClampNeg)) ((f_M_seen mu cli).toNatClampNeg + 1))) := rfl
set_option maxHeartbeats 4000000 in
set_option maxRecDepth 100000 in
theorem k_M_predicted (l : Launch) (dC : Nat → ClassId) (dI : Nat → Nat → Nat) (aC : Nat → ClassId) (b : Nat) {p : Program} {e : Env} {s : State} {m : MethodId} {args : Array Value} {below : List Frame} {meth : Method} {cd : Code} (hc : cx (dC, dI) (tysx aC) (XM) w_M_predicted b_M_predicted R_M 4 (some .int) p s m args meth cd) (mu : fm_T) (cli : Int32) (hI : SafM mu) (ls : Array Slot) (F : Int32) (hP : va_P (dC, dI) clsx (fm_w (LM aC b) b 11 mu) s.heap) (hl : lv_has ls 4 [(0, .ref (b + 0)), (1, .int cli)]) (hf : F = f_M_predicted mu cli) : W p l e { frames := 2, cells := 0, slots := 0, locals := 45 } s m args below meth cd s.heap [] 0 0 (MQ below (QcRead F) args s 0 0 (fun _ => False)) (F0 m 0 ls []) := by
  obtain ⟨hx, hb, hr, hml, hown, hts, hlocks, hK, hX⟩ := hc
  have hg : ∀ w ∈ gtbl, w.before args s = true := fun w h => hts w (List.mem_cons_of_mem _ h)
  have hS : va_S (fm_A b 11) s.heap s.heap [] := va_S.rf
  have hf := hf.trans (e_M_predicted mu cli)
  refine lv_iload_n hx hb d_M_predicted_0 rfl (lv_at hl 1 rfl) ?_
  refine ro_call (va_runS (As := [.int cli]) (rest := []) ⟨hx, hb, hml, hown, hts⟩ (c_M_client l dC dI aC b mu cli) (cw_S (fun w h => List.mem_cons_of_mem _ h) hts ks_M_client ml_M_53 ⟨Nat.le_of_ble_eq_true rfl, Nat.le_of_ble_eq_true rfl⟩ rfl rfl) (fm_preS XM_bl (XM_mv hX hS) hK hP) rfl rfl hl.1 rfl (lv_room (Nat.le_of_ble_eq_true rfl)) d_M_predicted_1 ⟨Nat.zero_le _, Nat.zero_le _⟩) ?_
  refine lv_if_ne (tgt := 9) hx hb d_M_predicted_4 rfl (fun h4 => ?_) (fun h4 => ?_)
  · have hf := hf.trans (if_neg h4)
    refine lv_aload_n hx hb d_M_predicted_9 rfl (lv_at hl 0 rfl) ?_
    refine fm_get (C := R_M) (T := T_M) (n := 12) (ci := 6) hx hb hg uw_M hown hK hP (0) (by decide) (lm_M aC b _) rfl 3 (by decide) (hg _ fl_M_17) (fun _ h9 => h9) rfl d_M_predicted_10 ?_
    refine lv_bipush (v := 8) hx hb d_M_predicted_13 (by decide) ?_
    refine lv_aload_n hx hb d_M_predicted_15 rfl (lv_at hl 0 rfl) ?_
    refine fm_get (C := R_M) (T := T_M) (n := 12) (ci := 6) hx hb hg uw_M hown hK hP (0) (by decide) (lm_M aC b _) rfl 9 (by decide) (hg _ fl_M_35) (fun _ h9 => h9) rfl d_M_predicted_16 ?_
    refine lv_iload_n hx hb d_M_predicted_19 rfl (lv_at hl 1 rfl) ?_
    refine fm_iald hx hb hK hP (9) (by decide) 0 (lm_newest aC b _) rfl cli.toNatClampNeg (vp_e (n := 3) (mc_in h4)) (vp_l (n := 3) (mc_in h4)) (by decide) d_M_predicted_20 ?_
    refine lv_imul hx hb d_M_predicted_21 ?_
    refine lv_iload_n hx hb d_M_predicted_22 rfl (lv_at hl 1 rfl) ?_
    refine lv_iadd hx hb d_M_predicted_23 ?_
    refine fm_iald hx hb hK hP (3) (by decide) 0 (lm_stood aC b _) rfl (((8 * (mu 9 cli.toNatClampNeg)) + cli).toNatClampNeg) (vp_e (n := 4104) (lin_in (k := 8) rfl (smf_new hI _) (vp_mono (k := 8) (mc_in h4) (by decide)) (by decide))) (vp_l (n := 4104) (lin_in (k := 8) rfl (smf_new hI _) (vp_mono (k := 8) (mc_in h4) (by decide)) (by decide))) (by decide) d_M_predicted_24 ?_
    refine lv_istore_n (lv' := [(2, .int (mu 3 (((8 * (mu 9 cli.toNatClampNeg)) + cli).toNatClampNeg))), (0, .ref (b + 0)), (1, .int cli)]) hx hb d_M_predicted_25 rfl hl (by decide) rfl (fun ls hl => ?_)
    refine lv_aload_n hx hb d_M_predicted_26 rfl (lv_at hl 1 rfl) ?_
    refine lv_iload_n hx hb d_M_predicted_27 rfl (lv_at hl 2 rfl) ?_
    refine ro_call (va_runV (As := [.int cli]) (rest := []) ⟨hx, hb, hml, hown, hts⟩ (c_M_seen l dC dI aC b mu cli (mc_in h4) hI) (cw_V (fun w h => List.mem_cons_of_mem _ h) hts kv_M_seen ml_M_56 ⟨Nat.le_of_ble_eq_true rfl, Nat.le_of_ble_eq_true rfl⟩ rfl rfl) (fm_preV XM_bl (XM_mv hX hS) hK hP (0) (by decide) (lm_M aC b _) rfl) rfl rfl hl.1 rfl (lv_room (Nat.le_of_ble_eq_true rfl)) d_M_predicted_28 ⟨Nat.zero_le _, Nat.zero_le _⟩) ?_
    refine lv_iconst (v := 1) hx hb d_M_predicted_31 (by decide) ?_
    refine lv_iadd hx hb d_M_predicted_32 ?_
    refine lv_cv (y := nI ((f_M_seen mu cli).toNatClampNeg + 1)) (plus_e (smf_seen hI _)) ?_
    refine lv_istore_n (lv' := [(3, .int (nI ((f_M_seen mu cli).toNatClampNeg + 1))), (2, .int (mu 3 (((8 * (mu 9 cli.toNatClampNeg)) + cli).toNatClampNeg))), (0, .ref (b + 0)), (1, .int cli)]) hx hb d_M_predicted_33 rfl hl (by decide) rfl (fun ls hl => ?_)
    exact k_M_predicted_34 l dC dI aC b ⟨hx, hb, hr, hml, hown, hts, hlocks, hK, hX⟩ 514 mu cli (mu 3 (((8 * (mu 9 cli.toNatClampNeg)) + cli).toNatClampNeg)) ((f_M_seen mu cli).toNatClampNeg + 1) hI (mc_in h4) (by have := vp_l (smf_seen (mu := mu) hI cli); omega) (by omega)  ls _ hP  (lv_sub hl [2, 3, 1, 0] rfl) hf
  · have hf := hf.trans (if_pos h4)
    refine lv_iconst (v := (-1)) hx hb d_M_predicted_7 (by decide) ?_
    exact ro_iret hx hb hr hlocks hf d_M_predicted_8
set_option maxHeartbeats 4000000 in
set_option maxRecDepth 100000 in
theorem c_M_predicted (l : Launch) (dC : Nat → ClassId) (dI : Nat → Nat → Nat) (aC : Nat → ClassId) (b : Nat) (mu : fm_T) (cli : Int32) (hI : SafM mu) : Met l y_M_predicted w_M_predicted { frames := 2, cells := 0, slots := 0, locals := 45 } (va_Pc [.ref (b + 0), .int cli] (fm_C (dC, dI) clsx (tysx aC) (LM aC b) b 11 (XM) mu)) (QcRead (f_M_predicted mu cli)) 0 0 (fun _ => False) := by
  refine Met.ofW (cc := b_M_predicted) (maxL := 4) (ret := (some .int)) (by decide) rfl ?_
  intro p e s m args below meth cd s₁ B hml hv
  obtain ⟨rfl, hP, hK, hX⟩ := hv
  have hl := lv_entry ([.ref (b + 0), .int cli]) (n := 4) (Nat.le_of_ble_eq_true rfl)
  rw [lg_entry_eq]
  generalize (lg_sl ([.ref (b + 0), .int cli]) ++ List.replicate (4 - (lg_sl ([.ref (b + 0), .int cli])).length) Slot.unset).toArray = ls at hl ⊢
  exact k_M_predicted l dC dI aC b ⟨B.exec, B.bytes, B.returns, hml, findClass_of_methodNamed B.named, atoms_spec (ws := w_M_predicted) B.pre, B.notSynchronized, hK, hX⟩ mu cli hI ls _ hP hl rfl
def f_M_count_14 : Nat → fm_T → Int32 → Int32 → Int32 → Nat → Int32
  | 0, _, _, _, _, _ => 0
  | n + 1, mu, cli, wh, hs, j => (if (mu 7 cli.toNatClampNeg) < (nI j) then (if wh = 0 then mu 7 cli.toNatClampNeg else (if wh = 1 then f_M_seen mu cli else (if wh = 2 then mu 4 (((3 * (mu 0 2)) + cli).toNatClampNeg) else (if wh = 3 then hs else (if wh = 4 then mu 9 cli.toNatClampNeg else (if wh = 5 then mu 8 cli.toNatClampNeg else (-1))))))) else (if (mu 6 (513 * cli.toNatClampNeg + j)) = 0 then (f_M_count_14 n mu cli wh hs (j + 1)) else (f_M_count_14 n mu cli wh (hs + 1) (j + 1))))
theorem e_M_count_14 (n : Nat) (mu : fm_T) (cli : Int32) (wh : Int32) (hs : Int32) (j : Nat) : f_M_count_14 (n + 1) mu cli wh hs j = (if (mu 7 cli.toNatClampNeg) < (nI j) then (if wh = 0 then mu 7 cli.toNatClampNeg else (if wh = 1 then f_M_seen mu cli else (if wh = 2 then mu 4 (((3 * (mu 0 2)) + cli).toNatClampNeg) else (if wh = 3 then hs else (if wh = 4 then mu 9 cli.toNatClampNeg else (if wh = 5 then mu 8 cli.toNatClampNeg else (-1))))))) else (if (mu 6 (513 * cli.toNatClampNeg + j)) = 0 then (f_M_count_14 n mu cli wh hs (j + 1)) else (f_M_count_14 n mu cli wh (hs + 1) (j + 1)))) := rfl
set_option maxHeartbeats 4000000 in
set_option maxRecDepth 100000 in
theorem k_M_count_14 (l : Launch) (dC : Nat → ClassId) (dI : Nat → Nat → Nat) (aC : Nat → ClassId) (b : Nat) {p : Program} {e : Env} {s : State} {m : MethodId} {args : Array Value} {below : List Frame} {meth : Method} {cd : Code} (hc : cx (dC, dI) (tysx aC) (XM) w_M_count b_M_count R_M 5 (some .int) p s m args meth cd) : ∀ (n : Nat) (mu : fm_T) (cli : Int32) (wh : Int32) (hs : Int32) (j : Nat) (hI : SafM mu) (hcl : vp_in cli 3) (hj : j ≤ 513) (hn : 513 < j + n) (ls : Array Slot) (F : Int32) (hP : va_P (dC, dI) clsx (fm_w (LM aC b) b 11 mu) s.heap) (hl : lv_has ls 5 [(0, .ref (b + 0)), (1, .int cli), (2, .int wh), (3, .int hs), (4, .int (nI j))]) (hf : F = f_M_count_14 n mu cli wh hs j), W p l e { frames := 1, cells := 0, slots := 0, locals := 21 } s m args below meth cd s.heap [] 0 0 (MQ below (QcRead F) args s 0 0 (fun _ => False)) (F0 m 14 ls []) := by
  obtain ⟨hx, hb, hr, hml, hown, hts, hlocks, hK, hX⟩ := hc
  have hg : ∀ w ∈ gtbl, w.before args s = true := fun w h => hts w (List.mem_cons_of_mem _ h)
  have hS : va_S (fm_A b 11) s.heap s.heap [] := va_S.rf
  intro n
  induction n with
  | zero =>
    intro mu cli wh hs j hI hcl hj hn ls F hP hl hf
    exfalso
    omega
  | succ n ih =>
    intro mu cli wh hs j hI hcl hj hn ls F hP hl hf
    have hf := hf.trans (e_M_count_14 n mu cli wh hs j)
    refine lv_iload hx hb d_M_count_14 (lv_at hl 4 rfl) ?_
    refine lv_aload_n hx hb d_M_count_16 rfl (lv_at hl 0 rfl) ?_
    refine fm_get (C := R_M) (T := T_M) (n := 12) (ci := 6) hx hb hg uw_M hown hK hP (0) (by decide) (lm_M aC b _) rfl 7 (by decide) (hg _ fl_M_29) (fun _ h9 => h9) rfl d_M_count_17 ?_
    refine lv_iload_n hx hb d_M_count_20 rfl (lv_at hl 1 rfl) ?_
    refine fm_iald hx hb hK hP (7) (by decide) 0 (lm_issued aC b _) rfl cli.toNatClampNeg (vp_e (n := 3) hcl) (vp_l (n := 3) hcl) (by decide) d_M_count_21 ?_
    refine lv_icmp_gt (tgt := 55) hx hb d_M_count_22 rfl (fun h22 => ?_) (fun h22 => ?_)
    · have hf := hf.trans (if_pos h22)
      refine lv_iload_n hx hb d_M_count_55 rfl (lv_at hl 2 rfl) ?_
      by_cases h56_0 : wh = 0
      · refine lv_tableIn (tgt := 96) hx hb d_M_count_56 (by rw [h56_0]; decide) (by rw [h56_0]; decide) (by rw [h56_0]; rfl) rfl ?_
        have hf := hf.trans (if_pos h56_0)
        refine lv_aload_n hx hb d_M_count_96 rfl (lv_at hl 0 rfl) ?_
        refine fm_get (C := R_M) (T := T_M) (n := 12) (ci := 6) hx hb hg uw_M hown hK hP (0) (by decide) (lm_M aC b _) rfl 7 (by decide) (hg _ fl_M_29) (fun _ h9 => h9) rfl d_M_count_97 ?_
        refine lv_iload_n hx hb d_M_count_100 rfl (lv_at hl 1 rfl) ?_
        refine fm_iald hx hb hK hP (7) (by decide) 0 (lm_issued aC b _) rfl cli.toNatClampNeg (vp_e (n := 3) hcl) (vp_l (n := 3) hcl) (by decide) d_M_count_101 ?_
        exact ro_iret hx hb hr hlocks hf d_M_count_102
      have hf := hf.trans (if_neg h56_0)
      by_cases h56_1 : wh = 1
      · refine lv_tableIn (tgt := 103) hx hb d_M_count_56 (by rw [h56_1]; decide) (by rw [h56_1]; decide) (by rw [h56_1]; rfl) rfl ?_
        have hf := hf.trans (if_pos h56_1)
        refine lv_aload_n hx hb d_M_count_103 rfl (lv_at hl 0 rfl) ?_
        refine lv_iload_n hx hb d_M_count_104 rfl (lv_at hl 1 rfl) ?_
        refine ro_call (va_runV (As := [.int cli]) (rest := []) ⟨hx, hb, hml, hown, hts⟩ (c_M_seen l dC dI aC b mu cli hcl hI) (cw_V (fun w h => List.mem_cons_of_mem _ h) hts kv_M_seen ml_M_56 ⟨Nat.le_of_ble_eq_true rfl, Nat.le_of_ble_eq_true rfl⟩ rfl rfl) (fm_preV XM_bl (XM_mv hX hS) hK hP (0) (by decide) (lm_M aC b _) rfl) rfl rfl hl.1 rfl (lv_room (Nat.le_of_ble_eq_true rfl)) d_M_count_105 ⟨Nat.zero_le _, Nat.zero_le _⟩) ?_
        exact ro_iret hx hb hr hlocks hf d_M_count_108
      have hf := hf.trans (if_neg h56_1)
      by_cases h56_2 : wh = 2
      · refine lv_tableIn (tgt := 109) hx hb d_M_count_56 (by rw [h56_2]; decide) (by rw [h56_2]; decide) (by rw [h56_2]; rfl) rfl ?_
        have hf := hf.trans (if_pos h56_2)
        refine lv_aload_n hx hb d_M_count_109 rfl (lv_at hl 0 rfl) ?_
        refine fm_get (C := R_M) (T := T_M) (n := 12) (ci := 6) hx hb hg uw_M hown hK hP (0) (by decide) (lm_M aC b _) rfl 4 (by decide) (hg _ fl_M_20) (fun _ h9 => h9) rfl d_M_count_110 ?_
        refine lv_iconst (v := 3) hx hb d_M_count_113 (by decide) ?_
        refine lv_aload_n hx hb d_M_count_114 rfl (lv_at hl 0 rfl) ?_
        refine fm_get (C := R_M) (T := T_M) (n := 12) (ci := 6) hx hb hg uw_M hown hK hP (0) (by decide) (lm_M aC b _) rfl 2 (by decide) (hg _ fl_M_45) (fun _ h9 => h9) rfl d_M_count_115 ?_
        refine lv_imul hx hb d_M_count_118 ?_
        refine lv_iload_n hx hb d_M_count_119 rfl (lv_at hl 1 rfl) ?_
        refine lv_iadd hx hb d_M_count_120 ?_
        refine fm_iald hx hb hK hP (4) (by decide) 0 (lm_doneAt aC b _) rfl (((3 * (mu 0 2)) + cli).toNatClampNeg) (vp_e (n := 1539) (lin_in (k := 3) rfl (smf_now hI) hcl (by decide))) (vp_l (n := 1539) (lin_in (k := 3) rfl (smf_now hI) hcl (by decide))) (by decide) d_M_count_121 ?_
        exact ro_iret hx hb hr hlocks hf d_M_count_122
      have hf := hf.trans (if_neg h56_2)
      by_cases h56_3 : wh = 3
      · refine lv_tableIn (tgt := 123) hx hb d_M_count_56 (by rw [h56_3]; decide) (by rw [h56_3]; decide) (by rw [h56_3]; rfl) rfl ?_
        have hf := hf.trans (if_pos h56_3)
        refine lv_iload_n hx hb d_M_count_123 rfl (lv_at hl 3 rfl) ?_
        exact ro_iret hx hb hr hlocks hf d_M_count_124
      have hf := hf.trans (if_neg h56_3)
      by_cases h56_4 : wh = 4
      · refine lv_tableIn (tgt := 125) hx hb d_M_count_56 (by rw [h56_4]; decide) (by rw [h56_4]; decide) (by rw [h56_4]; rfl) rfl ?_
        have hf := hf.trans (if_pos h56_4)
        refine lv_aload_n hx hb d_M_count_125 rfl (lv_at hl 0 rfl) ?_
        refine fm_get (C := R_M) (T := T_M) (n := 12) (ci := 6) hx hb hg uw_M hown hK hP (0) (by decide) (lm_M aC b _) rfl 9 (by decide) (hg _ fl_M_35) (fun _ h9 => h9) rfl d_M_count_126 ?_
        refine lv_iload_n hx hb d_M_count_129 rfl (lv_at hl 1 rfl) ?_
        refine fm_iald hx hb hK hP (9) (by decide) 0 (lm_newest aC b _) rfl cli.toNatClampNeg (vp_e (n := 3) hcl) (vp_l (n := 3) hcl) (by decide) d_M_count_130 ?_
        exact ro_iret hx hb hr hlocks hf d_M_count_131
      have hf := hf.trans (if_neg h56_4)
      by_cases h56_5 : wh = 5
      · refine lv_tableIn (tgt := 132) hx hb d_M_count_56 (by rw [h56_5]; decide) (by rw [h56_5]; decide) (by rw [h56_5]; rfl) rfl ?_
        have hf := hf.trans (if_pos h56_5)
        refine lv_aload_n hx hb d_M_count_132 rfl (lv_at hl 0 rfl) ?_
        refine fm_get (C := R_M) (T := T_M) (n := 12) (ci := 6) hx hb hg uw_M hown hK hP (0) (by decide) (lm_M aC b _) rfl 8 (by decide) (hg _ fl_M_32) (fun _ h9 => h9) rfl d_M_count_133 ?_
        refine lv_iload_n hx hb d_M_count_136 rfl (lv_at hl 1 rfl) ?_
        refine fm_iald hx hb hK hP (8) (by decide) 0 (lm_acked aC b _) rfl cli.toNatClampNeg (vp_e (n := 3) hcl) (vp_l (n := 3) hcl) (by decide) d_M_count_137 ?_
        exact ro_iret hx hb hr hlocks hf d_M_count_138
      have hf := hf.trans (if_neg h56_5)
      refine lv_tableOut (tgt := 139) hx hb d_M_count_56 (sw_out wh h56_0 h56_1 h56_2 h56_3 h56_4 h56_5) rfl ?_
      refine lv_iconst (v := (-1)) hx hb d_M_count_139 (by decide) ?_
      exact ro_iret hx hb hr hlocks hf d_M_count_140
    · have hf := hf.trans (if_neg h22)
      have hj8 : j ≤ 512 := nle_iss (smf_iss hI _) h22 hj
      have hcl2 := vp_l hcl
      refine lv_aload_n hx hb d_M_count_25 rfl (lv_at hl 0 rfl) ?_
      refine fm_get (C := R_M) (T := T_M) (n := 12) (ci := 6) hx hb hg uw_M hown hK hP (0) (by decide) (lm_M aC b _) rfl 6 (by decide) (hg _ fl_M_26) (fun _ h9 => h9) rfl d_M_count_26 ?_
      refine lv_sipush (v := 513) hx hb d_M_count_29 (by decide) ?_
      refine lv_iload_n hx hb d_M_count_32 rfl (lv_at hl 1 rfl) ?_
      refine lv_imul hx hb d_M_count_33 ?_
      refine lv_iload hx hb d_M_count_34 (lv_at hl 4 rfl) ?_
      refine lv_iadd hx hb d_M_count_36 ?_
      refine lv_cv (y := nI (513 * cli.toNatClampNeg + j)) (off_e hcl) ?_
      refine fm_zald hx hb hK hP (6) (by decide) 1 (lm_held aC b _) rfl (513 * cli.toNatClampNeg + j) rfl (by omega) (by decide) d_M_count_37 ?_
      refine lv_if_eq (tgt := 47) hx hb d_M_count_38 rfl (fun h38 => ?_) (fun h38 => ?_)
      · have hf := hf.trans (if_pos h38)
        refine lv_iload_n hx hb d_M_count_47 rfl (lv_at hl 3 rfl) ?_
        refine lv_istore_n (lv' := [(3, .int hs), (0, .ref (b + 0)), (1, .int cli), (2, .int wh), (4, .int (nI j))]) hx hb d_M_count_48 rfl hl (by decide) rfl (fun ls hl => ?_)
        refine lv_iinc (k := 4) (v := (nI (j + 1))) (lv' := [(4, .int (nI (j + 1))), (3, .int hs), (0, .ref (b + 0)), (1, .int cli), (2, .int wh)]) hx hb d_M_count_49 hl rfl (nI_1 _) (by decide) rfl (fun ls hl => ?_)
        refine lv_goto (tgt := 14) hx hb d_M_count_52 rfl ?_
        exact ih mu cli wh hs (j + 1) hI hcl (by omega) (by omega)  ls _ hP  (lv_sub hl [2, 3, 4, 1, 0] rfl) hf
      · have hf := hf.trans (if_neg h38)
        refine lv_iload_n hx hb d_M_count_41 rfl (lv_at hl 3 rfl) ?_
        refine lv_iconst (v := 1) hx hb d_M_count_42 (by decide) ?_
        refine lv_iadd hx hb d_M_count_43 ?_
        refine lv_goto (tgt := 48) hx hb d_M_count_44 rfl ?_
        refine lv_istore_n (lv' := [(3, .int (hs + 1)), (0, .ref (b + 0)), (1, .int cli), (2, .int wh), (4, .int (nI j))]) hx hb d_M_count_48 rfl hl (by decide) rfl (fun ls hl => ?_)
        refine lv_iinc (k := 4) (v := (nI (j + 1))) (lv' := [(4, .int (nI (j + 1))), (3, .int (hs + 1)), (0, .ref (b + 0)), (1, .int cli), (2, .int wh)]) hx hb d_M_count_49 hl rfl (nI_1 _) (by decide) rfl (fun ls hl => ?_)
        refine lv_goto (tgt := 14) hx hb d_M_count_52 rfl ?_
        exact ih mu cli wh (hs + 1) (j + 1) hI hcl (by omega) (by omega)  ls _ hP  (lv_sub hl [2, 3, 4, 1, 0] rfl) hf
def f_M_count (mu : fm_T) (cli : Int32) (wh : Int32) : Int32 := (if (f_M_client cli) = 0 then (-1) else (f_M_count_14 514 mu cli wh 0 1))
theorem e_M_count (mu : fm_T) (cli : Int32) (wh : Int32) : f_M_count mu cli wh = (if (f_M_client cli) = 0 then (-1) else (f_M_count_14 514 mu cli wh 0 1)) := rfl
set_option maxHeartbeats 4000000 in
set_option maxRecDepth 100000 in
theorem k_M_count (l : Launch) (dC : Nat → ClassId) (dI : Nat → Nat → Nat) (aC : Nat → ClassId) (b : Nat) {p : Program} {e : Env} {s : State} {m : MethodId} {args : Array Value} {below : List Frame} {meth : Method} {cd : Code} (hc : cx (dC, dI) (tysx aC) (XM) w_M_count b_M_count R_M 5 (some .int) p s m args meth cd) (mu : fm_T) (cli : Int32) (wh : Int32) (hI : SafM mu) (ls : Array Slot) (F : Int32) (hP : va_P (dC, dI) clsx (fm_w (LM aC b) b 11 mu) s.heap) (hl : lv_has ls 5 [(0, .ref (b + 0)), (1, .int cli), (2, .int wh)]) (hf : F = f_M_count mu cli wh) : W p l e { frames := 1, cells := 0, slots := 0, locals := 21 } s m args below meth cd s.heap [] 0 0 (MQ below (QcRead F) args s 0 0 (fun _ => False)) (F0 m 0 ls []) := by
  obtain ⟨hx, hb, hr, hml, hown, hts, hlocks, hK, hX⟩ := hc
  have hg : ∀ w ∈ gtbl, w.before args s = true := fun w h => hts w (List.mem_cons_of_mem _ h)
  have hS : va_S (fm_A b 11) s.heap s.heap [] := va_S.rf
  have hf := hf.trans (e_M_count mu cli wh)
  refine lv_iload_n hx hb d_M_count_0 rfl (lv_at hl 1 rfl) ?_
  refine ro_call (va_runS (As := [.int cli]) (rest := []) ⟨hx, hb, hml, hown, hts⟩ (c_M_client l dC dI aC b mu cli) (cw_S (fun w h => List.mem_cons_of_mem _ h) hts ks_M_client ml_M_53 ⟨Nat.le_of_ble_eq_true rfl, Nat.le_of_ble_eq_true rfl⟩ rfl rfl) (fm_preS XM_bl (XM_mv hX hS) hK hP) rfl rfl hl.1 rfl (lv_room (Nat.le_of_ble_eq_true rfl)) d_M_count_1 ⟨Nat.zero_le _, Nat.zero_le _⟩) ?_
  refine lv_if_ne (tgt := 9) hx hb d_M_count_4 rfl (fun h4 => ?_) (fun h4 => ?_)
  · have hf := hf.trans (if_neg h4)
    refine lv_iconst (v := 0) hx hb d_M_count_9 (by decide) ?_
    refine lv_istore_n (lv' := [(3, .int 0), (0, .ref (b + 0)), (1, .int cli), (2, .int wh)]) hx hb d_M_count_10 rfl hl (by decide) rfl (fun ls hl => ?_)
    refine lv_iconst (v := 1) hx hb d_M_count_11 (by decide) ?_
    refine lv_istore (lv' := [(4, .int 1), (3, .int 0), (0, .ref (b + 0)), (1, .int cli), (2, .int wh)]) hx hb d_M_count_12 hl (by decide) rfl (fun ls hl => ?_)
    exact k_M_count_14 l dC dI aC b ⟨hx, hb, hr, hml, hown, hts, hlocks, hK, hX⟩ 514 mu cli wh 0 1 hI (mc_in h4) (by decide) (by decide)  ls _ hP  (lv_sub hl [2, 3, 4, 1, 0] rfl) hf
  · have hf := hf.trans (if_pos h4)
    refine lv_iconst (v := (-1)) hx hb d_M_count_7 (by decide) ?_
    exact ro_iret hx hb hr hlocks hf d_M_count_8
set_option maxHeartbeats 4000000 in
set_option maxRecDepth 100000 in
theorem c_M_count (l : Launch) (dC : Nat → ClassId) (dI : Nat → Nat → Nat) (aC : Nat → ClassId) (b : Nat) (mu : fm_T) (cli : Int32) (wh : Int32) (hI : SafM mu) : Met l y_M_count w_M_count { frames := 1, cells := 0, slots := 0, locals := 21 } (va_Pc [.ref (b + 0), .int cli, .int wh] (fm_C (dC, dI) clsx (tysx aC) (LM aC b) b 11 (XM) mu)) (QcRead (f_M_count mu cli wh)) 0 0 (fun _ => False) := by
  refine Met.ofW (cc := b_M_count) (maxL := 5) (ret := (some .int)) (by decide) rfl ?_
  intro p e s m args below meth cd s₁ B hml hv
  obtain ⟨rfl, hP, hK, hX⟩ := hv
  have hl := lv_entry ([.ref (b + 0), .int cli, .int wh]) (n := 5) (Nat.le_of_ble_eq_true rfl)
  rw [lg_entry_eq]
  generalize (lg_sl ([.ref (b + 0), .int cli, .int wh]) ++ List.replicate (5 - (lg_sl ([.ref (b + 0), .int cli, .int wh])).length) Slot.unset).toArray = ls at hl ⊢
  exact k_M_count l dC dI aC b ⟨B.exec, B.bytes, B.returns, hml, findClass_of_methodNamed B.named, atoms_spec (ws := w_M_count) B.pre, B.notSynchronized, hK, hX⟩ mu cli wh hI ls _ hP hl rfl
