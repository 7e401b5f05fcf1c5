/-! the law's loop, and its start -/
set_option maxHeartbeats 4000000 in
set_option maxRecDepth 100000 in
theorem lw_loop {p : Program} {l : Launch} {e : Env} {s : State} {m : MethodId} {below : List Frame} {meth : Method} {c : Code} {b L : Nat} {xs : Nat → Int32} {dC : Nat → ClassId} {dI : Nat → Nat → Nat} {aC : Nat → ClassId} (hc : lawC p s m meth c b L xs dC dI aC) : ∀ (n k : Nat) (mu nu : fm_T) (H : Heap) (locs : List Loc) (ls : Array Slot), 512 < k + n → k ≤ 512 → Rel k mu nu → lawI s b dC dI aC k mu nu H locs ls → W p l e room_1 s m #[Value.ref b] below meth c H locs 600000 7302249 (lw_Z below #[Value.ref b] s) (F0 m 18 ls []) := by
  have hc0 := hc
  obtain ⟨hx, hb, hr, hml, hown, hts, hX0, hbl, hlocks, hK, hXC, hL⟩ := hc0
  have hcs : (600000 : Nat) ≤ room_1.cells ∧ (7302249 : Nat) ≤ room_1.slots := ⟨Nat.le_of_ble_eq_true rfl, Nat.le_of_ble_eq_true rfl⟩
  have hbA : ¬ (fun q => s.heap.size ≤ q) b := fun z => by have z : s.heap.size ≤ b := z; omega
  intro n
  induction n with
  | zero =>
    intro k mu nu H locs ls h1 h2
    exfalso
    omega
  | succ n ih =>
    intro k mu nu H locs ls h1 h2 hR hi
    have hi0 := hi
    obtain ⟨hP, hP2, hS, hl⟩ := hi0
    refine lv_iload_n hx hb d_L_law_18 rfl (lv_at hl 3 rfl) ?_
    refine lv_aload_n hx hb d_L_law_19 rfl (lv_at hl 0 rfl) ?_
    refine va_slen hx hb hX0 hbl hbA hS d_L_law_20 ?_
    refine lv_iconst (v := 5) hx hb d_L_law_21 (by decide) ?_
    refine lv_isub hx hb d_L_law_22 ?_
    refine lv_icmp_gt (tgt := 492) hx hb d_L_law_23 rfl (fun h => ?_) (fun h => ?_)
    · refine lv_iconst (v := 1) hx hb d_L_law_492 (by decide) ?_
      refine va_forget hS.2.2 ?_
      exact lw_ret hx hb hr hlocks d_L_law_493
    · have hk : 5 * (k + 1) ≤ L := by
        rcases Nat.lt_or_ge L (5 * (k + 1)) with z | z
        · exfalso
          apply h
          apply Int32.lt_iff_toInt_lt.mpr
          have e1 := pk_sub_toInt (a := L) (b := 5) (by omega) (by decide)
          have e2 := nI_toInt (n := 5 * k) (by omega)
          have e3 : (nI L - 5).toInt = (L : Int) - 5 := e1
          show (nI L - 5).toInt < (nI (5 * k)).toInt
          rw [e3, e2]
          omega
        · exact z
      have next : ∀ (mu2 nu2 : fm_T) (H2 : Heap) (locs2 : List Loc), Rel (k + 1) mu2 nu2 → lawI s b dC dI aC k mu2 nu2 H2 locs2 ls → W p l e room_1 s m #[Value.ref b] below meth c H2 locs2 600000 7302249 (lw_Z below #[Value.ref b] s) (F0 m 486 ls []) := by
        intro mu2 nu2 H2 locs2 hR2 hi2
        obtain ⟨g1, g2, g3, g4⟩ := hi2
        refine lv_iinc (k := 3) (v := nI (5 * (k + 1))) (lv' := [(3, .int (nI (5 * (k + 1)))), (0, .ref b), (1, .ref (s.heap.size + 0)), (2, .ref (s.heap.size + 99 + 0))]) hx hb d_L_law_486 g4 rfl (by rw [show Int32.ofInt 5 = nI 5 by decide]; exact nI_add _ 5) (by decide) rfl (fun ls hl => ?_)
        refine lv_goto (tgt := 18) hx hb d_L_law_489 rfl ?_
        exact ih (k + 1) mu2 nu2 H2 locs2 ls (by omega) (by omega) hR2 ⟨g1, g2, g3, lv_sub hl [1, 2, 3, 0] rfl⟩
      refine lv_aload_n hx hb d_L_law_26 rfl (lv_at hl 0 rfl) ?_
      refine lv_iload_n hx hb d_L_law_27 rfl (lv_at hl 3 rfl) ?_
      refine lw_ld hx hb hX0 hbl hbA hS (5 * k) (by omega) hL d_L_law_28 ?_
      refine lv_bipush (v := 15) hx hb d_L_law_29 (by decide) ?_
      refine lv_iand hx hb d_L_law_31 ?_
      obtain ⟨j, hj, ej⟩ := pk_andE (xs (5 * k)) (m := 15) 4 (by decide)
      refine lv_cv ej ?_
      rcases (show j = 0 ∨ j = 1 ∨ j = 2 ∨ j = 3 ∨ j = 4 ∨ j = 5 ∨ j = 6 ∨ j = 7 ∨ j = 8 ∨ j = 9 ∨ j = 10 ∨ j = 11 ∨ j = 12 ∨ j = 13 ∨ j = 14 ∨ j = 15 by omega) with rfl | rfl | rfl | rfl | rfl | rfl | rfl | rfl | rfl | rfl | rfl | rfl | rfl | rfl | rfl | rfl
      · refine lv_tableIn (off := 72) (tgt := 104) hx hb d_L_law_32 (by decide) (by decide) (by decide) rfl ?_
        exact lw_wall hc hcs hk hR hi next
      · refine lv_tableIn (off := 105) (tgt := 137) hx hb d_L_law_32 (by decide) (by decide) (by decide) rfl ?_
        exact lw_place hc hcs hk hR hi next
      · refine lv_tableIn (off := 158) (tgt := 190) hx hb d_L_law_32 (by decide) (by decide) (by decide) rfl ?_
        exact lw_input hc hcs hk hR hi next
      · refine lv_tableIn (off := 191) (tgt := 223) hx hb d_L_law_32 (by decide) (by decide) (by decide) rfl ?_
        exact lw_report hc hcs hk hR hi next
      · refine lv_tableIn (off := 214) (tgt := 246) hx hb d_L_law_32 (by decide) (by decide) (by decide) rfl ?_
        exact lw_tick hc hcs hk hR hi next
      · refine lv_tableIn (off := 227) (tgt := 259) hx hb d_L_law_32 (by decide) (by decide) (by decide) rfl ?_
        exact lw_deliver hc hcs hk hR hi next
      · refine lv_tableIn (off := 250) (tgt := 282) hx hb d_L_law_32 (by decide) (by decide) (by decide) rfl ?_
        exact lw_lose hc hcs hk hR hi next
      · refine lv_tableIn (off := 273) (tgt := 305) hx hb d_L_law_32 (by decide) (by decide) (by decide) rfl ?_
        exact lw_copy hc hcs hk hR hi next
      · refine lv_tableIn (off := 296) (tgt := 328) hx hb d_L_law_32 (by decide) (by decide) (by decide) rfl ?_
        exact lw_flight hc hcs hk hR hi next
      · refine lv_tableIn (off := 309) (tgt := 341) hx hb d_L_law_32 (by decide) (by decide) (by decide) rfl ?_
        exact lw_packet hc hcs hk hR hi next
      · refine lv_tableIn (off := 342) (tgt := 374) hx hb d_L_law_32 (by decide) (by decide) (by decide) rfl ?_
        exact lw_position hc hcs hk hR hi next
      · refine lv_tableIn (off := 365) (tgt := 397) hx hb d_L_law_32 (by decide) (by decide) (by decide) rfl ?_
        exact lw_view hc hcs hk hR hi next
      · refine lv_tableIn (off := 398) (tgt := 430) hx hb d_L_law_32 (by decide) (by decide) (by decide) rfl ?_
        exact lw_predicted hc hcs hk hR hi next
      · refine lv_tableIn (off := 421) (tgt := 453) hx hb d_L_law_32 (by decide) (by decide) (by decide) rfl ?_
        exact lw_count hc hcs hk hR hi next
      · refine lv_tableOut (tgt := 486) hx hb d_L_law_32 (by decide) rfl ?_
        exact next mu nu H locs (rel_mono hR) hi
      · refine lv_tableOut (tgt := 486) hx hb d_L_law_32 (by decide) rfl ?_
        exact next mu nu H locs (rel_mono hR) hi
theorem cm_bl {av : List Value} {D : va_G} {tys : List (ClassId × FieldType)} {ws : va_W} {sz : Nat} : FrameBlind (va_Pc av (fun U => U.heap.size = sz ∧ va_P D clsx ws U.heap ∧ va_K D clsx tys U ∧ XM U)) :=
  fun a U g mk q => ⟨q.1, q.2.1, q.2.2.1, va_K.moved (u := U) (U := U.calling g mk a) (Vm.Alike.refl U.vm) q.2.2.2.1, trivial⟩
set_option maxHeartbeats 4000000 in
set_option maxRecDepth 100000 in
/-- YOUR PART: from the entry, for every script of at most 2560 ints, the law comes to its end with true -/
theorem whole_start {p : Program} {e : Env} {s : State} {m : MethodId} {below : List Frame} {meth : Method} {c : Code} (l : Launch) {b L : Nat} {xs : Nat → Int32} (hL : L ≤ 2560) (C0 : lw_At p s m meth c b L xs) : W p l e room_1 s m #[Value.ref b] below meth c s.heap [] 0 0 (lw_Z below #[Value.ref b] s) (entryFrame m ([Value.ref b] : List Value).toArray 4) := by
  obtain ⟨hx, hb, hr, hml, hown, hts, hX0, hbl, hlocks, hgv⟩ := C0
  obtain ⟨dC, dI, aC, hK⟩ := law_K hts
  have hXI := law_XI hts
  have hXC := law_XC hts hgv
  have hg : ∀ w ∈ gtbl, w.before #[Value.ref b] s = true := fun w h => hts w (gt_sub h)
  have hS : va_S (fun q => s.heap.size ≤ q) s.heap s.heap [] := va_S.rf
  have hl := lv_entry ([.ref b]) (n := 4) (Nat.le_of_ble_eq_true rfl)
  rw [lg_entry_eq]
  generalize (lg_sl ([.ref b]) ++ List.replicate (4 - (lg_sl ([.ref b])).length) Slot.unset).toArray = ls at hl ⊢
  have hl : lv_has ls 4 [(0, .ref b)] := hl
  refine ki_new (ci := 0) (fs := [.null, .null, .null, .null, .int 0]) (C := R_D) (T := T_D) (N := 5) (h := s.heap.size) hx hb hg uw_D ty_D tk_D hown (hg _ cl_L_7) (hg _ is_D) (hg _ in_D) hK hS (Nat.le_refl _) rfl rfl (fun k hk => by rcases (show k = 0 ∨ k = 1 ∨ k = 2 ∨ k = 3 ∨ k = 4 by omega) with rfl | rfl | rfl | rfl | rfl <;> rfl) (Nat.le_of_ble_eq_true rfl) (Nat.le_of_ble_eq_true rfl) d_L_law_0 (fun H1 hPn o1 z1 hS1 => ?_)
  refine lv_dup hx hb d_L_law_3 rfl ?_
  refine va_callv (va_runI (As := []) (rest := [.ref s.heap.size]) ⟨hx, hb, hml, hown, hts⟩ (c_D_init l dC dI aC s.heap.size) (cw_I (fun w h => gt_sub h) hts ki_D_init ml_L_9 ⟨Nat.le_of_ble_eq_true rfl, Nat.le_of_ble_eq_true rfl⟩ rfl rfl) ⟨ci_bl, fun U hU hW => ⟨rfl, by rw [hU]; exact z1, by rw [hU]; exact hPn, va_K.moved hW.alike hK, XI_mv hXI hW⟩⟩ rfl rfl hl.1 rfl (lv_room (Nat.le_of_ble_eq_true rfl)) d_L_law_4 ⟨Nat.le_of_ble_eq_true rfl, Nat.le_of_ble_eq_true rfl⟩) hS1 (fun q _ h => by show s.heap.size ≤ q; rcases h with h | h <;> omega) (fun q h => by show s.heap.size ≤ q; rcases h with h | h <;> omega) (fun u t H2 locs2 ht hvm hw hB hz hk hS2 => ?_)
  have hP : va_P (dC, dI) clsx (fm_w (LC aC s.heap.size) s.heap.size 99 mu0) H2 := by rw [← ht]; exact hB
  refine lv_astore_n (lv' := [(1, .ref (s.heap.size + 0)), (0, .ref b)]) hx hb d_L_law_7 rfl hl (by decide) rfl (fun ls hl => ?_)
  have hlo : s.heap.size + 99 ≤ H2.size := (hP 98 _ (fm_at (by decide))).lt
  refine ki_new (ci := 6) (fs := [.null, .null, .int 0, .null, .null, .null, .null, .null, .null, .null, .null, .int 0]) (C := R_M) (T := T_M) (N := 12) (h := s.heap.size + 99) hx hb hg uw_M ty_M tk_M hown (hg _ cl_L_10) (hg _ is_M) (hg _ in_M) hK hS2 hlo rfl rfl (fun k hk => by rcases (show k = 0 ∨ k = 1 ∨ k = 2 ∨ k = 3 ∨ k = 4 ∨ k = 5 ∨ k = 6 ∨ k = 7 ∨ k = 8 ∨ k = 9 ∨ k = 10 ∨ k = 11 by omega) with rfl | rfl | rfl | rfl | rfl | rfl | rfl | rfl | rfl | rfl | rfl | rfl <;> rfl) (Nat.le_of_ble_eq_true rfl) (Nat.le_of_ble_eq_true rfl) d_L_law_8 (fun H3 hPm o3 z3 hS3 => ?_)
  have hP := fk_kept hP (fun q hq => o3 q hq)
  refine lv_dup hx hb d_L_law_11 rfl ?_
  refine va_callv (va_runI (As := []) (rest := [.ref (s.heap.size + 99)]) ⟨hx, hb, hml, hown, hts⟩ (c_M_init l dC dI aC (s.heap.size + 99) (s.heap.size + 99 + 1)) (cw_I (fun w h => gt_sub h) hts ki_M_init ml_L_12 ⟨Nat.le_of_ble_eq_true rfl, Nat.le_of_ble_eq_true rfl⟩ rfl rfl) ⟨cm_bl, fun U hU hW => ⟨rfl, by rw [hU]; exact z3, by rw [hU]; exact hPm, va_K.moved hW.alike hK, trivial⟩⟩ rfl rfl hl.1 rfl (lv_room (Nat.le_of_ble_eq_true rfl)) d_L_law_12 ⟨Nat.le_of_ble_eq_true rfl, Nat.le_of_ble_eq_true rfl⟩) hS3 (fun q _ h => by show s.heap.size ≤ q; rcases h with h | h <;> omega) (fun q h => by show s.heap.size ≤ q; rcases h with h | h <;> omega) (fun u4 t4 H4 locs4 ht4 hvm4 hw4 hB4 hz4 hk4 hS4 => ?_)
  rw [ht4] at hB4
  have hP := rg_keep hP hk4 (fun j hj z => by rcases z with z | z <;> omega)
  have hP2 : va_P (dC, dI) clsx (fm_w (LM aC (s.heap.size + 99)) (s.heap.size + 99) 11 nu0) H4 := by
    intro k q hq
    obtain ⟨hk, rfl⟩ := fk_lt hq
    rcases (show k = 0 ∨ k = 1 ∨ k = 2 ∨ k = 3 ∨ k = 4 ∨ k = 5 ∨ k = 6 ∨ k = 7 ∨ k = 8 ∨ k = 9 ∨ k = 10 by omega) with rfl | rfl | rfl | rfl | rfl | rfl | rfl | rfl | rfl | rfl | rfl
    · exact hB4 0 _ rfl
    · exact hB4 1 _ rfl
    · exact hB4 2 _ rfl
    · exact hB4 3 _ rfl
    · exact hB4 4 _ rfl
    · exact hB4 5 _ rfl
    · exact hB4 6 _ rfl
    · exact hB4 7 _ rfl
    · exact hB4 8 _ rfl
    · exact hB4 9 _ rfl
    · exact hB4 10 _ rfl
  refine lv_astore_n (lv' := [(2, .ref (s.heap.size + 99 + 0)), (1, .ref (s.heap.size + 0)), (0, .ref b)]) hx hb d_L_law_15 rfl hl (by decide) rfl (fun ls hl => ?_)
  refine lv_iconst (v := 0) hx hb d_L_law_16 (by decide) ?_
  refine lv_istore_n (lv' := [(3, .int (nI (5 * 0))), (2, .ref (s.heap.size + 99 + 0)), (1, .ref (s.heap.size + 0)), (0, .ref b)]) hx hb d_L_law_17 rfl hl (by decide) rfl (fun ls hl => ?_)
  refine W.widen (k := 600000) (n := 7302249) (Nat.le_of_ble_eq_true rfl) (Nat.le_of_ble_eq_true rfl) ?_
  exact lw_loop ⟨hx, hb, hr, hml, hown, hts, hX0, hbl, hlocks, hK, hXC, hL⟩ 513 0 mu0 nu0 _ _ ls (by decide) (by decide) rel_0 ⟨hP, hP2, hS4, lv_sub hl [3, 2, 1, 0] rfl⟩
