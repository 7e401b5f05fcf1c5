abbrev RD : Room := { frames := 3, cells := 98, slots := 1153, locals := 100 }
abbrev QD (dC : Nat → ClassId) (dI : Nat → Nat → Nat) (aC : Nat → ClassId) (b : Nat) : Array Value → State → Outcome → State → Prop := va_Qv (fun _ : Unit => True) (fun _ t => va_P (dC, dI) clsx (fm_w (LC aC b) b 99 mu0) t.heap) (kA b (b + 1))
/-- a new client's cells in the layout -/
theorem dc_cli {D : va_G} {cl : List vw_C} (aC : Nat → ClassId) (b q c1 c2 : Nat) {c : Nat} (hc : c < 3) {H : Heap} (hB : va_P D cl [(b + (81 + 6 * c), .inr (4, [.ref (b + (81 + 6 * c) + 1), .ref (b + (81 + 6 * c) + 1 + 1), .int (mu0 3 c), .int 0, .int 0, .int 0])), (b + (81 + 6 * c) + 1, .inl (aC 0, 16, .inl (fun _ => 0))), (b + (81 + 6 * c) + 1 + 1, .inl (aC 0, 8, .inl (fun i => if i < 8 then -1 else 0)))] H) (k : Nat) (h1 : 81 + 6 * c ≤ k) (h2 : k < 84 + 6 * c) : va_at D cl (b + k, LD aC b q c1 c2 k (mu0 k)) H := by
  have e3 : mu0 3 c = nI (2 * c) := by
    rw [mu0_3]
    exact if_pos (by omega)
  rw [ld_n aC b q c1 c2 _ (by omega) (by omega) (by omega)]
  rcases (show k = 81 + 6 * c ∨ k = 82 + 6 * c ∨ k = 83 + 6 * c by omega) with rfl | rfl | rfl
  · rw [lc_C aC b _ hc, mu0_C]
    refine at_eq rfl ?_ (hB 0 _ rfl)
    rw [e3, show b + (81 + 6 * c) + 1 = b + (82 + 6 * c) by omega, show b + (82 + 6 * c) + 1 = b + (83 + 6 * c) by omega]
    rfl
  · rw [lc_Ccm aC b _ hc, mu0_Ccm]
    exact at_eq (by omega) rfl (hB 1 _ rfl)
  · rw [lc_Csh aC b _ hc, mu0_Csh]
    exact at_eq (by omega) rfl (hB 2 _ rfl)
theorem dc_acc {D : va_G} {cl : List vw_C} (aC : Nat → ClassId) (b q c1 c2 : Nat) {c : Nat} (hc : c < 3) {H : Heap} (hB : va_P D cl [(b + (84 + 6 * c), .inr (5, [.ref (b + (84 + 6 * c) + 1), .ref (b + (84 + 6 * c) + 1 + 1), .int 0, .int 0])), (b + (84 + 6 * c) + 1, .inl (aC 0, 16, .inl (fun i => if i < 16 then -1 else 0))), (b + (84 + 6 * c) + 1 + 1, .inl (aC 0, 64, .inl (fun _ => 0)))] H) (k : Nat) (h1 : 84 + 6 * c ≤ k) (h2 : k < 87 + 6 * c) : va_at D cl (b + k, LD aC b q c1 c2 k (mu0 k)) H := by
  rw [ld_n aC b q c1 c2 _ (by omega) (by omega) (by omega)]
  rcases (show k = 84 + 6 * c ∨ k = 85 + 6 * c ∨ k = 86 + 6 * c by omega) with rfl | rfl | rfl
  · rw [lc_A aC b _ hc, mu0_A]
    refine at_eq rfl ?_ (hB 0 _ rfl)
    rw [show b + (84 + 6 * c) + 1 = b + (85 + 6 * c) by omega, show b + (85 + 6 * c) + 1 = b + (86 + 6 * c) by omega]
  · rw [lc_Ahe aC b _ hc, mu0_Ahe]
    exact at_eq (by omega) rfl (hB 1 _ rfl)
  · rw [lc_Ato aC b _ hc, mu0_Ato]
    exact at_eq (by omega) rfl (hB 2 _ rfl)
set_option maxHeartbeats 4000000 in
set_option maxRecDepth 100000 in
theorem kl_D_init (l : Launch) (dC : Nat → ClassId) (dI : Nat → Nat → Nat) (aC : Nat → ClassId) (b : Nat) {p : Program} {e : Env} {s : State} {m : MethodId} {args : Array Value} {below : List Frame} {meth : Method} {cd : Code} (hc : cx (dC, dI) (tysx aC) XI w_D_init b_D_init R_D 2 none p s m args meth cd) (hsz : s.heap.size = b + 1) : ∀ (n c : Nat) (H : Heap) (locs : List Loc) (ls : Array Slot), c ≤ 3 → 3 < c + n → va_P (dC, dI) clsx (fm_w (LD aC b 4 c c) b (81 + 6 * c) mu0) H → va_S (kA b (b + 1)) s.heap H locs → lv_has ls 2 [(0, .ref b), (1, .int (nI c))] → W p l e RD s m args below meth cd H locs (80 + 6 * c) (811 + 114 * c) (MQ below (QD dC dI aC b) args s 98 1153 (kA b (b + 1))) (F0 m 44 ls []) := by
  obtain ⟨hx, hb, hr, hml, hown, hts, hlocks, hK, hX⟩ := hc
  have hg : ∀ w ∈ gtbl, w.before args s = true := fun w h => hts w (List.mem_cons_of_mem _ h)
  intro n
  induction n with
  | zero =>
    intro c H locs ls hj hn
    exfalso
    omega
  | succ n ih =>
    intro c H locs ls hj hn hP hS hl
    refine lv_iload_n hx hb d_D_init_44 rfl (lv_at hl 1 rfl) ?_
    refine lv_iconst (v := 3) hx hb d_D_init_45 (by decide) ?_
    refine lv_icmp_ge (tgt := 90) hx hb d_D_init_46 rfl (fun h => ?_) (fun h => ?_)
    · have hc3 : c = 3 := by
        rcases Nat.lt_or_ge c 3 with z | z
        · exact absurd h (nI_ge z (by decide))
        · omega
      subst hc3
      exact W.vret hx hb hr (fun t ht hW => ⟨⟨(), rfl, trivial, by show va_P _ _ _ t.heap; rw [ht]; exact ld_lc aC b hP⟩, hS.F ht⟩) hS.2.2 d_D_init_90 hlocks
    have hc3 : c < 3 := lp_lt rfl hj (by decide) h
    refine lv_aload_n hx hb d_D_init_49 rfl (lv_at hl 0 rfl) ?_
    refine va_get (D := (dC, dI)) (ci := 0) (v := .ref (b + 79)) (C := R_D) (T := T_D) (N := 5) hx hb hg uw_D hown hK hP 0 (fm_is (k := 0) (by omega) (ld_0 aC b 4 c c _)) rfl 2 (by decide) (hg _ fl_D_25) (fun _ h9 => h9) rfl d_D_init_50 ?_
    refine lv_iload_n hx hb d_D_init_53 rfl (lv_at hl 1 rfl) ?_
    have hlo : b + (81 + 6 * c) ≤ H.size := by
      have h9 := (hP (80 + 6 * c) _ (fm_at (by omega))).lt
      have h9 : b + (80 + 6 * c) < H.size := h9
      omega
    refine ki_new (ci := 4) (fs := [.null, .null, .int 0, .int 0, .int 0, .int 0]) (C := R_C) (T := T_C) (N := 6) (h := b + (81 + 6 * c)) hx hb hg uw_C ty_C tk_C hown (hg _ cl_D_23) (hg _ is_C) (hg _ in_C) hK hS hlo (by omega) rfl (fun k hk => by rcases (show k = 0 ∨ k = 1 ∨ k = 2 ∨ k = 3 ∨ k = 4 ∨ k = 5 by omega) with rfl | rfl | rfl | rfl | rfl | rfl <;> rfl) (by show _ ≤ 98; omega) (by show _ ≤ 1153; omega) d_D_init_54 (fun H1 hPn o1 z1 hS1 => ?_)
    have hP1 := fk_kept hP (fun q hq => o1 q (by omega))
    refine lv_dup hx hb d_D_init_57 rfl ?_
    refine lv_aload_n hx hb d_D_init_58 rfl (lv_at hl 0 rfl) ?_
    refine va_get (D := (dC, dI)) (ci := 0) (v := .ref (b + 1)) (C := R_D) (T := T_D) (N := 5) hx hb hg uw_D hown hK hP1 0 (fm_is (k := 0) (by omega) (ld_0 aC b 4 c c _)) rfl 0 (by decide) (hg _ fl_D_10) (fun _ h9 => h9) rfl d_D_init_59 ?_
    refine fm_get (C := R_F) (T := T_F) (n := 3) (ci := 1) hx hb hg uw_F hown hK hP1 1 (by omega) ((ld_n aC b 4 c c _ (by decide) (by decide) (by decide)).trans (lc_F aC b _)) rfl 1 (by decide) (hg _ fl_D_35) (fun _ h9 => h9) rfl d_D_init_62 ?_
    refine lv_iload_n hx hb d_D_init_65 rfl (lv_at hl 1 rfl) ?_
    refine fm_iald hx hb hK hP1 3 (by omega) 0 ((ld_n aC b 4 c c _ (by decide) (by decide) (by decide)).trans (lc_places aC b _)) rfl c rfl (by omega) (by decide) d_D_init_66 ?_
    refine va_callv (va_runI (As := [.int (mu0 3 c)]) (rest := [.ref (b + (81 + 6 * c)), .int (nI c), .ref (b + 79)]) ⟨hx, hb, hml, hown, hts⟩ (c_C_init l dC dI aC (b + (81 + 6 * c)) (b + (81 + 6 * c) + 1) (mu0 3 c)) (cw_I (fun w h => List.mem_cons_of_mem _ h) hts ki_C_init ml_D_39 ⟨Nat.le_of_ble_eq_true rfl, Nat.le_of_ble_eq_true rfl⟩ rfl rfl) ⟨ci_bl, fun U hU hW => ⟨rfl, by rw [hU]; exact z1, by rw [hU]; exact hPn, va_K.moved hW.alike hK, XI_mv hX hW⟩⟩ rfl rfl hl.1 rfl (lv_room (Nat.le_of_ble_eq_true rfl)) d_D_init_67 ⟨by show _ ≤ 98; omega, by show _ ≤ 1153; omega⟩) hS1 (fun q h1 h2 => Or.inr (by rcases h2 with h2 | h2 <;> omega)) (fun q h2 => Or.inr (by rcases h2 with h2 | h2 <;> omega)) (fun u t H2 locs2 ht hvm hw hB hz hk hS2 => ?_)
    rw [ht] at hB
    have hP2 := fk_kept hP1 (fun q hq => hk q (by omega) (fun z => by rcases z with z | z <;> omega))
    have hP3 : va_P (dC, dI) clsx (fm_w (LD aC b 4 c c) b (84 + 6 * c) mu0) H2 := fk_ext hP2 (dc_cli aC b 4 c c hc3 hB)
    refine va_astq (D := (dC, dI)) (r := (R_C, T_C, 6)) hx hb hK hP3 (fm_D kA_f) hS2 79 3 (81 + 6 * c) 4 (fm_is (k := 79) (by omega) (ld_79 aC b 4 c c _)) rfl (fm_is (k := 81 + 6 * c) (by omega) ((ld_n aC b 4 c c _ (by omega) (by omega) (by omega)).trans (lc_C aC b _ hc3))) rfl (vp_in_nI hc3 (by decide)) d_D_init_70 (fun H3 locs3 hP4 hD4 hS3 => ?_)
    rw [nI_clamp (by omega), cF_up, fk_set (L2 := LD aC b 4 (c + 1) c) (by omega) (ld_79 aC b 4 (c + 1) c _) (fun i hi hne => ld_c1 aC b 4 c c _ (c + 1) hne)] at hP4
    refine lv_aload_n hx hb d_D_init_71 rfl (lv_at hl 0 rfl) ?_
    refine va_get (D := (dC, dI)) (ci := 0) (v := .ref (b + 80)) (C := R_D) (T := T_D) (N := 5) hx hb hg uw_D hown hK hP4 0 (fm_is (k := 0) (by omega) (ld_0 aC b 4 (c + 1) c _)) rfl 3 (by decide) (hg _ fl_D_31) (fun _ h9 => h9) rfl d_D_init_72 ?_
    refine lv_iload_n hx hb d_D_init_75 rfl (lv_at hl 1 rfl) ?_
    have hlo4 : b + (84 + 6 * c) ≤ H3.size := by
      have h9 := (hP4 (83 + 6 * c) _ (fm_at (by omega))).lt
      have h9 : b + (83 + 6 * c) < H3.size := h9
      omega
    refine ki_new (ci := 5) (fs := [.null, .null, .int 0, .int 0]) (C := R_A) (T := T_A) (N := 4) (h := b + (84 + 6 * c)) hx hb hg uw_A ty_A tk_A hown (hg _ cl_D_29) (hg _ is_A) (hg _ in_A) hK hS3 hlo4 (by omega) rfl (fun k hk => by rcases (show k = 0 ∨ k = 1 ∨ k = 2 ∨ k = 3 by omega) with rfl | rfl | rfl | rfl <;> rfl) (by show _ ≤ 98; omega) (by show _ ≤ 1153; omega) d_D_init_76 (fun H5 hPn5 o5 z5 hS5 => ?_)
    have hP5 := fk_kept hP4 (fun q hq => o5 q (by omega))
    refine lv_dup hx hb d_D_init_79 rfl ?_
    refine va_callv (va_runI (As := []) (rest := [.ref (b + (84 + 6 * c)), .int (nI c), .ref (b + 80)]) ⟨hx, hb, hml, hown, hts⟩ (c_A_init l dC dI aC (b + (84 + 6 * c)) (b + (84 + 6 * c) + 1)) (cw_I (fun w h => List.mem_cons_of_mem _ h) hts ki_A_init ml_D_42 ⟨Nat.le_of_ble_eq_true rfl, Nat.le_of_ble_eq_true rfl⟩ rfl rfl) ⟨ci_bl, fun U hU hW => ⟨rfl, by rw [hU]; exact z5, by rw [hU]; exact hPn5, va_K.moved hW.alike hK, XI_mv hX hW⟩⟩ rfl rfl hl.1 rfl (lv_room (Nat.le_of_ble_eq_true rfl)) d_D_init_80 ⟨by show _ ≤ 98; omega, by show _ ≤ 1153; omega⟩) hS5 (fun q h1 h2 => Or.inr (by rcases h2 with h2 | h2 <;> omega)) (fun q h2 => Or.inr (by rcases h2 with h2 | h2 <;> omega)) (fun u6 t6 H6 locs6 ht6 hvm6 hw6 hB6 hz6 hk6 hS6 => ?_)
    rw [ht6] at hB6
    have hP6 := fk_kept hP5 (fun q hq => hk6 q (by omega) (fun z => by rcases z with z | z <;> omega))
    have hP7 : va_P (dC, dI) clsx (fm_w (LD aC b 4 (c + 1) c) b (87 + 6 * c) mu0) H6 := fk_ext hP6 (dc_acc aC b 4 (c + 1) c hc3 hB6)
    refine va_astq (D := (dC, dI)) (r := (R_A, T_A, 4)) hx hb hK hP7 (fm_D kA_f) hS6 80 4 (84 + 6 * c) 5 (fm_is (k := 80) (by omega) (ld_80 aC b 4 (c + 1) c _)) rfl (fm_is (k := 84 + 6 * c) (by omega) ((ld_n aC b 4 (c + 1) c _ (by omega) (by omega) (by omega)).trans (lc_A aC b _ hc3))) rfl (vp_in_nI hc3 (by decide)) d_D_init_83 (fun H8 locs8 hP8 hD8 hS8 => ?_)
    rw [nI_clamp (by omega), cF_up, fk_set (L2 := LD aC b 4 (c + 1) (c + 1)) (by omega) (ld_80 aC b 4 (c + 1) (c + 1) _) (fun i hi hne => ld_c2 aC b 4 (c + 1) c _ (c + 1) hne)] at hP8
    refine lv_iinc (k := 1) (v := nI (c + 1)) (lv' := [(1, .int (nI (c + 1))), (0, .ref b)]) hx hb d_D_init_84 hl rfl (nI_1 _) (by decide) rfl (fun ls hl => ?_)
    refine lv_goto (tgt := 44) hx hb d_D_init_87 rfl ?_
    refine W.widen (k := 80 + 6 * (c + 1)) (n := 811 + 114 * (c + 1)) (by omega) (by omega) ?_
    exact ih (c + 1) _ _ ls (by omega) (by omega) (by rw [show 81 + 6 * (c + 1) = 87 + 6 * c by omega]; exact hP8) hS8 (lv_sub hl [1, 0] rfl)
/-- a new field's cells in the layout -/
theorem dc_fld {D : va_G} {cl : List vw_C} (aC : Nat → ClassId) (b : Nat) {H : Heap} (hB : va_P D cl [(b + 1, .inr (1, [.ref (b + 1 + 1), .ref (b + 1 + 1 + 1), .ref (b + 1 + 1 + 2)])), (b + 1 + 1, .inl (aC 1, 256, .inl (fun _ => 0))), (b + 1 + 1 + 1, .inl (aC 0, 8, .inl (fun i => if i < 8 then nI (2 * i) else 0))), (b + 1 + 1 + 2, .inl (aC 0, 8, .inl (fun _ => 0)))] H) (k : Nat) (h1 : 1 ≤ k) (h2 : k < 5) : va_at D cl (b + k, LD aC b 0 0 0 k (mu0 k)) H := by
  rw [ld_n aC b 0 0 0 _ (by omega) (by omega) (by omega)]
  rcases (show k = 1 ∨ k = 2 ∨ k = 3 ∨ k = 4 by omega) with rfl | rfl | rfl | rfl
  · rw [lc_F]
    exact hB 0 _ rfl
  · rw [lc_walls, mu0_lo (by decide) (by decide) (by decide)]
    exact hB 1 _ rfl
  · rw [lc_places, mu0_3]
    exact hB 2 _ rfl
  · rw [lc_dirs, mu0_lo (by decide) (by decide) (by decide)]
    exact hB 3 _ rfl
set_option maxHeartbeats 4000000 in
set_option maxRecDepth 100000 in
theorem c_D_init (l : Launch) (dC : Nat → ClassId) (dI : Nat → Nat → Nat) (aC : Nat → ClassId) (b : Nat) : Met l y_D_init w_D_init RD (va_Pc [.ref b] (fun U => U.heap.size = b + 1 ∧ va_P (dC, dI) clsx [(b, .inr (0, [.null, .null, .null, .null, .int 0]))] U.heap ∧ va_K (dC, dI) clsx (tysx aC) U ∧ XI U)) (QD dC dI aC b) 98 1153 (kA b (b + 1)) := by
  refine Met.ofW (cc := b_D_init) (maxL := 2) (ret := none) (by decide) rfl ?_
  intro p e s m args below meth cd s₁ B hml hv
  obtain ⟨rfl, hsz, hP, hK, hX⟩ := hv
  have hx := B.exec
  have hb := B.bytes
  have hr := B.returns
  have hts := atoms_spec (ws := w_D_init) B.pre
  have hg : ∀ w ∈ gtbl, w.before _ s = true := fun w h => hts w (List.mem_cons_of_mem _ h)
  have hown : s.vm.findClass R_D = some m.cls := findClass_of_methodNamed B.named
  have hlocks := B.notSynchronized
  have hin : meth.name = "<init>" := (name_of_methodNamed B.named B.method).1
  have hS : va_S (kA b (b + 1)) s.heap s.heap [] := va_S.rf
  have hl := lv_entry ([.ref b]) (n := 2) (Nat.le_of_ble_eq_true rfl)
  rw [lg_entry_eq]
  generalize (lg_sl ([.ref b]) ++ List.replicate (2 - (lg_sl ([.ref b])).length) Slot.unset).toArray = ls at hl ⊢
  have hl : lv_has ls 2 [(0, .ref b)] := hl
  have hP0 : va_P (dC, dI) clsx (fm_w (LD aC b 0 0 0) b 1 mu0) s.heap := fk_snoc fk_nil (by rw [ld_0, mu0_lo (by decide) (by decide) (by decide)]; exact hP 0 _ rfl)
  refine lv_aload_n hx hb d_D_init_0 rfl (lv_at hl 0 rfl) ?_
  refine W.objInit hx hb hown (hg _ ml_D_1) (hg _ im_Object_init) (hg _ co_Object_init) rfl (by rw [hml]; exact hl.1) rfl d_D_init_1 (Nat.le_of_ble_eq_true rfl) (Nat.le_of_ble_eq_true rfl) ?_
  refine W.eq (g2 := F0 m 4 ls []) rfl ?_
  refine lv_aload_n hx hb d_D_init_4 rfl (lv_at hl 0 rfl) ?_
  refine ki_new (ci := 1) (fs := [.null, .null, .null]) (C := R_F) (T := T_F) (N := 3) (h := b + 1) hx hb hg uw_F ty_F tk_F hown (hg _ cl_D_7) (hg _ is_F) (hg _ in_F) hK hS (by omega) (by omega) rfl (fun k hk => by rcases (show k = 0 ∨ k = 1 ∨ k = 2 by omega) with rfl | rfl | rfl <;> rfl) (Nat.le_of_ble_eq_true rfl) (Nat.le_of_ble_eq_true rfl) d_D_init_5 (fun H1 hPn o1 z1 hS1 => ?_)
  have hP1 := fk_kept hP0 (fun q hq => o1 q (by omega))
  refine lv_dup hx hb d_D_init_8 rfl ?_
  refine va_callv (va_runI (As := []) (rest := [.ref (b + 1), .ref b]) ⟨hx, hb, hml, hown, hts⟩ (c_F_init l dC dI aC (b + 1) (b + 1 + 1)) (cw_I (fun w h => List.mem_cons_of_mem _ h) hts ki_F_init ml_D_9 ⟨Nat.le_of_ble_eq_true rfl, Nat.le_of_ble_eq_true rfl⟩ rfl rfl) ⟨ci_bl, fun U hU hW => ⟨rfl, by rw [hU]; exact z1, by rw [hU]; exact hPn, va_K.moved hW.alike hK, XI_mv hX hW⟩⟩ rfl rfl hl.1 rfl (lv_room (Nat.le_of_ble_eq_true rfl)) d_D_init_9 ⟨Nat.le_of_ble_eq_true rfl, Nat.le_of_ble_eq_true rfl⟩) hS1 (fun q h1 h2 => Or.inr (by rcases h2 with h2 | h2 <;> omega)) (fun q h2 => Or.inr (by rcases h2 with h2 | h2 <;> omega)) (fun u t H2 locs2 ht hvm hw hB hz hk hS2 => ?_)
  rw [ht] at hB
  have hP2 := fk_kept hP1 (fun q hq => hk q (by omega) (fun z => by rcases z with z | z <;> omega))
  have hP3 : va_P (dC, dI) clsx (fm_w (LD aC b 0 0 0) b 5 mu0) H2 := fk_ext hP2 (dc_fld aC b hB)
  refine va_putF (D := (dC, dI)) (ci := 0) (v := .ref (b + 1)) (ty := .object "DeltaPlayfield$Field") (C := R_D) (T := T_D) (N := 5) hx hb hg uw_D ty_D tk_D nm_D hown hK hP3 (fm_D kA_f) hS2 0 (fm_is (k := 0) (by decide) (ld_0 aC b 0 0 0 _)) rfl 0 (by decide) (hg _ fl_D_10) (fun _ h9 => h9) rfl hin rfl (by decide +kernel) rfl rfl (Nat.le_of_ble_eq_true rfl) d_D_init_12 (fun H4 locs4 hP4 hD4 hS4 => ?_)
  have hP4 : va_P (dC, dI) clsx (fm_w (LD aC b 1 0 0) b 5 mu0) H4 := by
    rw [← fk_set (k := 0) (L := LD aC b 0 0 0) (by decide) rfl (fun i hi hne => ld_q aC b 0 0 0 _ 1 hne)]
    exact hP4
  refine lv_aload_n hx hb d_D_init_15 rfl (lv_at hl 0 rfl) ?_
  have hlo5 : b + 5 ≤ H4.size := (hP4 4 _ (fm_at (by decide))).lt
  refine ki_new (ci := 2) (fs := [.null, .int 0]) (C := R_N) (T := T_N) (N := 2) (h := b + 5) hx hb hg uw_N ty_N tk_N hown (hg _ cl_D_16) (hg _ is_N) (hg _ in_N) hK hS4 hlo5 (by omega) rfl (fun k hk => by rcases (show k = 0 ∨ k = 1 by omega) with rfl | rfl <;> rfl) (Nat.le_of_ble_eq_true rfl) (Nat.le_of_ble_eq_true rfl) d_D_init_16 (fun H5 hPn5 o5 z5 hS5 => ?_)
  have hP5 := fk_kept hP4 (fun q hq => o5 q (by omega))
  refine lv_dup hx hb d_D_init_19 rfl ?_
  refine va_callv (va_runI (As := []) (rest := [.ref (b + 5), .ref b]) ⟨hx, hb, hml, hown, hts⟩ (c_N_init l dC dI aC (b + 5)) (cw_I (fun w h => List.mem_cons_of_mem _ h) hts ki_N_init ml_D_18 ⟨Nat.le_of_ble_eq_true rfl, Nat.le_of_ble_eq_true rfl⟩ rfl rfl) ⟨ci_bl, fun U hU hW => ⟨rfl, by rw [hU]; exact z5, by rw [hU]; exact hPn5, va_K.moved hW.alike hK, XI_mv hX hW⟩⟩ rfl rfl hl.1 rfl (lv_room (Nat.le_of_ble_eq_true rfl)) d_D_init_20 ⟨Nat.le_of_ble_eq_true rfl, Nat.le_of_ble_eq_true rfl⟩) hS5 (fun q h1 h2 => Or.inr (by rcases h2 with h2 | h2 <;> omega)) (fun q h2 => Or.inr (by rcases h2 with h2 | h2 <;> omega)) (fun u6 t6 H6 locs6 ht6 hvm6 hw6 hB6 hz6 hk6 hS6 => ?_)
  rw [ht6] at hB6
  have hP6 := fk_kept hP5 (fun q hq => hk6 q (by omega) (fun z => by rcases z with z | z <;> omega))
  have hP7 : va_P (dC, dI) clsx (fm_w (LD aC b 1 0 0) b 79 mu0) H6 := fk_ext hP6 (fun k h1 h2 => by rw [ld_n aC b 1 0 0 _ (by omega) (by omega) (by omega)]; exact ln_lc aC b hB6 k h1 h2)
  refine va_putF (D := (dC, dI)) (ci := 0) (v := .ref (b + 5)) (ty := .object "DeltaPlayfield$Network") (C := R_D) (T := T_D) (N := 5) hx hb hg uw_D ty_D tk_D nm_D hown hK hP7 (fm_D kA_f) hS6 0 (fm_is (k := 0) (by decide) (ld_0 aC b 1 0 0 _)) rfl 1 (by decide) (hg _ fl_D_19) (fun _ h9 => h9) rfl hin rfl (by decide +kernel) rfl rfl (Nat.le_of_ble_eq_true rfl) d_D_init_23 (fun H8 locs8 hP8 hD8 hS8 => ?_)
  have hP8 : va_P (dC, dI) clsx (fm_w (LD aC b 2 0 0) b 79 mu0) H8 := by
    rw [← fk_set (k := 0) (L := LD aC b 1 0 0) (by decide) rfl (fun i hi hne => ld_q aC b 1 0 0 _ 2 hne)]
    exact hP8
  refine lv_aload_n hx hb d_D_init_26 rfl (lv_at hl 0 rfl) ?_
  refine lv_iconst (v := 3) hx hb d_D_init_27 (by decide) ?_
  obtain ⟨kA9, comp, g1, g2, g3, g4⟩ := (hK.2 3 _ rfl).2
  have hlo9 : b + 79 ≤ H8.size := (hP8 78 _ (fm_at (by decide))).lt
  refine ki_anew (N' := 3) (h := b + 79) hx hb hown (hg _ cl_D_23) (va_AO.use hX.2.2.1) g4 hP8 (fm_D kA_f) hS8 hlo9 (by omega) (Or.inr (by omega)) (by decide) (by decide) (by decide) (Nat.le_of_ble_eq_true rfl) (Nat.le_of_ble_eq_true rfl) d_D_init_28 (fun H9 hP9 hD9 hS9 => ?_)
  have hP9 : va_P (dC, dI) clsx (fm_w (LD aC b 2 0 0) b 80 mu0) H9 := fk_snoc (fun k q hq => hP9 k q (by rw [List.getElem?_append_left (List.getElem?_eq_some_iff.mp hq).1]; exact hq)) (by
    rw [ld_79, ← cF_0]
    exact hP9 79 _ (by rw [List.getElem?_append_right (by rw [fm_len]; exact Nat.le_refl _), fm_len]; rfl))
  refine va_putF (D := (dC, dI)) (ci := 0) (v := .ref (b + 79)) (ty := .array (.object "DeltaPlayfield$Client")) (C := R_D) (T := T_D) (N := 5) hx hb hg uw_D ty_D tk_D nm_D hown hK hP9 (fm_D kA_f) hS9 0 (fm_is (k := 0) (by decide) (ld_0 aC b 2 0 0 _)) rfl 2 (by decide) (hg _ fl_D_25) (fun _ h9 => h9) rfl hin rfl (by decide +kernel) rfl rfl (Nat.le_of_ble_eq_true rfl) d_D_init_31 (fun HA locsA hPA hDA hSA => ?_)
  have hPA : va_P (dC, dI) clsx (fm_w (LD aC b 3 0 0) b 80 mu0) HA := by
    rw [← fk_set (k := 0) (L := LD aC b 2 0 0) (by decide) rfl (fun i hi hne => ld_q aC b 2 0 0 _ 3 hne)]
    exact hPA
  refine lv_aload_n hx hb d_D_init_34 rfl (lv_at hl 0 rfl) ?_
  refine lv_iconst (v := 3) hx hb d_D_init_35 (by decide) ?_
  obtain ⟨kAB, compB, g1B, g2B, g3B, g4B⟩ := (hK.2 4 _ rfl).2
  have hloB : b + 80 ≤ HA.size := (hPA 79 _ (fm_at (by decide))).lt
  refine ki_anew (N' := 3) (h := b + 80) hx hb hown (hg _ cl_D_29) (va_AO.use hX.2.2.2) g4B hPA (fm_D kA_f) hSA hloB (by omega) (Or.inr (by omega)) (by decide) (by decide) (by decide) (Nat.le_of_ble_eq_true rfl) (Nat.le_of_ble_eq_true rfl) d_D_init_36 (fun HB hPB hDB hSB => ?_)
  have hPB : va_P (dC, dI) clsx (fm_w (LD aC b 3 0 0) b 81 mu0) HB := fk_snoc (fun k q hq => hPB k q (by rw [List.getElem?_append_left (List.getElem?_eq_some_iff.mp hq).1]; exact hq)) (by
    rw [ld_80, ← cF_0]
    exact hPB 80 _ (by rw [List.getElem?_append_right (by rw [fm_len]; exact Nat.le_refl _), fm_len]; rfl))
  refine va_putF (D := (dC, dI)) (ci := 0) (v := .ref (b + 80)) (ty := .array (.object "DeltaPlayfield$Account")) (C := R_D) (T := T_D) (N := 5) hx hb hg uw_D ty_D tk_D nm_D hown hK hPB (fm_D kA_f) hSB 0 (fm_is (k := 0) (by decide) (ld_0 aC b 3 0 0 _)) rfl 3 (by decide) (hg _ fl_D_31) (fun _ h9 => h9) rfl hin rfl (by decide +kernel) rfl rfl (Nat.le_of_ble_eq_true rfl) d_D_init_39 (fun HC locsC hPC hDC hSC => ?_)
  have hPC : va_P (dC, dI) clsx (fm_w (LD aC b 4 0 0) b 81 mu0) HC := by
    rw [← fk_set (k := 0) (L := LD aC b 3 0 0) (by decide) rfl (fun i hi hne => ld_q aC b 3 0 0 _ 4 hne)]
    exact hPC
  refine lv_iconst (v := 0) hx hb d_D_init_42 (by decide) ?_
  refine lv_istore_n (lv' := [(1, .int (nI 0)), (0, .ref b)]) hx hb d_D_init_43 rfl hl (by decide) rfl (fun ls hl => ?_)
  exact kl_D_init l dC dI aC b ⟨hx, hb, hr, hml, hown, hts, hlocks, hK, hX⟩ hsz 4 0 _ _ ls (by decide) (by decide) hPC hSC (lv_sub hl [1, 0] rfl)
