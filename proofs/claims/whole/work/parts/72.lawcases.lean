/-! printed by wip/whole/gen/law.py: the cases of the law -/
set_option maxHeartbeats 4000000 in
set_option maxRecDepth 100000 in
theorem lw_wall {p : Program} {l : Launch} {e : Env} {s : State} {m : MethodId} {below : List Frame} {meth : Method} {c : Code} {H : Heap} {locs : List Loc} {cells slots : Nat} {Q : State → Prop} {ls : Array Slot} {b L : Nat} {xs : Nat → Int32} {dC : Nat → ClassId} {dI : Nat → Nat → Nat} {aC : Nat → ClassId} {k : Nat} {mu nu : fm_T} (hc : lawC p s m meth c b L xs dC dI aC) (hcs : cells ≤ room_1.cells ∧ slots ≤ room_1.slots) (hk : 5 * (k + 1) ≤ L) (hR : Rel k mu nu) (hi : lawI s b dC dI aC k mu nu H locs ls) (next : ∀ (mu2 nu2 : fm_T) (H2 : Heap) (locs2 : List Loc), Rel (k + 1) mu2 nu2 → lawI s b dC dI aC k mu2 nu2 H2 locs2 ls → W p l e room_1 s m #[Value.ref b] below meth c H2 locs2 cells slots Q (F0 m 486 ls [])) : W p l e room_1 s m #[Value.ref b] below meth c H locs cells slots Q (F0 m 104 ls []) := by
  obtain ⟨hx, hb, hr, hml, hown, hts, hX0, hbl, hlocks, hK, hXC, hL⟩ := hc
  obtain ⟨hP, hP2, hS, hl⟩ := hi
  have hg : ∀ w ∈ gtbl, w.before #[Value.ref b] s = true := fun w h => hts w (gt_sub h)
  have hk9 : k < 512 := by omega
  have hbA : ¬ (fun q => s.heap.size ≤ q) b := fun z => by have z : s.heap.size ≤ b := z; omega
  refine lv_aload_n hx hb d_L_law_104 rfl (lv_at hl 1 rfl) ?_
  refine lv_aload_n hx hb d_L_law_105 rfl (lv_at hl 0 rfl) ?_
  refine lv_iload_n hx hb d_L_law_106 rfl (lv_at hl 3 rfl) ?_
  refine lv_iconst (v := 1) hx hb d_L_law_107 (by decide) ?_
  refine lv_iadd hx hb d_L_law_108 ?_
  refine lv_cv (y := nI (5 * k + 1)) (nI_add _ 1) ?_
  refine lw_ld hx hb hX0 hbl hbA hS (5 * k + 1) (by omega) hL d_L_law_109 ?_
  refine lv_aload_n hx hb d_L_law_110 rfl (lv_at hl 0 rfl) ?_
  refine lv_iload_n hx hb d_L_law_111 rfl (lv_at hl 3 rfl) ?_
  refine lv_iconst (v := 2) hx hb d_L_law_112 (by decide) ?_
  refine lv_iadd hx hb d_L_law_113 ?_
  refine lv_cv (y := nI (5 * k + 2)) (nI_add _ 2) ?_
  refine lw_ld hx hb hX0 hbl hbA hS (5 * k + 2) (by omega) hL d_L_law_114 ?_
  refine va_calli (va_runV (As := [.int (xs (5 * k + 1)), .int (xs (5 * k + 2))]) (rest := []) ⟨hx, hb, hml, hown, hts⟩ (c_D_wall l dC dI aC s.heap.size mu (xs (5 * k + 1)) (xs (5 * k + 2)) ) (cw_V (fun w h => gt_sub h) hts kv_D_wall ml_L_13 ⟨Nat.le_of_ble_eq_true rfl, Nat.le_of_ble_eq_true rfl⟩ rfl rfl) (fm_preV XC_bl (XC_law hXC hS) hK hP 0 (by decide) (lc_D aC s.heap.size _) rfl) rfl rfl hl.1 rfl (lv_room (Nat.le_of_ble_eq_true rfl)) d_L_law_115 hcs) hS (fun q _ h => by have := h.1; show s.heap.size ≤ q; omega) (fun q h => by have := h.1; show s.heap.size ≤ q; omega) (fun r u t H1 locs1 ht hvm hp hB hz hkp hS => ?_)
  obtain ⟨rfl, rfl⟩ := hp
  have hP : va_P (dC, dI) clsx (fm_w (LC aC s.heap.size) s.heap.size 99 (f_D_wall mu (xs (5 * k + 1)) (xs (5 * k + 2))).2) H1 := by rw [← ht]; exact hB.1
  have hP2 := rg_keep hP2 hkp (fun j hj z => by have := z.2; omega)
  refine lv_aload_n hx hb d_L_law_118 rfl (lv_at hl 2 rfl) ?_
  refine lv_aload_n hx hb d_L_law_119 rfl (lv_at hl 0 rfl) ?_
  refine lv_iload_n hx hb d_L_law_120 rfl (lv_at hl 3 rfl) ?_
  refine lv_iconst (v := 1) hx hb d_L_law_121 (by decide) ?_
  refine lv_iadd hx hb d_L_law_122 ?_
  refine lv_cv (y := nI (5 * k + 1)) (nI_add _ 1) ?_
  refine lw_ld hx hb hX0 hbl hbA hS (5 * k + 1) (by omega) hL d_L_law_123 ?_
  refine lv_aload_n hx hb d_L_law_124 rfl (lv_at hl 0 rfl) ?_
  refine lv_iload_n hx hb d_L_law_125 rfl (lv_at hl 3 rfl) ?_
  refine lv_iconst (v := 2) hx hb d_L_law_126 (by decide) ?_
  refine lv_iadd hx hb d_L_law_127 ?_
  refine lv_cv (y := nI (5 * k + 2)) (nI_add _ 2) ?_
  refine lw_ld hx hb hX0 hbl hbA hS (5 * k + 2) (by omega) hL d_L_law_128 ?_
  refine va_calli (va_runV (As := [.int (xs (5 * k + 1)), .int (xs (5 * k + 2))]) (rest := [.int (f_D_wall mu (xs (5 * k + 1)) (xs (5 * k + 2))).1]) ⟨hx, hb, hml, hown, hts⟩ (c_M_wall l dC dI aC (s.heap.size + 99) nu (xs (5 * k + 1)) (xs (5 * k + 2)) ) (cw_V (fun w h => gt_sub h) hts kv_M_wall ml_L_17 ⟨Nat.le_of_ble_eq_true rfl, Nat.le_of_ble_eq_true rfl⟩ rfl rfl) (fm_preV XM_bl (fun _ _ _ => trivial) hK hP2 0 (by decide) (lm_M aC (s.heap.size + 99) _) rfl) rfl rfl hl.1 rfl (lv_room (Nat.le_of_ble_eq_true rfl)) d_L_law_129 hcs) hS (fun q _ h => by have := h.1; show s.heap.size ≤ q; omega) (fun q h => by have := h.1; show s.heap.size ≤ q; omega) (fun r u t H1 locs1 ht hvm hp hB hz hkp hS => ?_)
  obtain ⟨rfl, rfl⟩ := hp
  have hP2 : va_P (dC, dI) clsx (fm_w (LM aC (s.heap.size + 99)) (s.heap.size + 99) 11 (f_M_wall nu (xs (5 * k + 1)) (xs (5 * k + 2))).2) H1 := by rw [← ht]; exact hB.1
  have hP := rg_keep hP hkp (fun j hj z => by have := z.1; omega)
  refine lv_icmp_eq (tgt := 486) hx hb d_L_law_132 rfl (fun _ => ?_) (fun h => absurd (rel_wall hR (xs (5 * k + 1)) (xs (5 * k + 2))).1 h)
  exact next _ _ _ _ (rel_wall hR (xs (5 * k + 1)) (xs (5 * k + 2))).2 ⟨hP, hP2, hS, hl⟩
set_option maxHeartbeats 4000000 in
set_option maxRecDepth 100000 in
theorem lw_place {p : Program} {l : Launch} {e : Env} {s : State} {m : MethodId} {below : List Frame} {meth : Method} {c : Code} {H : Heap} {locs : List Loc} {cells slots : Nat} {Q : State → Prop} {ls : Array Slot} {b L : Nat} {xs : Nat → Int32} {dC : Nat → ClassId} {dI : Nat → Nat → Nat} {aC : Nat → ClassId} {k : Nat} {mu nu : fm_T} (hc : lawC p s m meth c b L xs dC dI aC) (hcs : cells ≤ room_1.cells ∧ slots ≤ room_1.slots) (hk : 5 * (k + 1) ≤ L) (hR : Rel k mu nu) (hi : lawI s b dC dI aC k mu nu H locs ls) (next : ∀ (mu2 nu2 : fm_T) (H2 : Heap) (locs2 : List Loc), Rel (k + 1) mu2 nu2 → lawI s b dC dI aC k mu2 nu2 H2 locs2 ls → W p l e room_1 s m #[Value.ref b] below meth c H2 locs2 cells slots Q (F0 m 486 ls [])) : W p l e room_1 s m #[Value.ref b] below meth c H locs cells slots Q (F0 m 137 ls []) := by
  obtain ⟨hx, hb, hr, hml, hown, hts, hX0, hbl, hlocks, hK, hXC, hL⟩ := hc
  obtain ⟨hP, hP2, hS, hl⟩ := hi
  have hg : ∀ w ∈ gtbl, w.before #[Value.ref b] s = true := fun w h => hts w (gt_sub h)
  have hk9 : k < 512 := by omega
  have hbA : ¬ (fun q => s.heap.size ≤ q) b := fun z => by have z : s.heap.size ≤ b := z; omega
  refine lv_aload_n hx hb d_L_law_137 rfl (lv_at hl 1 rfl) ?_
  refine lv_aload_n hx hb d_L_law_138 rfl (lv_at hl 0 rfl) ?_
  refine lv_iload_n hx hb d_L_law_139 rfl (lv_at hl 3 rfl) ?_
  refine lv_iconst (v := 1) hx hb d_L_law_140 (by decide) ?_
  refine lv_iadd hx hb d_L_law_141 ?_
  refine lv_cv (y := nI (5 * k + 1)) (nI_add _ 1) ?_
  refine lw_ld hx hb hX0 hbl hbA hS (5 * k + 1) (by omega) hL d_L_law_142 ?_
  refine lv_aload_n hx hb d_L_law_143 rfl (lv_at hl 0 rfl) ?_
  refine lv_iload_n hx hb d_L_law_144 rfl (lv_at hl 3 rfl) ?_
  refine lv_iconst (v := 2) hx hb d_L_law_145 (by decide) ?_
  refine lv_iadd hx hb d_L_law_146 ?_
  refine lv_cv (y := nI (5 * k + 2)) (nI_add _ 2) ?_
  refine lw_ld hx hb hX0 hbl hbA hS (5 * k + 2) (by omega) hL d_L_law_147 ?_
  refine lv_aload_n hx hb d_L_law_148 rfl (lv_at hl 0 rfl) ?_
  refine lv_iload_n hx hb d_L_law_149 rfl (lv_at hl 3 rfl) ?_
  refine lv_iconst (v := 3) hx hb d_L_law_150 (by decide) ?_
  refine lv_iadd hx hb d_L_law_151 ?_
  refine lv_cv (y := nI (5 * k + 3)) (nI_add _ 3) ?_
  refine lw_ld hx hb hX0 hbl hbA hS (5 * k + 3) (by omega) hL d_L_law_152 ?_
  refine lv_aload_n hx hb d_L_law_153 rfl (lv_at hl 0 rfl) ?_
  refine lv_iload_n hx hb d_L_law_154 rfl (lv_at hl 3 rfl) ?_
  refine lv_iconst (v := 4) hx hb d_L_law_155 (by decide) ?_
  refine lv_iadd hx hb d_L_law_156 ?_
  refine lv_cv (y := nI (5 * k + 4)) (nI_add _ 4) ?_
  refine lw_ld hx hb hX0 hbl hbA hS (5 * k + 4) (by omega) hL d_L_law_157 ?_
  refine va_calli (va_runV (As := [.int (xs (5 * k + 1)), .int (xs (5 * k + 2)), .int (xs (5 * k + 3)), .int (xs (5 * k + 4))]) (rest := []) ⟨hx, hb, hml, hown, hts⟩ (c_D_place l dC dI aC s.heap.size mu (xs (5 * k + 1)) (xs (5 * k + 2)) (xs (5 * k + 3)) (xs (5 * k + 4)) ) (cw_V (fun w h => gt_sub h) hts kv_D_place ml_L_18 ⟨Nat.le_of_ble_eq_true rfl, Nat.le_of_ble_eq_true rfl⟩ rfl rfl) (fm_preV XC_bl (XC_law hXC hS) hK hP 0 (by decide) (lc_D aC s.heap.size _) rfl) rfl rfl hl.1 rfl (lv_room (Nat.le_of_ble_eq_true rfl)) d_L_law_158 hcs) hS (fun q _ h => by have := h.1; show s.heap.size ≤ q; omega) (fun q h => by have := h.1; show s.heap.size ≤ q; omega) (fun r u t H1 locs1 ht hvm hp hB hz hkp hS => ?_)
  obtain ⟨rfl, rfl⟩ := hp
  have hP : va_P (dC, dI) clsx (fm_w (LC aC s.heap.size) s.heap.size 99 (f_D_place mu (xs (5 * k + 1)) (xs (5 * k + 2)) (xs (5 * k + 3)) (xs (5 * k + 4))).2) H1 := by rw [← ht]; exact hB.1
  have hP2 := rg_keep hP2 hkp (fun j hj z => by have := z.2; omega)
  refine lv_aload_n hx hb d_L_law_161 rfl (lv_at hl 2 rfl) ?_
  refine lv_aload_n hx hb d_L_law_162 rfl (lv_at hl 0 rfl) ?_
  refine lv_iload_n hx hb d_L_law_163 rfl (lv_at hl 3 rfl) ?_
  refine lv_iconst (v := 1) hx hb d_L_law_164 (by decide) ?_
  refine lv_iadd hx hb d_L_law_165 ?_
  refine lv_cv (y := nI (5 * k + 1)) (nI_add _ 1) ?_
  refine lw_ld hx hb hX0 hbl hbA hS (5 * k + 1) (by omega) hL d_L_law_166 ?_
  refine lv_aload_n hx hb d_L_law_167 rfl (lv_at hl 0 rfl) ?_
  refine lv_iload_n hx hb d_L_law_168 rfl (lv_at hl 3 rfl) ?_
  refine lv_iconst (v := 2) hx hb d_L_law_169 (by decide) ?_
  refine lv_iadd hx hb d_L_law_170 ?_
  refine lv_cv (y := nI (5 * k + 2)) (nI_add _ 2) ?_
  refine lw_ld hx hb hX0 hbl hbA hS (5 * k + 2) (by omega) hL d_L_law_171 ?_
  refine lv_aload_n hx hb d_L_law_172 rfl (lv_at hl 0 rfl) ?_
  refine lv_iload_n hx hb d_L_law_173 rfl (lv_at hl 3 rfl) ?_
  refine lv_iconst (v := 3) hx hb d_L_law_174 (by decide) ?_
  refine lv_iadd hx hb d_L_law_175 ?_
  refine lv_cv (y := nI (5 * k + 3)) (nI_add _ 3) ?_
  refine lw_ld hx hb hX0 hbl hbA hS (5 * k + 3) (by omega) hL d_L_law_176 ?_
  refine lv_aload_n hx hb d_L_law_177 rfl (lv_at hl 0 rfl) ?_
  refine lv_iload_n hx hb d_L_law_178 rfl (lv_at hl 3 rfl) ?_
  refine lv_iconst (v := 4) hx hb d_L_law_179 (by decide) ?_
  refine lv_iadd hx hb d_L_law_180 ?_
  refine lv_cv (y := nI (5 * k + 4)) (nI_add _ 4) ?_
  refine lw_ld hx hb hX0 hbl hbA hS (5 * k + 4) (by omega) hL d_L_law_181 ?_
  refine va_calli (va_runV (As := [.int (xs (5 * k + 1)), .int (xs (5 * k + 2)), .int (xs (5 * k + 3)), .int (xs (5 * k + 4))]) (rest := [.int (f_D_place mu (xs (5 * k + 1)) (xs (5 * k + 2)) (xs (5 * k + 3)) (xs (5 * k + 4))).1]) ⟨hx, hb, hml, hown, hts⟩ (c_M_place l dC dI aC (s.heap.size + 99) nu (xs (5 * k + 1)) (xs (5 * k + 2)) (xs (5 * k + 3)) (xs (5 * k + 4)) ) (cw_V (fun w h => gt_sub h) hts kv_M_place ml_L_22 ⟨Nat.le_of_ble_eq_true rfl, Nat.le_of_ble_eq_true rfl⟩ rfl rfl) (fm_preV XM_bl (fun _ _ _ => trivial) hK hP2 0 (by decide) (lm_M aC (s.heap.size + 99) _) rfl) rfl rfl hl.1 rfl (lv_room (Nat.le_of_ble_eq_true rfl)) d_L_law_182 hcs) hS (fun q _ h => by have := h.1; show s.heap.size ≤ q; omega) (fun q h => by have := h.1; show s.heap.size ≤ q; omega) (fun r u t H1 locs1 ht hvm hp hB hz hkp hS => ?_)
  obtain ⟨rfl, rfl⟩ := hp
  have hP2 : va_P (dC, dI) clsx (fm_w (LM aC (s.heap.size + 99)) (s.heap.size + 99) 11 (f_M_place nu (xs (5 * k + 1)) (xs (5 * k + 2)) (xs (5 * k + 3)) (xs (5 * k + 4))).2) H1 := by rw [← ht]; exact hB.1
  have hP := rg_keep hP hkp (fun j hj z => by have := z.1; omega)
  refine lv_icmp_eq (tgt := 486) hx hb d_L_law_185 rfl (fun _ => ?_) (fun h => absurd (rel_place hR (xs (5 * k + 1)) (xs (5 * k + 2)) (xs (5 * k + 3)) (xs (5 * k + 4))).1 h)
  exact next _ _ _ _ (rel_place hR (xs (5 * k + 1)) (xs (5 * k + 2)) (xs (5 * k + 3)) (xs (5 * k + 4))).2 ⟨hP, hP2, hS, hl⟩
set_option maxHeartbeats 4000000 in
set_option maxRecDepth 100000 in
theorem lw_input {p : Program} {l : Launch} {e : Env} {s : State} {m : MethodId} {below : List Frame} {meth : Method} {c : Code} {H : Heap} {locs : List Loc} {cells slots : Nat} {Q : State → Prop} {ls : Array Slot} {b L : Nat} {xs : Nat → Int32} {dC : Nat → ClassId} {dI : Nat → Nat → Nat} {aC : Nat → ClassId} {k : Nat} {mu nu : fm_T} (hc : lawC p s m meth c b L xs dC dI aC) (hcs : cells ≤ room_1.cells ∧ slots ≤ room_1.slots) (hk : 5 * (k + 1) ≤ L) (hR : Rel k mu nu) (hi : lawI s b dC dI aC k mu nu H locs ls) (next : ∀ (mu2 nu2 : fm_T) (H2 : Heap) (locs2 : List Loc), Rel (k + 1) mu2 nu2 → lawI s b dC dI aC k mu2 nu2 H2 locs2 ls → W p l e room_1 s m #[Value.ref b] below meth c H2 locs2 cells slots Q (F0 m 486 ls [])) : W p l e room_1 s m #[Value.ref b] below meth c H locs cells slots Q (F0 m 190 ls []) := by
  obtain ⟨hx, hb, hr, hml, hown, hts, hX0, hbl, hlocks, hK, hXC, hL⟩ := hc
  obtain ⟨hP, hP2, hS, hl⟩ := hi
  have hg : ∀ w ∈ gtbl, w.before #[Value.ref b] s = true := fun w h => hts w (gt_sub h)
  have hk9 : k < 512 := by omega
  have hbA : ¬ (fun q => s.heap.size ≤ q) b := fun z => by have z : s.heap.size ≤ b := z; omega
  refine lv_aload_n hx hb d_L_law_190 rfl (lv_at hl 1 rfl) ?_
  refine lv_aload_n hx hb d_L_law_191 rfl (lv_at hl 0 rfl) ?_
  refine lv_iload_n hx hb d_L_law_192 rfl (lv_at hl 3 rfl) ?_
  refine lv_iconst (v := 1) hx hb d_L_law_193 (by decide) ?_
  refine lv_iadd hx hb d_L_law_194 ?_
  refine lv_cv (y := nI (5 * k + 1)) (nI_add _ 1) ?_
  refine lw_ld hx hb hX0 hbl hbA hS (5 * k + 1) (by omega) hL d_L_law_195 ?_
  refine lv_aload_n hx hb d_L_law_196 rfl (lv_at hl 0 rfl) ?_
  refine lv_iload_n hx hb d_L_law_197 rfl (lv_at hl 3 rfl) ?_
  refine lv_iconst (v := 2) hx hb d_L_law_198 (by decide) ?_
  refine lv_iadd hx hb d_L_law_199 ?_
  refine lv_cv (y := nI (5 * k + 2)) (nI_add _ 2) ?_
  refine lw_ld hx hb hX0 hbl hbA hS (5 * k + 2) (by omega) hL d_L_law_200 ?_
  refine va_calli (va_runV (As := [.int (xs (5 * k + 1)), .int (xs (5 * k + 2))]) (rest := []) ⟨hx, hb, hml, hown, hts⟩ (c_D_input l dC dI aC s.heap.size mu (xs (5 * k + 1)) (xs (5 * k + 2)) ) (cw_V (fun w h => gt_sub h) hts kv_D_input ml_L_23 ⟨Nat.le_of_ble_eq_true rfl, Nat.le_of_ble_eq_true rfl⟩ rfl rfl) (fm_preV XC_bl (XC_law hXC hS) hK hP 0 (by decide) (lc_D aC s.heap.size _) rfl) rfl rfl hl.1 rfl (lv_room (Nat.le_of_ble_eq_true rfl)) d_L_law_201 hcs) hS (fun q _ h => by have := h.1; show s.heap.size ≤ q; omega) (fun q h => by have := h.1; show s.heap.size ≤ q; omega) (fun r u t H1 locs1 ht hvm hp hB hz hkp hS => ?_)
  obtain ⟨rfl, rfl⟩ := hp
  have hP : va_P (dC, dI) clsx (fm_w (LC aC s.heap.size) s.heap.size 99 (f_D_input mu (xs (5 * k + 1)) (xs (5 * k + 2))).2) H1 := by rw [← ht]; exact hB.1
  have hP2 := rg_keep hP2 hkp (fun j hj z => by have := z.2; omega)
  refine lv_aload_n hx hb d_L_law_204 rfl (lv_at hl 2 rfl) ?_
  refine lv_aload_n hx hb d_L_law_205 rfl (lv_at hl 0 rfl) ?_
  refine lv_iload_n hx hb d_L_law_206 rfl (lv_at hl 3 rfl) ?_
  refine lv_iconst (v := 1) hx hb d_L_law_207 (by decide) ?_
  refine lv_iadd hx hb d_L_law_208 ?_
  refine lv_cv (y := nI (5 * k + 1)) (nI_add _ 1) ?_
  refine lw_ld hx hb hX0 hbl hbA hS (5 * k + 1) (by omega) hL d_L_law_209 ?_
  refine lv_aload_n hx hb d_L_law_210 rfl (lv_at hl 0 rfl) ?_
  refine lv_iload_n hx hb d_L_law_211 rfl (lv_at hl 3 rfl) ?_
  refine lv_iconst (v := 2) hx hb d_L_law_212 (by decide) ?_
  refine lv_iadd hx hb d_L_law_213 ?_
  refine lv_cv (y := nI (5 * k + 2)) (nI_add _ 2) ?_
  refine lw_ld hx hb hX0 hbl hbA hS (5 * k + 2) (by omega) hL d_L_law_214 ?_
  refine va_calli (va_runV (As := [.int (xs (5 * k + 1)), .int (xs (5 * k + 2))]) (rest := [.int (f_D_input mu (xs (5 * k + 1)) (xs (5 * k + 2))).1]) ⟨hx, hb, hml, hown, hts⟩ (c_M_input l dC dI aC (s.heap.size + 99) nu (xs (5 * k + 1)) (xs (5 * k + 2)) hR.2.2.2 (rel_his hR hk9)) (cw_V (fun w h => gt_sub h) hts kv_M_input ml_L_27 ⟨Nat.le_of_ble_eq_true rfl, Nat.le_of_ble_eq_true rfl⟩ rfl rfl) (fm_preV XM_bl (fun _ _ _ => trivial) hK hP2 0 (by decide) (lm_M aC (s.heap.size + 99) _) rfl) rfl rfl hl.1 rfl (lv_room (Nat.le_of_ble_eq_true rfl)) d_L_law_215 hcs) hS (fun q _ h => by have := h.1; show s.heap.size ≤ q; omega) (fun q h => by have := h.1; show s.heap.size ≤ q; omega) (fun r u t H1 locs1 ht hvm hp hB hz hkp hS => ?_)
  obtain ⟨rfl, rfl⟩ := hp
  have hP2 : va_P (dC, dI) clsx (fm_w (LM aC (s.heap.size + 99)) (s.heap.size + 99) 11 (f_M_input nu (xs (5 * k + 1)) (xs (5 * k + 2))).2) H1 := by rw [← ht]; exact hB.1
  have hP := rg_keep hP hkp (fun j hj z => by have := z.1; omega)
  refine lv_icmp_eq (tgt := 486) hx hb d_L_law_218 rfl (fun _ => ?_) (fun h => absurd (rel_input hR hk9 (xs (5 * k + 1)) (xs (5 * k + 2))).1 h)
  exact next _ _ _ _ (rel_input hR hk9 (xs (5 * k + 1)) (xs (5 * k + 2))).2 ⟨hP, hP2, hS, hl⟩
set_option maxHeartbeats 4000000 in
set_option maxRecDepth 100000 in
theorem lw_report {p : Program} {l : Launch} {e : Env} {s : State} {m : MethodId} {below : List Frame} {meth : Method} {c : Code} {H : Heap} {locs : List Loc} {cells slots : Nat} {Q : State → Prop} {ls : Array Slot} {b L : Nat} {xs : Nat → Int32} {dC : Nat → ClassId} {dI : Nat → Nat → Nat} {aC : Nat → ClassId} {k : Nat} {mu nu : fm_T} (hc : lawC p s m meth c b L xs dC dI aC) (hcs : cells ≤ room_1.cells ∧ slots ≤ room_1.slots) (hk : 5 * (k + 1) ≤ L) (hR : Rel k mu nu) (hi : lawI s b dC dI aC k mu nu H locs ls) (next : ∀ (mu2 nu2 : fm_T) (H2 : Heap) (locs2 : List Loc), Rel (k + 1) mu2 nu2 → lawI s b dC dI aC k mu2 nu2 H2 locs2 ls → W p l e room_1 s m #[Value.ref b] below meth c H2 locs2 cells slots Q (F0 m 486 ls [])) : W p l e room_1 s m #[Value.ref b] below meth c H locs cells slots Q (F0 m 223 ls []) := by
  obtain ⟨hx, hb, hr, hml, hown, hts, hX0, hbl, hlocks, hK, hXC, hL⟩ := hc
  obtain ⟨hP, hP2, hS, hl⟩ := hi
  have hg : ∀ w ∈ gtbl, w.before #[Value.ref b] s = true := fun w h => hts w (gt_sub h)
  have hk9 : k < 512 := by omega
  have hbA : ¬ (fun q => s.heap.size ≤ q) b := fun z => by have z : s.heap.size ≤ b := z; omega
  refine lv_aload_n hx hb d_L_law_223 rfl (lv_at hl 1 rfl) ?_
  refine lv_aload_n hx hb d_L_law_224 rfl (lv_at hl 0 rfl) ?_
  refine lv_iload_n hx hb d_L_law_225 rfl (lv_at hl 3 rfl) ?_
  refine lv_iconst (v := 1) hx hb d_L_law_226 (by decide) ?_
  refine lv_iadd hx hb d_L_law_227 ?_
  refine lv_cv (y := nI (5 * k + 1)) (nI_add _ 1) ?_
  refine lw_ld hx hb hX0 hbl hbA hS (5 * k + 1) (by omega) hL d_L_law_228 ?_
  refine va_calli (va_runV (As := [.int (xs (5 * k + 1))]) (rest := []) ⟨hx, hb, hml, hown, hts⟩ (c_D_report l dC dI aC s.heap.size mu (xs (5 * k + 1)) hR.2.2.1) (cw_V (fun w h => gt_sub h) hts kv_D_report ml_L_28 ⟨Nat.le_of_ble_eq_true rfl, Nat.le_of_ble_eq_true rfl⟩ rfl rfl) (fm_preV XC_bl (XC_law hXC hS) hK hP 0 (by decide) (lc_D aC s.heap.size _) rfl) rfl rfl hl.1 rfl (lv_room (Nat.le_of_ble_eq_true rfl)) d_L_law_229 hcs) hS (fun q _ h => by have := h.1; show s.heap.size ≤ q; omega) (fun q h => by have := h.1; show s.heap.size ≤ q; omega) (fun r u t H1 locs1 ht hvm hp hB hz hkp hS => ?_)
  obtain ⟨rfl, rfl⟩ := hp
  have hP : va_P (dC, dI) clsx (fm_w (LC aC s.heap.size) s.heap.size 99 (f_D_report mu (xs (5 * k + 1))).2) H1 := by rw [← ht]; exact hB.1
  have hP2 := rg_keep hP2 hkp (fun j hj z => by have := z.2; omega)
  refine lv_aload_n hx hb d_L_law_232 rfl (lv_at hl 2 rfl) ?_
  refine lv_aload_n hx hb d_L_law_233 rfl (lv_at hl 0 rfl) ?_
  refine lv_iload_n hx hb d_L_law_234 rfl (lv_at hl 3 rfl) ?_
  refine lv_iconst (v := 1) hx hb d_L_law_235 (by decide) ?_
  refine lv_iadd hx hb d_L_law_236 ?_
  refine lv_cv (y := nI (5 * k + 1)) (nI_add _ 1) ?_
  refine lw_ld hx hb hX0 hbl hbA hS (5 * k + 1) (by omega) hL d_L_law_237 ?_
  refine va_calli (va_runV (As := [.int (xs (5 * k + 1))]) (rest := [.int (f_D_report mu (xs (5 * k + 1))).1]) ⟨hx, hb, hml, hown, hts⟩ (c_M_report l dC dI aC (s.heap.size + 99) nu (xs (5 * k + 1)) hR.2.2.2) (cw_V (fun w h => gt_sub h) hts kv_M_report ml_L_32 ⟨Nat.le_of_ble_eq_true rfl, Nat.le_of_ble_eq_true rfl⟩ rfl rfl) (fm_preV XM_bl (fun _ _ _ => trivial) hK hP2 0 (by decide) (lm_M aC (s.heap.size + 99) _) rfl) rfl rfl hl.1 rfl (lv_room (Nat.le_of_ble_eq_true rfl)) d_L_law_238 hcs) hS (fun q _ h => by have := h.1; show s.heap.size ≤ q; omega) (fun q h => by have := h.1; show s.heap.size ≤ q; omega) (fun r u t H1 locs1 ht hvm hp hB hz hkp hS => ?_)
  obtain ⟨rfl, rfl⟩ := hp
  have hP2 : va_P (dC, dI) clsx (fm_w (LM aC (s.heap.size + 99)) (s.heap.size + 99) 11 (f_M_report nu (xs (5 * k + 1))).2) H1 := by rw [← ht]; exact hB.1
  have hP := rg_keep hP hkp (fun j hj z => by have := z.1; omega)
  refine lv_icmp_eq (tgt := 486) hx hb d_L_law_241 rfl (fun _ => ?_) (fun h => absurd (rel_report hR (xs (5 * k + 1))).1 h)
  exact next _ _ _ _ (rel_report hR (xs (5 * k + 1))).2 ⟨hP, hP2, hS, hl⟩
set_option maxHeartbeats 4000000 in
set_option maxRecDepth 100000 in
theorem lw_tick {p : Program} {l : Launch} {e : Env} {s : State} {m : MethodId} {below : List Frame} {meth : Method} {c : Code} {H : Heap} {locs : List Loc} {cells slots : Nat} {Q : State → Prop} {ls : Array Slot} {b L : Nat} {xs : Nat → Int32} {dC : Nat → ClassId} {dI : Nat → Nat → Nat} {aC : Nat → ClassId} {k : Nat} {mu nu : fm_T} (hc : lawC p s m meth c b L xs dC dI aC) (hcs : cells ≤ room_1.cells ∧ slots ≤ room_1.slots) (hk : 5 * (k + 1) ≤ L) (hR : Rel k mu nu) (hi : lawI s b dC dI aC k mu nu H locs ls) (next : ∀ (mu2 nu2 : fm_T) (H2 : Heap) (locs2 : List Loc), Rel (k + 1) mu2 nu2 → lawI s b dC dI aC k mu2 nu2 H2 locs2 ls → W p l e room_1 s m #[Value.ref b] below meth c H2 locs2 cells slots Q (F0 m 486 ls [])) : W p l e room_1 s m #[Value.ref b] below meth c H locs cells slots Q (F0 m 246 ls []) := by
  obtain ⟨hx, hb, hr, hml, hown, hts, hX0, hbl, hlocks, hK, hXC, hL⟩ := hc
  obtain ⟨hP, hP2, hS, hl⟩ := hi
  have hg : ∀ w ∈ gtbl, w.before #[Value.ref b] s = true := fun w h => hts w (gt_sub h)
  have hk9 : k < 512 := by omega
  have hbA : ¬ (fun q => s.heap.size ≤ q) b := fun z => by have z : s.heap.size ≤ b := z; omega
  refine lv_aload_n hx hb d_L_law_246 rfl (lv_at hl 1 rfl) ?_
  refine va_calli (va_runV (As := []) (rest := []) ⟨hx, hb, hml, hown, hts⟩ (c_D_tick l dC dI aC s.heap.size mu  hR.2.2.1) (cw_V (fun w h => gt_sub h) hts kv_D_tick ml_L_33 ⟨Nat.le_of_ble_eq_true rfl, Nat.le_of_ble_eq_true rfl⟩ rfl rfl) (fm_preV XC_bl (XC_law hXC hS) hK hP 0 (by decide) (lc_D aC s.heap.size _) rfl) rfl rfl hl.1 rfl (lv_room (Nat.le_of_ble_eq_true rfl)) d_L_law_247 hcs) hS (fun q _ h => by have := h.1; show s.heap.size ≤ q; omega) (fun q h => by have := h.1; show s.heap.size ≤ q; omega) (fun r u t H1 locs1 ht hvm hp hB hz hkp hS => ?_)
  obtain ⟨rfl, rfl⟩ := hp
  have hP : va_P (dC, dI) clsx (fm_w (LC aC s.heap.size) s.heap.size 99 (f_D_tick mu ).2) H1 := by rw [← ht]; exact hB.1
  have hP2 := rg_keep hP2 hkp (fun j hj z => by have := z.2; omega)
  refine lv_aload_n hx hb d_L_law_250 rfl (lv_at hl 2 rfl) ?_
  refine va_calli (va_runV (As := []) (rest := [.int (f_D_tick mu ).1]) ⟨hx, hb, hml, hown, hts⟩ (c_M_tick l dC dI aC (s.heap.size + 99) nu  hR.2.2.2 (rel_now hR hk9)) (cw_V (fun w h => gt_sub h) hts kv_M_tick ml_L_37 ⟨Nat.le_of_ble_eq_true rfl, Nat.le_of_ble_eq_true rfl⟩ rfl rfl) (fm_preV XM_bl (fun _ _ _ => trivial) hK hP2 0 (by decide) (lm_M aC (s.heap.size + 99) _) rfl) rfl rfl hl.1 rfl (lv_room (Nat.le_of_ble_eq_true rfl)) d_L_law_251 hcs) hS (fun q _ h => by have := h.1; show s.heap.size ≤ q; omega) (fun q h => by have := h.1; show s.heap.size ≤ q; omega) (fun r u t H1 locs1 ht hvm hp hB hz hkp hS => ?_)
  obtain ⟨rfl, rfl⟩ := hp
  have hP2 : va_P (dC, dI) clsx (fm_w (LM aC (s.heap.size + 99)) (s.heap.size + 99) 11 (f_M_tick nu ).2) H1 := by rw [← ht]; exact hB.1
  have hP := rg_keep hP hkp (fun j hj z => by have := z.1; omega)
  refine lv_icmp_eq (tgt := 486) hx hb d_L_law_254 rfl (fun _ => ?_) (fun h => absurd (rel_tick hR hk9 ).1 h)
  exact next _ _ _ _ (rel_tick hR hk9 ).2 ⟨hP, hP2, hS, hl⟩
set_option maxHeartbeats 4000000 in
set_option maxRecDepth 100000 in
theorem lw_deliver {p : Program} {l : Launch} {e : Env} {s : State} {m : MethodId} {below : List Frame} {meth : Method} {c : Code} {H : Heap} {locs : List Loc} {cells slots : Nat} {Q : State → Prop} {ls : Array Slot} {b L : Nat} {xs : Nat → Int32} {dC : Nat → ClassId} {dI : Nat → Nat → Nat} {aC : Nat → ClassId} {k : Nat} {mu nu : fm_T} (hc : lawC p s m meth c b L xs dC dI aC) (hcs : cells ≤ room_1.cells ∧ slots ≤ room_1.slots) (hk : 5 * (k + 1) ≤ L) (hR : Rel k mu nu) (hi : lawI s b dC dI aC k mu nu H locs ls) (next : ∀ (mu2 nu2 : fm_T) (H2 : Heap) (locs2 : List Loc), Rel (k + 1) mu2 nu2 → lawI s b dC dI aC k mu2 nu2 H2 locs2 ls → W p l e room_1 s m #[Value.ref b] below meth c H2 locs2 cells slots Q (F0 m 486 ls [])) : W p l e room_1 s m #[Value.ref b] below meth c H locs cells slots Q (F0 m 259 ls []) := by
  obtain ⟨hx, hb, hr, hml, hown, hts, hX0, hbl, hlocks, hK, hXC, hL⟩ := hc
  obtain ⟨hP, hP2, hS, hl⟩ := hi
  have hg : ∀ w ∈ gtbl, w.before #[Value.ref b] s = true := fun w h => hts w (gt_sub h)
  have hk9 : k < 512 := by omega
  have hbA : ¬ (fun q => s.heap.size ≤ q) b := fun z => by have z : s.heap.size ≤ b := z; omega
  refine lv_aload_n hx hb d_L_law_259 rfl (lv_at hl 1 rfl) ?_
  refine lv_aload_n hx hb d_L_law_260 rfl (lv_at hl 0 rfl) ?_
  refine lv_iload_n hx hb d_L_law_261 rfl (lv_at hl 3 rfl) ?_
  refine lv_iconst (v := 1) hx hb d_L_law_262 (by decide) ?_
  refine lv_iadd hx hb d_L_law_263 ?_
  refine lv_cv (y := nI (5 * k + 1)) (nI_add _ 1) ?_
  refine lw_ld hx hb hX0 hbl hbA hS (5 * k + 1) (by omega) hL d_L_law_264 ?_
  refine va_calli (va_runV (As := [.int (xs (5 * k + 1))]) (rest := []) ⟨hx, hb, hml, hown, hts⟩ (c_D_deliver l dC dI aC s.heap.size mu (xs (5 * k + 1)) hR.2.2.1) (cw_V (fun w h => gt_sub h) hts kv_D_deliver ml_L_38 ⟨Nat.le_of_ble_eq_true rfl, Nat.le_of_ble_eq_true rfl⟩ rfl rfl) (fm_preV XC_bl (XC_law hXC hS) hK hP 0 (by decide) (lc_D aC s.heap.size _) rfl) rfl rfl hl.1 rfl (lv_room (Nat.le_of_ble_eq_true rfl)) d_L_law_265 hcs) hS (fun q _ h => by have := h.1; show s.heap.size ≤ q; omega) (fun q h => by have := h.1; show s.heap.size ≤ q; omega) (fun r u t H1 locs1 ht hvm hp hB hz hkp hS => ?_)
  obtain ⟨rfl, rfl⟩ := hp
  have hP : va_P (dC, dI) clsx (fm_w (LC aC s.heap.size) s.heap.size 99 (f_D_deliver mu (xs (5 * k + 1))).2) H1 := by rw [← ht]; exact hB.1
  have hP2 := rg_keep hP2 hkp (fun j hj z => by have := z.2; omega)
  refine lv_aload_n hx hb d_L_law_268 rfl (lv_at hl 2 rfl) ?_
  refine lv_aload_n hx hb d_L_law_269 rfl (lv_at hl 0 rfl) ?_
  refine lv_iload_n hx hb d_L_law_270 rfl (lv_at hl 3 rfl) ?_
  refine lv_iconst (v := 1) hx hb d_L_law_271 (by decide) ?_
  refine lv_iadd hx hb d_L_law_272 ?_
  refine lv_cv (y := nI (5 * k + 1)) (nI_add _ 1) ?_
  refine lw_ld hx hb hX0 hbl hbA hS (5 * k + 1) (by omega) hL d_L_law_273 ?_
  refine va_calli (va_runV (As := [.int (xs (5 * k + 1))]) (rest := [.int (f_D_deliver mu (xs (5 * k + 1))).1]) ⟨hx, hb, hml, hown, hts⟩ (c_M_deliver l dC dI aC (s.heap.size + 99) nu (xs (5 * k + 1)) hR.2.2.2 (rel_rep hR)) (cw_V (fun w h => gt_sub h) hts kv_M_deliver ml_L_42 ⟨Nat.le_of_ble_eq_true rfl, Nat.le_of_ble_eq_true rfl⟩ rfl rfl) (fm_preV XM_bl (fun _ _ _ => trivial) hK hP2 0 (by decide) (lm_M aC (s.heap.size + 99) _) rfl) rfl rfl hl.1 rfl (lv_room (Nat.le_of_ble_eq_true rfl)) d_L_law_274 hcs) hS (fun q _ h => by have := h.1; show s.heap.size ≤ q; omega) (fun q h => by have := h.1; show s.heap.size ≤ q; omega) (fun r u t H1 locs1 ht hvm hp hB hz hkp hS => ?_)
  obtain ⟨rfl, rfl⟩ := hp
  have hP2 : va_P (dC, dI) clsx (fm_w (LM aC (s.heap.size + 99)) (s.heap.size + 99) 11 (f_M_deliver nu (xs (5 * k + 1))).2) H1 := by rw [← ht]; exact hB.1
  have hP := rg_keep hP hkp (fun j hj z => by have := z.1; omega)
  refine lv_icmp_eq (tgt := 486) hx hb d_L_law_277 rfl (fun _ => ?_) (fun h => absurd (rel_deliver hR (xs (5 * k + 1))).1 h)
  exact next _ _ _ _ (rel_deliver hR (xs (5 * k + 1))).2 ⟨hP, hP2, hS, hl⟩
set_option maxHeartbeats 4000000 in
set_option maxRecDepth 100000 in
theorem lw_lose {p : Program} {l : Launch} {e : Env} {s : State} {m : MethodId} {below : List Frame} {meth : Method} {c : Code} {H : Heap} {locs : List Loc} {cells slots : Nat} {Q : State → Prop} {ls : Array Slot} {b L : Nat} {xs : Nat → Int32} {dC : Nat → ClassId} {dI : Nat → Nat → Nat} {aC : Nat → ClassId} {k : Nat} {mu nu : fm_T} (hc : lawC p s m meth c b L xs dC dI aC) (hcs : cells ≤ room_1.cells ∧ slots ≤ room_1.slots) (hk : 5 * (k + 1) ≤ L) (hR : Rel k mu nu) (hi : lawI s b dC dI aC k mu nu H locs ls) (next : ∀ (mu2 nu2 : fm_T) (H2 : Heap) (locs2 : List Loc), Rel (k + 1) mu2 nu2 → lawI s b dC dI aC k mu2 nu2 H2 locs2 ls → W p l e room_1 s m #[Value.ref b] below meth c H2 locs2 cells slots Q (F0 m 486 ls [])) : W p l e room_1 s m #[Value.ref b] below meth c H locs cells slots Q (F0 m 282 ls []) := by
  obtain ⟨hx, hb, hr, hml, hown, hts, hX0, hbl, hlocks, hK, hXC, hL⟩ := hc
  obtain ⟨hP, hP2, hS, hl⟩ := hi
  have hg : ∀ w ∈ gtbl, w.before #[Value.ref b] s = true := fun w h => hts w (gt_sub h)
  have hk9 : k < 512 := by omega
  have hbA : ¬ (fun q => s.heap.size ≤ q) b := fun z => by have z : s.heap.size ≤ b := z; omega
  refine lv_aload_n hx hb d_L_law_282 rfl (lv_at hl 1 rfl) ?_
  refine lv_aload_n hx hb d_L_law_283 rfl (lv_at hl 0 rfl) ?_
  refine lv_iload_n hx hb d_L_law_284 rfl (lv_at hl 3 rfl) ?_
  refine lv_iconst (v := 1) hx hb d_L_law_285 (by decide) ?_
  refine lv_iadd hx hb d_L_law_286 ?_
  refine lv_cv (y := nI (5 * k + 1)) (nI_add _ 1) ?_
  refine lw_ld hx hb hX0 hbl hbA hS (5 * k + 1) (by omega) hL d_L_law_287 ?_
  refine va_calli (va_runV (As := [.int (xs (5 * k + 1))]) (rest := []) ⟨hx, hb, hml, hown, hts⟩ (c_D_lose l dC dI aC s.heap.size mu (xs (5 * k + 1)) hR.2.2.1) (cw_V (fun w h => gt_sub h) hts kv_D_lose ml_L_43 ⟨Nat.le_of_ble_eq_true rfl, Nat.le_of_ble_eq_true rfl⟩ rfl rfl) (fm_preV XC_bl (XC_law hXC hS) hK hP 0 (by decide) (lc_D aC s.heap.size _) rfl) rfl rfl hl.1 rfl (lv_room (Nat.le_of_ble_eq_true rfl)) d_L_law_288 hcs) hS (fun q _ h => by have := h.1; show s.heap.size ≤ q; omega) (fun q h => by have := h.1; show s.heap.size ≤ q; omega) (fun r u t H1 locs1 ht hvm hp hB hz hkp hS => ?_)
  obtain ⟨rfl, rfl⟩ := hp
  have hP : va_P (dC, dI) clsx (fm_w (LC aC s.heap.size) s.heap.size 99 (f_D_lose mu (xs (5 * k + 1))).2) H1 := by rw [← ht]; exact hB.1
  have hP2 := rg_keep hP2 hkp (fun j hj z => by have := z.2; omega)
  refine lv_aload_n hx hb d_L_law_291 rfl (lv_at hl 2 rfl) ?_
  refine lv_aload_n hx hb d_L_law_292 rfl (lv_at hl 0 rfl) ?_
  refine lv_iload_n hx hb d_L_law_293 rfl (lv_at hl 3 rfl) ?_
  refine lv_iconst (v := 1) hx hb d_L_law_294 (by decide) ?_
  refine lv_iadd hx hb d_L_law_295 ?_
  refine lv_cv (y := nI (5 * k + 1)) (nI_add _ 1) ?_
  refine lw_ld hx hb hX0 hbl hbA hS (5 * k + 1) (by omega) hL d_L_law_296 ?_
  refine va_calli (va_runV (As := [.int (xs (5 * k + 1))]) (rest := [.int (f_D_lose mu (xs (5 * k + 1))).1]) ⟨hx, hb, hml, hown, hts⟩ (c_M_lose l dC dI aC (s.heap.size + 99) nu (xs (5 * k + 1)) hR.2.2.2) (cw_V (fun w h => gt_sub h) hts kv_M_lose ml_L_46 ⟨Nat.le_of_ble_eq_true rfl, Nat.le_of_ble_eq_true rfl⟩ rfl rfl) (fm_preV XM_bl (fun _ _ _ => trivial) hK hP2 0 (by decide) (lm_M aC (s.heap.size + 99) _) rfl) rfl rfl hl.1 rfl (lv_room (Nat.le_of_ble_eq_true rfl)) d_L_law_297 hcs) hS (fun q _ h => by have := h.1; show s.heap.size ≤ q; omega) (fun q h => by have := h.1; show s.heap.size ≤ q; omega) (fun r u t H1 locs1 ht hvm hp hB hz hkp hS => ?_)
  obtain ⟨rfl, rfl⟩ := hp
  have hP2 : va_P (dC, dI) clsx (fm_w (LM aC (s.heap.size + 99)) (s.heap.size + 99) 11 (f_M_lose nu (xs (5 * k + 1))).2) H1 := by rw [← ht]; exact hB.1
  have hP := rg_keep hP hkp (fun j hj z => by have := z.1; omega)
  refine lv_icmp_eq (tgt := 486) hx hb d_L_law_300 rfl (fun _ => ?_) (fun h => absurd (rel_lose hR (xs (5 * k + 1))).1 h)
  exact next _ _ _ _ (rel_lose hR (xs (5 * k + 1))).2 ⟨hP, hP2, hS, hl⟩
set_option maxHeartbeats 4000000 in
set_option maxRecDepth 100000 in
theorem lw_copy {p : Program} {l : Launch} {e : Env} {s : State} {m : MethodId} {below : List Frame} {meth : Method} {c : Code} {H : Heap} {locs : List Loc} {cells slots : Nat} {Q : State → Prop} {ls : Array Slot} {b L : Nat} {xs : Nat → Int32} {dC : Nat → ClassId} {dI : Nat → Nat → Nat} {aC : Nat → ClassId} {k : Nat} {mu nu : fm_T} (hc : lawC p s m meth c b L xs dC dI aC) (hcs : cells ≤ room_1.cells ∧ slots ≤ room_1.slots) (hk : 5 * (k + 1) ≤ L) (hR : Rel k mu nu) (hi : lawI s b dC dI aC k mu nu H locs ls) (next : ∀ (mu2 nu2 : fm_T) (H2 : Heap) (locs2 : List Loc), Rel (k + 1) mu2 nu2 → lawI s b dC dI aC k mu2 nu2 H2 locs2 ls → W p l e room_1 s m #[Value.ref b] below meth c H2 locs2 cells slots Q (F0 m 486 ls [])) : W p l e room_1 s m #[Value.ref b] below meth c H locs cells slots Q (F0 m 305 ls []) := by
  obtain ⟨hx, hb, hr, hml, hown, hts, hX0, hbl, hlocks, hK, hXC, hL⟩ := hc
  obtain ⟨hP, hP2, hS, hl⟩ := hi
  have hg : ∀ w ∈ gtbl, w.before #[Value.ref b] s = true := fun w h => hts w (gt_sub h)
  have hk9 : k < 512 := by omega
  have hbA : ¬ (fun q => s.heap.size ≤ q) b := fun z => by have z : s.heap.size ≤ b := z; omega
  refine lv_aload_n hx hb d_L_law_305 rfl (lv_at hl 1 rfl) ?_
  refine lv_aload_n hx hb d_L_law_306 rfl (lv_at hl 0 rfl) ?_
  refine lv_iload_n hx hb d_L_law_307 rfl (lv_at hl 3 rfl) ?_
  refine lv_iconst (v := 1) hx hb d_L_law_308 (by decide) ?_
  refine lv_iadd hx hb d_L_law_309 ?_
  refine lv_cv (y := nI (5 * k + 1)) (nI_add _ 1) ?_
  refine lw_ld hx hb hX0 hbl hbA hS (5 * k + 1) (by omega) hL d_L_law_310 ?_
  refine va_calli (va_runV (As := [.int (xs (5 * k + 1))]) (rest := []) ⟨hx, hb, hml, hown, hts⟩ (c_D_copy l dC dI aC s.heap.size mu (xs (5 * k + 1)) hR.2.2.1) (cw_V (fun w h => gt_sub h) hts kv_D_copy ml_L_47 ⟨Nat.le_of_ble_eq_true rfl, Nat.le_of_ble_eq_true rfl⟩ rfl rfl) (fm_preV XC_bl (XC_law hXC hS) hK hP 0 (by decide) (lc_D aC s.heap.size _) rfl) rfl rfl hl.1 rfl (lv_room (Nat.le_of_ble_eq_true rfl)) d_L_law_311 hcs) hS (fun q _ h => by have := h.1; show s.heap.size ≤ q; omega) (fun q h => by have := h.1; show s.heap.size ≤ q; omega) (fun r u t H1 locs1 ht hvm hp hB hz hkp hS => ?_)
  obtain ⟨rfl, rfl⟩ := hp
  have hP : va_P (dC, dI) clsx (fm_w (LC aC s.heap.size) s.heap.size 99 (f_D_copy mu (xs (5 * k + 1))).2) H1 := by rw [← ht]; exact hB.1
  have hP2 := rg_keep hP2 hkp (fun j hj z => by have := z.2; omega)
  refine lv_aload_n hx hb d_L_law_314 rfl (lv_at hl 2 rfl) ?_
  refine lv_aload_n hx hb d_L_law_315 rfl (lv_at hl 0 rfl) ?_
  refine lv_iload_n hx hb d_L_law_316 rfl (lv_at hl 3 rfl) ?_
  refine lv_iconst (v := 1) hx hb d_L_law_317 (by decide) ?_
  refine lv_iadd hx hb d_L_law_318 ?_
  refine lv_cv (y := nI (5 * k + 1)) (nI_add _ 1) ?_
  refine lw_ld hx hb hX0 hbl hbA hS (5 * k + 1) (by omega) hL d_L_law_319 ?_
  refine va_calli (va_runV (As := [.int (xs (5 * k + 1))]) (rest := [.int (f_D_copy mu (xs (5 * k + 1))).1]) ⟨hx, hb, hml, hown, hts⟩ (c_M_copy l dC dI aC (s.heap.size + 99) nu (xs (5 * k + 1)) hR.2.2.2) (cw_V (fun w h => gt_sub h) hts kv_M_copy ml_L_50 ⟨Nat.le_of_ble_eq_true rfl, Nat.le_of_ble_eq_true rfl⟩ rfl rfl) (fm_preV XM_bl (fun _ _ _ => trivial) hK hP2 0 (by decide) (lm_M aC (s.heap.size + 99) _) rfl) rfl rfl hl.1 rfl (lv_room (Nat.le_of_ble_eq_true rfl)) d_L_law_320 hcs) hS (fun q _ h => by have := h.1; show s.heap.size ≤ q; omega) (fun q h => by have := h.1; show s.heap.size ≤ q; omega) (fun r u t H1 locs1 ht hvm hp hB hz hkp hS => ?_)
  obtain ⟨rfl, rfl⟩ := hp
  have hP2 : va_P (dC, dI) clsx (fm_w (LM aC (s.heap.size + 99)) (s.heap.size + 99) 11 (f_M_copy nu (xs (5 * k + 1))).2) H1 := by rw [← ht]; exact hB.1
  have hP := rg_keep hP hkp (fun j hj z => by have := z.1; omega)
  refine lv_icmp_eq (tgt := 486) hx hb d_L_law_323 rfl (fun _ => ?_) (fun h => absurd (rel_copy hR (xs (5 * k + 1))).1 h)
  exact next _ _ _ _ (rel_copy hR (xs (5 * k + 1))).2 ⟨hP, hP2, hS, hl⟩
set_option maxHeartbeats 4000000 in
set_option maxRecDepth 100000 in
theorem lw_flight {p : Program} {l : Launch} {e : Env} {s : State} {m : MethodId} {below : List Frame} {meth : Method} {c : Code} {H : Heap} {locs : List Loc} {cells slots : Nat} {Q : State → Prop} {ls : Array Slot} {b L : Nat} {xs : Nat → Int32} {dC : Nat → ClassId} {dI : Nat → Nat → Nat} {aC : Nat → ClassId} {k : Nat} {mu nu : fm_T} (hc : lawC p s m meth c b L xs dC dI aC) (hcs : cells ≤ room_1.cells ∧ slots ≤ room_1.slots) (hk : 5 * (k + 1) ≤ L) (hR : Rel k mu nu) (hi : lawI s b dC dI aC k mu nu H locs ls) (next : ∀ (mu2 nu2 : fm_T) (H2 : Heap) (locs2 : List Loc), Rel (k + 1) mu2 nu2 → lawI s b dC dI aC k mu2 nu2 H2 locs2 ls → W p l e room_1 s m #[Value.ref b] below meth c H2 locs2 cells slots Q (F0 m 486 ls [])) : W p l e room_1 s m #[Value.ref b] below meth c H locs cells slots Q (F0 m 328 ls []) := by
  obtain ⟨hx, hb, hr, hml, hown, hts, hX0, hbl, hlocks, hK, hXC, hL⟩ := hc
  obtain ⟨hP, hP2, hS, hl⟩ := hi
  have hg : ∀ w ∈ gtbl, w.before #[Value.ref b] s = true := fun w h => hts w (gt_sub h)
  have hk9 : k < 512 := by omega
  have hbA : ¬ (fun q => s.heap.size ≤ q) b := fun z => by have z : s.heap.size ≤ b := z; omega
  refine lv_aload_n hx hb d_L_law_328 rfl (lv_at hl 1 rfl) ?_
  refine ro_call (va_runV (As := []) (rest := []) ⟨hx, hb, hml, hown, hts⟩ (c_D_flight l dC dI aC s.heap.size mu  ) (cw_V (fun w h => gt_sub h) hts kv_D_flight ml_L_51 ⟨Nat.le_of_ble_eq_true rfl, Nat.le_of_ble_eq_true rfl⟩ rfl rfl) (fm_preV XC_bl (XC_law hXC hS) hK hP 0 (by decide) (lc_D aC s.heap.size _) rfl) rfl rfl hl.1 rfl (lv_room (Nat.le_of_ble_eq_true rfl)) d_L_law_329 hcs) ?_
  refine lv_aload_n hx hb d_L_law_332 rfl (lv_at hl 2 rfl) ?_
  refine ro_call (va_runV (As := []) (rest := [.int (f_D_flight mu )]) ⟨hx, hb, hml, hown, hts⟩ (c_M_flight l dC dI aC (s.heap.size + 99) nu  ) (cw_V (fun w h => gt_sub h) hts kv_M_flight ml_L_54 ⟨Nat.le_of_ble_eq_true rfl, Nat.le_of_ble_eq_true rfl⟩ rfl rfl) (fm_preV XM_bl (fun _ _ _ => trivial) hK hP2 0 (by decide) (lm_M aC (s.heap.size + 99) _) rfl) rfl rfl hl.1 rfl (lv_room (Nat.le_of_ble_eq_true rfl)) d_L_law_333 hcs) ?_
  refine lv_icmp_eq (tgt := 486) hx hb d_L_law_336 rfl (fun _ => ?_) (fun h => absurd (rel_flight hR ) h)
  exact next mu nu _ _ (rel_mono hR) ⟨hP, hP2, hS, hl⟩
set_option maxHeartbeats 4000000 in
set_option maxRecDepth 100000 in
theorem lw_packet {p : Program} {l : Launch} {e : Env} {s : State} {m : MethodId} {below : List Frame} {meth : Method} {c : Code} {H : Heap} {locs : List Loc} {cells slots : Nat} {Q : State → Prop} {ls : Array Slot} {b L : Nat} {xs : Nat → Int32} {dC : Nat → ClassId} {dI : Nat → Nat → Nat} {aC : Nat → ClassId} {k : Nat} {mu nu : fm_T} (hc : lawC p s m meth c b L xs dC dI aC) (hcs : cells ≤ room_1.cells ∧ slots ≤ room_1.slots) (hk : 5 * (k + 1) ≤ L) (hR : Rel k mu nu) (hi : lawI s b dC dI aC k mu nu H locs ls) (next : ∀ (mu2 nu2 : fm_T) (H2 : Heap) (locs2 : List Loc), Rel (k + 1) mu2 nu2 → lawI s b dC dI aC k mu2 nu2 H2 locs2 ls → W p l e room_1 s m #[Value.ref b] below meth c H2 locs2 cells slots Q (F0 m 486 ls [])) : W p l e room_1 s m #[Value.ref b] below meth c H locs cells slots Q (F0 m 341 ls []) := by
  obtain ⟨hx, hb, hr, hml, hown, hts, hX0, hbl, hlocks, hK, hXC, hL⟩ := hc
  obtain ⟨hP, hP2, hS, hl⟩ := hi
  have hg : ∀ w ∈ gtbl, w.before #[Value.ref b] s = true := fun w h => hts w (gt_sub h)
  have hk9 : k < 512 := by omega
  have hbA : ¬ (fun q => s.heap.size ≤ q) b := fun z => by have z : s.heap.size ≤ b := z; omega
  refine lv_aload_n hx hb d_L_law_341 rfl (lv_at hl 1 rfl) ?_
  refine lv_aload_n hx hb d_L_law_342 rfl (lv_at hl 0 rfl) ?_
  refine lv_iload_n hx hb d_L_law_343 rfl (lv_at hl 3 rfl) ?_
  refine lv_iconst (v := 1) hx hb d_L_law_344 (by decide) ?_
  refine lv_iadd hx hb d_L_law_345 ?_
  refine lv_cv (y := nI (5 * k + 1)) (nI_add _ 1) ?_
  refine lw_ld hx hb hX0 hbl hbA hS (5 * k + 1) (by omega) hL d_L_law_346 ?_
  refine lv_aload_n hx hb d_L_law_347 rfl (lv_at hl 0 rfl) ?_
  refine lv_iload_n hx hb d_L_law_348 rfl (lv_at hl 3 rfl) ?_
  refine lv_iconst (v := 2) hx hb d_L_law_349 (by decide) ?_
  refine lv_iadd hx hb d_L_law_350 ?_
  refine lv_cv (y := nI (5 * k + 2)) (nI_add _ 2) ?_
  refine lw_ld hx hb hX0 hbl hbA hS (5 * k + 2) (by omega) hL d_L_law_351 ?_
  refine ro_call (va_runV (As := [.int (xs (5 * k + 1)), .int (xs (5 * k + 2))]) (rest := []) ⟨hx, hb, hml, hown, hts⟩ (c_D_packet l dC dI aC s.heap.size mu (xs (5 * k + 1)) (xs (5 * k + 2)) hR.2.2.1) (cw_V (fun w h => gt_sub h) hts kv_D_packet ml_L_55 ⟨Nat.le_of_ble_eq_true rfl, Nat.le_of_ble_eq_true rfl⟩ rfl rfl) (fm_preV XC_bl (XC_law hXC hS) hK hP 0 (by decide) (lc_D aC s.heap.size _) rfl) rfl rfl hl.1 rfl (lv_room (Nat.le_of_ble_eq_true rfl)) d_L_law_352 hcs) ?_
  refine lv_aload_n hx hb d_L_law_355 rfl (lv_at hl 2 rfl) ?_
  refine lv_aload_n hx hb d_L_law_356 rfl (lv_at hl 0 rfl) ?_
  refine lv_iload_n hx hb d_L_law_357 rfl (lv_at hl 3 rfl) ?_
  refine lv_iconst (v := 1) hx hb d_L_law_358 (by decide) ?_
  refine lv_iadd hx hb d_L_law_359 ?_
  refine lv_cv (y := nI (5 * k + 1)) (nI_add _ 1) ?_
  refine lw_ld hx hb hX0 hbl hbA hS (5 * k + 1) (by omega) hL d_L_law_360 ?_
  refine lv_aload_n hx hb d_L_law_361 rfl (lv_at hl 0 rfl) ?_
  refine lv_iload_n hx hb d_L_law_362 rfl (lv_at hl 3 rfl) ?_
  refine lv_iconst (v := 2) hx hb d_L_law_363 (by decide) ?_
  refine lv_iadd hx hb d_L_law_364 ?_
  refine lv_cv (y := nI (5 * k + 2)) (nI_add _ 2) ?_
  refine lw_ld hx hb hX0 hbl hbA hS (5 * k + 2) (by omega) hL d_L_law_365 ?_
  refine ro_call (va_runV (As := [.int (xs (5 * k + 1)), .int (xs (5 * k + 2))]) (rest := [.int (f_D_packet mu (xs (5 * k + 1)) (xs (5 * k + 2)))]) ⟨hx, hb, hml, hown, hts⟩ (c_M_packet l dC dI aC (s.heap.size + 99) nu (xs (5 * k + 1)) (xs (5 * k + 2)) hR.2.2.2) (cw_V (fun w h => gt_sub h) hts kv_M_packet ml_L_58 ⟨Nat.le_of_ble_eq_true rfl, Nat.le_of_ble_eq_true rfl⟩ rfl rfl) (fm_preV XM_bl (fun _ _ _ => trivial) hK hP2 0 (by decide) (lm_M aC (s.heap.size + 99) _) rfl) rfl rfl hl.1 rfl (lv_room (Nat.le_of_ble_eq_true rfl)) d_L_law_366 hcs) ?_
  refine lv_icmp_eq (tgt := 486) hx hb d_L_law_369 rfl (fun _ => ?_) (fun h => absurd (rel_packet hR (xs (5 * k + 1)) (xs (5 * k + 2))) h)
  exact next mu nu _ _ (rel_mono hR) ⟨hP, hP2, hS, hl⟩
set_option maxHeartbeats 4000000 in
set_option maxRecDepth 100000 in
theorem lw_position {p : Program} {l : Launch} {e : Env} {s : State} {m : MethodId} {below : List Frame} {meth : Method} {c : Code} {H : Heap} {locs : List Loc} {cells slots : Nat} {Q : State → Prop} {ls : Array Slot} {b L : Nat} {xs : Nat → Int32} {dC : Nat → ClassId} {dI : Nat → Nat → Nat} {aC : Nat → ClassId} {k : Nat} {mu nu : fm_T} (hc : lawC p s m meth c b L xs dC dI aC) (hcs : cells ≤ room_1.cells ∧ slots ≤ room_1.slots) (hk : 5 * (k + 1) ≤ L) (hR : Rel k mu nu) (hi : lawI s b dC dI aC k mu nu H locs ls) (next : ∀ (mu2 nu2 : fm_T) (H2 : Heap) (locs2 : List Loc), Rel (k + 1) mu2 nu2 → lawI s b dC dI aC k mu2 nu2 H2 locs2 ls → W p l e room_1 s m #[Value.ref b] below meth c H2 locs2 cells slots Q (F0 m 486 ls [])) : W p l e room_1 s m #[Value.ref b] below meth c H locs cells slots Q (F0 m 374 ls []) := by
  obtain ⟨hx, hb, hr, hml, hown, hts, hX0, hbl, hlocks, hK, hXC, hL⟩ := hc
  obtain ⟨hP, hP2, hS, hl⟩ := hi
  have hg : ∀ w ∈ gtbl, w.before #[Value.ref b] s = true := fun w h => hts w (gt_sub h)
  have hk9 : k < 512 := by omega
  have hbA : ¬ (fun q => s.heap.size ≤ q) b := fun z => by have z : s.heap.size ≤ b := z; omega
  refine lv_aload_n hx hb d_L_law_374 rfl (lv_at hl 1 rfl) ?_
  refine lv_aload_n hx hb d_L_law_375 rfl (lv_at hl 0 rfl) ?_
  refine lv_iload_n hx hb d_L_law_376 rfl (lv_at hl 3 rfl) ?_
  refine lv_iconst (v := 1) hx hb d_L_law_377 (by decide) ?_
  refine lv_iadd hx hb d_L_law_378 ?_
  refine lv_cv (y := nI (5 * k + 1)) (nI_add _ 1) ?_
  refine lw_ld hx hb hX0 hbl hbA hS (5 * k + 1) (by omega) hL d_L_law_379 ?_
  refine ro_call (va_runV (As := [.int (xs (5 * k + 1))]) (rest := []) ⟨hx, hb, hml, hown, hts⟩ (c_D_position l dC dI aC s.heap.size mu (xs (5 * k + 1)) ) (cw_V (fun w h => gt_sub h) hts kv_D_position ml_L_59 ⟨Nat.le_of_ble_eq_true rfl, Nat.le_of_ble_eq_true rfl⟩ rfl rfl) (fm_preV XC_bl (XC_law hXC hS) hK hP 0 (by decide) (lc_D aC s.heap.size _) rfl) rfl rfl hl.1 rfl (lv_room (Nat.le_of_ble_eq_true rfl)) d_L_law_380 hcs) ?_
  refine lv_aload_n hx hb d_L_law_383 rfl (lv_at hl 2 rfl) ?_
  refine lv_aload_n hx hb d_L_law_384 rfl (lv_at hl 0 rfl) ?_
  refine lv_iload_n hx hb d_L_law_385 rfl (lv_at hl 3 rfl) ?_
  refine lv_iconst (v := 1) hx hb d_L_law_386 (by decide) ?_
  refine lv_iadd hx hb d_L_law_387 ?_
  refine lv_cv (y := nI (5 * k + 1)) (nI_add _ 1) ?_
  refine lw_ld hx hb hX0 hbl hbA hS (5 * k + 1) (by omega) hL d_L_law_388 ?_
  refine ro_call (va_runV (As := [.int (xs (5 * k + 1))]) (rest := [.int (f_D_position mu (xs (5 * k + 1)))]) ⟨hx, hb, hml, hown, hts⟩ (c_M_position l dC dI aC (s.heap.size + 99) nu (xs (5 * k + 1)) hR.2.2.2) (cw_V (fun w h => gt_sub h) hts kv_M_position ml_L_62 ⟨Nat.le_of_ble_eq_true rfl, Nat.le_of_ble_eq_true rfl⟩ rfl rfl) (fm_preV XM_bl (fun _ _ _ => trivial) hK hP2 0 (by decide) (lm_M aC (s.heap.size + 99) _) rfl) rfl rfl hl.1 rfl (lv_room (Nat.le_of_ble_eq_true rfl)) d_L_law_389 hcs) ?_
  refine lv_icmp_eq (tgt := 486) hx hb d_L_law_392 rfl (fun _ => ?_) (fun h => absurd (rel_position hR (xs (5 * k + 1))) h)
  exact next mu nu _ _ (rel_mono hR) ⟨hP, hP2, hS, hl⟩
set_option maxHeartbeats 4000000 in
set_option maxRecDepth 100000 in
theorem lw_view {p : Program} {l : Launch} {e : Env} {s : State} {m : MethodId} {below : List Frame} {meth : Method} {c : Code} {H : Heap} {locs : List Loc} {cells slots : Nat} {Q : State → Prop} {ls : Array Slot} {b L : Nat} {xs : Nat → Int32} {dC : Nat → ClassId} {dI : Nat → Nat → Nat} {aC : Nat → ClassId} {k : Nat} {mu nu : fm_T} (hc : lawC p s m meth c b L xs dC dI aC) (hcs : cells ≤ room_1.cells ∧ slots ≤ room_1.slots) (hk : 5 * (k + 1) ≤ L) (hR : Rel k mu nu) (hi : lawI s b dC dI aC k mu nu H locs ls) (next : ∀ (mu2 nu2 : fm_T) (H2 : Heap) (locs2 : List Loc), Rel (k + 1) mu2 nu2 → lawI s b dC dI aC k mu2 nu2 H2 locs2 ls → W p l e room_1 s m #[Value.ref b] below meth c H2 locs2 cells slots Q (F0 m 486 ls [])) : W p l e room_1 s m #[Value.ref b] below meth c H locs cells slots Q (F0 m 397 ls []) := by
  obtain ⟨hx, hb, hr, hml, hown, hts, hX0, hbl, hlocks, hK, hXC, hL⟩ := hc
  obtain ⟨hP, hP2, hS, hl⟩ := hi
  have hg : ∀ w ∈ gtbl, w.before #[Value.ref b] s = true := fun w h => hts w (gt_sub h)
  have hk9 : k < 512 := by omega
  have hbA : ¬ (fun q => s.heap.size ≤ q) b := fun z => by have z : s.heap.size ≤ b := z; omega
  refine lv_aload_n hx hb d_L_law_397 rfl (lv_at hl 1 rfl) ?_
  refine lv_aload_n hx hb d_L_law_398 rfl (lv_at hl 0 rfl) ?_
  refine lv_iload_n hx hb d_L_law_399 rfl (lv_at hl 3 rfl) ?_
  refine lv_iconst (v := 1) hx hb d_L_law_400 (by decide) ?_
  refine lv_iadd hx hb d_L_law_401 ?_
  refine lv_cv (y := nI (5 * k + 1)) (nI_add _ 1) ?_
  refine lw_ld hx hb hX0 hbl hbA hS (5 * k + 1) (by omega) hL d_L_law_402 ?_
  refine lv_aload_n hx hb d_L_law_403 rfl (lv_at hl 0 rfl) ?_
  refine lv_iload_n hx hb d_L_law_404 rfl (lv_at hl 3 rfl) ?_
  refine lv_iconst (v := 2) hx hb d_L_law_405 (by decide) ?_
  refine lv_iadd hx hb d_L_law_406 ?_
  refine lv_cv (y := nI (5 * k + 2)) (nI_add _ 2) ?_
  refine lw_ld hx hb hX0 hbl hbA hS (5 * k + 2) (by omega) hL d_L_law_407 ?_
  refine ro_call (va_runV (As := [.int (xs (5 * k + 1)), .int (xs (5 * k + 2))]) (rest := []) ⟨hx, hb, hml, hown, hts⟩ (c_D_view l dC dI aC s.heap.size mu (xs (5 * k + 1)) (xs (5 * k + 2)) ) (cw_V (fun w h => gt_sub h) hts kv_D_view ml_L_63 ⟨Nat.le_of_ble_eq_true rfl, Nat.le_of_ble_eq_true rfl⟩ rfl rfl) (fm_preV XC_bl (XC_law hXC hS) hK hP 0 (by decide) (lc_D aC s.heap.size _) rfl) rfl rfl hl.1 rfl (lv_room (Nat.le_of_ble_eq_true rfl)) d_L_law_408 hcs) ?_
  refine lv_aload_n hx hb d_L_law_411 rfl (lv_at hl 2 rfl) ?_
  refine lv_aload_n hx hb d_L_law_412 rfl (lv_at hl 0 rfl) ?_
  refine lv_iload_n hx hb d_L_law_413 rfl (lv_at hl 3 rfl) ?_
  refine lv_iconst (v := 1) hx hb d_L_law_414 (by decide) ?_
  refine lv_iadd hx hb d_L_law_415 ?_
  refine lv_cv (y := nI (5 * k + 1)) (nI_add _ 1) ?_
  refine lw_ld hx hb hX0 hbl hbA hS (5 * k + 1) (by omega) hL d_L_law_416 ?_
  refine lv_aload_n hx hb d_L_law_417 rfl (lv_at hl 0 rfl) ?_
  refine lv_iload_n hx hb d_L_law_418 rfl (lv_at hl 3 rfl) ?_
  refine lv_iconst (v := 2) hx hb d_L_law_419 (by decide) ?_
  refine lv_iadd hx hb d_L_law_420 ?_
  refine lv_cv (y := nI (5 * k + 2)) (nI_add _ 2) ?_
  refine lw_ld hx hb hX0 hbl hbA hS (5 * k + 2) (by omega) hL d_L_law_421 ?_
  refine ro_call (va_runV (As := [.int (xs (5 * k + 1)), .int (xs (5 * k + 2))]) (rest := [.int (f_D_view mu (xs (5 * k + 1)) (xs (5 * k + 2)))]) ⟨hx, hb, hml, hown, hts⟩ (c_M_view l dC dI aC (s.heap.size + 99) nu (xs (5 * k + 1)) (xs (5 * k + 2)) hR.2.2.2) (cw_V (fun w h => gt_sub h) hts kv_M_view ml_L_66 ⟨Nat.le_of_ble_eq_true rfl, Nat.le_of_ble_eq_true rfl⟩ rfl rfl) (fm_preV XM_bl (fun _ _ _ => trivial) hK hP2 0 (by decide) (lm_M aC (s.heap.size + 99) _) rfl) rfl rfl hl.1 rfl (lv_room (Nat.le_of_ble_eq_true rfl)) d_L_law_422 hcs) ?_
  refine lv_icmp_eq (tgt := 486) hx hb d_L_law_425 rfl (fun _ => ?_) (fun h => absurd (rel_view hR (xs (5 * k + 1)) (xs (5 * k + 2))) h)
  exact next mu nu _ _ (rel_mono hR) ⟨hP, hP2, hS, hl⟩
set_option maxHeartbeats 4000000 in
set_option maxRecDepth 100000 in
theorem lw_predicted {p : Program} {l : Launch} {e : Env} {s : State} {m : MethodId} {below : List Frame} {meth : Method} {c : Code} {H : Heap} {locs : List Loc} {cells slots : Nat} {Q : State → Prop} {ls : Array Slot} {b L : Nat} {xs : Nat → Int32} {dC : Nat → ClassId} {dI : Nat → Nat → Nat} {aC : Nat → ClassId} {k : Nat} {mu nu : fm_T} (hc : lawC p s m meth c b L xs dC dI aC) (hcs : cells ≤ room_1.cells ∧ slots ≤ room_1.slots) (hk : 5 * (k + 1) ≤ L) (hR : Rel k mu nu) (hi : lawI s b dC dI aC k mu nu H locs ls) (next : ∀ (mu2 nu2 : fm_T) (H2 : Heap) (locs2 : List Loc), Rel (k + 1) mu2 nu2 → lawI s b dC dI aC k mu2 nu2 H2 locs2 ls → W p l e room_1 s m #[Value.ref b] below meth c H2 locs2 cells slots Q (F0 m 486 ls [])) : W p l e room_1 s m #[Value.ref b] below meth c H locs cells slots Q (F0 m 430 ls []) := by
  obtain ⟨hx, hb, hr, hml, hown, hts, hX0, hbl, hlocks, hK, hXC, hL⟩ := hc
  obtain ⟨hP, hP2, hS, hl⟩ := hi
  have hg : ∀ w ∈ gtbl, w.before #[Value.ref b] s = true := fun w h => hts w (gt_sub h)
  have hk9 : k < 512 := by omega
  have hbA : ¬ (fun q => s.heap.size ≤ q) b := fun z => by have z : s.heap.size ≤ b := z; omega
  refine lv_aload_n hx hb d_L_law_430 rfl (lv_at hl 1 rfl) ?_
  refine lv_aload_n hx hb d_L_law_431 rfl (lv_at hl 0 rfl) ?_
  refine lv_iload_n hx hb d_L_law_432 rfl (lv_at hl 3 rfl) ?_
  refine lv_iconst (v := 1) hx hb d_L_law_433 (by decide) ?_
  refine lv_iadd hx hb d_L_law_434 ?_
  refine lv_cv (y := nI (5 * k + 1)) (nI_add _ 1) ?_
  refine lw_ld hx hb hX0 hbl hbA hS (5 * k + 1) (by omega) hL d_L_law_435 ?_
  refine ro_call (va_runV (As := [.int (xs (5 * k + 1))]) (rest := []) ⟨hx, hb, hml, hown, hts⟩ (c_D_predicted l dC dI aC s.heap.size mu (xs (5 * k + 1)) hR.2.2.1) (cw_V (fun w h => gt_sub h) hts kv_D_predicted ml_L_67 ⟨Nat.le_of_ble_eq_true rfl, Nat.le_of_ble_eq_true rfl⟩ rfl rfl) (fm_preV XC_bl (XC_law hXC hS) hK hP 0 (by decide) (lc_D aC s.heap.size _) rfl) rfl rfl hl.1 rfl (lv_room (Nat.le_of_ble_eq_true rfl)) d_L_law_436 hcs) ?_
  refine lv_aload_n hx hb d_L_law_439 rfl (lv_at hl 2 rfl) ?_
  refine lv_aload_n hx hb d_L_law_440 rfl (lv_at hl 0 rfl) ?_
  refine lv_iload_n hx hb d_L_law_441 rfl (lv_at hl 3 rfl) ?_
  refine lv_iconst (v := 1) hx hb d_L_law_442 (by decide) ?_
  refine lv_iadd hx hb d_L_law_443 ?_
  refine lv_cv (y := nI (5 * k + 1)) (nI_add _ 1) ?_
  refine lw_ld hx hb hX0 hbl hbA hS (5 * k + 1) (by omega) hL d_L_law_444 ?_
  refine ro_call (va_runV (As := [.int (xs (5 * k + 1))]) (rest := [.int (f_D_predicted mu (xs (5 * k + 1)))]) ⟨hx, hb, hml, hown, hts⟩ (c_M_predicted l dC dI aC (s.heap.size + 99) nu (xs (5 * k + 1)) hR.2.2.2) (cw_V (fun w h => gt_sub h) hts kv_M_predicted ml_L_70 ⟨Nat.le_of_ble_eq_true rfl, Nat.le_of_ble_eq_true rfl⟩ rfl rfl) (fm_preV XM_bl (fun _ _ _ => trivial) hK hP2 0 (by decide) (lm_M aC (s.heap.size + 99) _) rfl) rfl rfl hl.1 rfl (lv_room (Nat.le_of_ble_eq_true rfl)) d_L_law_445 hcs) ?_
  refine lv_icmp_eq (tgt := 486) hx hb d_L_law_448 rfl (fun _ => ?_) (fun h => absurd (rel_predicted hR (xs (5 * k + 1))) h)
  exact next mu nu _ _ (rel_mono hR) ⟨hP, hP2, hS, hl⟩
set_option maxHeartbeats 4000000 in
set_option maxRecDepth 100000 in
theorem lw_count {p : Program} {l : Launch} {e : Env} {s : State} {m : MethodId} {below : List Frame} {meth : Method} {c : Code} {H : Heap} {locs : List Loc} {cells slots : Nat} {Q : State → Prop} {ls : Array Slot} {b L : Nat} {xs : Nat → Int32} {dC : Nat → ClassId} {dI : Nat → Nat → Nat} {aC : Nat → ClassId} {k : Nat} {mu nu : fm_T} (hc : lawC p s m meth c b L xs dC dI aC) (hcs : cells ≤ room_1.cells ∧ slots ≤ room_1.slots) (hk : 5 * (k + 1) ≤ L) (hR : Rel k mu nu) (hi : lawI s b dC dI aC k mu nu H locs ls) (next : ∀ (mu2 nu2 : fm_T) (H2 : Heap) (locs2 : List Loc), Rel (k + 1) mu2 nu2 → lawI s b dC dI aC k mu2 nu2 H2 locs2 ls → W p l e room_1 s m #[Value.ref b] below meth c H2 locs2 cells slots Q (F0 m 486 ls [])) : W p l e room_1 s m #[Value.ref b] below meth c H locs cells slots Q (F0 m 453 ls []) := by
  obtain ⟨hx, hb, hr, hml, hown, hts, hX0, hbl, hlocks, hK, hXC, hL⟩ := hc
  obtain ⟨hP, hP2, hS, hl⟩ := hi
  have hg : ∀ w ∈ gtbl, w.before #[Value.ref b] s = true := fun w h => hts w (gt_sub h)
  have hk9 : k < 512 := by omega
  have hbA : ¬ (fun q => s.heap.size ≤ q) b := fun z => by have z : s.heap.size ≤ b := z; omega
  refine lv_aload_n hx hb d_L_law_453 rfl (lv_at hl 1 rfl) ?_
  refine lv_aload_n hx hb d_L_law_454 rfl (lv_at hl 0 rfl) ?_
  refine lv_iload_n hx hb d_L_law_455 rfl (lv_at hl 3 rfl) ?_
  refine lv_iconst (v := 1) hx hb d_L_law_456 (by decide) ?_
  refine lv_iadd hx hb d_L_law_457 ?_
  refine lv_cv (y := nI (5 * k + 1)) (nI_add _ 1) ?_
  refine lw_ld hx hb hX0 hbl hbA hS (5 * k + 1) (by omega) hL d_L_law_458 ?_
  refine lv_aload_n hx hb d_L_law_459 rfl (lv_at hl 0 rfl) ?_
  refine lv_iload_n hx hb d_L_law_460 rfl (lv_at hl 3 rfl) ?_
  refine lv_iconst (v := 2) hx hb d_L_law_461 (by decide) ?_
  refine lv_iadd hx hb d_L_law_462 ?_
  refine lv_cv (y := nI (5 * k + 2)) (nI_add _ 2) ?_
  refine lw_ld hx hb hX0 hbl hbA hS (5 * k + 2) (by omega) hL d_L_law_463 ?_
  refine ro_call (va_runV (As := [.int (xs (5 * k + 1)), .int (xs (5 * k + 2))]) (rest := []) ⟨hx, hb, hml, hown, hts⟩ (c_D_count l dC dI aC s.heap.size mu (xs (5 * k + 1)) (xs (5 * k + 2)) ) (cw_V (fun w h => gt_sub h) hts kv_D_count ml_L_71 ⟨Nat.le_of_ble_eq_true rfl, Nat.le_of_ble_eq_true rfl⟩ rfl rfl) (fm_preV XC_bl (XC_law hXC hS) hK hP 0 (by decide) (lc_D aC s.heap.size _) rfl) rfl rfl hl.1 rfl (lv_room (Nat.le_of_ble_eq_true rfl)) d_L_law_464 hcs) ?_
  refine lv_aload_n hx hb d_L_law_467 rfl (lv_at hl 2 rfl) ?_
  refine lv_aload_n hx hb d_L_law_468 rfl (lv_at hl 0 rfl) ?_
  refine lv_iload_n hx hb d_L_law_469 rfl (lv_at hl 3 rfl) ?_
  refine lv_iconst (v := 1) hx hb d_L_law_470 (by decide) ?_
  refine lv_iadd hx hb d_L_law_471 ?_
  refine lv_cv (y := nI (5 * k + 1)) (nI_add _ 1) ?_
  refine lw_ld hx hb hX0 hbl hbA hS (5 * k + 1) (by omega) hL d_L_law_472 ?_
  refine lv_aload_n hx hb d_L_law_473 rfl (lv_at hl 0 rfl) ?_
  refine lv_iload_n hx hb d_L_law_474 rfl (lv_at hl 3 rfl) ?_
  refine lv_iconst (v := 2) hx hb d_L_law_475 (by decide) ?_
  refine lv_iadd hx hb d_L_law_476 ?_
  refine lv_cv (y := nI (5 * k + 2)) (nI_add _ 2) ?_
  refine lw_ld hx hb hX0 hbl hbA hS (5 * k + 2) (by omega) hL d_L_law_477 ?_
  refine ro_call (va_runV (As := [.int (xs (5 * k + 1)), .int (xs (5 * k + 2))]) (rest := [.int (f_D_count mu (xs (5 * k + 1)) (xs (5 * k + 2)))]) ⟨hx, hb, hml, hown, hts⟩ (c_M_count l dC dI aC (s.heap.size + 99) nu (xs (5 * k + 1)) (xs (5 * k + 2)) hR.2.2.2) (cw_V (fun w h => gt_sub h) hts kv_M_count ml_L_74 ⟨Nat.le_of_ble_eq_true rfl, Nat.le_of_ble_eq_true rfl⟩ rfl rfl) (fm_preV XM_bl (fun _ _ _ => trivial) hK hP2 0 (by decide) (lm_M aC (s.heap.size + 99) _) rfl) rfl rfl hl.1 rfl (lv_room (Nat.le_of_ble_eq_true rfl)) d_L_law_478 hcs) ?_
  refine lv_icmp_eq (tgt := 486) hx hb d_L_law_481 rfl (fun _ => ?_) (fun h => absurd (rel_count hR (xs (5 * k + 1)) (xs (5 * k + 2))) h)
  exact next mu nu _ _ (rel_mono hR) ⟨hP, hP2, hS, hl⟩
