section
variable {l : Launch} {D : va_G} {cI cZ cL cV : ClassId}
theorem lt_sub6 {L : Nat} (h : L ≤ 6) : Int32.ofNat L - nI 6 < nI 6 := by
  rcases (show L = 0 ∨ L = 1 ∨ L = 2 ∨ L = 3 ∨ L = 4 ∨ L = 5 ∨ L = 6 by omega) with rfl | rfl | rfl | rfl | rfl | rfl | rfl <;> decide
theorem zlt {n : Nat} (h : 0 < n) : ∀ j : Nat, (fun _ => 0 : Nat → Nat) j < n := fun _ => h
theorem zle {n : Nat} : ∀ j : Nat, (fun _ => 0 : Nat → Nat) j ≤ n := fun _ => Nat.zero_le n
theorem cnt0 : ∀ n, cntN (fun i => sameB (fun _ => 0) (i * 64) (fun _ => 0) (i * 64)) n = 0
  | 0 => rfl
  | n + 1 => (cntN_t (P := fun i => sameB (fun _ => 0) (i * 64) (fun _ => 0) (i * 64)) (sameB_t (fun _ _ => rfl))).trans (cnt0 n)
theorem ab0 {j : Nat} (h : j < 8) : abF j 0 0 0 0 0 (cntN (fun i => sameB (fun _ => 0) (i * 64) (fun _ => 0) (i * 64)) 48) 0 0 = nI 0 := by
  rw [cnt0]
  rcases (show j = 0 ∨ j = 1 ∨ j = 2 ∨ j = 3 ∨ j = 4 ∨ j = 5 ∨ j = 6 ∨ j = 7 by omega) with rfl | rfl | rfl | rfl | rfl | rfl | rfl | rfl <;> first | rfl | decide
theorem onl0 {r : Int32} {P : Nat → Prop} {B : Prop} (h : (∃ j, j < 0 ∧ P j) ∨ (B ∧ r = -1)) : r = -1 := by
  rcases h with ⟨j, hj, -⟩ | ⟨-, h⟩
  · exact absurd hj (Nat.not_lt_zero j)
  · exact h
set_option maxHeartbeats 1000000 in
theorem law_end {p : Program} {l : Launch} {e : Env} {s : State} {m : MethodId} {below : List Frame} {meth : Method} {c : Code} {b L : Nat} {xs : Nat → Int32} {H : Heap} {locs : List Loc} {ls : Array Slot} (hL : L ≤ 6) (C0 : lw_At p s m meth c b L xs) (hS : va_S (fun q : Nat => s.heap.size ≤ q) s.heap H locs) (hl : lv_has ls 7 [(0, .ref b), (4, .int (nI 0))]) : W p l e room_1 s m #[Value.ref b] below meth c H locs 106 155700 (lw_Z below #[Value.ref b] s) (F0 m 697 ls []) := by
  obtain ⟨hx, hb, hr, hml, hown, hts, hX, hbl, hlocks, hgv⟩ := id C0
  have hbA : ¬ (fun q : Nat => s.heap.size ≤ q) b := Nat.not_le.mpr hbl
  refine lv_iinc (v := nI 6) (lv' := [(4, .int (nI 6)), (0, .ref b)]) hx hb d_Law_law_697 hl (k := 1) rfl rfl (by decide) rfl (fun ls hl => ?_)
  refine lv_goto (tgt := 23) hx hb d_Law_law_700 (by decide) ?_
  refine lv_iload hx hb d_Law_law_23 (lv_at hl 0 rfl) ?_
  refine lv_aload_n hx hb d_Law_law_25 rfl (lv_at hl 1 rfl) ?_
  refine va_slen hx hb hX hbl hbA hS d_Law_law_26 ?_
  refine lv_bipush (v := nI 6) hx hb d_Law_law_27 (by decide) ?_
  refine lv_isub hx hb d_Law_law_29 ?_
  refine lv_icmp_gt (tgt := 703) hx hb d_Law_law_30 (by decide) (fun _ => ?_) (fun h9 => absurd (lt_sub6 hL) h9)
  refine lv_iconst (v := 1) hx hb d_Law_law_703 (by decide) ?_
  refine va_forget (fun q hq => hS.2.2 q hq) ?_
  refine W.widen (k := 600002) (n := 7302232) (Nat.le_of_ble_eq_true rfl) (Nat.le_of_ble_eq_true rfl) ?_
  exact lw_ret hx hb hr hlocks d_Law_law_704
set_option maxHeartbeats 1000000 in
set_option maxRecDepth 100000 in
theorem law_fill {p : Program} {l : Launch} {e : Env} {s : State} {m : MethodId} {below : List Frame} {meth : Method} {c : Code} {D : va_G} {cI cZ cL cV : ClassId} {b L : Nat} {xs : Nat → Int32} {H : Heap} {locs : List Loc} {ls : Array Slot} (ou : Nat) (ts : Nat) (dr : Nat) (cl : Nat) (cp : Nat) (vs : Nat) (drp : Nat) (mo : Nat) (rpx : Nat) (rca : Nat) (rpl : Nat) (rth : Nat) (rco : Nat) (rsh : Nat) (rsf : Nat) (rcr : Nat) (rep : Nat) (rby : Nat) (rli : Nat) (rls : Nat) (rla : Nat) (rcm : Nat) (rcs : Nat) (rpa : Nat) (rpm : Nat) (rpo : Nat) (rti : Nat) (rre : Nat) (rcl : Nat) (x : Nat) (y : Nat) (w : Nat) (h : Nat) (k : Nat) (e1 : xs 1 = nI x) (e2 : xs 2 = nI y) (e3 : xs 3 = nI w) (e4 : xs 4 = nI h) (e5 : xs 5 = nI k) (h1 : 1 ≤ w) (h2 : 1 ≤ h) (h3 : x + w ≤ 64) (h4 : y + h ≤ 48) (hk : k < 65536) (hL : L ≤ 6) (hL6 : 6 ≤ L) (C0 : lw_At p s m meth c b L xs) (hG : gk classes NW D (TYS cI cZ cL cV) s) (hP : va_P D classes [(ts, .inr (8, [.ref dr, .ref cl, .ref cp, .ref vs, .int (nI 0)])), (dr, .inr (0, [.int (nI 48), .ref drp])), (drp, .inl (cI, 3072, .inl (nF (fun _ => 0)))), (mo, .inr (9, [.int (nI 0), .ref rpx, .int (nI 0), .ref rca, .ref rpl, .ref rth, .ref rco, .ref rsh, .ref rsf, .ref rcr, .ref rep, .ref rby, .ref rli, .ref rls, .ref rla, .ref rcm, .ref rcs, .ref rpa, .ref rpm, .ref rpo, .ref rti, .ref rre, .ref rcl, .int (nI 0), .int (nI 0), .int (nI 0), .int (nI 0)])), (rpx, .inl (cI, 30720, .inl (nF (fun _ => 0))))] H) (hD : va_D (fun q : Nat => s.heap.size ≤ q) [(ts, .inr (8, [.ref dr, .ref cl, .ref cp, .ref vs, .int (nI 0)])), (dr, .inr (0, [.int (nI 48), .ref drp])), (drp, .inl (cI, 3072, .inl (nF (fun _ => 0)))), (mo, .inr (9, [.int (nI 0), .ref rpx, .int (nI 0), .ref rca, .ref rpl, .ref rth, .ref rco, .ref rsh, .ref rsf, .ref rcr, .ref rep, .ref rby, .ref rli, .ref rls, .ref rla, .ref rcm, .ref rcs, .ref rpa, .ref rpm, .ref rpo, .ref rti, .ref rre, .ref rcl, .int (nI 0), .int (nI 0), .int (nI 0), .int (nI 0)])), (rpx, .inl (cI, 30720, .inl (nF (fun _ => 0))))]) (hS : va_S (fun q : Nat => s.heap.size ≤ q) s.heap H locs) (hl : lv_has ls 7 [(0, .ref b), (1, .ref ts), (2, .ref mo), (3, .ref ou), (4, .int (nI 0))]) : W p l e room_1 s m #[Value.ref b] below meth c H locs 106 155700 (lw_Z below #[Value.ref b] s) (F0 m 112 ls []) := by
  obtain ⟨hx, hb, hr, hml, hown, hts, hX, hbl, hlocks, hgv⟩ := id C0
  have hA : ∀ q : Nat, s.heap.size ≤ q → (fun q : Nat => s.heap.size ≤ q) q := fun _ h => h
  have hbA : ¬ (fun q : Nat => s.heap.size ≤ q) b := Nat.not_le.mpr hbl
  have htb : ∀ w ∈ TB, w.before #[Value.ref b] s = true := fun w hw => hts w (List.mem_filter.mp hw).1
  have Bd : bd p c code 7 s #[Value.ref b] TB "TileScreenLaw" m := ⟨hx, hb, hml, hown, htb⟩
  refine lv_aload_n hx hb d_Law_law_112 rfl (lv_at hl 1 rfl) ?_
  refine lv_aload_n hx hb d_Law_law_113 rfl (lv_at hl 0 rfl) ?_
  refine lv_iload hx hb d_Law_law_114 (lv_at hl 4 rfl) ?_
  refine lv_iconst (v := nI 1) hx hb d_Law_law_116 (by decide) ?_
  refine nv_iadd hx hb d_Law_law_117 ?_
  refine nv_top (y := nI 1) rfl ?_
  refine va_sld hx hb hX hbl hbA hS (vp_in_nI (show 1 < L by omega) (by omega)) d_Law_law_118 ?_
  refine nv_top (y := (nI x)) ((congrArg xs (nI_clamp (by decide))).trans e1) ?_
  refine lv_aload_n hx hb d_Law_law_119 rfl (lv_at hl 0 rfl) ?_
  refine lv_iload hx hb d_Law_law_120 (lv_at hl 4 rfl) ?_
  refine lv_iconst (v := nI 2) hx hb d_Law_law_122 (by decide) ?_
  refine nv_iadd hx hb d_Law_law_123 ?_
  refine nv_top (y := nI 2) rfl ?_
  refine va_sld hx hb hX hbl hbA hS (vp_in_nI (show 2 < L by omega) (by omega)) d_Law_law_124 ?_
  refine nv_top (y := (nI y)) ((congrArg xs (nI_clamp (by decide))).trans e2) ?_
  refine lv_aload_n hx hb d_Law_law_125 rfl (lv_at hl 0 rfl) ?_
  refine lv_iload hx hb d_Law_law_126 (lv_at hl 4 rfl) ?_
  refine lv_iconst (v := nI 3) hx hb d_Law_law_128 (by decide) ?_
  refine nv_iadd hx hb d_Law_law_129 ?_
  refine nv_top (y := nI 3) rfl ?_
  refine va_sld hx hb hX hbl hbA hS (vp_in_nI (show 3 < L by omega) (by omega)) d_Law_law_130 ?_
  refine nv_top (y := (nI w)) ((congrArg xs (nI_clamp (by decide))).trans e3) ?_
  refine lv_aload_n hx hb d_Law_law_131 rfl (lv_at hl 0 rfl) ?_
  refine lv_iload hx hb d_Law_law_132 (lv_at hl 4 rfl) ?_
  refine lv_iconst (v := nI 4) hx hb d_Law_law_134 (by decide) ?_
  refine nv_iadd hx hb d_Law_law_135 ?_
  refine nv_top (y := nI 4) rfl ?_
  refine va_sld hx hb hX hbl hbA hS (vp_in_nI (show 4 < L by omega) (by omega)) d_Law_law_136 ?_
  refine nv_top (y := (nI h)) ((congrArg xs (nI_clamp (by decide))).trans e4) ?_
  refine lv_aload_n hx hb d_Law_law_137 rfl (lv_at hl 0 rfl) ?_
  refine lv_iload hx hb d_Law_law_138 (lv_at hl 4 rfl) ?_
  refine lv_iconst (v := nI 5) hx hb d_Law_law_140 (by decide) ?_
  refine nv_iadd hx hb d_Law_law_141 ?_
  refine nv_top (y := nI 5) rfl ?_
  refine va_sld hx hb hX hbl hbA hS (vp_in_nI (show 5 < L by omega) (by omega)) d_Law_law_142 ?_
  refine nv_top (y := (nI k)) ((congrArg xs (nI_clamp (by decide))).trans e5) ?_
  refine kV_i (wc := [(ts, .inr (8, [.ref dr, .ref cl, .ref cp, .ref vs, .int (nI 0)])), (dr, .inr (0, [.int (nI 48), .ref drp])), (drp, .inl (cI, 3072, .inl (nF (fun _ => 0))))]) (wr := [(mo, .inr (9, [.int (nI 0), .ref rpx, .int (nI 0), .ref rca, .ref rpl, .ref rth, .ref rco, .ref rsh, .ref rsf, .ref rcr, .ref rep, .ref rby, .ref rli, .ref rls, .ref rla, .ref rcm, .ref rcs, .ref rpa, .ref rpm, .ref rpo, .ref rti, .ref rre, .ref rcl, .int (nI 0), .int (nI 0), .int (nI 0), .int (nI 0)])), (rpx, .inl (cI, 30720, .inl (nF (fun _ => 0))))]) (w2 := fun _ => [(ts, .inr (8, [.ref dr, .ref cl, .ref cp, .ref vs, .int (nI 0)])), (dr, .inr (0, [.int (nI 48), .ref drp])), (drp, .inl (cI, 3072, .inl (nF (rcF (fun _ => 0) x y w h (fun _ _ => k))))), (mo, .inr (9, [.int (nI 0), .ref rpx, .int (nI 0), .ref rca, .ref rpl, .ref rth, .ref rco, .ref rsh, .ref rsf, .ref rcr, .ref rep, .ref rby, .ref rli, .ref rls, .ref rla, .ref rcm, .ref rcs, .ref rpa, .ref rpm, .ref rpo, .ref rti, .ref rre, .ref rcl, .int (nI 0), .int (nI 0), .int (nI 0), .int (nI 0)])), (rpx, .inl (cI, 30720, .inl (nF (fun _ => 0))))]) [.int (nI x), .int (nI y), .int (nI w), .int (nI h), .int (nI k)] [] Bd ⟨gi_app (gi_c0 k_254 (gi_c0 k_255 (gi_c0 k_256 (gi_c0 k_1 gi_nil)))) (gi_tb0 k_257), rfl, by decide, by decide⟩ (show (parseMethodDescriptor "(IIIII)Z").map (fun d => d.parameters.length) = some 5 by decide +kernel) (c_Scr_fill ts dr cl cp vs 0 drp (fun _ => 0) x y w h k (by omega) (by omega) (by omega) (by omega) (by omega)) (by decide +kernel) ⟨Nat.le_of_ble_eq_true rfl, Nat.le_of_ble_eq_true rfl⟩ hG hP hD hS hA [0, 1, 2] [3, 4] [2, 3, 4, 0, 1] (by decide) rfl rfl (fun _ => rfl) (q0 := 0) rfl rfl rfl hl.1 rfl (Nat.le_of_ble_eq_true rfl) d_Law_law_143 (fun r1 u3 H locs hp2 hP hD hS => ?_)
  have hP : va_P D classes [(ts, .inr (8, [.ref dr, .ref cl, .ref cp, .ref vs, .int (nI 0)])), (dr, .inr (0, [.int (nI 48), .ref drp])), (drp, .inl (cI, 3072, .inl (nF (rcF (fun _ => 0) x y w h (fun _ _ => k))))), (mo, .inr (9, [.int (nI 0), .ref rpx, .int (nI 0), .ref rca, .ref rpl, .ref rth, .ref rco, .ref rsh, .ref rsf, .ref rcr, .ref rep, .ref rby, .ref rli, .ref rls, .ref rla, .ref rcm, .ref rcs, .ref rpa, .ref rpm, .ref rpo, .ref rti, .ref rre, .ref rcl, .int (nI 0), .int (nI 0), .int (nI 0), .int (nI 0)])), (rpx, .inl (cI, 30720, .inl (nF (fun _ => 0))))] H := hP
  have hD : va_D (fun q : Nat => s.heap.size ≤ q) [(ts, .inr (8, [.ref dr, .ref cl, .ref cp, .ref vs, .int (nI 0)])), (dr, .inr (0, [.int (nI 48), .ref drp])), (drp, .inl (cI, 3072, .inl (nF (rcF (fun _ => 0) x y w h (fun _ _ => k))))), (mo, .inr (9, [.int (nI 0), .ref rpx, .int (nI 0), .ref rca, .ref rpl, .ref rth, .ref rco, .ref rsh, .ref rsf, .ref rcr, .ref rep, .ref rby, .ref rli, .ref rls, .ref rla, .ref rcm, .ref rcs, .ref rpa, .ref rpm, .ref rpo, .ref rti, .ref rre, .ref rcl, .int (nI 0), .int (nI 0), .int (nI 0), .int (nI 0)])), (rpx, .inl (cI, 30720, .inl (nF (fun _ => 0))))] := hD
  subst hp2
  refine lv_aload_n hx hb d_Law_law_146 rfl (lv_at hl 2 rfl) ?_
  refine lv_aload_n hx hb d_Law_law_147 rfl (lv_at hl 0 rfl) ?_
  refine lv_iload hx hb d_Law_law_148 (lv_at hl 4 rfl) ?_
  refine lv_iconst (v := nI 1) hx hb d_Law_law_150 (by decide) ?_
  refine nv_iadd hx hb d_Law_law_151 ?_
  refine nv_top (y := nI 1) rfl ?_
  refine va_sld hx hb hX hbl hbA hS (vp_in_nI (show 1 < L by omega) (by omega)) d_Law_law_152 ?_
  refine nv_top (y := (nI x)) ((congrArg xs (nI_clamp (by decide))).trans e1) ?_
  refine lv_aload_n hx hb d_Law_law_153 rfl (lv_at hl 0 rfl) ?_
  refine lv_iload hx hb d_Law_law_154 (lv_at hl 4 rfl) ?_
  refine lv_iconst (v := nI 2) hx hb d_Law_law_156 (by decide) ?_
  refine nv_iadd hx hb d_Law_law_157 ?_
  refine nv_top (y := nI 2) rfl ?_
  refine va_sld hx hb hX hbl hbA hS (vp_in_nI (show 2 < L by omega) (by omega)) d_Law_law_158 ?_
  refine nv_top (y := (nI y)) ((congrArg xs (nI_clamp (by decide))).trans e2) ?_
  refine lv_aload_n hx hb d_Law_law_159 rfl (lv_at hl 0 rfl) ?_
  refine lv_iload hx hb d_Law_law_160 (lv_at hl 4 rfl) ?_
  refine lv_iconst (v := nI 3) hx hb d_Law_law_162 (by decide) ?_
  refine nv_iadd hx hb d_Law_law_163 ?_
  refine nv_top (y := nI 3) rfl ?_
  refine va_sld hx hb hX hbl hbA hS (vp_in_nI (show 3 < L by omega) (by omega)) d_Law_law_164 ?_
  refine nv_top (y := (nI w)) ((congrArg xs (nI_clamp (by decide))).trans e3) ?_
  refine lv_aload_n hx hb d_Law_law_165 rfl (lv_at hl 0 rfl) ?_
  refine lv_iload hx hb d_Law_law_166 (lv_at hl 4 rfl) ?_
  refine lv_iconst (v := nI 4) hx hb d_Law_law_168 (by decide) ?_
  refine nv_iadd hx hb d_Law_law_169 ?_
  refine nv_top (y := nI 4) rfl ?_
  refine va_sld hx hb hX hbl hbA hS (vp_in_nI (show 4 < L by omega) (by omega)) d_Law_law_170 ?_
  refine nv_top (y := (nI h)) ((congrArg xs (nI_clamp (by decide))).trans e4) ?_
  refine lv_aload_n hx hb d_Law_law_171 rfl (lv_at hl 0 rfl) ?_
  refine lv_iload hx hb d_Law_law_172 (lv_at hl 4 rfl) ?_
  refine lv_iconst (v := nI 5) hx hb d_Law_law_174 (by decide) ?_
  refine nv_iadd hx hb d_Law_law_175 ?_
  refine nv_top (y := nI 5) rfl ?_
  refine va_sld hx hb hX hbl hbA hS (vp_in_nI (show 5 < L by omega) (by omega)) d_Law_law_176 ?_
  refine nv_top (y := (nI k)) ((congrArg xs (nI_clamp (by decide))).trans e5) ?_
  refine kV_i (wc := [(mo, .inr (9, [.int (nI 0), .ref rpx, .int (nI 0), .ref rca, .ref rpl, .ref rth, .ref rco, .ref rsh, .ref rsf, .ref rcr, .ref rep, .ref rby, .ref rli, .ref rls, .ref rla, .ref rcm, .ref rcs, .ref rpa, .ref rpm, .ref rpo, .ref rti, .ref rre, .ref rcl, .int (nI 0), .int (nI 0), .int (nI 0), .int (nI 0)])), (rpx, .inl (cI, 30720, .inl (nF (fun _ => 0))))]) (wr := [(ts, .inr (8, [.ref dr, .ref cl, .ref cp, .ref vs, .int (nI 0)])), (dr, .inr (0, [.int (nI 48), .ref drp])), (drp, .inl (cI, 3072, .inl (nF (rcF (fun _ => 0) x y w h (fun _ _ => k)))))]) (w2 := fun u => [(ts, .inr (8, [.ref dr, .ref cl, .ref cp, .ref vs, .int (nI 0)])), (dr, .inr (0, [.int (nI 48), .ref drp])), (drp, .inl (cI, 3072, .inl (nF (rcF (fun _ => 0) x y w h (fun _ _ => k))))), (mo, .inr (9, [.int (nI 0), .ref rpx, .int (nI 0), .ref rca, .ref rpl, .ref rth, .ref rco, .ref rsh, .ref rsf, .ref rcr, .ref rep, .ref rby, .ref rli, .ref rls, .ref rla, .ref rcm, .ref rcs, .ref rpa, .ref rpm, .ref rpo, .ref rti, .ref rre, .ref rcl, .int (nI 0), .int (nI 0), .int (nI 0), .int (nI 0)])), (rpx, .inl (cI, 30720, .inl (nF u)))]) [.int (nI x), .int (nI y), .int (nI w), .int (nI h), .int (nI k)] [.int (nI 1)] Bd ⟨gi_app (gi_c0 k_722 (gi_c0 k_723 (gi_c0 k_724 (gi_c0 k_10 gi_nil)))) (gi_tb0 k_725), rfl, by decide, by decide⟩ (show (parseMethodDescriptor "(IIIII)Z").map (fun d => d.parameters.length) = some 5 by decide +kernel) (c_Mod_fill mo (nI 0) rpx (nI 0) rca rpl rth rco rsh rsf rcr rep rby rli rls rla rcm rcs rpa rpm rpo rti rre rcl 0 0 0 0 (fun _ => 0) x y w h k (by omega) (by omega) (by omega) (by omega) (by omega) (zlt (by decide))) (by decide +kernel) ⟨Nat.le_of_ble_eq_true rfl, Nat.le_of_ble_eq_true rfl⟩ hG hP hD hS hA [3, 4] [0, 1, 2] [0, 1, 2, 3, 4] (by decide) rfl rfl (fun _ => rfl) (q0 := 0) rfl rfl rfl hl.1 rfl (Nat.le_of_ble_eq_true rfl) d_Law_law_177 (fun r5 u7 H locs hp6 hP hD hS => ?_)
  obtain ⟨u4, rfl⟩ : ∃ z9, z9 = u7 := ⟨_, rfl⟩
  try dsimp only at hp6
  have hP : va_P D classes [(ts, .inr (8, [.ref dr, .ref cl, .ref cp, .ref vs, .int (nI 0)])), (dr, .inr (0, [.int (nI 48), .ref drp])), (drp, .inl (cI, 3072, .inl (nF (rcF (fun _ => 0) x y w h (fun _ _ => k))))), (mo, .inr (9, [.int (nI 0), .ref rpx, .int (nI 0), .ref rca, .ref rpl, .ref rth, .ref rco, .ref rsh, .ref rsf, .ref rcr, .ref rep, .ref rby, .ref rli, .ref rls, .ref rla, .ref rcm, .ref rcs, .ref rpa, .ref rpm, .ref rpo, .ref rti, .ref rre, .ref rcl, .int (nI 0), .int (nI 0), .int (nI 0), .int (nI 0)])), (rpx, .inl (cI, 30720, .inl (nF u4)))] H := hP
  have hD : va_D (fun q : Nat => s.heap.size ≤ q) [(ts, .inr (8, [.ref dr, .ref cl, .ref cp, .ref vs, .int (nI 0)])), (dr, .inr (0, [.int (nI 48), .ref drp])), (drp, .inl (cI, 3072, .inl (nF (rcF (fun _ => 0) x y w h (fun _ _ => k))))), (mo, .inr (9, [.int (nI 0), .ref rpx, .int (nI 0), .ref rca, .ref rpl, .ref rth, .ref rco, .ref rsh, .ref rsf, .ref rcr, .ref rep, .ref rby, .ref rli, .ref rls, .ref rla, .ref rcm, .ref rcs, .ref rpa, .ref rpm, .ref rpo, .ref rti, .ref rre, .ref rcl, .int (nI 0), .int (nI 0), .int (nI 0), .int (nI 0)])), (rpx, .inl (cI, 30720, .inl (nF u4)))] := hD
  obtain ⟨rfl, hp8⟩ := hp6
  refine nv_icmp_eq (tgt := 697) hx hb d_Law_law_180 (by decide) (by omega) (by omega) (fun _ => ?_) (fun h9 => absurd h9 (by decide))
  exact law_end hL C0 hS (lv_sub hl [0, 4] rfl)
set_option maxHeartbeats 1000000 in
set_option maxRecDepth 100000 in
theorem law_fill_no {p : Program} {l : Launch} {e : Env} {s : State} {m : MethodId} {below : List Frame} {meth : Method} {c : Code} {D : va_G} {cI cZ cL cV : ClassId} {b L : Nat} {xs : Nat → Int32} {H : Heap} {locs : List Loc} {ls : Array Slot} (ou : Nat) (ts : Nat) (dr : Nat) (cl : Nat) (cp : Nat) (vs : Nat) (mo : Nat) (rpx : Nat) (rca : Nat) (rpl : Nat) (rth : Nat) (rco : Nat) (rsh : Nat) (rsf : Nat) (rcr : Nat) (rep : Nat) (rby : Nat) (rli : Nat) (rls : Nat) (rla : Nat) (rcm : Nat) (rcs : Nat) (rpa : Nat) (rpm : Nat) (rpo : Nat) (rti : Nat) (rre : Nat) (rcl : Nat) (hno : ¬ (reP (xs 1) (xs 2) (xs 3) (xs 4) ∧ coP (xs 5))) (hL : L ≤ 6) (hL6 : 6 ≤ L) (C0 : lw_At p s m meth c b L xs) (hG : gk classes NW D (TYS cI cZ cL cV) s) (hP : va_P D classes [(ts, .inr (8, [.ref dr, .ref cl, .ref cp, .ref vs, .int (nI 0)])), (mo, .inr (9, [.int (nI 0), .ref rpx, .int (nI 0), .ref rca, .ref rpl, .ref rth, .ref rco, .ref rsh, .ref rsf, .ref rcr, .ref rep, .ref rby, .ref rli, .ref rls, .ref rla, .ref rcm, .ref rcs, .ref rpa, .ref rpm, .ref rpo, .ref rti, .ref rre, .ref rcl, .int (nI 0), .int (nI 0), .int (nI 0), .int (nI 0)]))] H) (hD : va_D (fun q : Nat => s.heap.size ≤ q) [(ts, .inr (8, [.ref dr, .ref cl, .ref cp, .ref vs, .int (nI 0)])), (mo, .inr (9, [.int (nI 0), .ref rpx, .int (nI 0), .ref rca, .ref rpl, .ref rth, .ref rco, .ref rsh, .ref rsf, .ref rcr, .ref rep, .ref rby, .ref rli, .ref rls, .ref rla, .ref rcm, .ref rcs, .ref rpa, .ref rpm, .ref rpo, .ref rti, .ref rre, .ref rcl, .int (nI 0), .int (nI 0), .int (nI 0), .int (nI 0)]))]) (hS : va_S (fun q : Nat => s.heap.size ≤ q) s.heap H locs) (hl : lv_has ls 7 [(0, .ref b), (1, .ref ts), (2, .ref mo), (3, .ref ou), (4, .int (nI 0))]) : W p l e room_1 s m #[Value.ref b] below meth c H locs 106 155700 (lw_Z below #[Value.ref b] s) (F0 m 112 ls []) := by
  obtain ⟨hx, hb, hr, hml, hown, hts, hX, hbl, hlocks, hgv⟩ := id C0
  have hA : ∀ q : Nat, s.heap.size ≤ q → (fun q : Nat => s.heap.size ≤ q) q := fun _ h => h
  have hbA : ¬ (fun q : Nat => s.heap.size ≤ q) b := Nat.not_le.mpr hbl
  have htb : ∀ w ∈ TB, w.before #[Value.ref b] s = true := fun w hw => hts w (List.mem_filter.mp hw).1
  have Bd : bd p c code 7 s #[Value.ref b] TB "TileScreenLaw" m := ⟨hx, hb, hml, hown, htb⟩
  refine lv_aload_n hx hb d_Law_law_112 rfl (lv_at hl 1 rfl) ?_
  refine lv_aload_n hx hb d_Law_law_113 rfl (lv_at hl 0 rfl) ?_
  refine lv_iload hx hb d_Law_law_114 (lv_at hl 4 rfl) ?_
  refine lv_iconst (v := nI 1) hx hb d_Law_law_116 (by decide) ?_
  refine nv_iadd hx hb d_Law_law_117 ?_
  refine nv_top (y := nI 1) rfl ?_
  refine va_sld hx hb hX hbl hbA hS (vp_in_nI (show 1 < L by omega) (by omega)) d_Law_law_118 ?_
  refine nv_top (y := (xs 1)) ((congrArg xs (nI_clamp (by decide)))) ?_
  refine lv_aload_n hx hb d_Law_law_119 rfl (lv_at hl 0 rfl) ?_
  refine lv_iload hx hb d_Law_law_120 (lv_at hl 4 rfl) ?_
  refine lv_iconst (v := nI 2) hx hb d_Law_law_122 (by decide) ?_
  refine nv_iadd hx hb d_Law_law_123 ?_
  refine nv_top (y := nI 2) rfl ?_
  refine va_sld hx hb hX hbl hbA hS (vp_in_nI (show 2 < L by omega) (by omega)) d_Law_law_124 ?_
  refine nv_top (y := (xs 2)) ((congrArg xs (nI_clamp (by decide)))) ?_
  refine lv_aload_n hx hb d_Law_law_125 rfl (lv_at hl 0 rfl) ?_
  refine lv_iload hx hb d_Law_law_126 (lv_at hl 4 rfl) ?_
  refine lv_iconst (v := nI 3) hx hb d_Law_law_128 (by decide) ?_
  refine nv_iadd hx hb d_Law_law_129 ?_
  refine nv_top (y := nI 3) rfl ?_
  refine va_sld hx hb hX hbl hbA hS (vp_in_nI (show 3 < L by omega) (by omega)) d_Law_law_130 ?_
  refine nv_top (y := (xs 3)) ((congrArg xs (nI_clamp (by decide)))) ?_
  refine lv_aload_n hx hb d_Law_law_131 rfl (lv_at hl 0 rfl) ?_
  refine lv_iload hx hb d_Law_law_132 (lv_at hl 4 rfl) ?_
  refine lv_iconst (v := nI 4) hx hb d_Law_law_134 (by decide) ?_
  refine nv_iadd hx hb d_Law_law_135 ?_
  refine nv_top (y := nI 4) rfl ?_
  refine va_sld hx hb hX hbl hbA hS (vp_in_nI (show 4 < L by omega) (by omega)) d_Law_law_136 ?_
  refine nv_top (y := (xs 4)) ((congrArg xs (nI_clamp (by decide)))) ?_
  refine lv_aload_n hx hb d_Law_law_137 rfl (lv_at hl 0 rfl) ?_
  refine lv_iload hx hb d_Law_law_138 (lv_at hl 4 rfl) ?_
  refine lv_iconst (v := nI 5) hx hb d_Law_law_140 (by decide) ?_
  refine nv_iadd hx hb d_Law_law_141 ?_
  refine nv_top (y := nI 5) rfl ?_
  refine va_sld hx hb hX hbl hbA hS (vp_in_nI (show 5 < L by omega) (by omega)) d_Law_law_142 ?_
  refine nv_top (y := (xs 5)) ((congrArg xs (nI_clamp (by decide)))) ?_
  refine kV_i (wc := [(ts, .inr (8, [.ref dr, .ref cl, .ref cp, .ref vs, .int (nI 0)]))]) (wr := [(mo, .inr (9, [.int (nI 0), .ref rpx, .int (nI 0), .ref rca, .ref rpl, .ref rth, .ref rco, .ref rsh, .ref rsf, .ref rcr, .ref rep, .ref rby, .ref rli, .ref rls, .ref rla, .ref rcm, .ref rcs, .ref rpa, .ref rpm, .ref rpo, .ref rti, .ref rre, .ref rcl, .int (nI 0), .int (nI 0), .int (nI 0), .int (nI 0)]))]) (w2 := fun _ => [(ts, .inr (8, [.ref dr, .ref cl, .ref cp, .ref vs, .int (nI 0)])), (mo, .inr (9, [.int (nI 0), .ref rpx, .int (nI 0), .ref rca, .ref rpl, .ref rth, .ref rco, .ref rsh, .ref rsf, .ref rcr, .ref rep, .ref rby, .ref rli, .ref rls, .ref rla, .ref rcm, .ref rcs, .ref rpa, .ref rpm, .ref rpo, .ref rti, .ref rre, .ref rcl, .int (nI 0), .int (nI 0), .int (nI 0), .int (nI 0)]))]) [.int (xs 1), .int (xs 2), .int (xs 3), .int (xs 4), .int (xs 5)] [] Bd ⟨gi_app (gi_c0 k_254 (gi_c0 k_255 (gi_c0 k_256 (gi_c0 k_1 gi_nil)))) (gi_tb0 k_257), rfl, by decide, by decide⟩ (show (parseMethodDescriptor "(IIIII)Z").map (fun d => d.parameters.length) = some 5 by decide +kernel) (c_Scr_fill_no ts dr cl cp vs 0 (xs 1) (xs 2) (xs 3) (xs 4) (xs 5) (hno)) (by decide +kernel) ⟨Nat.le_of_ble_eq_true rfl, Nat.le_of_ble_eq_true rfl⟩ hG hP hD hS hA [0] [1] [1, 0] (by decide) rfl rfl (fun _ => rfl) (q0 := 0) rfl rfl rfl hl.1 rfl (Nat.le_of_ble_eq_true rfl) d_Law_law_143 (fun r1 u3 H locs hp2 hP hD hS => ?_)
  have hP : va_P D classes [(ts, .inr (8, [.ref dr, .ref cl, .ref cp, .ref vs, .int (nI 0)])), (mo, .inr (9, [.int (nI 0), .ref rpx, .int (nI 0), .ref rca, .ref rpl, .ref rth, .ref rco, .ref rsh, .ref rsf, .ref rcr, .ref rep, .ref rby, .ref rli, .ref rls, .ref rla, .ref rcm, .ref rcs, .ref rpa, .ref rpm, .ref rpo, .ref rti, .ref rre, .ref rcl, .int (nI 0), .int (nI 0), .int (nI 0), .int (nI 0)]))] H := hP
  have hD : va_D (fun q : Nat => s.heap.size ≤ q) [(ts, .inr (8, [.ref dr, .ref cl, .ref cp, .ref vs, .int (nI 0)])), (mo, .inr (9, [.int (nI 0), .ref rpx, .int (nI 0), .ref rca, .ref rpl, .ref rth, .ref rco, .ref rsh, .ref rsf, .ref rcr, .ref rep, .ref rby, .ref rli, .ref rls, .ref rla, .ref rcm, .ref rcs, .ref rpa, .ref rpm, .ref rpo, .ref rti, .ref rre, .ref rcl, .int (nI 0), .int (nI 0), .int (nI 0), .int (nI 0)]))] := hD
  subst hp2
  refine lv_aload_n hx hb d_Law_law_146 rfl (lv_at hl 2 rfl) ?_
  refine lv_aload_n hx hb d_Law_law_147 rfl (lv_at hl 0 rfl) ?_
  refine lv_iload hx hb d_Law_law_148 (lv_at hl 4 rfl) ?_
  refine lv_iconst (v := nI 1) hx hb d_Law_law_150 (by decide) ?_
  refine nv_iadd hx hb d_Law_law_151 ?_
  refine nv_top (y := nI 1) rfl ?_
  refine va_sld hx hb hX hbl hbA hS (vp_in_nI (show 1 < L by omega) (by omega)) d_Law_law_152 ?_
  refine nv_top (y := (xs 1)) ((congrArg xs (nI_clamp (by decide)))) ?_
  refine lv_aload_n hx hb d_Law_law_153 rfl (lv_at hl 0 rfl) ?_
  refine lv_iload hx hb d_Law_law_154 (lv_at hl 4 rfl) ?_
  refine lv_iconst (v := nI 2) hx hb d_Law_law_156 (by decide) ?_
  refine nv_iadd hx hb d_Law_law_157 ?_
  refine nv_top (y := nI 2) rfl ?_
  refine va_sld hx hb hX hbl hbA hS (vp_in_nI (show 2 < L by omega) (by omega)) d_Law_law_158 ?_
  refine nv_top (y := (xs 2)) ((congrArg xs (nI_clamp (by decide)))) ?_
  refine lv_aload_n hx hb d_Law_law_159 rfl (lv_at hl 0 rfl) ?_
  refine lv_iload hx hb d_Law_law_160 (lv_at hl 4 rfl) ?_
  refine lv_iconst (v := nI 3) hx hb d_Law_law_162 (by decide) ?_
  refine nv_iadd hx hb d_Law_law_163 ?_
  refine nv_top (y := nI 3) rfl ?_
  refine va_sld hx hb hX hbl hbA hS (vp_in_nI (show 3 < L by omega) (by omega)) d_Law_law_164 ?_
  refine nv_top (y := (xs 3)) ((congrArg xs (nI_clamp (by decide)))) ?_
  refine lv_aload_n hx hb d_Law_law_165 rfl (lv_at hl 0 rfl) ?_
  refine lv_iload hx hb d_Law_law_166 (lv_at hl 4 rfl) ?_
  refine lv_iconst (v := nI 4) hx hb d_Law_law_168 (by decide) ?_
  refine nv_iadd hx hb d_Law_law_169 ?_
  refine nv_top (y := nI 4) rfl ?_
  refine va_sld hx hb hX hbl hbA hS (vp_in_nI (show 4 < L by omega) (by omega)) d_Law_law_170 ?_
  refine nv_top (y := (xs 4)) ((congrArg xs (nI_clamp (by decide)))) ?_
  refine lv_aload_n hx hb d_Law_law_171 rfl (lv_at hl 0 rfl) ?_
  refine lv_iload hx hb d_Law_law_172 (lv_at hl 4 rfl) ?_
  refine lv_iconst (v := nI 5) hx hb d_Law_law_174 (by decide) ?_
  refine nv_iadd hx hb d_Law_law_175 ?_
  refine nv_top (y := nI 5) rfl ?_
  refine va_sld hx hb hX hbl hbA hS (vp_in_nI (show 5 < L by omega) (by omega)) d_Law_law_176 ?_
  refine nv_top (y := (xs 5)) ((congrArg xs (nI_clamp (by decide)))) ?_
  refine kV_i (wc := [(mo, .inr (9, [.int (nI 0), .ref rpx, .int (nI 0), .ref rca, .ref rpl, .ref rth, .ref rco, .ref rsh, .ref rsf, .ref rcr, .ref rep, .ref rby, .ref rli, .ref rls, .ref rla, .ref rcm, .ref rcs, .ref rpa, .ref rpm, .ref rpo, .ref rti, .ref rre, .ref rcl, .int (nI 0), .int (nI 0), .int (nI 0), .int (nI 0)]))]) (wr := [(ts, .inr (8, [.ref dr, .ref cl, .ref cp, .ref vs, .int (nI 0)]))]) (w2 := fun _ => [(ts, .inr (8, [.ref dr, .ref cl, .ref cp, .ref vs, .int (nI 0)])), (mo, .inr (9, [.int (nI 0), .ref rpx, .int (nI 0), .ref rca, .ref rpl, .ref rth, .ref rco, .ref rsh, .ref rsf, .ref rcr, .ref rep, .ref rby, .ref rli, .ref rls, .ref rla, .ref rcm, .ref rcs, .ref rpa, .ref rpm, .ref rpo, .ref rti, .ref rre, .ref rcl, .int (nI 0), .int (nI 0), .int (nI 0), .int (nI 0)]))]) [.int (xs 1), .int (xs 2), .int (xs 3), .int (xs 4), .int (xs 5)] [.int (nI 0)] Bd ⟨gi_app (gi_c0 k_722 (gi_c0 k_723 (gi_c0 k_724 (gi_c0 k_10 gi_nil)))) (gi_tb0 k_725), rfl, by decide, by decide⟩ (show (parseMethodDescriptor "(IIIII)Z").map (fun d => d.parameters.length) = some 5 by decide +kernel) (c_Mod_fill_no mo (nI 0) rpx (nI 0) rca rpl rth rco rsh rsf rcr rep rby rli rls rla rcm rcs rpa rpm rpo rti rre rcl 0 0 0 0 (xs 1) (xs 2) (xs 3) (xs 4) (xs 5) (hno)) (by decide +kernel) ⟨Nat.le_of_ble_eq_true rfl, Nat.le_of_ble_eq_true rfl⟩ hG hP hD hS hA [1] [0] [0, 1] (by decide) rfl rfl (fun _ => rfl) (q0 := 0) rfl rfl rfl hl.1 rfl (Nat.le_of_ble_eq_true rfl) d_Law_law_177 (fun r4 u6 H locs hp5 hP hD hS => ?_)
  have hP : va_P D classes [(ts, .inr (8, [.ref dr, .ref cl, .ref cp, .ref vs, .int (nI 0)])), (mo, .inr (9, [.int (nI 0), .ref rpx, .int (nI 0), .ref rca, .ref rpl, .ref rth, .ref rco, .ref rsh, .ref rsf, .ref rcr, .ref rep, .ref rby, .ref rli, .ref rls, .ref rla, .ref rcm, .ref rcs, .ref rpa, .ref rpm, .ref rpo, .ref rti, .ref rre, .ref rcl, .int (nI 0), .int (nI 0), .int (nI 0), .int (nI 0)]))] H := hP
  have hD : va_D (fun q : Nat => s.heap.size ≤ q) [(ts, .inr (8, [.ref dr, .ref cl, .ref cp, .ref vs, .int (nI 0)])), (mo, .inr (9, [.int (nI 0), .ref rpx, .int (nI 0), .ref rca, .ref rpl, .ref rth, .ref rco, .ref rsh, .ref rsf, .ref rcr, .ref rep, .ref rby, .ref rli, .ref rls, .ref rla, .ref rcm, .ref rcs, .ref rpa, .ref rpm, .ref rpo, .ref rti, .ref rre, .ref rcl, .int (nI 0), .int (nI 0), .int (nI 0), .int (nI 0)]))] := hD
  subst hp5
  refine nv_icmp_eq (tgt := 697) hx hb d_Law_law_180 (by decide) (by omega) (by omega) (fun _ => ?_) (fun h9 => absurd h9 (by decide))
  exact law_end hL C0 hS (lv_sub hl [0, 4] rfl)
set_option maxHeartbeats 1000000 in
set_option maxRecDepth 100000 in
theorem law_blit {p : Program} {l : Launch} {e : Env} {s : State} {m : MethodId} {below : List Frame} {meth : Method} {c : Code} {D : va_G} {cI cZ cL cV : ClassId} {b L : Nat} {xs : Nat → Int32} {H : Heap} {locs : List Loc} {ls : Array Slot} (ou : Nat) (ts : Nat) (dr : Nat) (cl : Nat) (cp : Nat) (vs : Nat) (drp : Nat) (cpp : Nat) (mo : Nat) (rpx : Nat) (rca : Nat) (rpl : Nat) (rth : Nat) (rco : Nat) (rsh : Nat) (rsf : Nat) (rcr : Nat) (rep : Nat) (rby : Nat) (rli : Nat) (rls : Nat) (rla : Nat) (rcm : Nat) (rcs : Nat) (rpa : Nat) (rpm : Nat) (rpo : Nat) (rti : Nat) (rre : Nat) (rcl : Nat) (p9 : Nat) (s9 : Nat) (x : Nat) (y : Nat) (e1 : xs 1 = nI p9) (e2 : xs 2 = nI s9) (e3 : xs 3 = nI x) (e4 : xs 4 = nI y) (hp : p9 < 2 ^ 31) (hs1 : 1 ≤ s9) (hs2 : s9 < 2 ^ 31) (h2 : 1 ≤ ((s9 - 1) / 64)) (h3 : p9 % 64 + ((s9 - 1) % 64 + 1) ≤ 64) (h4 : p9 / 64 + ((s9 - 1) / 64) ≤ 48) (h5 : x + ((s9 - 1) % 64 + 1) ≤ 64) (h6 : y + ((s9 - 1) / 64) ≤ 48) (hL : L ≤ 6) (hL6 : 6 ≤ L) (C0 : lw_At p s m meth c b L xs) (hG : gk classes NW D (TYS cI cZ cL cV) s) (hP : va_P D classes [(ts, .inr (8, [.ref dr, .ref cl, .ref cp, .ref vs, .int (nI 0)])), (dr, .inr (0, [.int (nI 48), .ref drp])), (drp, .inl (cI, 3072, .inl (nF (fun _ => 0)))), (cp, .inr (0, [.int (nI 48), .ref cpp])), (cpp, .inl (cI, 3072, .inl (nF (fun _ => 0)))), (mo, .inr (9, [.int (nI 0), .ref rpx, .int (nI 0), .ref rca, .ref rpl, .ref rth, .ref rco, .ref rsh, .ref rsf, .ref rcr, .ref rep, .ref rby, .ref rli, .ref rls, .ref rla, .ref rcm, .ref rcs, .ref rpa, .ref rpm, .ref rpo, .ref rti, .ref rre, .ref rcl, .int (nI 0), .int (nI 0), .int (nI 0), .int (nI 0)])), (rpx, .inl (cI, 30720, .inl (nF (fun _ => 0))))] H) (hD : va_D (fun q : Nat => s.heap.size ≤ q) [(ts, .inr (8, [.ref dr, .ref cl, .ref cp, .ref vs, .int (nI 0)])), (dr, .inr (0, [.int (nI 48), .ref drp])), (drp, .inl (cI, 3072, .inl (nF (fun _ => 0)))), (cp, .inr (0, [.int (nI 48), .ref cpp])), (cpp, .inl (cI, 3072, .inl (nF (fun _ => 0)))), (mo, .inr (9, [.int (nI 0), .ref rpx, .int (nI 0), .ref rca, .ref rpl, .ref rth, .ref rco, .ref rsh, .ref rsf, .ref rcr, .ref rep, .ref rby, .ref rli, .ref rls, .ref rla, .ref rcm, .ref rcs, .ref rpa, .ref rpm, .ref rpo, .ref rti, .ref rre, .ref rcl, .int (nI 0), .int (nI 0), .int (nI 0), .int (nI 0)])), (rpx, .inl (cI, 30720, .inl (nF (fun _ => 0))))]) (hS : va_S (fun q : Nat => s.heap.size ≤ q) s.heap H locs) (hl : lv_has ls 7 [(0, .ref b), (1, .ref ts), (2, .ref mo), (3, .ref ou), (4, .int (nI 0))]) : W p l e room_1 s m #[Value.ref b] below meth c H locs 106 155700 (lw_Z below #[Value.ref b] s) (F0 m 185 ls []) := by
  obtain ⟨hx, hb, hr, hml, hown, hts, hX, hbl, hlocks, hgv⟩ := id C0
  have hA : ∀ q : Nat, s.heap.size ≤ q → (fun q : Nat => s.heap.size ≤ q) q := fun _ h => h
  have hbA : ¬ (fun q : Nat => s.heap.size ≤ q) b := Nat.not_le.mpr hbl
  have htb : ∀ w ∈ TB, w.before #[Value.ref b] s = true := fun w hw => hts w (List.mem_filter.mp hw).1
  have Bd : bd p c code 7 s #[Value.ref b] TB "TileScreenLaw" m := ⟨hx, hb, hml, hown, htb⟩
  refine lv_aload_n hx hb d_Law_law_185 rfl (lv_at hl 1 rfl) ?_
  refine lv_aload_n hx hb d_Law_law_186 rfl (lv_at hl 0 rfl) ?_
  refine lv_iload hx hb d_Law_law_187 (lv_at hl 4 rfl) ?_
  refine lv_iconst (v := nI 1) hx hb d_Law_law_189 (by decide) ?_
  refine nv_iadd hx hb d_Law_law_190 ?_
  refine nv_top (y := nI 1) rfl ?_
  refine va_sld hx hb hX hbl hbA hS (vp_in_nI (show 1 < L by omega) (by omega)) d_Law_law_191 ?_
  refine nv_top (y := (nI p9)) ((congrArg xs (nI_clamp (by decide))).trans e1) ?_
  refine lv_aload_n hx hb d_Law_law_192 rfl (lv_at hl 0 rfl) ?_
  refine lv_iload hx hb d_Law_law_193 (lv_at hl 4 rfl) ?_
  refine lv_iconst (v := nI 2) hx hb d_Law_law_195 (by decide) ?_
  refine nv_iadd hx hb d_Law_law_196 ?_
  refine nv_top (y := nI 2) rfl ?_
  refine va_sld hx hb hX hbl hbA hS (vp_in_nI (show 2 < L by omega) (by omega)) d_Law_law_197 ?_
  refine nv_top (y := (nI s9)) ((congrArg xs (nI_clamp (by decide))).trans e2) ?_
  refine lv_aload_n hx hb d_Law_law_198 rfl (lv_at hl 0 rfl) ?_
  refine lv_iload hx hb d_Law_law_199 (lv_at hl 4 rfl) ?_
  refine lv_iconst (v := nI 3) hx hb d_Law_law_201 (by decide) ?_
  refine nv_iadd hx hb d_Law_law_202 ?_
  refine nv_top (y := nI 3) rfl ?_
  refine va_sld hx hb hX hbl hbA hS (vp_in_nI (show 3 < L by omega) (by omega)) d_Law_law_203 ?_
  refine nv_top (y := (nI x)) ((congrArg xs (nI_clamp (by decide))).trans e3) ?_
  refine lv_aload_n hx hb d_Law_law_204 rfl (lv_at hl 0 rfl) ?_
  refine lv_iload hx hb d_Law_law_205 (lv_at hl 4 rfl) ?_
  refine lv_iconst (v := nI 4) hx hb d_Law_law_207 (by decide) ?_
  refine nv_iadd hx hb d_Law_law_208 ?_
  refine nv_top (y := nI 4) rfl ?_
  refine va_sld hx hb hX hbl hbA hS (vp_in_nI (show 4 < L by omega) (by omega)) d_Law_law_209 ?_
  refine nv_top (y := (nI y)) ((congrArg xs (nI_clamp (by decide))).trans e4) ?_
  refine kV_i (wc := [(ts, .inr (8, [.ref dr, .ref cl, .ref cp, .ref vs, .int (nI 0)])), (dr, .inr (0, [.int (nI 48), .ref drp])), (drp, .inl (cI, 3072, .inl (nF (fun _ => 0)))), (cp, .inr (0, [.int (nI 48), .ref cpp])), (cpp, .inl (cI, 3072, .inl (nF (fun _ => 0))))]) (wr := [(mo, .inr (9, [.int (nI 0), .ref rpx, .int (nI 0), .ref rca, .ref rpl, .ref rth, .ref rco, .ref rsh, .ref rsf, .ref rcr, .ref rep, .ref rby, .ref rli, .ref rls, .ref rla, .ref rcm, .ref rcs, .ref rpa, .ref rpm, .ref rpo, .ref rti, .ref rre, .ref rcl, .int (nI 0), .int (nI 0), .int (nI 0), .int (nI 0)])), (rpx, .inl (cI, 30720, .inl (nF (fun _ => 0))))]) (w2 := fun _ => [(ts, .inr (8, [.ref dr, .ref cl, .ref cp, .ref vs, .int (nI 0)])), (dr, .inr (0, [.int (nI 48), .ref drp])), (drp, .inl (cI, 3072, .inl (nF (rcF (fun _ => 0) x y ((s9 - 1) % 64 + 1) ((s9 - 1) / 64) (fun i j => (fun _ => 0) (ti (p9 % 64 + i) (p9 / 64 + j))))))), (cp, .inr (0, [.int (nI 48), .ref cpp])), (cpp, .inl (cI, 3072, .inl (nF (fun _ => 0)))), (mo, .inr (9, [.int (nI 0), .ref rpx, .int (nI 0), .ref rca, .ref rpl, .ref rth, .ref rco, .ref rsh, .ref rsf, .ref rcr, .ref rep, .ref rby, .ref rli, .ref rls, .ref rla, .ref rcm, .ref rcs, .ref rpa, .ref rpm, .ref rpo, .ref rti, .ref rre, .ref rcl, .int (nI 0), .int (nI 0), .int (nI 0), .int (nI 0)])), (rpx, .inl (cI, 30720, .inl (nF (fun _ => 0))))]) [.int (nI p9), .int (nI s9), .int (nI x), .int (nI y)] [] Bd ⟨gi_app (gi_c0 k_275 (gi_c0 k_276 (gi_c0 k_277 (gi_c0 k_1 gi_nil)))) (gi_tb0 k_278), rfl, by decide, by decide⟩ (show (parseMethodDescriptor "(IIII)Z").map (fun d => d.parameters.length) = some 4 by decide +kernel) (c_Scr_blit ts dr cl cp vs 0 drp (fun _ => 0) cpp (fun _ => 0) p9 s9 x y (hp) (hs1) (hs2) (h2) (h3) (h4) (h5) (h6)) (by decide +kernel) ⟨Nat.le_of_ble_eq_true rfl, Nat.le_of_ble_eq_true rfl⟩ hG hP hD hS hA [0, 1, 2, 3, 4] [5, 6] [2, 3, 4, 5, 6, 0, 1] (by decide) rfl rfl (fun _ => rfl) (q0 := 0) rfl rfl rfl hl.1 rfl (Nat.le_of_ble_eq_true rfl) d_Law_law_210 (fun r1 u3 H locs hp2 hP hD hS => ?_)
  have hP : va_P D classes [(ts, .inr (8, [.ref dr, .ref cl, .ref cp, .ref vs, .int (nI 0)])), (dr, .inr (0, [.int (nI 48), .ref drp])), (drp, .inl (cI, 3072, .inl (nF (rcF (fun _ => 0) x y ((s9 - 1) % 64 + 1) ((s9 - 1) / 64) (fun i j => (fun _ => 0) (ti (p9 % 64 + i) (p9 / 64 + j))))))), (cp, .inr (0, [.int (nI 48), .ref cpp])), (cpp, .inl (cI, 3072, .inl (nF (fun _ => 0)))), (mo, .inr (9, [.int (nI 0), .ref rpx, .int (nI 0), .ref rca, .ref rpl, .ref rth, .ref rco, .ref rsh, .ref rsf, .ref rcr, .ref rep, .ref rby, .ref rli, .ref rls, .ref rla, .ref rcm, .ref rcs, .ref rpa, .ref rpm, .ref rpo, .ref rti, .ref rre, .ref rcl, .int (nI 0), .int (nI 0), .int (nI 0), .int (nI 0)])), (rpx, .inl (cI, 30720, .inl (nF (fun _ => 0))))] H := hP
  have hD : va_D (fun q : Nat => s.heap.size ≤ q) [(ts, .inr (8, [.ref dr, .ref cl, .ref cp, .ref vs, .int (nI 0)])), (dr, .inr (0, [.int (nI 48), .ref drp])), (drp, .inl (cI, 3072, .inl (nF (rcF (fun _ => 0) x y ((s9 - 1) % 64 + 1) ((s9 - 1) / 64) (fun i j => (fun _ => 0) (ti (p9 % 64 + i) (p9 / 64 + j))))))), (cp, .inr (0, [.int (nI 48), .ref cpp])), (cpp, .inl (cI, 3072, .inl (nF (fun _ => 0)))), (mo, .inr (9, [.int (nI 0), .ref rpx, .int (nI 0), .ref rca, .ref rpl, .ref rth, .ref rco, .ref rsh, .ref rsf, .ref rcr, .ref rep, .ref rby, .ref rli, .ref rls, .ref rla, .ref rcm, .ref rcs, .ref rpa, .ref rpm, .ref rpo, .ref rti, .ref rre, .ref rcl, .int (nI 0), .int (nI 0), .int (nI 0), .int (nI 0)])), (rpx, .inl (cI, 30720, .inl (nF (fun _ => 0))))] := hD
  subst hp2
  refine lv_aload_n hx hb d_Law_law_213 rfl (lv_at hl 2 rfl) ?_
  refine lv_aload_n hx hb d_Law_law_214 rfl (lv_at hl 0 rfl) ?_
  refine lv_iload hx hb d_Law_law_215 (lv_at hl 4 rfl) ?_
  refine lv_iconst (v := nI 1) hx hb d_Law_law_217 (by decide) ?_
  refine nv_iadd hx hb d_Law_law_218 ?_
  refine nv_top (y := nI 1) rfl ?_
  refine va_sld hx hb hX hbl hbA hS (vp_in_nI (show 1 < L by omega) (by omega)) d_Law_law_219 ?_
  refine nv_top (y := (nI p9)) ((congrArg xs (nI_clamp (by decide))).trans e1) ?_
  refine lv_aload_n hx hb d_Law_law_220 rfl (lv_at hl 0 rfl) ?_
  refine lv_iload hx hb d_Law_law_221 (lv_at hl 4 rfl) ?_
  refine lv_iconst (v := nI 2) hx hb d_Law_law_223 (by decide) ?_
  refine nv_iadd hx hb d_Law_law_224 ?_
  refine nv_top (y := nI 2) rfl ?_
  refine va_sld hx hb hX hbl hbA hS (vp_in_nI (show 2 < L by omega) (by omega)) d_Law_law_225 ?_
  refine nv_top (y := (nI s9)) ((congrArg xs (nI_clamp (by decide))).trans e2) ?_
  refine lv_aload_n hx hb d_Law_law_226 rfl (lv_at hl 0 rfl) ?_
  refine lv_iload hx hb d_Law_law_227 (lv_at hl 4 rfl) ?_
  refine lv_iconst (v := nI 3) hx hb d_Law_law_229 (by decide) ?_
  refine nv_iadd hx hb d_Law_law_230 ?_
  refine nv_top (y := nI 3) rfl ?_
  refine va_sld hx hb hX hbl hbA hS (vp_in_nI (show 3 < L by omega) (by omega)) d_Law_law_231 ?_
  refine nv_top (y := (nI x)) ((congrArg xs (nI_clamp (by decide))).trans e3) ?_
  refine lv_aload_n hx hb d_Law_law_232 rfl (lv_at hl 0 rfl) ?_
  refine lv_iload hx hb d_Law_law_233 (lv_at hl 4 rfl) ?_
  refine lv_iconst (v := nI 4) hx hb d_Law_law_235 (by decide) ?_
  refine nv_iadd hx hb d_Law_law_236 ?_
  refine nv_top (y := nI 4) rfl ?_
  refine va_sld hx hb hX hbl hbA hS (vp_in_nI (show 4 < L by omega) (by omega)) d_Law_law_237 ?_
  refine nv_top (y := (nI y)) ((congrArg xs (nI_clamp (by decide))).trans e4) ?_
  refine kV_i (wc := [(mo, .inr (9, [.int (nI 0), .ref rpx, .int (nI 0), .ref rca, .ref rpl, .ref rth, .ref rco, .ref rsh, .ref rsf, .ref rcr, .ref rep, .ref rby, .ref rli, .ref rls, .ref rla, .ref rcm, .ref rcs, .ref rpa, .ref rpm, .ref rpo, .ref rti, .ref rre, .ref rcl, .int (nI 0), .int (nI 0), .int (nI 0), .int (nI 0)])), (rpx, .inl (cI, 30720, .inl (nF (fun _ => 0))))]) (wr := [(ts, .inr (8, [.ref dr, .ref cl, .ref cp, .ref vs, .int (nI 0)])), (dr, .inr (0, [.int (nI 48), .ref drp])), (drp, .inl (cI, 3072, .inl (nF (rcF (fun _ => 0) x y ((s9 - 1) % 64 + 1) ((s9 - 1) / 64) (fun i j => (fun _ => 0) (ti (p9 % 64 + i) (p9 / 64 + j))))))), (cp, .inr (0, [.int (nI 48), .ref cpp])), (cpp, .inl (cI, 3072, .inl (nF (fun _ => 0))))]) (w2 := fun u => [(ts, .inr (8, [.ref dr, .ref cl, .ref cp, .ref vs, .int (nI 0)])), (dr, .inr (0, [.int (nI 48), .ref drp])), (drp, .inl (cI, 3072, .inl (nF (rcF (fun _ => 0) x y ((s9 - 1) % 64 + 1) ((s9 - 1) / 64) (fun i j => (fun _ => 0) (ti (p9 % 64 + i) (p9 / 64 + j))))))), (cp, .inr (0, [.int (nI 48), .ref cpp])), (cpp, .inl (cI, 3072, .inl (nF (fun _ => 0)))), (mo, .inr (9, [.int (nI 0), .ref rpx, .int (nI 0), .ref rca, .ref rpl, .ref rth, .ref rco, .ref rsh, .ref rsf, .ref rcr, .ref rep, .ref rby, .ref rli, .ref rls, .ref rla, .ref rcm, .ref rcs, .ref rpa, .ref rpm, .ref rpo, .ref rti, .ref rre, .ref rcl, .int (nI 0), .int (nI 0), .int (nI 0), .int (nI 0)])), (rpx, .inl (cI, 30720, .inl (nF u)))]) [.int (nI p9), .int (nI s9), .int (nI x), .int (nI y)] [.int (nI 1)] Bd ⟨gi_app (gi_c0 k_733 (gi_c0 k_734 (gi_c0 k_735 (gi_c0 k_10 gi_nil)))) (gi_tb0 k_736), rfl, by decide, by decide⟩ (show (parseMethodDescriptor "(IIII)Z").map (fun d => d.parameters.length) = some 4 by decide +kernel) (c_Mod_blit mo (nI 0) rpx (nI 0) rca rpl rth rco rsh rsf rcr rep rby rli rls rla rcm rcs rpa rpm rpo rti rre rcl 0 0 0 0 (fun _ => 0) p9 s9 x y (hp) (hs1) (hs2) (h2) (h3) (h4) (h5) (h6) (zlt (by decide))) (by decide +kernel) ⟨Nat.le_of_ble_eq_true rfl, Nat.le_of_ble_eq_true rfl⟩ hG hP hD hS hA [5, 6] [0, 1, 2, 3, 4] [0, 1, 2, 3, 4, 5, 6] (by decide) rfl rfl (fun _ => rfl) (q0 := 0) rfl rfl rfl hl.1 rfl (Nat.le_of_ble_eq_true rfl) d_Law_law_238 (fun r5 u7 H locs hp6 hP hD hS => ?_)
  obtain ⟨u4, rfl⟩ : ∃ z9, z9 = u7 := ⟨_, rfl⟩
  try dsimp only at hp6
  have hP : va_P D classes [(ts, .inr (8, [.ref dr, .ref cl, .ref cp, .ref vs, .int (nI 0)])), (dr, .inr (0, [.int (nI 48), .ref drp])), (drp, .inl (cI, 3072, .inl (nF (rcF (fun _ => 0) x y ((s9 - 1) % 64 + 1) ((s9 - 1) / 64) (fun i j => (fun _ => 0) (ti (p9 % 64 + i) (p9 / 64 + j))))))), (cp, .inr (0, [.int (nI 48), .ref cpp])), (cpp, .inl (cI, 3072, .inl (nF (fun _ => 0)))), (mo, .inr (9, [.int (nI 0), .ref rpx, .int (nI 0), .ref rca, .ref rpl, .ref rth, .ref rco, .ref rsh, .ref rsf, .ref rcr, .ref rep, .ref rby, .ref rli, .ref rls, .ref rla, .ref rcm, .ref rcs, .ref rpa, .ref rpm, .ref rpo, .ref rti, .ref rre, .ref rcl, .int (nI 0), .int (nI 0), .int (nI 0), .int (nI 0)])), (rpx, .inl (cI, 30720, .inl (nF u4)))] H := hP
  have hD : va_D (fun q : Nat => s.heap.size ≤ q) [(ts, .inr (8, [.ref dr, .ref cl, .ref cp, .ref vs, .int (nI 0)])), (dr, .inr (0, [.int (nI 48), .ref drp])), (drp, .inl (cI, 3072, .inl (nF (rcF (fun _ => 0) x y ((s9 - 1) % 64 + 1) ((s9 - 1) / 64) (fun i j => (fun _ => 0) (ti (p9 % 64 + i) (p9 / 64 + j))))))), (cp, .inr (0, [.int (nI 48), .ref cpp])), (cpp, .inl (cI, 3072, .inl (nF (fun _ => 0)))), (mo, .inr (9, [.int (nI 0), .ref rpx, .int (nI 0), .ref rca, .ref rpl, .ref rth, .ref rco, .ref rsh, .ref rsf, .ref rcr, .ref rep, .ref rby, .ref rli, .ref rls, .ref rla, .ref rcm, .ref rcs, .ref rpa, .ref rpm, .ref rpo, .ref rti, .ref rre, .ref rcl, .int (nI 0), .int (nI 0), .int (nI 0), .int (nI 0)])), (rpx, .inl (cI, 30720, .inl (nF u4)))] := hD
  obtain ⟨rfl, hp8⟩ := hp6
  refine nv_icmp_eq (tgt := 697) hx hb d_Law_law_241 (by decide) (by omega) (by omega) (fun _ => ?_) (fun h9 => absurd h9 (by decide))
  exact law_end hL C0 hS (lv_sub hl [0, 4] rfl)
set_option maxHeartbeats 1000000 in
set_option maxRecDepth 100000 in
theorem law_blit_no {p : Program} {l : Launch} {e : Env} {s : State} {m : MethodId} {below : List Frame} {meth : Method} {c : Code} {D : va_G} {cI cZ cL cV : ClassId} {b L : Nat} {xs : Nat → Int32} {H : Heap} {locs : List Loc} {ls : Array Slot} (ou : Nat) (ts : Nat) (dr : Nat) (cl : Nat) (cp : Nat) (vs : Nat) (mo : Nat) (rpx : Nat) (rca : Nat) (rpl : Nat) (rth : Nat) (rco : Nat) (rsh : Nat) (rsf : Nat) (rcr : Nat) (rep : Nat) (rby : Nat) (rli : Nat) (rls : Nat) (rla : Nat) (rcm : Nat) (rcs : Nat) (rpa : Nat) (rpm : Nat) (rpo : Nat) (rti : Nat) (rre : Nat) (rcl : Nat) (hno : ¬ blP (xs 1) (xs 2) (xs 3) (xs 4)) (hL : L ≤ 6) (hL6 : 6 ≤ L) (C0 : lw_At p s m meth c b L xs) (hG : gk classes NW D (TYS cI cZ cL cV) s) (hP : va_P D classes [(ts, .inr (8, [.ref dr, .ref cl, .ref cp, .ref vs, .int (nI 0)])), (mo, .inr (9, [.int (nI 0), .ref rpx, .int (nI 0), .ref rca, .ref rpl, .ref rth, .ref rco, .ref rsh, .ref rsf, .ref rcr, .ref rep, .ref rby, .ref rli, .ref rls, .ref rla, .ref rcm, .ref rcs, .ref rpa, .ref rpm, .ref rpo, .ref rti, .ref rre, .ref rcl, .int (nI 0), .int (nI 0), .int (nI 0), .int (nI 0)]))] H) (hD : va_D (fun q : Nat => s.heap.size ≤ q) [(ts, .inr (8, [.ref dr, .ref cl, .ref cp, .ref vs, .int (nI 0)])), (mo, .inr (9, [.int (nI 0), .ref rpx, .int (nI 0), .ref rca, .ref rpl, .ref rth, .ref rco, .ref rsh, .ref rsf, .ref rcr, .ref rep, .ref rby, .ref rli, .ref rls, .ref rla, .ref rcm, .ref rcs, .ref rpa, .ref rpm, .ref rpo, .ref rti, .ref rre, .ref rcl, .int (nI 0), .int (nI 0), .int (nI 0), .int (nI 0)]))]) (hS : va_S (fun q : Nat => s.heap.size ≤ q) s.heap H locs) (hl : lv_has ls 7 [(0, .ref b), (1, .ref ts), (2, .ref mo), (3, .ref ou), (4, .int (nI 0))]) : W p l e room_1 s m #[Value.ref b] below meth c H locs 106 155700 (lw_Z below #[Value.ref b] s) (F0 m 185 ls []) := by
  obtain ⟨hx, hb, hr, hml, hown, hts, hX, hbl, hlocks, hgv⟩ := id C0
  have hA : ∀ q : Nat, s.heap.size ≤ q → (fun q : Nat => s.heap.size ≤ q) q := fun _ h => h
  have hbA : ¬ (fun q : Nat => s.heap.size ≤ q) b := Nat.not_le.mpr hbl
  have htb : ∀ w ∈ TB, w.before #[Value.ref b] s = true := fun w hw => hts w (List.mem_filter.mp hw).1
  have Bd : bd p c code 7 s #[Value.ref b] TB "TileScreenLaw" m := ⟨hx, hb, hml, hown, htb⟩
  refine lv_aload_n hx hb d_Law_law_185 rfl (lv_at hl 1 rfl) ?_
  refine lv_aload_n hx hb d_Law_law_186 rfl (lv_at hl 0 rfl) ?_
  refine lv_iload hx hb d_Law_law_187 (lv_at hl 4 rfl) ?_
  refine lv_iconst (v := nI 1) hx hb d_Law_law_189 (by decide) ?_
  refine nv_iadd hx hb d_Law_law_190 ?_
  refine nv_top (y := nI 1) rfl ?_
  refine va_sld hx hb hX hbl hbA hS (vp_in_nI (show 1 < L by omega) (by omega)) d_Law_law_191 ?_
  refine nv_top (y := (xs 1)) ((congrArg xs (nI_clamp (by decide)))) ?_
  refine lv_aload_n hx hb d_Law_law_192 rfl (lv_at hl 0 rfl) ?_
  refine lv_iload hx hb d_Law_law_193 (lv_at hl 4 rfl) ?_
  refine lv_iconst (v := nI 2) hx hb d_Law_law_195 (by decide) ?_
  refine nv_iadd hx hb d_Law_law_196 ?_
  refine nv_top (y := nI 2) rfl ?_
  refine va_sld hx hb hX hbl hbA hS (vp_in_nI (show 2 < L by omega) (by omega)) d_Law_law_197 ?_
  refine nv_top (y := (xs 2)) ((congrArg xs (nI_clamp (by decide)))) ?_
  refine lv_aload_n hx hb d_Law_law_198 rfl (lv_at hl 0 rfl) ?_
  refine lv_iload hx hb d_Law_law_199 (lv_at hl 4 rfl) ?_
  refine lv_iconst (v := nI 3) hx hb d_Law_law_201 (by decide) ?_
  refine nv_iadd hx hb d_Law_law_202 ?_
  refine nv_top (y := nI 3) rfl ?_
  refine va_sld hx hb hX hbl hbA hS (vp_in_nI (show 3 < L by omega) (by omega)) d_Law_law_203 ?_
  refine nv_top (y := (xs 3)) ((congrArg xs (nI_clamp (by decide)))) ?_
  refine lv_aload_n hx hb d_Law_law_204 rfl (lv_at hl 0 rfl) ?_
  refine lv_iload hx hb d_Law_law_205 (lv_at hl 4 rfl) ?_
  refine lv_iconst (v := nI 4) hx hb d_Law_law_207 (by decide) ?_
  refine nv_iadd hx hb d_Law_law_208 ?_
  refine nv_top (y := nI 4) rfl ?_
  refine va_sld hx hb hX hbl hbA hS (vp_in_nI (show 4 < L by omega) (by omega)) d_Law_law_209 ?_
  refine nv_top (y := (xs 4)) ((congrArg xs (nI_clamp (by decide)))) ?_
  refine kV_i (wc := [(ts, .inr (8, [.ref dr, .ref cl, .ref cp, .ref vs, .int (nI 0)]))]) (wr := [(mo, .inr (9, [.int (nI 0), .ref rpx, .int (nI 0), .ref rca, .ref rpl, .ref rth, .ref rco, .ref rsh, .ref rsf, .ref rcr, .ref rep, .ref rby, .ref rli, .ref rls, .ref rla, .ref rcm, .ref rcs, .ref rpa, .ref rpm, .ref rpo, .ref rti, .ref rre, .ref rcl, .int (nI 0), .int (nI 0), .int (nI 0), .int (nI 0)]))]) (w2 := fun _ => [(ts, .inr (8, [.ref dr, .ref cl, .ref cp, .ref vs, .int (nI 0)])), (mo, .inr (9, [.int (nI 0), .ref rpx, .int (nI 0), .ref rca, .ref rpl, .ref rth, .ref rco, .ref rsh, .ref rsf, .ref rcr, .ref rep, .ref rby, .ref rli, .ref rls, .ref rla, .ref rcm, .ref rcs, .ref rpa, .ref rpm, .ref rpo, .ref rti, .ref rre, .ref rcl, .int (nI 0), .int (nI 0), .int (nI 0), .int (nI 0)]))]) [.int (xs 1), .int (xs 2), .int (xs 3), .int (xs 4)] [] Bd ⟨gi_app (gi_c0 k_275 (gi_c0 k_276 (gi_c0 k_277 (gi_c0 k_1 gi_nil)))) (gi_tb0 k_278), rfl, by decide, by decide⟩ (show (parseMethodDescriptor "(IIII)Z").map (fun d => d.parameters.length) = some 4 by decide +kernel) (c_Scr_blit_no ts dr cl cp vs 0 (xs 1) (xs 2) (xs 3) (xs 4) (hno)) (by decide +kernel) ⟨Nat.le_of_ble_eq_true rfl, Nat.le_of_ble_eq_true rfl⟩ hG hP hD hS hA [0] [1] [1, 0] (by decide) rfl rfl (fun _ => rfl) (q0 := 0) rfl rfl rfl hl.1 rfl (Nat.le_of_ble_eq_true rfl) d_Law_law_210 (fun r1 u3 H locs hp2 hP hD hS => ?_)
  have hP : va_P D classes [(ts, .inr (8, [.ref dr, .ref cl, .ref cp, .ref vs, .int (nI 0)])), (mo, .inr (9, [.int (nI 0), .ref rpx, .int (nI 0), .ref rca, .ref rpl, .ref rth, .ref rco, .ref rsh, .ref rsf, .ref rcr, .ref rep, .ref rby, .ref rli, .ref rls, .ref rla, .ref rcm, .ref rcs, .ref rpa, .ref rpm, .ref rpo, .ref rti, .ref rre, .ref rcl, .int (nI 0), .int (nI 0), .int (nI 0), .int (nI 0)]))] H := hP
  have hD : va_D (fun q : Nat => s.heap.size ≤ q) [(ts, .inr (8, [.ref dr, .ref cl, .ref cp, .ref vs, .int (nI 0)])), (mo, .inr (9, [.int (nI 0), .ref rpx, .int (nI 0), .ref rca, .ref rpl, .ref rth, .ref rco, .ref rsh, .ref rsf, .ref rcr, .ref rep, .ref rby, .ref rli, .ref rls, .ref rla, .ref rcm, .ref rcs, .ref rpa, .ref rpm, .ref rpo, .ref rti, .ref rre, .ref rcl, .int (nI 0), .int (nI 0), .int (nI 0), .int (nI 0)]))] := hD
  subst hp2
  refine lv_aload_n hx hb d_Law_law_213 rfl (lv_at hl 2 rfl) ?_
  refine lv_aload_n hx hb d_Law_law_214 rfl (lv_at hl 0 rfl) ?_
  refine lv_iload hx hb d_Law_law_215 (lv_at hl 4 rfl) ?_
  refine lv_iconst (v := nI 1) hx hb d_Law_law_217 (by decide) ?_
  refine nv_iadd hx hb d_Law_law_218 ?_
  refine nv_top (y := nI 1) rfl ?_
  refine va_sld hx hb hX hbl hbA hS (vp_in_nI (show 1 < L by omega) (by omega)) d_Law_law_219 ?_
  refine nv_top (y := (xs 1)) ((congrArg xs (nI_clamp (by decide)))) ?_
  refine lv_aload_n hx hb d_Law_law_220 rfl (lv_at hl 0 rfl) ?_
  refine lv_iload hx hb d_Law_law_221 (lv_at hl 4 rfl) ?_
  refine lv_iconst (v := nI 2) hx hb d_Law_law_223 (by decide) ?_
  refine nv_iadd hx hb d_Law_law_224 ?_
  refine nv_top (y := nI 2) rfl ?_
  refine va_sld hx hb hX hbl hbA hS (vp_in_nI (show 2 < L by omega) (by omega)) d_Law_law_225 ?_
  refine nv_top (y := (xs 2)) ((congrArg xs (nI_clamp (by decide)))) ?_
  refine lv_aload_n hx hb d_Law_law_226 rfl (lv_at hl 0 rfl) ?_
  refine lv_iload hx hb d_Law_law_227 (lv_at hl 4 rfl) ?_
  refine lv_iconst (v := nI 3) hx hb d_Law_law_229 (by decide) ?_
  refine nv_iadd hx hb d_Law_law_230 ?_
  refine nv_top (y := nI 3) rfl ?_
  refine va_sld hx hb hX hbl hbA hS (vp_in_nI (show 3 < L by omega) (by omega)) d_Law_law_231 ?_
  refine nv_top (y := (xs 3)) ((congrArg xs (nI_clamp (by decide)))) ?_
  refine lv_aload_n hx hb d_Law_law_232 rfl (lv_at hl 0 rfl) ?_
  refine lv_iload hx hb d_Law_law_233 (lv_at hl 4 rfl) ?_
  refine lv_iconst (v := nI 4) hx hb d_Law_law_235 (by decide) ?_
  refine nv_iadd hx hb d_Law_law_236 ?_
  refine nv_top (y := nI 4) rfl ?_
  refine va_sld hx hb hX hbl hbA hS (vp_in_nI (show 4 < L by omega) (by omega)) d_Law_law_237 ?_
  refine nv_top (y := (xs 4)) ((congrArg xs (nI_clamp (by decide)))) ?_
  refine kV_i (wc := [(mo, .inr (9, [.int (nI 0), .ref rpx, .int (nI 0), .ref rca, .ref rpl, .ref rth, .ref rco, .ref rsh, .ref rsf, .ref rcr, .ref rep, .ref rby, .ref rli, .ref rls, .ref rla, .ref rcm, .ref rcs, .ref rpa, .ref rpm, .ref rpo, .ref rti, .ref rre, .ref rcl, .int (nI 0), .int (nI 0), .int (nI 0), .int (nI 0)]))]) (wr := [(ts, .inr (8, [.ref dr, .ref cl, .ref cp, .ref vs, .int (nI 0)]))]) (w2 := fun _ => [(ts, .inr (8, [.ref dr, .ref cl, .ref cp, .ref vs, .int (nI 0)])), (mo, .inr (9, [.int (nI 0), .ref rpx, .int (nI 0), .ref rca, .ref rpl, .ref rth, .ref rco, .ref rsh, .ref rsf, .ref rcr, .ref rep, .ref rby, .ref rli, .ref rls, .ref rla, .ref rcm, .ref rcs, .ref rpa, .ref rpm, .ref rpo, .ref rti, .ref rre, .ref rcl, .int (nI 0), .int (nI 0), .int (nI 0), .int (nI 0)]))]) [.int (xs 1), .int (xs 2), .int (xs 3), .int (xs 4)] [.int (nI 0)] Bd ⟨gi_app (gi_c0 k_733 (gi_c0 k_734 (gi_c0 k_735 (gi_c0 k_10 gi_nil)))) (gi_tb0 k_736), rfl, by decide, by decide⟩ (show (parseMethodDescriptor "(IIII)Z").map (fun d => d.parameters.length) = some 4 by decide +kernel) (c_Mod_blit_no mo (nI 0) rpx (nI 0) rca rpl rth rco rsh rsf rcr rep rby rli rls rla rcm rcs rpa rpm rpo rti rre rcl 0 0 0 0 (xs 1) (xs 2) (xs 3) (xs 4) (hno)) (by decide +kernel) ⟨Nat.le_of_ble_eq_true rfl, Nat.le_of_ble_eq_true rfl⟩ hG hP hD hS hA [1] [0] [0, 1] (by decide) rfl rfl (fun _ => rfl) (q0 := 0) rfl rfl rfl hl.1 rfl (Nat.le_of_ble_eq_true rfl) d_Law_law_238 (fun r4 u6 H locs hp5 hP hD hS => ?_)
  have hP : va_P D classes [(ts, .inr (8, [.ref dr, .ref cl, .ref cp, .ref vs, .int (nI 0)])), (mo, .inr (9, [.int (nI 0), .ref rpx, .int (nI 0), .ref rca, .ref rpl, .ref rth, .ref rco, .ref rsh, .ref rsf, .ref rcr, .ref rep, .ref rby, .ref rli, .ref rls, .ref rla, .ref rcm, .ref rcs, .ref rpa, .ref rpm, .ref rpo, .ref rti, .ref rre, .ref rcl, .int (nI 0), .int (nI 0), .int (nI 0), .int (nI 0)]))] H := hP
  have hD : va_D (fun q : Nat => s.heap.size ≤ q) [(ts, .inr (8, [.ref dr, .ref cl, .ref cp, .ref vs, .int (nI 0)])), (mo, .inr (9, [.int (nI 0), .ref rpx, .int (nI 0), .ref rca, .ref rpl, .ref rth, .ref rco, .ref rsh, .ref rsf, .ref rcr, .ref rep, .ref rby, .ref rli, .ref rls, .ref rla, .ref rcm, .ref rcs, .ref rpa, .ref rpm, .ref rpo, .ref rti, .ref rre, .ref rcl, .int (nI 0), .int (nI 0), .int (nI 0), .int (nI 0)]))] := hD
  subst hp5
  refine nv_icmp_eq (tgt := 697) hx hb d_Law_law_241 (by decide) (by omega) (by omega) (fun _ => ?_) (fun h9 => absurd h9 (by decide))
  exact law_end hL C0 hS (lv_sub hl [0, 4] rfl)
set_option maxHeartbeats 1000000 in
set_option maxRecDepth 100000 in
theorem law_shade {p : Program} {l : Launch} {e : Env} {s : State} {m : MethodId} {below : List Frame} {meth : Method} {c : Code} {D : va_G} {cI cZ cL cV : ClassId} {b L : Nat} {xs : Nat → Int32} {H : Heap} {locs : List Loc} {ls : Array Slot} (ou : Nat) (ts : Nat) (dr : Nat) (cl : Nat) (cp : Nat) (vs : Nat) (drp : Nat) (mo : Nat) (rpx : Nat) (rca : Nat) (rpl : Nat) (rth : Nat) (rco : Nat) (rsh : Nat) (rsf : Nat) (rcr : Nat) (rep : Nat) (rby : Nat) (rli : Nat) (rls : Nat) (rla : Nat) (rcm : Nat) (rcs : Nat) (rpa : Nat) (rpm : Nat) (rpo : Nat) (rti : Nat) (rre : Nat) (rcl : Nat) (t : Nat) (r : Nat) (k : Nat) (e1 : xs 1 = nI t) (e2 : xs 2 = nI r) (e3 : xs 3 = nI k) (ht : t < 48) (hr9 : r < 8) (hk : k < 65536) (hL : L ≤ 6) (hL6 : 6 ≤ L) (C0 : lw_At p s m meth c b L xs) (hG : gk classes NW D (TYS cI cZ cL cV) s) (hP : va_P D classes [(ts, .inr (8, [.ref dr, .ref cl, .ref cp, .ref vs, .int (nI 0)])), (dr, .inr (0, [.int (nI 48), .ref drp])), (drp, .inl (cI, 3072, .inl (nF (fun _ => 0)))), (mo, .inr (9, [.int (nI 0), .ref rpx, .int (nI 0), .ref rca, .ref rpl, .ref rth, .ref rco, .ref rsh, .ref rsf, .ref rcr, .ref rep, .ref rby, .ref rli, .ref rls, .ref rla, .ref rcm, .ref rcs, .ref rpa, .ref rpm, .ref rpo, .ref rti, .ref rre, .ref rcl, .int (nI 0), .int (nI 0), .int (nI 0), .int (nI 0)])), (rpx, .inl (cI, 30720, .inl (nF (fun _ => 0))))] H) (hD : va_D (fun q : Nat => s.heap.size ≤ q) [(ts, .inr (8, [.ref dr, .ref cl, .ref cp, .ref vs, .int (nI 0)])), (dr, .inr (0, [.int (nI 48), .ref drp])), (drp, .inl (cI, 3072, .inl (nF (fun _ => 0)))), (mo, .inr (9, [.int (nI 0), .ref rpx, .int (nI 0), .ref rca, .ref rpl, .ref rth, .ref rco, .ref rsh, .ref rsf, .ref rcr, .ref rep, .ref rby, .ref rli, .ref rls, .ref rla, .ref rcm, .ref rcs, .ref rpa, .ref rpm, .ref rpo, .ref rti, .ref rre, .ref rcl, .int (nI 0), .int (nI 0), .int (nI 0), .int (nI 0)])), (rpx, .inl (cI, 30720, .inl (nF (fun _ => 0))))]) (hS : va_S (fun q : Nat => s.heap.size ≤ q) s.heap H locs) (hl : lv_has ls 7 [(0, .ref b), (1, .ref ts), (2, .ref mo), (3, .ref ou), (4, .int (nI 0))]) : W p l e room_1 s m #[Value.ref b] below meth c H locs 106 155700 (lw_Z below #[Value.ref b] s) (F0 m 246 ls []) := by
  obtain ⟨hx, hb, hr, hml, hown, hts, hX, hbl, hlocks, hgv⟩ := id C0
  have hA : ∀ q : Nat, s.heap.size ≤ q → (fun q : Nat => s.heap.size ≤ q) q := fun _ h => h
  have hbA : ¬ (fun q : Nat => s.heap.size ≤ q) b := Nat.not_le.mpr hbl
  have htb : ∀ w ∈ TB, w.before #[Value.ref b] s = true := fun w hw => hts w (List.mem_filter.mp hw).1
  have Bd : bd p c code 7 s #[Value.ref b] TB "TileScreenLaw" m := ⟨hx, hb, hml, hown, htb⟩
  refine lv_aload_n hx hb d_Law_law_246 rfl (lv_at hl 1 rfl) ?_
  refine lv_aload_n hx hb d_Law_law_247 rfl (lv_at hl 0 rfl) ?_
  refine lv_iload hx hb d_Law_law_248 (lv_at hl 4 rfl) ?_
  refine lv_iconst (v := nI 1) hx hb d_Law_law_250 (by decide) ?_
  refine nv_iadd hx hb d_Law_law_251 ?_
  refine nv_top (y := nI 1) rfl ?_
  refine va_sld hx hb hX hbl hbA hS (vp_in_nI (show 1 < L by omega) (by omega)) d_Law_law_252 ?_
  refine nv_top (y := (nI t)) ((congrArg xs (nI_clamp (by decide))).trans e1) ?_
  refine lv_aload_n hx hb d_Law_law_253 rfl (lv_at hl 0 rfl) ?_
  refine lv_iload hx hb d_Law_law_254 (lv_at hl 4 rfl) ?_
  refine lv_iconst (v := nI 2) hx hb d_Law_law_256 (by decide) ?_
  refine nv_iadd hx hb d_Law_law_257 ?_
  refine nv_top (y := nI 2) rfl ?_
  refine va_sld hx hb hX hbl hbA hS (vp_in_nI (show 2 < L by omega) (by omega)) d_Law_law_258 ?_
  refine nv_top (y := (nI r)) ((congrArg xs (nI_clamp (by decide))).trans e2) ?_
  refine lv_aload_n hx hb d_Law_law_259 rfl (lv_at hl 0 rfl) ?_
  refine lv_iload hx hb d_Law_law_260 (lv_at hl 4 rfl) ?_
  refine lv_iconst (v := nI 3) hx hb d_Law_law_262 (by decide) ?_
  refine nv_iadd hx hb d_Law_law_263 ?_
  refine nv_top (y := nI 3) rfl ?_
  refine va_sld hx hb hX hbl hbA hS (vp_in_nI (show 3 < L by omega) (by omega)) d_Law_law_264 ?_
  refine nv_top (y := (nI k)) ((congrArg xs (nI_clamp (by decide))).trans e3) ?_
  refine lv_aload_n hx hb d_Law_law_265 rfl (lv_at hl 0 rfl) ?_
  refine lv_iload hx hb d_Law_law_266 (lv_at hl 4 rfl) ?_
  refine lv_iconst (v := nI 4) hx hb d_Law_law_268 (by decide) ?_
  refine nv_iadd hx hb d_Law_law_269 ?_
  refine nv_top (y := nI 4) rfl ?_
  refine va_sld hx hb hX hbl hbA hS (vp_in_nI (show 4 < L by omega) (by omega)) d_Law_law_270 ?_
  refine nv_top (y := (xs 4)) ((congrArg xs (nI_clamp (by decide)))) ?_
  refine kV_i (wc := [(ts, .inr (8, [.ref dr, .ref cl, .ref cp, .ref vs, .int (nI 0)])), (dr, .inr (0, [.int (nI 48), .ref drp])), (drp, .inl (cI, 3072, .inl (nF (fun _ => 0))))]) (wr := [(mo, .inr (9, [.int (nI 0), .ref rpx, .int (nI 0), .ref rca, .ref rpl, .ref rth, .ref rco, .ref rsh, .ref rsf, .ref rcr, .ref rep, .ref rby, .ref rli, .ref rls, .ref rla, .ref rcm, .ref rcs, .ref rpa, .ref rpm, .ref rpo, .ref rti, .ref rre, .ref rcl, .int (nI 0), .int (nI 0), .int (nI 0), .int (nI 0)])), (rpx, .inl (cI, 30720, .inl (nF (fun _ => 0))))]) (w2 := fun _ => [(ts, .inr (8, [.ref dr, .ref cl, .ref cp, .ref vs, .int (nI 0)])), (dr, .inr (0, [.int (nI 48), .ref drp])), (drp, .inl (cI, 3072, .inl (nF (pset (fun _ => 0) (t * 64 + r * 8) 8 (shv k (xs 4)))))), (mo, .inr (9, [.int (nI 0), .ref rpx, .int (nI 0), .ref rca, .ref rpl, .ref rth, .ref rco, .ref rsh, .ref rsf, .ref rcr, .ref rep, .ref rby, .ref rli, .ref rls, .ref rla, .ref rcm, .ref rcs, .ref rpa, .ref rpm, .ref rpo, .ref rti, .ref rre, .ref rcl, .int (nI 0), .int (nI 0), .int (nI 0), .int (nI 0)])), (rpx, .inl (cI, 30720, .inl (nF (fun _ => 0))))]) [.int (nI t), .int (nI r), .int (nI k), .int (xs 4)] [] Bd ⟨gi_app (gi_c0 k_293 (gi_c0 k_294 (gi_c0 k_295 (gi_c0 k_1 gi_nil)))) (gi_tb0 k_296), rfl, by decide, by decide⟩ (show (parseMethodDescriptor "(IIII)Z").map (fun d => d.parameters.length) = some 4 by decide +kernel) (c_Scr_shade ts dr cl cp vs 0 drp (fun _ => 0) t r k (xs 4) (by omega) (by omega) (by omega)) (by decide +kernel) ⟨Nat.le_of_ble_eq_true rfl, Nat.le_of_ble_eq_true rfl⟩ hG hP hD hS hA [0, 1, 2] [3, 4] [2, 3, 4, 0, 1] (by decide) rfl rfl (fun _ => rfl) (q0 := 0) rfl rfl rfl hl.1 rfl (Nat.le_of_ble_eq_true rfl) d_Law_law_271 (fun r1 u3 H locs hp2 hP hD hS => ?_)
  have hP : va_P D classes [(ts, .inr (8, [.ref dr, .ref cl, .ref cp, .ref vs, .int (nI 0)])), (dr, .inr (0, [.int (nI 48), .ref drp])), (drp, .inl (cI, 3072, .inl (nF (pset (fun _ => 0) (t * 64 + r * 8) 8 (shv k (xs 4)))))), (mo, .inr (9, [.int (nI 0), .ref rpx, .int (nI 0), .ref rca, .ref rpl, .ref rth, .ref rco, .ref rsh, .ref rsf, .ref rcr, .ref rep, .ref rby, .ref rli, .ref rls, .ref rla, .ref rcm, .ref rcs, .ref rpa, .ref rpm, .ref rpo, .ref rti, .ref rre, .ref rcl, .int (nI 0), .int (nI 0), .int (nI 0), .int (nI 0)])), (rpx, .inl (cI, 30720, .inl (nF (fun _ => 0))))] H := hP
  have hD : va_D (fun q : Nat => s.heap.size ≤ q) [(ts, .inr (8, [.ref dr, .ref cl, .ref cp, .ref vs, .int (nI 0)])), (dr, .inr (0, [.int (nI 48), .ref drp])), (drp, .inl (cI, 3072, .inl (nF (pset (fun _ => 0) (t * 64 + r * 8) 8 (shv k (xs 4)))))), (mo, .inr (9, [.int (nI 0), .ref rpx, .int (nI 0), .ref rca, .ref rpl, .ref rth, .ref rco, .ref rsh, .ref rsf, .ref rcr, .ref rep, .ref rby, .ref rli, .ref rls, .ref rla, .ref rcm, .ref rcs, .ref rpa, .ref rpm, .ref rpo, .ref rti, .ref rre, .ref rcl, .int (nI 0), .int (nI 0), .int (nI 0), .int (nI 0)])), (rpx, .inl (cI, 30720, .inl (nF (fun _ => 0))))] := hD
  subst hp2
  refine lv_aload_n hx hb d_Law_law_274 rfl (lv_at hl 2 rfl) ?_
  refine lv_aload_n hx hb d_Law_law_275 rfl (lv_at hl 0 rfl) ?_
  refine lv_iload hx hb d_Law_law_276 (lv_at hl 4 rfl) ?_
  refine lv_iconst (v := nI 1) hx hb d_Law_law_278 (by decide) ?_
  refine nv_iadd hx hb d_Law_law_279 ?_
  refine nv_top (y := nI 1) rfl ?_
  refine va_sld hx hb hX hbl hbA hS (vp_in_nI (show 1 < L by omega) (by omega)) d_Law_law_280 ?_
  refine nv_top (y := (nI t)) ((congrArg xs (nI_clamp (by decide))).trans e1) ?_
  refine lv_aload_n hx hb d_Law_law_281 rfl (lv_at hl 0 rfl) ?_
  refine lv_iload hx hb d_Law_law_282 (lv_at hl 4 rfl) ?_
  refine lv_iconst (v := nI 2) hx hb d_Law_law_284 (by decide) ?_
  refine nv_iadd hx hb d_Law_law_285 ?_
  refine nv_top (y := nI 2) rfl ?_
  refine va_sld hx hb hX hbl hbA hS (vp_in_nI (show 2 < L by omega) (by omega)) d_Law_law_286 ?_
  refine nv_top (y := (nI r)) ((congrArg xs (nI_clamp (by decide))).trans e2) ?_
  refine lv_aload_n hx hb d_Law_law_287 rfl (lv_at hl 0 rfl) ?_
  refine lv_iload hx hb d_Law_law_288 (lv_at hl 4 rfl) ?_
  refine lv_iconst (v := nI 3) hx hb d_Law_law_290 (by decide) ?_
  refine nv_iadd hx hb d_Law_law_291 ?_
  refine nv_top (y := nI 3) rfl ?_
  refine va_sld hx hb hX hbl hbA hS (vp_in_nI (show 3 < L by omega) (by omega)) d_Law_law_292 ?_
  refine nv_top (y := (nI k)) ((congrArg xs (nI_clamp (by decide))).trans e3) ?_
  refine lv_aload_n hx hb d_Law_law_293 rfl (lv_at hl 0 rfl) ?_
  refine lv_iload hx hb d_Law_law_294 (lv_at hl 4 rfl) ?_
  refine lv_iconst (v := nI 4) hx hb d_Law_law_296 (by decide) ?_
  refine nv_iadd hx hb d_Law_law_297 ?_
  refine nv_top (y := nI 4) rfl ?_
  refine va_sld hx hb hX hbl hbA hS (vp_in_nI (show 4 < L by omega) (by omega)) d_Law_law_298 ?_
  refine nv_top (y := (xs 4)) ((congrArg xs (nI_clamp (by decide)))) ?_
  refine kV_i (wc := [(mo, .inr (9, [.int (nI 0), .ref rpx, .int (nI 0), .ref rca, .ref rpl, .ref rth, .ref rco, .ref rsh, .ref rsf, .ref rcr, .ref rep, .ref rby, .ref rli, .ref rls, .ref rla, .ref rcm, .ref rcs, .ref rpa, .ref rpm, .ref rpo, .ref rti, .ref rre, .ref rcl, .int (nI 0), .int (nI 0), .int (nI 0), .int (nI 0)])), (rpx, .inl (cI, 30720, .inl (nF (fun _ => 0))))]) (wr := [(ts, .inr (8, [.ref dr, .ref cl, .ref cp, .ref vs, .int (nI 0)])), (dr, .inr (0, [.int (nI 48), .ref drp])), (drp, .inl (cI, 3072, .inl (nF (pset (fun _ => 0) (t * 64 + r * 8) 8 (shv k (xs 4))))))]) (w2 := fun u => [(ts, .inr (8, [.ref dr, .ref cl, .ref cp, .ref vs, .int (nI 0)])), (dr, .inr (0, [.int (nI 48), .ref drp])), (drp, .inl (cI, 3072, .inl (nF (pset (fun _ => 0) (t * 64 + r * 8) 8 (shv k (xs 4)))))), (mo, .inr (9, [.int (nI 0), .ref rpx, .int (nI 0), .ref rca, .ref rpl, .ref rth, .ref rco, .ref rsh, .ref rsf, .ref rcr, .ref rep, .ref rby, .ref rli, .ref rls, .ref rla, .ref rcm, .ref rcs, .ref rpa, .ref rpm, .ref rpo, .ref rti, .ref rre, .ref rcl, .int (nI 0), .int (nI 0), .int (nI 0), .int (nI 0)])), (rpx, .inl (cI, 30720, .inl (nF u)))]) [.int (nI t), .int (nI r), .int (nI k), .int (xs 4)] [.int (nI 1)] Bd ⟨gi_app (gi_c0 k_741 (gi_c0 k_742 (gi_c0 k_743 (gi_c0 k_10 gi_nil)))) (gi_tb0 k_744), rfl, by decide, by decide⟩ (show (parseMethodDescriptor "(IIII)Z").map (fun d => d.parameters.length) = some 4 by decide +kernel) (c_Mod_shade mo (nI 0) rpx (nI 0) rca rpl rth rco rsh rsf rcr rep rby rli rls rla rcm rcs rpa rpm rpo rti rre rcl 0 0 0 0 (fun _ => 0) t r k (xs 4) (by omega) (by omega) (by omega) (zlt (by decide))) (by decide +kernel) ⟨Nat.le_of_ble_eq_true rfl, Nat.le_of_ble_eq_true rfl⟩ hG hP hD hS hA [3, 4] [0, 1, 2] [0, 1, 2, 3, 4] (by decide) rfl rfl (fun _ => rfl) (q0 := 0) rfl rfl rfl hl.1 rfl (Nat.le_of_ble_eq_true rfl) d_Law_law_299 (fun r5 u7 H locs hp6 hP hD hS => ?_)
  obtain ⟨u4, rfl⟩ : ∃ z9, z9 = u7 := ⟨_, rfl⟩
  try dsimp only at hp6
  have hP : va_P D classes [(ts, .inr (8, [.ref dr, .ref cl, .ref cp, .ref vs, .int (nI 0)])), (dr, .inr (0, [.int (nI 48), .ref drp])), (drp, .inl (cI, 3072, .inl (nF (pset (fun _ => 0) (t * 64 + r * 8) 8 (shv k (xs 4)))))), (mo, .inr (9, [.int (nI 0), .ref rpx, .int (nI 0), .ref rca, .ref rpl, .ref rth, .ref rco, .ref rsh, .ref rsf, .ref rcr, .ref rep, .ref rby, .ref rli, .ref rls, .ref rla, .ref rcm, .ref rcs, .ref rpa, .ref rpm, .ref rpo, .ref rti, .ref rre, .ref rcl, .int (nI 0), .int (nI 0), .int (nI 0), .int (nI 0)])), (rpx, .inl (cI, 30720, .inl (nF u4)))] H := hP
  have hD : va_D (fun q : Nat => s.heap.size ≤ q) [(ts, .inr (8, [.ref dr, .ref cl, .ref cp, .ref vs, .int (nI 0)])), (dr, .inr (0, [.int (nI 48), .ref drp])), (drp, .inl (cI, 3072, .inl (nF (pset (fun _ => 0) (t * 64 + r * 8) 8 (shv k (xs 4)))))), (mo, .inr (9, [.int (nI 0), .ref rpx, .int (nI 0), .ref rca, .ref rpl, .ref rth, .ref rco, .ref rsh, .ref rsf, .ref rcr, .ref rep, .ref rby, .ref rli, .ref rls, .ref rla, .ref rcm, .ref rcs, .ref rpa, .ref rpm, .ref rpo, .ref rti, .ref rre, .ref rcl, .int (nI 0), .int (nI 0), .int (nI 0), .int (nI 0)])), (rpx, .inl (cI, 30720, .inl (nF u4)))] := hD
  obtain ⟨rfl, hp8⟩ := hp6
  refine nv_icmp_eq (tgt := 697) hx hb d_Law_law_302 (by decide) (by omega) (by omega) (fun _ => ?_) (fun h9 => absurd h9 (by decide))
  exact law_end hL C0 hS (lv_sub hl [0, 4] rfl)
set_option maxHeartbeats 1000000 in
set_option maxRecDepth 100000 in
theorem law_shade_no {p : Program} {l : Launch} {e : Env} {s : State} {m : MethodId} {below : List Frame} {meth : Method} {c : Code} {D : va_G} {cI cZ cL cV : ClassId} {b L : Nat} {xs : Nat → Int32} {H : Heap} {locs : List Loc} {ls : Array Slot} (ou : Nat) (ts : Nat) (dr : Nat) (cl : Nat) (cp : Nat) (vs : Nat) (mo : Nat) (rpx : Nat) (rca : Nat) (rpl : Nat) (rth : Nat) (rco : Nat) (rsh : Nat) (rsf : Nat) (rcr : Nat) (rep : Nat) (rby : Nat) (rli : Nat) (rls : Nat) (rla : Nat) (rcm : Nat) (rcs : Nat) (rpa : Nat) (rpm : Nat) (rpo : Nat) (rti : Nat) (rre : Nat) (rcl : Nat) (hno : ¬ ((∃ a, a < 48 ∧ xs 1 = nI a) ∧ (∃ b, b < 8 ∧ xs 2 = nI b) ∧ coP (xs 3))) (hL : L ≤ 6) (hL6 : 6 ≤ L) (C0 : lw_At p s m meth c b L xs) (hG : gk classes NW D (TYS cI cZ cL cV) s) (hP : va_P D classes [(ts, .inr (8, [.ref dr, .ref cl, .ref cp, .ref vs, .int (nI 0)])), (mo, .inr (9, [.int (nI 0), .ref rpx, .int (nI 0), .ref rca, .ref rpl, .ref rth, .ref rco, .ref rsh, .ref rsf, .ref rcr, .ref rep, .ref rby, .ref rli, .ref rls, .ref rla, .ref rcm, .ref rcs, .ref rpa, .ref rpm, .ref rpo, .ref rti, .ref rre, .ref rcl, .int (nI 0), .int (nI 0), .int (nI 0), .int (nI 0)]))] H) (hD : va_D (fun q : Nat => s.heap.size ≤ q) [(ts, .inr (8, [.ref dr, .ref cl, .ref cp, .ref vs, .int (nI 0)])), (mo, .inr (9, [.int (nI 0), .ref rpx, .int (nI 0), .ref rca, .ref rpl, .ref rth, .ref rco, .ref rsh, .ref rsf, .ref rcr, .ref rep, .ref rby, .ref rli, .ref rls, .ref rla, .ref rcm, .ref rcs, .ref rpa, .ref rpm, .ref rpo, .ref rti, .ref rre, .ref rcl, .int (nI 0), .int (nI 0), .int (nI 0), .int (nI 0)]))]) (hS : va_S (fun q : Nat => s.heap.size ≤ q) s.heap H locs) (hl : lv_has ls 7 [(0, .ref b), (1, .ref ts), (2, .ref mo), (3, .ref ou), (4, .int (nI 0))]) : W p l e room_1 s m #[Value.ref b] below meth c H locs 106 155700 (lw_Z below #[Value.ref b] s) (F0 m 246 ls []) := by
  obtain ⟨hx, hb, hr, hml, hown, hts, hX, hbl, hlocks, hgv⟩ := id C0
  have hA : ∀ q : Nat, s.heap.size ≤ q → (fun q : Nat => s.heap.size ≤ q) q := fun _ h => h
  have hbA : ¬ (fun q : Nat => s.heap.size ≤ q) b := Nat.not_le.mpr hbl
  have htb : ∀ w ∈ TB, w.before #[Value.ref b] s = true := fun w hw => hts w (List.mem_filter.mp hw).1
  have Bd : bd p c code 7 s #[Value.ref b] TB "TileScreenLaw" m := ⟨hx, hb, hml, hown, htb⟩
  refine lv_aload_n hx hb d_Law_law_246 rfl (lv_at hl 1 rfl) ?_
  refine lv_aload_n hx hb d_Law_law_247 rfl (lv_at hl 0 rfl) ?_
  refine lv_iload hx hb d_Law_law_248 (lv_at hl 4 rfl) ?_
  refine lv_iconst (v := nI 1) hx hb d_Law_law_250 (by decide) ?_
  refine nv_iadd hx hb d_Law_law_251 ?_
  refine nv_top (y := nI 1) rfl ?_
  refine va_sld hx hb hX hbl hbA hS (vp_in_nI (show 1 < L by omega) (by omega)) d_Law_law_252 ?_
  refine nv_top (y := (xs 1)) ((congrArg xs (nI_clamp (by decide)))) ?_
  refine lv_aload_n hx hb d_Law_law_253 rfl (lv_at hl 0 rfl) ?_
  refine lv_iload hx hb d_Law_law_254 (lv_at hl 4 rfl) ?_
  refine lv_iconst (v := nI 2) hx hb d_Law_law_256 (by decide) ?_
  refine nv_iadd hx hb d_Law_law_257 ?_
  refine nv_top (y := nI 2) rfl ?_
  refine va_sld hx hb hX hbl hbA hS (vp_in_nI (show 2 < L by omega) (by omega)) d_Law_law_258 ?_
  refine nv_top (y := (xs 2)) ((congrArg xs (nI_clamp (by decide)))) ?_
  refine lv_aload_n hx hb d_Law_law_259 rfl (lv_at hl 0 rfl) ?_
  refine lv_iload hx hb d_Law_law_260 (lv_at hl 4 rfl) ?_
  refine lv_iconst (v := nI 3) hx hb d_Law_law_262 (by decide) ?_
  refine nv_iadd hx hb d_Law_law_263 ?_
  refine nv_top (y := nI 3) rfl ?_
  refine va_sld hx hb hX hbl hbA hS (vp_in_nI (show 3 < L by omega) (by omega)) d_Law_law_264 ?_
  refine nv_top (y := (xs 3)) ((congrArg xs (nI_clamp (by decide)))) ?_
  refine lv_aload_n hx hb d_Law_law_265 rfl (lv_at hl 0 rfl) ?_
  refine lv_iload hx hb d_Law_law_266 (lv_at hl 4 rfl) ?_
  refine lv_iconst (v := nI 4) hx hb d_Law_law_268 (by decide) ?_
  refine nv_iadd hx hb d_Law_law_269 ?_
  refine nv_top (y := nI 4) rfl ?_
  refine va_sld hx hb hX hbl hbA hS (vp_in_nI (show 4 < L by omega) (by omega)) d_Law_law_270 ?_
  refine nv_top (y := (xs 4)) ((congrArg xs (nI_clamp (by decide)))) ?_
  refine kV_i (wc := [(ts, .inr (8, [.ref dr, .ref cl, .ref cp, .ref vs, .int (nI 0)]))]) (wr := [(mo, .inr (9, [.int (nI 0), .ref rpx, .int (nI 0), .ref rca, .ref rpl, .ref rth, .ref rco, .ref rsh, .ref rsf, .ref rcr, .ref rep, .ref rby, .ref rli, .ref rls, .ref rla, .ref rcm, .ref rcs, .ref rpa, .ref rpm, .ref rpo, .ref rti, .ref rre, .ref rcl, .int (nI 0), .int (nI 0), .int (nI 0), .int (nI 0)]))]) (w2 := fun _ => [(ts, .inr (8, [.ref dr, .ref cl, .ref cp, .ref vs, .int (nI 0)])), (mo, .inr (9, [.int (nI 0), .ref rpx, .int (nI 0), .ref rca, .ref rpl, .ref rth, .ref rco, .ref rsh, .ref rsf, .ref rcr, .ref rep, .ref rby, .ref rli, .ref rls, .ref rla, .ref rcm, .ref rcs, .ref rpa, .ref rpm, .ref rpo, .ref rti, .ref rre, .ref rcl, .int (nI 0), .int (nI 0), .int (nI 0), .int (nI 0)]))]) [.int (xs 1), .int (xs 2), .int (xs 3), .int (xs 4)] [] Bd ⟨gi_app (gi_c0 k_293 (gi_c0 k_294 (gi_c0 k_295 (gi_c0 k_1 gi_nil)))) (gi_tb0 k_296), rfl, by decide, by decide⟩ (show (parseMethodDescriptor "(IIII)Z").map (fun d => d.parameters.length) = some 4 by decide +kernel) (c_Scr_shade_no ts dr cl cp vs 0 (xs 1) (xs 2) (xs 3) (xs 4) (hno)) (by decide +kernel) ⟨Nat.le_of_ble_eq_true rfl, Nat.le_of_ble_eq_true rfl⟩ hG hP hD hS hA [0] [1] [1, 0] (by decide) rfl rfl (fun _ => rfl) (q0 := 0) rfl rfl rfl hl.1 rfl (Nat.le_of_ble_eq_true rfl) d_Law_law_271 (fun r1 u3 H locs hp2 hP hD hS => ?_)
  have hP : va_P D classes [(ts, .inr (8, [.ref dr, .ref cl, .ref cp, .ref vs, .int (nI 0)])), (mo, .inr (9, [.int (nI 0), .ref rpx, .int (nI 0), .ref rca, .ref rpl, .ref rth, .ref rco, .ref rsh, .ref rsf, .ref rcr, .ref rep, .ref rby, .ref rli, .ref rls, .ref rla, .ref rcm, .ref rcs, .ref rpa, .ref rpm, .ref rpo, .ref rti, .ref rre, .ref rcl, .int (nI 0), .int (nI 0), .int (nI 0), .int (nI 0)]))] H := hP
  have hD : va_D (fun q : Nat => s.heap.size ≤ q) [(ts, .inr (8, [.ref dr, .ref cl, .ref cp, .ref vs, .int (nI 0)])), (mo, .inr (9, [.int (nI 0), .ref rpx, .int (nI 0), .ref rca, .ref rpl, .ref rth, .ref rco, .ref rsh, .ref rsf, .ref rcr, .ref rep, .ref rby, .ref rli, .ref rls, .ref rla, .ref rcm, .ref rcs, .ref rpa, .ref rpm, .ref rpo, .ref rti, .ref rre, .ref rcl, .int (nI 0), .int (nI 0), .int (nI 0), .int (nI 0)]))] := hD
  subst hp2
  refine lv_aload_n hx hb d_Law_law_274 rfl (lv_at hl 2 rfl) ?_
  refine lv_aload_n hx hb d_Law_law_275 rfl (lv_at hl 0 rfl) ?_
  refine lv_iload hx hb d_Law_law_276 (lv_at hl 4 rfl) ?_
  refine lv_iconst (v := nI 1) hx hb d_Law_law_278 (by decide) ?_
  refine nv_iadd hx hb d_Law_law_279 ?_
  refine nv_top (y := nI 1) rfl ?_
  refine va_sld hx hb hX hbl hbA hS (vp_in_nI (show 1 < L by omega) (by omega)) d_Law_law_280 ?_
  refine nv_top (y := (xs 1)) ((congrArg xs (nI_clamp (by decide)))) ?_
  refine lv_aload_n hx hb d_Law_law_281 rfl (lv_at hl 0 rfl) ?_
  refine lv_iload hx hb d_Law_law_282 (lv_at hl 4 rfl) ?_
  refine lv_iconst (v := nI 2) hx hb d_Law_law_284 (by decide) ?_
  refine nv_iadd hx hb d_Law_law_285 ?_
  refine nv_top (y := nI 2) rfl ?_
  refine va_sld hx hb hX hbl hbA hS (vp_in_nI (show 2 < L by omega) (by omega)) d_Law_law_286 ?_
  refine nv_top (y := (xs 2)) ((congrArg xs (nI_clamp (by decide)))) ?_
  refine lv_aload_n hx hb d_Law_law_287 rfl (lv_at hl 0 rfl) ?_
  refine lv_iload hx hb d_Law_law_288 (lv_at hl 4 rfl) ?_
  refine lv_iconst (v := nI 3) hx hb d_Law_law_290 (by decide) ?_
  refine nv_iadd hx hb d_Law_law_291 ?_
  refine nv_top (y := nI 3) rfl ?_
  refine va_sld hx hb hX hbl hbA hS (vp_in_nI (show 3 < L by omega) (by omega)) d_Law_law_292 ?_
  refine nv_top (y := (xs 3)) ((congrArg xs (nI_clamp (by decide)))) ?_
  refine lv_aload_n hx hb d_Law_law_293 rfl (lv_at hl 0 rfl) ?_
  refine lv_iload hx hb d_Law_law_294 (lv_at hl 4 rfl) ?_
  refine lv_iconst (v := nI 4) hx hb d_Law_law_296 (by decide) ?_
  refine nv_iadd hx hb d_Law_law_297 ?_
  refine nv_top (y := nI 4) rfl ?_
  refine va_sld hx hb hX hbl hbA hS (vp_in_nI (show 4 < L by omega) (by omega)) d_Law_law_298 ?_
  refine nv_top (y := (xs 4)) ((congrArg xs (nI_clamp (by decide)))) ?_
  refine kV_i (wc := [(mo, .inr (9, [.int (nI 0), .ref rpx, .int (nI 0), .ref rca, .ref rpl, .ref rth, .ref rco, .ref rsh, .ref rsf, .ref rcr, .ref rep, .ref rby, .ref rli, .ref rls, .ref rla, .ref rcm, .ref rcs, .ref rpa, .ref rpm, .ref rpo, .ref rti, .ref rre, .ref rcl, .int (nI 0), .int (nI 0), .int (nI 0), .int (nI 0)]))]) (wr := [(ts, .inr (8, [.ref dr, .ref cl, .ref cp, .ref vs, .int (nI 0)]))]) (w2 := fun _ => [(ts, .inr (8, [.ref dr, .ref cl, .ref cp, .ref vs, .int (nI 0)])), (mo, .inr (9, [.int (nI 0), .ref rpx, .int (nI 0), .ref rca, .ref rpl, .ref rth, .ref rco, .ref rsh, .ref rsf, .ref rcr, .ref rep, .ref rby, .ref rli, .ref rls, .ref rla, .ref rcm, .ref rcs, .ref rpa, .ref rpm, .ref rpo, .ref rti, .ref rre, .ref rcl, .int (nI 0), .int (nI 0), .int (nI 0), .int (nI 0)]))]) [.int (xs 1), .int (xs 2), .int (xs 3), .int (xs 4)] [.int (nI 0)] Bd ⟨gi_app (gi_c0 k_741 (gi_c0 k_742 (gi_c0 k_743 (gi_c0 k_10 gi_nil)))) (gi_tb0 k_744), rfl, by decide, by decide⟩ (show (parseMethodDescriptor "(IIII)Z").map (fun d => d.parameters.length) = some 4 by decide +kernel) (c_Mod_shade_no mo (nI 0) rpx (nI 0) rca rpl rth rco rsh rsf rcr rep rby rli rls rla rcm rcs rpa rpm rpo rti rre rcl 0 0 0 0 (xs 1) (xs 2) (xs 3) (xs 4) (hno)) (by decide +kernel) ⟨Nat.le_of_ble_eq_true rfl, Nat.le_of_ble_eq_true rfl⟩ hG hP hD hS hA [1] [0] [0, 1] (by decide) rfl rfl (fun _ => rfl) (q0 := 0) rfl rfl rfl hl.1 rfl (Nat.le_of_ble_eq_true rfl) d_Law_law_299 (fun r4 u6 H locs hp5 hP hD hS => ?_)
  have hP : va_P D classes [(ts, .inr (8, [.ref dr, .ref cl, .ref cp, .ref vs, .int (nI 0)])), (mo, .inr (9, [.int (nI 0), .ref rpx, .int (nI 0), .ref rca, .ref rpl, .ref rth, .ref rco, .ref rsh, .ref rsf, .ref rcr, .ref rep, .ref rby, .ref rli, .ref rls, .ref rla, .ref rcm, .ref rcs, .ref rpa, .ref rpm, .ref rpo, .ref rti, .ref rre, .ref rcl, .int (nI 0), .int (nI 0), .int (nI 0), .int (nI 0)]))] H := hP
  have hD : va_D (fun q : Nat => s.heap.size ≤ q) [(ts, .inr (8, [.ref dr, .ref cl, .ref cp, .ref vs, .int (nI 0)])), (mo, .inr (9, [.int (nI 0), .ref rpx, .int (nI 0), .ref rca, .ref rpl, .ref rth, .ref rco, .ref rsh, .ref rsf, .ref rcr, .ref rep, .ref rby, .ref rli, .ref rls, .ref rla, .ref rcm, .ref rcs, .ref rpa, .ref rpm, .ref rpo, .ref rti, .ref rre, .ref rcl, .int (nI 0), .int (nI 0), .int (nI 0), .int (nI 0)]))] := hD
  subst hp5
  refine nv_icmp_eq (tgt := 697) hx hb d_Law_law_302 (by decide) (by omega) (by omega) (fun _ => ?_) (fun h9 => absurd h9 (by decide))
  exact law_end hL C0 hS (lv_sub hl [0, 4] rfl)
set_option maxHeartbeats 1000000 in
set_option maxRecDepth 100000 in
theorem law_frame {p : Program} {l : Launch} {e : Env} {s : State} {m : MethodId} {below : List Frame} {meth : Method} {c : Code} {D : va_G} {cI cZ cL cV : ClassId} {b L : Nat} {xs : Nat → Int32} {H : Heap} {locs : List Loc} {ls : Array Slot} (ou : Nat) (ts : Nat) (dr : Nat) (cl : Nat) (cp : Nat) (vs : Nat) (drp : Nat) (clp : Nat) (mo : Nat) (rpx : Nat) (rca : Nat) (rpl : Nat) (rth : Nat) (rco : Nat) (rsh : Nat) (rsf : Nat) (rcr : Nat) (rep : Nat) (rby : Nat) (rli : Nat) (rls : Nat) (rla : Nat) (rcm : Nat) (rcs : Nat) (rpa : Nat) (rpm : Nat) (rpo : Nat) (rti : Nat) (rre : Nat) (rcl : Nat)  (hL : L ≤ 6) (hL6 : 6 ≤ L) (C0 : lw_At p s m meth c b L xs) (hG : gk classes NW D (TYS cI cZ cL cV) s) (hP : va_P D classes [(ts, .inr (8, [.ref dr, .ref cl, .ref cp, .ref vs, .int (nI 0)])), (dr, .inr (0, [.int (nI 48), .ref drp])), (drp, .inl (cI, 3072, .inl (nF (fun _ => 0)))), (cl, .inr (0, [.int (nI 48), .ref clp])), (clp, .inl (cI, 3072, .inl (nF (fun _ => 0)))), (mo, .inr (9, [.int (nI 0), .ref rpx, .int (nI 0), .ref rca, .ref rpl, .ref rth, .ref rco, .ref rsh, .ref rsf, .ref rcr, .ref rep, .ref rby, .ref rli, .ref rls, .ref rla, .ref rcm, .ref rcs, .ref rpa, .ref rpm, .ref rpo, .ref rti, .ref rre, .ref rcl, .int (nI 0), .int (nI 0), .int (nI 0), .int (nI 0)])), (rpx, .inl (cI, 30720, .inl (nF (fun _ => 0))))] H) (hD : va_D (fun q : Nat => s.heap.size ≤ q) [(ts, .inr (8, [.ref dr, .ref cl, .ref cp, .ref vs, .int (nI 0)])), (dr, .inr (0, [.int (nI 48), .ref drp])), (drp, .inl (cI, 3072, .inl (nF (fun _ => 0)))), (cl, .inr (0, [.int (nI 48), .ref clp])), (clp, .inl (cI, 3072, .inl (nF (fun _ => 0)))), (mo, .inr (9, [.int (nI 0), .ref rpx, .int (nI 0), .ref rca, .ref rpl, .ref rth, .ref rco, .ref rsh, .ref rsf, .ref rcr, .ref rep, .ref rby, .ref rli, .ref rls, .ref rla, .ref rcm, .ref rcs, .ref rpa, .ref rpm, .ref rpo, .ref rti, .ref rre, .ref rcl, .int (nI 0), .int (nI 0), .int (nI 0), .int (nI 0)])), (rpx, .inl (cI, 30720, .inl (nF (fun _ => 0))))]) (hS : va_S (fun q : Nat => s.heap.size ≤ q) s.heap H locs) (hl : lv_has ls 7 [(0, .ref b), (1, .ref ts), (2, .ref mo), (3, .ref ou), (4, .int (nI 0))]) : W p l e room_1 s m #[Value.ref b] below meth c H locs 106 155700 (lw_Z below #[Value.ref b] s) (F0 m 307 ls []) := by
  obtain ⟨hx, hb, hr, hml, hown, hts, hX, hbl, hlocks, hgv⟩ := id C0
  have hA : ∀ q : Nat, s.heap.size ≤ q → (fun q : Nat => s.heap.size ≤ q) q := fun _ h => h
  have hbA : ¬ (fun q : Nat => s.heap.size ≤ q) b := Nat.not_le.mpr hbl
  have htb : ∀ w ∈ TB, w.before #[Value.ref b] s = true := fun w hw => hts w (List.mem_filter.mp hw).1
  have Bd : bd p c code 7 s #[Value.ref b] TB "TileScreenLaw" m := ⟨hx, hb, hml, hown, htb⟩
  refine lv_aload_n hx hb d_Law_law_307 rfl (lv_at hl 1 rfl) ?_
  refine kV_i (wc := [(ts, .inr (8, [.ref dr, .ref cl, .ref cp, .ref vs, .int (nI 0)])), (dr, .inr (0, [.int (nI 48), .ref drp])), (drp, .inl (cI, 3072, .inl (nF (fun _ => 0)))), (cl, .inr (0, [.int (nI 48), .ref clp])), (clp, .inl (cI, 3072, .inl (nF (fun _ => 0))))]) (wr := [(mo, .inr (9, [.int (nI 0), .ref rpx, .int (nI 0), .ref rca, .ref rpl, .ref rth, .ref rco, .ref rsh, .ref rsf, .ref rcr, .ref rep, .ref rby, .ref rli, .ref rls, .ref rla, .ref rcm, .ref rcs, .ref rpa, .ref rpm, .ref rpo, .ref rti, .ref rre, .ref rcl, .int (nI 0), .int (nI 0), .int (nI 0), .int (nI 0)])), (rpx, .inl (cI, 30720, .inl (nF (fun _ => 0))))]) (w2 := fun _ => [(ts, .inr (8, [.ref dr, .ref cl, .ref cp, .ref vs, .int (nI (0 + 1))])), (dr, .inr (0, [.int (nI 48), .ref drp])), (drp, .inl (cI, 3072, .inl (nF (fun _ => 0)))), (cl, .inr (0, [.int (nI 48), .ref clp])), (clp, .inl (cI, 3072, .inl (nF (fun _ => 0)))), (mo, .inr (9, [.int (nI 0), .ref rpx, .int (nI 0), .ref rca, .ref rpl, .ref rth, .ref rco, .ref rsh, .ref rsf, .ref rcr, .ref rep, .ref rby, .ref rli, .ref rls, .ref rla, .ref rcm, .ref rcs, .ref rpa, .ref rpm, .ref rpo, .ref rti, .ref rre, .ref rcl, .int (nI 0), .int (nI 0), .int (nI 0), .int (nI 0)])), (rpx, .inl (cI, 30720, .inl (nF (fun _ => 0))))]) [] [] Bd ⟨gi_app (gi_c0 k_298 (gi_c0 k_299 (gi_c0 k_300 (gi_c0 k_1 gi_nil)))) (gi_tb0 k_301), rfl, by decide, by decide⟩ (show (parseMethodDescriptor "()I").map (fun d => d.parameters.length) = some 0 by decide +kernel) (c_Scr_frame ts dr cl cp vs 0 drp (fun _ => 0) clp (fun _ => 0) ) (by decide +kernel) ⟨Nat.le_of_ble_eq_true rfl, Nat.le_of_ble_eq_true rfl⟩ hG hP hD hS hA [0, 1, 2, 3, 4] [5, 6] [2, 3, 4, 5, 6, 0, 1] (by decide) rfl rfl (fun _ => rfl) (q0 := 0) rfl rfl rfl hl.1 rfl (Nat.le_of_ble_eq_true rfl) d_Law_law_308 (fun r1 u3 H locs hp2 hP hD hS => ?_)
  have hP : va_P D classes [(ts, .inr (8, [.ref dr, .ref cl, .ref cp, .ref vs, .int (nI (0 + 1))])), (dr, .inr (0, [.int (nI 48), .ref drp])), (drp, .inl (cI, 3072, .inl (nF (fun _ => 0)))), (cl, .inr (0, [.int (nI 48), .ref clp])), (clp, .inl (cI, 3072, .inl (nF (fun _ => 0)))), (mo, .inr (9, [.int (nI 0), .ref rpx, .int (nI 0), .ref rca, .ref rpl, .ref rth, .ref rco, .ref rsh, .ref rsf, .ref rcr, .ref rep, .ref rby, .ref rli, .ref rls, .ref rla, .ref rcm, .ref rcs, .ref rpa, .ref rpm, .ref rpo, .ref rti, .ref rre, .ref rcl, .int (nI 0), .int (nI 0), .int (nI 0), .int (nI 0)])), (rpx, .inl (cI, 30720, .inl (nF (fun _ => 0))))] H := hP
  have hD : va_D (fun q : Nat => s.heap.size ≤ q) [(ts, .inr (8, [.ref dr, .ref cl, .ref cp, .ref vs, .int (nI (0 + 1))])), (dr, .inr (0, [.int (nI 48), .ref drp])), (drp, .inl (cI, 3072, .inl (nF (fun _ => 0)))), (cl, .inr (0, [.int (nI 48), .ref clp])), (clp, .inl (cI, 3072, .inl (nF (fun _ => 0)))), (mo, .inr (9, [.int (nI 0), .ref rpx, .int (nI 0), .ref rca, .ref rpl, .ref rth, .ref rco, .ref rsh, .ref rsf, .ref rcr, .ref rep, .ref rby, .ref rli, .ref rls, .ref rla, .ref rcm, .ref rcs, .ref rpa, .ref rpm, .ref rpo, .ref rti, .ref rre, .ref rcl, .int (nI 0), .int (nI 0), .int (nI 0), .int (nI 0)])), (rpx, .inl (cI, 30720, .inl (nF (fun _ => 0))))] := hD
  subst hp2
  refine lv_aload_n hx hb d_Law_law_311 rfl (lv_at hl 2 rfl) ?_
  refine kV_i (wc := [(mo, .inr (9, [.int (nI 0), .ref rpx, .int (nI 0), .ref rca, .ref rpl, .ref rth, .ref rco, .ref rsh, .ref rsf, .ref rcr, .ref rep, .ref rby, .ref rli, .ref rls, .ref rla, .ref rcm, .ref rcs, .ref rpa, .ref rpm, .ref rpo, .ref rti, .ref rre, .ref rcl, .int (nI 0), .int (nI 0), .int (nI 0), .int (nI 0)])), (rpx, .inl (cI, 30720, .inl (nF (fun _ => 0))))]) (wr := [(ts, .inr (8, [.ref dr, .ref cl, .ref cp, .ref vs, .int (nI (0 + 1))])), (dr, .inr (0, [.int (nI 48), .ref drp])), (drp, .inl (cI, 3072, .inl (nF (fun _ => 0)))), (cl, .inr (0, [.int (nI 48), .ref clp])), (clp, .inl (cI, 3072, .inl (nF (fun _ => 0))))]) (w2 := fun u => [(ts, .inr (8, [.ref dr, .ref cl, .ref cp, .ref vs, .int (nI (0 + 1))])), (dr, .inr (0, [.int (nI 48), .ref drp])), (drp, .inl (cI, 3072, .inl (nF (fun _ => 0)))), (cl, .inr (0, [.int (nI 48), .ref clp])), (clp, .inl (cI, 3072, .inl (nF (fun _ => 0)))), (mo, .inr (9, [.int (nI 0), .ref rpx, .int ((nI 0) + (nI 1)), .ref rca, .ref rpl, .ref rth, .ref rco, .ref rsh, .ref rsf, .ref rcr, .ref rep, .ref rby, .ref rli, .ref rls, .ref rla, .ref rcm, .ref rcs, .ref rpa, .ref rpm, .ref rpo, .ref rti, .ref rre, .ref rcl, .int (nI 0), .int (nI 0), .int (nI 0), .int (nI 0)])), (rpx, .inl (cI, 30720, .inl (nF u)))]) [] [.int (nI (0 + 1))] Bd ⟨gi_app (gi_c0 k_749 (gi_c0 k_750 (gi_c0 k_751 (gi_c0 k_10 gi_nil)))) (gi_tb0 k_752), rfl, by decide, by decide⟩ (show (parseMethodDescriptor "()I").map (fun d => d.parameters.length) = some 0 by decide +kernel) (c_Mod_frame mo (nI 0) rpx (nI 0) rca rpl rth rco rsh rsf rcr rep rby rli rls rla rcm rcs rpa rpm rpo rti rre rcl 0 0 0 0 (fun _ => 0) (zlt (by decide))) (by decide +kernel) ⟨Nat.le_of_ble_eq_true rfl, Nat.le_of_ble_eq_true rfl⟩ hG hP hD hS hA [5, 6] [0, 1, 2, 3, 4] [0, 1, 2, 3, 4, 5, 6] (by decide) rfl rfl (fun _ => rfl) (q0 := 0) rfl rfl rfl hl.1 rfl (Nat.le_of_ble_eq_true rfl) d_Law_law_312 (fun r5 u7 H locs hp6 hP hD hS => ?_)
  obtain ⟨u4, rfl⟩ : ∃ z9, z9 = u7 := ⟨_, rfl⟩
  try dsimp only at hp6
  have hP : va_P D classes [(ts, .inr (8, [.ref dr, .ref cl, .ref cp, .ref vs, .int (nI (0 + 1))])), (dr, .inr (0, [.int (nI 48), .ref drp])), (drp, .inl (cI, 3072, .inl (nF (fun _ => 0)))), (cl, .inr (0, [.int (nI 48), .ref clp])), (clp, .inl (cI, 3072, .inl (nF (fun _ => 0)))), (mo, .inr (9, [.int (nI 0), .ref rpx, .int ((nI 0) + (nI 1)), .ref rca, .ref rpl, .ref rth, .ref rco, .ref rsh, .ref rsf, .ref rcr, .ref rep, .ref rby, .ref rli, .ref rls, .ref rla, .ref rcm, .ref rcs, .ref rpa, .ref rpm, .ref rpo, .ref rti, .ref rre, .ref rcl, .int (nI 0), .int (nI 0), .int (nI 0), .int (nI 0)])), (rpx, .inl (cI, 30720, .inl (nF u4)))] H := hP
  have hD : va_D (fun q : Nat => s.heap.size ≤ q) [(ts, .inr (8, [.ref dr, .ref cl, .ref cp, .ref vs, .int (nI (0 + 1))])), (dr, .inr (0, [.int (nI 48), .ref drp])), (drp, .inl (cI, 3072, .inl (nF (fun _ => 0)))), (cl, .inr (0, [.int (nI 48), .ref clp])), (clp, .inl (cI, 3072, .inl (nF (fun _ => 0)))), (mo, .inr (9, [.int (nI 0), .ref rpx, .int ((nI 0) + (nI 1)), .ref rca, .ref rpl, .ref rth, .ref rco, .ref rsh, .ref rsf, .ref rcr, .ref rep, .ref rby, .ref rli, .ref rls, .ref rla, .ref rcm, .ref rcs, .ref rpa, .ref rpm, .ref rpo, .ref rti, .ref rre, .ref rcl, .int (nI 0), .int (nI 0), .int (nI 0), .int (nI 0)])), (rpx, .inl (cI, 30720, .inl (nF u4)))] := hD
  obtain ⟨rfl, hp8⟩ := hp6
  refine lv_icmp_eq (tgt := 697) hx hb d_Law_law_315 (by decide) (fun c_315 => ?_) (fun c_315 => ?_)
  · exact law_end hL C0 hS (lv_sub hl [0, 4] rfl)
  · exact absurd (by decide) c_315
set_option maxHeartbeats 1000000 in
set_option maxRecDepth 100000 in
theorem law_join {p : Program} {l : Launch} {e : Env} {s : State} {m : MethodId} {below : List Frame} {meth : Method} {c : Code} {D : va_G} {cI cZ cL cV : ClassId} {b L : Nat} {xs : Nat → Int32} {H : Heap} {locs : List Loc} {ls : Array Slot} (ou : Nat) (ts : Nat) (dr : Nat) (cl : Nat) (cp : Nat) (vs : Nat) (vf : Nat → Option Nat) (vw : Nat) (fd : Nat) (ds : Nat) (po : Nat) (se : Nat) (fc : Nat) (li : Nat) (co : Nat) (lo : Nat) (sp : Nat) (ft : Nat) (fq : Nat) (fr : Nat) (bk : Nat) (dc : Nat) (cm : Nat) (pp : Nat) (fp : Nat) (dt : Nat) (dq : Nat) (mo : Nat) (rpx : Nat) (rca : Nat) (rpl : Nat) (rth : Nat) (rco : Nat) (rsh : Nat) (rsf : Nat) (rcr : Nat) (rep : Nat) (rby : Nat) (rli : Nat) (rls : Nat) (rla : Nat) (rcm : Nat) (rcs : Nat) (rpa : Nat) (rpm : Nat) (rpo : Nat) (rti : Nat) (rre : Nat) (rcl : Nat) (k : Nat) (e1 : xs 1 = nI k) (hk : k < 3) (hvf : vf k = some vw) (hL : L ≤ 6) (hL6 : 6 ≤ L) (C0 : lw_At p s m meth c b L xs) (hG : gk classes NW D (TYS cI cZ cL cV) s) (hP : va_P D classes [(ts, .inr (8, [.ref dr, .ref cl, .ref cp, .ref vs, .int (nI 0)])), (vs, .inl (cV, 3, .inr (.inr (.inr (.inr vf))))), (vw, .inr (7, [.ref fd, .ref ds, .ref po, .int (nI 0), .int (nI 0), .int (nI 0)])), (fd, .inr (5, [.ref se, .long 0, .ref fc, .ref li, .ref co, .ref lo, .int (nI 0), .int (nI 0)])), (se, .inr (0, [.int (nI 48), .ref sp])), (sp, .inl (cI, 3072, .inl (nF (fun _ => 0)))), (fc, .inr (1, [.ref ft, .int (nI 0), .int (nI 0)])), (ft, .inr (0, [.int (nI 16), .ref fq])), (fq, .inl (cI, 1024, .inl (nF (fun _ => 0)))), (ds, .inr (6, [.ref fr, .long 0, .ref bk, .ref dc, .ref cm, .int (nI 0), .ref pp, .int (nI 0), .int (nI 0), .int (nI 0)])), (fr, .inr (0, [.int (nI 48), .ref fp])), (fp, .inl (cI, 3072, .inl (nF (fun _ => 0)))), (dc, .inr (1, [.ref dt, .int (nI 0), .int (nI 0)])), (dt, .inr (0, [.int (nI 16), .ref dq])), (dq, .inl (cI, 1024, .inl (nF (fun _ => 0)))), (mo, .inr (9, [.int (nI 0), .ref rpx, .int (nI 0), .ref rca, .ref rpl, .ref rth, .ref rco, .ref rsh, .ref rsf, .ref rcr, .ref rep, .ref rby, .ref rli, .ref rls, .ref rla, .ref rcm, .ref rcs, .ref rpa, .ref rpm, .ref rpo, .ref rti, .ref rre, .ref rcl, .int (nI 0), .int (nI 0), .int (nI 0), .int (nI 0)])), (rpx, .inl (cI, 30720, .inl (nF (fun _ => 0)))), (rpl, .inl (cI, 6, .inl (nF (fun _ => 0)))), (rth, .inl (cZ, 96, .inl (nF (fun _ => 0)))), (rco, .inl (cZ, 3, .inl (nF (fun _ => 0)))), (rep, .inl (cI, 3, .inl (nF (fun _ => 0)))), (rsh, .inl (cI, 3, .inl (nF (fun _ => 0)))), (rsf, .inl (cI, 3, .inl (nF (fun _ => 0)))), (rls, .inl (cI, 3, .inl (nF (fun _ => 0)))), (rla, .inl (cI, 3, .inl (nF (fun _ => 0))))] H) (hD : va_D (fun q : Nat => s.heap.size ≤ q) [(ts, .inr (8, [.ref dr, .ref cl, .ref cp, .ref vs, .int (nI 0)])), (vs, .inl (cV, 3, .inr (.inr (.inr (.inr vf))))), (vw, .inr (7, [.ref fd, .ref ds, .ref po, .int (nI 0), .int (nI 0), .int (nI 0)])), (fd, .inr (5, [.ref se, .long 0, .ref fc, .ref li, .ref co, .ref lo, .int (nI 0), .int (nI 0)])), (se, .inr (0, [.int (nI 48), .ref sp])), (sp, .inl (cI, 3072, .inl (nF (fun _ => 0)))), (fc, .inr (1, [.ref ft, .int (nI 0), .int (nI 0)])), (ft, .inr (0, [.int (nI 16), .ref fq])), (fq, .inl (cI, 1024, .inl (nF (fun _ => 0)))), (ds, .inr (6, [.ref fr, .long 0, .ref bk, .ref dc, .ref cm, .int (nI 0), .ref pp, .int (nI 0), .int (nI 0), .int (nI 0)])), (fr, .inr (0, [.int (nI 48), .ref fp])), (fp, .inl (cI, 3072, .inl (nF (fun _ => 0)))), (dc, .inr (1, [.ref dt, .int (nI 0), .int (nI 0)])), (dt, .inr (0, [.int (nI 16), .ref dq])), (dq, .inl (cI, 1024, .inl (nF (fun _ => 0)))), (mo, .inr (9, [.int (nI 0), .ref rpx, .int (nI 0), .ref rca, .ref rpl, .ref rth, .ref rco, .ref rsh, .ref rsf, .ref rcr, .ref rep, .ref rby, .ref rli, .ref rls, .ref rla, .ref rcm, .ref rcs, .ref rpa, .ref rpm, .ref rpo, .ref rti, .ref rre, .ref rcl, .int (nI 0), .int (nI 0), .int (nI 0), .int (nI 0)])), (rpx, .inl (cI, 30720, .inl (nF (fun _ => 0)))), (rpl, .inl (cI, 6, .inl (nF (fun _ => 0)))), (rth, .inl (cZ, 96, .inl (nF (fun _ => 0)))), (rco, .inl (cZ, 3, .inl (nF (fun _ => 0)))), (rep, .inl (cI, 3, .inl (nF (fun _ => 0)))), (rsh, .inl (cI, 3, .inl (nF (fun _ => 0)))), (rsf, .inl (cI, 3, .inl (nF (fun _ => 0)))), (rls, .inl (cI, 3, .inl (nF (fun _ => 0)))), (rla, .inl (cI, 3, .inl (nF (fun _ => 0))))]) (hS : va_S (fun q : Nat => s.heap.size ≤ q) s.heap H locs) (hl : lv_has ls 7 [(0, .ref b), (1, .ref ts), (2, .ref mo), (3, .ref ou), (4, .int (nI 0))]) : W p l e room_1 s m #[Value.ref b] below meth c H locs 106 155700 (lw_Z below #[Value.ref b] s) (F0 m 320 ls []) := by
  obtain ⟨hx, hb, hr, hml, hown, hts, hX, hbl, hlocks, hgv⟩ := id C0
  have hA : ∀ q : Nat, s.heap.size ≤ q → (fun q : Nat => s.heap.size ≤ q) q := fun _ h => h
  have hbA : ¬ (fun q : Nat => s.heap.size ≤ q) b := Nat.not_le.mpr hbl
  have htb : ∀ w ∈ TB, w.before #[Value.ref b] s = true := fun w hw => hts w (List.mem_filter.mp hw).1
  have Bd : bd p c code 7 s #[Value.ref b] TB "TileScreenLaw" m := ⟨hx, hb, hml, hown, htb⟩
  refine lv_aload_n hx hb d_Law_law_320 rfl (lv_at hl 1 rfl) ?_
  refine lv_aload_n hx hb d_Law_law_321 rfl (lv_at hl 0 rfl) ?_
  refine lv_iload hx hb d_Law_law_322 (lv_at hl 4 rfl) ?_
  refine lv_iconst (v := nI 1) hx hb d_Law_law_324 (by decide) ?_
  refine nv_iadd hx hb d_Law_law_325 ?_
  refine nv_top (y := nI 1) rfl ?_
  refine va_sld hx hb hX hbl hbA hS (vp_in_nI (show 1 < L by omega) (by omega)) d_Law_law_326 ?_
  refine nv_top (y := (nI k)) ((congrArg xs (nI_clamp (by decide))).trans e1) ?_
  refine kV_i (wc := [(ts, .inr (8, [.ref dr, .ref cl, .ref cp, .ref vs, .int (nI 0)])), (vs, .inl (cV, 3, .inr (.inr (.inr (.inr vf))))), (vw, .inr (7, [.ref fd, .ref ds, .ref po, .int (nI 0), .int (nI 0), .int (nI 0)])), (fd, .inr (5, [.ref se, .long 0, .ref fc, .ref li, .ref co, .ref lo, .int (nI 0), .int (nI 0)])), (se, .inr (0, [.int (nI 48), .ref sp])), (sp, .inl (cI, 3072, .inl (nF (fun _ => 0)))), (fc, .inr (1, [.ref ft, .int (nI 0), .int (nI 0)])), (ft, .inr (0, [.int (nI 16), .ref fq])), (fq, .inl (cI, 1024, .inl (nF (fun _ => 0)))), (ds, .inr (6, [.ref fr, .long 0, .ref bk, .ref dc, .ref cm, .int (nI 0), .ref pp, .int (nI 0), .int (nI 0), .int (nI 0)])), (fr, .inr (0, [.int (nI 48), .ref fp])), (fp, .inl (cI, 3072, .inl (nF (fun _ => 0)))), (dc, .inr (1, [.ref dt, .int (nI 0), .int (nI 0)])), (dt, .inr (0, [.int (nI 16), .ref dq])), (dq, .inl (cI, 1024, .inl (nF (fun _ => 0))))]) (wr := [(mo, .inr (9, [.int (nI 0), .ref rpx, .int (nI 0), .ref rca, .ref rpl, .ref rth, .ref rco, .ref rsh, .ref rsf, .ref rcr, .ref rep, .ref rby, .ref rli, .ref rls, .ref rla, .ref rcm, .ref rcs, .ref rpa, .ref rpm, .ref rpo, .ref rti, .ref rre, .ref rcl, .int (nI 0), .int (nI 0), .int (nI 0), .int (nI 0)])), (rpx, .inl (cI, 30720, .inl (nF (fun _ => 0)))), (rpl, .inl (cI, 6, .inl (nF (fun _ => 0)))), (rth, .inl (cZ, 96, .inl (nF (fun _ => 0)))), (rco, .inl (cZ, 3, .inl (nF (fun _ => 0)))), (rep, .inl (cI, 3, .inl (nF (fun _ => 0)))), (rsh, .inl (cI, 3, .inl (nF (fun _ => 0)))), (rsf, .inl (cI, 3, .inl (nF (fun _ => 0)))), (rls, .inl (cI, 3, .inl (nF (fun _ => 0)))), (rla, .inl (cI, 3, .inl (nF (fun _ => 0))))]) (w2 := fun _ => [(ts, .inr (8, [.ref dr, .ref cl, .ref cp, .ref vs, .int (nI 0)])), (vs, .inl (cV, 3, .inr (.inr (.inr (.inr vf))))), (vw, .inr (7, [.ref fd, .ref ds, .ref po, .int (nI 1), .int (nI 0), .int (nI (0 + 1))])), (fd, .inr (5, [.ref se, .long 0, .ref fc, .ref li, .ref co, .ref lo, .int (nI 0), .int (nI 0)])), (se, .inr (0, [.int (nI 48), .ref sp])), (sp, .inl (cI, 3072, .inl (nF (fun _ => 0)))), (fc, .inr (1, [.ref ft, .int (nI 0), .int (nI 0)])), (ft, .inr (0, [.int (nI 16), .ref fq])), (fq, .inl (cI, 1024, .inl (nF (fun _ => 0)))), (ds, .inr (6, [.ref fr, .long 0, .ref bk, .ref dc, .ref cm, .int (nI 0), .ref pp, .int (nI 0), .int (nI 0), .int (nI 0)])), (fr, .inr (0, [.int (nI 48), .ref fp])), (fp, .inl (cI, 3072, .inl (nF (fun _ => 0)))), (dc, .inr (1, [.ref dt, .int (nI 0), .int (nI 0)])), (dt, .inr (0, [.int (nI 16), .ref dq])), (dq, .inl (cI, 1024, .inl (nF (fun _ => 0)))), (mo, .inr (9, [.int (nI 0), .ref rpx, .int (nI 0), .ref rca, .ref rpl, .ref rth, .ref rco, .ref rsh, .ref rsf, .ref rcr, .ref rep, .ref rby, .ref rli, .ref rls, .ref rla, .ref rcm, .ref rcs, .ref rpa, .ref rpm, .ref rpo, .ref rti, .ref rre, .ref rcl, .int (nI 0), .int (nI 0), .int (nI 0), .int (nI 0)])), (rpx, .inl (cI, 30720, .inl (nF (fun _ => 0)))), (rpl, .inl (cI, 6, .inl (nF (fun _ => 0)))), (rth, .inl (cZ, 96, .inl (nF (fun _ => 0)))), (rco, .inl (cZ, 3, .inl (nF (fun _ => 0)))), (rep, .inl (cI, 3, .inl (nF (fun _ => 0)))), (rsh, .inl (cI, 3, .inl (nF (fun _ => 0)))), (rsf, .inl (cI, 3, .inl (nF (fun _ => 0)))), (rls, .inl (cI, 3, .inl (nF (fun _ => 0)))), (rla, .inl (cI, 3, .inl (nF (fun _ => 0))))]) [.int (nI k)] [] Bd ⟨gi_app (gi_c0 k_302 (gi_c0 k_303 (gi_c0 k_304 (gi_c0 k_1 gi_nil)))) (gi_tb0 k_305), rfl, by decide, by decide⟩ (show (parseMethodDescriptor "(I)Z").map (fun d => d.parameters.length) = some 1 by decide +kernel) (c_Scr_join ts dr cl cp vs 0 vf k vw fd ds po 0 0 se 0 fc li co lo (nI 0) (nI 0) fr 0 bk dc cm 0 pp 0 0 0 sp (fun _ => 0) ft 0 0 fq (fun _ => 0) dt 0 0 dq (fun _ => 0) fp (fun _ => 0) (hk) (hvf)) (by decide +kernel) ⟨Nat.le_of_ble_eq_true rfl, Nat.le_of_ble_eq_true rfl⟩ hG hP hD hS hA [0, 1, 2, 3, 4, 5, 6, 7, 8, 9, 10, 11, 12, 13, 14] [15, 16, 17, 18, 19, 20, 21, 22, 23, 24] [10, 11, 12, 13, 14, 15, 16, 17, 18, 19, 20, 21, 22, 23, 24, 0, 1, 2, 3, 4, 5, 6, 7, 8, 9] (by decide) rfl rfl (fun _ => rfl) (q0 := 0) rfl rfl rfl hl.1 rfl (Nat.le_of_ble_eq_true rfl) d_Law_law_327 (fun r1 u3 H locs hp2 hP hD hS => ?_)
  have hP : va_P D classes [(ts, .inr (8, [.ref dr, .ref cl, .ref cp, .ref vs, .int (nI 0)])), (vs, .inl (cV, 3, .inr (.inr (.inr (.inr vf))))), (vw, .inr (7, [.ref fd, .ref ds, .ref po, .int (nI 1), .int (nI 0), .int (nI (0 + 1))])), (fd, .inr (5, [.ref se, .long 0, .ref fc, .ref li, .ref co, .ref lo, .int (nI 0), .int (nI 0)])), (se, .inr (0, [.int (nI 48), .ref sp])), (sp, .inl (cI, 3072, .inl (nF (fun _ => 0)))), (fc, .inr (1, [.ref ft, .int (nI 0), .int (nI 0)])), (ft, .inr (0, [.int (nI 16), .ref fq])), (fq, .inl (cI, 1024, .inl (nF (fun _ => 0)))), (ds, .inr (6, [.ref fr, .long 0, .ref bk, .ref dc, .ref cm, .int (nI 0), .ref pp, .int (nI 0), .int (nI 0), .int (nI 0)])), (fr, .inr (0, [.int (nI 48), .ref fp])), (fp, .inl (cI, 3072, .inl (nF (fun _ => 0)))), (dc, .inr (1, [.ref dt, .int (nI 0), .int (nI 0)])), (dt, .inr (0, [.int (nI 16), .ref dq])), (dq, .inl (cI, 1024, .inl (nF (fun _ => 0)))), (mo, .inr (9, [.int (nI 0), .ref rpx, .int (nI 0), .ref rca, .ref rpl, .ref rth, .ref rco, .ref rsh, .ref rsf, .ref rcr, .ref rep, .ref rby, .ref rli, .ref rls, .ref rla, .ref rcm, .ref rcs, .ref rpa, .ref rpm, .ref rpo, .ref rti, .ref rre, .ref rcl, .int (nI 0), .int (nI 0), .int (nI 0), .int (nI 0)])), (rpx, .inl (cI, 30720, .inl (nF (fun _ => 0)))), (rpl, .inl (cI, 6, .inl (nF (fun _ => 0)))), (rth, .inl (cZ, 96, .inl (nF (fun _ => 0)))), (rco, .inl (cZ, 3, .inl (nF (fun _ => 0)))), (rep, .inl (cI, 3, .inl (nF (fun _ => 0)))), (rsh, .inl (cI, 3, .inl (nF (fun _ => 0)))), (rsf, .inl (cI, 3, .inl (nF (fun _ => 0)))), (rls, .inl (cI, 3, .inl (nF (fun _ => 0)))), (rla, .inl (cI, 3, .inl (nF (fun _ => 0))))] H := hP
  have hD : va_D (fun q : Nat => s.heap.size ≤ q) [(ts, .inr (8, [.ref dr, .ref cl, .ref cp, .ref vs, .int (nI 0)])), (vs, .inl (cV, 3, .inr (.inr (.inr (.inr vf))))), (vw, .inr (7, [.ref fd, .ref ds, .ref po, .int (nI 1), .int (nI 0), .int (nI (0 + 1))])), (fd, .inr (5, [.ref se, .long 0, .ref fc, .ref li, .ref co, .ref lo, .int (nI 0), .int (nI 0)])), (se, .inr (0, [.int (nI 48), .ref sp])), (sp, .inl (cI, 3072, .inl (nF (fun _ => 0)))), (fc, .inr (1, [.ref ft, .int (nI 0), .int (nI 0)])), (ft, .inr (0, [.int (nI 16), .ref fq])), (fq, .inl (cI, 1024, .inl (nF (fun _ => 0)))), (ds, .inr (6, [.ref fr, .long 0, .ref bk, .ref dc, .ref cm, .int (nI 0), .ref pp, .int (nI 0), .int (nI 0), .int (nI 0)])), (fr, .inr (0, [.int (nI 48), .ref fp])), (fp, .inl (cI, 3072, .inl (nF (fun _ => 0)))), (dc, .inr (1, [.ref dt, .int (nI 0), .int (nI 0)])), (dt, .inr (0, [.int (nI 16), .ref dq])), (dq, .inl (cI, 1024, .inl (nF (fun _ => 0)))), (mo, .inr (9, [.int (nI 0), .ref rpx, .int (nI 0), .ref rca, .ref rpl, .ref rth, .ref rco, .ref rsh, .ref rsf, .ref rcr, .ref rep, .ref rby, .ref rli, .ref rls, .ref rla, .ref rcm, .ref rcs, .ref rpa, .ref rpm, .ref rpo, .ref rti, .ref rre, .ref rcl, .int (nI 0), .int (nI 0), .int (nI 0), .int (nI 0)])), (rpx, .inl (cI, 30720, .inl (nF (fun _ => 0)))), (rpl, .inl (cI, 6, .inl (nF (fun _ => 0)))), (rth, .inl (cZ, 96, .inl (nF (fun _ => 0)))), (rco, .inl (cZ, 3, .inl (nF (fun _ => 0)))), (rep, .inl (cI, 3, .inl (nF (fun _ => 0)))), (rsh, .inl (cI, 3, .inl (nF (fun _ => 0)))), (rsf, .inl (cI, 3, .inl (nF (fun _ => 0)))), (rls, .inl (cI, 3, .inl (nF (fun _ => 0)))), (rla, .inl (cI, 3, .inl (nF (fun _ => 0))))] := hD
  subst hp2
  refine lv_aload_n hx hb d_Law_law_330 rfl (lv_at hl 2 rfl) ?_
  refine lv_aload_n hx hb d_Law_law_331 rfl (lv_at hl 0 rfl) ?_
  refine lv_iload hx hb d_Law_law_332 (lv_at hl 4 rfl) ?_
  refine lv_iconst (v := nI 1) hx hb d_Law_law_334 (by decide) ?_
  refine nv_iadd hx hb d_Law_law_335 ?_
  refine nv_top (y := nI 1) rfl ?_
  refine va_sld hx hb hX hbl hbA hS (vp_in_nI (show 1 < L by omega) (by omega)) d_Law_law_336 ?_
  refine nv_top (y := (nI k)) ((congrArg xs (nI_clamp (by decide))).trans e1) ?_
  refine kV_i (wc := [(mo, .inr (9, [.int (nI 0), .ref rpx, .int (nI 0), .ref rca, .ref rpl, .ref rth, .ref rco, .ref rsh, .ref rsf, .ref rcr, .ref rep, .ref rby, .ref rli, .ref rls, .ref rla, .ref rcm, .ref rcs, .ref rpa, .ref rpm, .ref rpo, .ref rti, .ref rre, .ref rcl, .int (nI 0), .int (nI 0), .int (nI 0), .int (nI 0)])), (rpx, .inl (cI, 30720, .inl (nF (fun _ => 0)))), (rpl, .inl (cI, 6, .inl (nF (fun _ => 0)))), (rth, .inl (cZ, 96, .inl (nF (fun _ => 0)))), (rco, .inl (cZ, 3, .inl (nF (fun _ => 0)))), (rep, .inl (cI, 3, .inl (nF (fun _ => 0)))), (rsh, .inl (cI, 3, .inl (nF (fun _ => 0)))), (rsf, .inl (cI, 3, .inl (nF (fun _ => 0)))), (rls, .inl (cI, 3, .inl (nF (fun _ => 0)))), (rla, .inl (cI, 3, .inl (nF (fun _ => 0))))]) (wr := [(ts, .inr (8, [.ref dr, .ref cl, .ref cp, .ref vs, .int (nI 0)])), (vs, .inl (cV, 3, .inr (.inr (.inr (.inr vf))))), (vw, .inr (7, [.ref fd, .ref ds, .ref po, .int (nI 1), .int (nI 0), .int (nI (0 + 1))])), (fd, .inr (5, [.ref se, .long 0, .ref fc, .ref li, .ref co, .ref lo, .int (nI 0), .int (nI 0)])), (se, .inr (0, [.int (nI 48), .ref sp])), (sp, .inl (cI, 3072, .inl (nF (fun _ => 0)))), (fc, .inr (1, [.ref ft, .int (nI 0), .int (nI 0)])), (ft, .inr (0, [.int (nI 16), .ref fq])), (fq, .inl (cI, 1024, .inl (nF (fun _ => 0)))), (ds, .inr (6, [.ref fr, .long 0, .ref bk, .ref dc, .ref cm, .int (nI 0), .ref pp, .int (nI 0), .int (nI 0), .int (nI 0)])), (fr, .inr (0, [.int (nI 48), .ref fp])), (fp, .inl (cI, 3072, .inl (nF (fun _ => 0)))), (dc, .inr (1, [.ref dt, .int (nI 0), .int (nI 0)])), (dt, .inr (0, [.int (nI 16), .ref dq])), (dq, .inl (cI, 1024, .inl (nF (fun _ => 0))))]) (w2 := fun u => [(ts, .inr (8, [.ref dr, .ref cl, .ref cp, .ref vs, .int (nI 0)])), (vs, .inl (cV, 3, .inr (.inr (.inr (.inr vf))))), (vw, .inr (7, [.ref fd, .ref ds, .ref po, .int (nI 1), .int (nI 0), .int (nI (0 + 1))])), (fd, .inr (5, [.ref se, .long 0, .ref fc, .ref li, .ref co, .ref lo, .int (nI 0), .int (nI 0)])), (se, .inr (0, [.int (nI 48), .ref sp])), (sp, .inl (cI, 3072, .inl (nF (fun _ => 0)))), (fc, .inr (1, [.ref ft, .int (nI 0), .int (nI 0)])), (ft, .inr (0, [.int (nI 16), .ref fq])), (fq, .inl (cI, 1024, .inl (nF (fun _ => 0)))), (ds, .inr (6, [.ref fr, .long 0, .ref bk, .ref dc, .ref cm, .int (nI 0), .ref pp, .int (nI 0), .int (nI 0), .int (nI 0)])), (fr, .inr (0, [.int (nI 48), .ref fp])), (fp, .inl (cI, 3072, .inl (nF (fun _ => 0)))), (dc, .inr (1, [.ref dt, .int (nI 0), .int (nI 0)])), (dt, .inr (0, [.int (nI 16), .ref dq])), (dq, .inl (cI, 1024, .inl (nF (fun _ => 0)))), (mo, .inr (9, [.int (nI 0), .ref rpx, .int (nI 0), .ref rca, .ref rpl, .ref rth, .ref rco, .ref rsh, .ref rsf, .ref rcr, .ref rep, .ref rby, .ref rli, .ref rls, .ref rla, .ref rcm, .ref rcs, .ref rpa, .ref rpm, .ref rpo, .ref rti, .ref rre, .ref rcl, .int (nI 0), .int (nI 0), .int (nI 0), .int (nI 0)])), (rpx, .inl (cI, 30720, .inl (nF u.1))), (rpl, .inl (cI, 6, .inl (nF u.2.1))), (rth, .inl (cZ, 96, .inl (nF u.2.2))), (rco, .inl (cZ, 3, .inl (nF (up (fun _ => 0) k 1)))), (rep, .inl (cI, 3, .inl (upd (nF (fun _ => 0)) k ((nF (fun _ => 0)) k + nI 1)))), (rsh, .inl (cI, 3, .inl (nF (fun _ => 0)))), (rsf, .inl (cI, 3, .inl (upd (nF (fun _ => 0)) k ((nF (fun _ => 0)) k)))), (rls, .inl (cI, 3, .inl (nF (up (fun _ => 0) k 0)))), (rla, .inl (cI, 3, .inl (nF (up (fun _ => 0) k 0))))]) [.int (nI k)] [.int (nI 1)] Bd ⟨gi_app (gi_c0 k_753 (gi_c0 k_754 (gi_c0 k_755 (gi_c0 k_10 gi_nil)))) (gi_tb0 k_756), rfl, by decide, by decide⟩ (show (parseMethodDescriptor "(I)Z").map (fun d => d.parameters.length) = some 1 by decide +kernel) (c_Mod_join mo (nI 0) rpx (nI 0) rca rpl rth rco rsh rsf rcr rep rby rli rls rla rcm rcs rpa rpm rpo rti rre rcl 0 0 0 0 (fun _ => 0) (fun _ => 0) (fun _ => 0) (fun _ => 0) (nF (fun _ => 0)) (nF (fun _ => 0)) (nF (fun _ => 0)) (fun _ => 0) (fun _ => 0) k (hk) (zlt (by decide)) (zlt (by decide)) (zlt (by decide)) (zlt (by decide)) (rfl)) (by decide +kernel) ⟨Nat.le_of_ble_eq_true rfl, Nat.le_of_ble_eq_true rfl⟩ hG hP hD hS hA [15, 16, 17, 18, 19, 20, 21, 22, 23, 24] [0, 1, 2, 3, 4, 5, 6, 7, 8, 9, 10, 11, 12, 13, 14] [0, 1, 2, 3, 4, 5, 6, 7, 8, 9, 10, 11, 12, 13, 14, 15, 16, 17, 18, 19, 20, 21, 22, 23, 24] (by decide) rfl rfl (fun _ => rfl) (q0 := 0) rfl rfl rfl hl.1 rfl (Nat.le_of_ble_eq_true rfl) d_Law_law_337 (fun r7 u9 H locs hp8 hP hD hS => ?_)
  obtain ⟨u4, u5, u6⟩ := u9
  try dsimp only at hp8
  have hP : va_P D classes [(ts, .inr (8, [.ref dr, .ref cl, .ref cp, .ref vs, .int (nI 0)])), (vs, .inl (cV, 3, .inr (.inr (.inr (.inr vf))))), (vw, .inr (7, [.ref fd, .ref ds, .ref po, .int (nI 1), .int (nI 0), .int (nI (0 + 1))])), (fd, .inr (5, [.ref se, .long 0, .ref fc, .ref li, .ref co, .ref lo, .int (nI 0), .int (nI 0)])), (se, .inr (0, [.int (nI 48), .ref sp])), (sp, .inl (cI, 3072, .inl (nF (fun _ => 0)))), (fc, .inr (1, [.ref ft, .int (nI 0), .int (nI 0)])), (ft, .inr (0, [.int (nI 16), .ref fq])), (fq, .inl (cI, 1024, .inl (nF (fun _ => 0)))), (ds, .inr (6, [.ref fr, .long 0, .ref bk, .ref dc, .ref cm, .int (nI 0), .ref pp, .int (nI 0), .int (nI 0), .int (nI 0)])), (fr, .inr (0, [.int (nI 48), .ref fp])), (fp, .inl (cI, 3072, .inl (nF (fun _ => 0)))), (dc, .inr (1, [.ref dt, .int (nI 0), .int (nI 0)])), (dt, .inr (0, [.int (nI 16), .ref dq])), (dq, .inl (cI, 1024, .inl (nF (fun _ => 0)))), (mo, .inr (9, [.int (nI 0), .ref rpx, .int (nI 0), .ref rca, .ref rpl, .ref rth, .ref rco, .ref rsh, .ref rsf, .ref rcr, .ref rep, .ref rby, .ref rli, .ref rls, .ref rla, .ref rcm, .ref rcs, .ref rpa, .ref rpm, .ref rpo, .ref rti, .ref rre, .ref rcl, .int (nI 0), .int (nI 0), .int (nI 0), .int (nI 0)])), (rpx, .inl (cI, 30720, .inl (nF u4))), (rpl, .inl (cI, 6, .inl (nF u5))), (rth, .inl (cZ, 96, .inl (nF u6))), (rco, .inl (cZ, 3, .inl (nF (up (fun _ => 0) k 1)))), (rep, .inl (cI, 3, .inl (upd (nF (fun _ => 0)) k ((nF (fun _ => 0)) k + nI 1)))), (rsh, .inl (cI, 3, .inl (nF (fun _ => 0)))), (rsf, .inl (cI, 3, .inl (upd (nF (fun _ => 0)) k ((nF (fun _ => 0)) k)))), (rls, .inl (cI, 3, .inl (nF (up (fun _ => 0) k 0)))), (rla, .inl (cI, 3, .inl (nF (up (fun _ => 0) k 0))))] H := hP
  have hD : va_D (fun q : Nat => s.heap.size ≤ q) [(ts, .inr (8, [.ref dr, .ref cl, .ref cp, .ref vs, .int (nI 0)])), (vs, .inl (cV, 3, .inr (.inr (.inr (.inr vf))))), (vw, .inr (7, [.ref fd, .ref ds, .ref po, .int (nI 1), .int (nI 0), .int (nI (0 + 1))])), (fd, .inr (5, [.ref se, .long 0, .ref fc, .ref li, .ref co, .ref lo, .int (nI 0), .int (nI 0)])), (se, .inr (0, [.int (nI 48), .ref sp])), (sp, .inl (cI, 3072, .inl (nF (fun _ => 0)))), (fc, .inr (1, [.ref ft, .int (nI 0), .int (nI 0)])), (ft, .inr (0, [.int (nI 16), .ref fq])), (fq, .inl (cI, 1024, .inl (nF (fun _ => 0)))), (ds, .inr (6, [.ref fr, .long 0, .ref bk, .ref dc, .ref cm, .int (nI 0), .ref pp, .int (nI 0), .int (nI 0), .int (nI 0)])), (fr, .inr (0, [.int (nI 48), .ref fp])), (fp, .inl (cI, 3072, .inl (nF (fun _ => 0)))), (dc, .inr (1, [.ref dt, .int (nI 0), .int (nI 0)])), (dt, .inr (0, [.int (nI 16), .ref dq])), (dq, .inl (cI, 1024, .inl (nF (fun _ => 0)))), (mo, .inr (9, [.int (nI 0), .ref rpx, .int (nI 0), .ref rca, .ref rpl, .ref rth, .ref rco, .ref rsh, .ref rsf, .ref rcr, .ref rep, .ref rby, .ref rli, .ref rls, .ref rla, .ref rcm, .ref rcs, .ref rpa, .ref rpm, .ref rpo, .ref rti, .ref rre, .ref rcl, .int (nI 0), .int (nI 0), .int (nI 0), .int (nI 0)])), (rpx, .inl (cI, 30720, .inl (nF u4))), (rpl, .inl (cI, 6, .inl (nF u5))), (rth, .inl (cZ, 96, .inl (nF u6))), (rco, .inl (cZ, 3, .inl (nF (up (fun _ => 0) k 1)))), (rep, .inl (cI, 3, .inl (upd (nF (fun _ => 0)) k ((nF (fun _ => 0)) k + nI 1)))), (rsh, .inl (cI, 3, .inl (nF (fun _ => 0)))), (rsf, .inl (cI, 3, .inl (upd (nF (fun _ => 0)) k ((nF (fun _ => 0)) k)))), (rls, .inl (cI, 3, .inl (nF (up (fun _ => 0) k 0)))), (rla, .inl (cI, 3, .inl (nF (up (fun _ => 0) k 0))))] := hD
  obtain ⟨rfl, hp10⟩ := hp8
  obtain ⟨h11, h12, h13⟩ := hp10
  refine nv_icmp_eq (tgt := 697) hx hb d_Law_law_340 (by decide) (by omega) (by omega) (fun _ => ?_) (fun h9 => absurd h9 (by decide))
  exact law_end hL C0 hS (lv_sub hl [0, 4] rfl)
set_option maxHeartbeats 1000000 in
set_option maxRecDepth 100000 in
theorem law_join_no {p : Program} {l : Launch} {e : Env} {s : State} {m : MethodId} {below : List Frame} {meth : Method} {c : Code} {D : va_G} {cI cZ cL cV : ClassId} {b L : Nat} {xs : Nat → Int32} {H : Heap} {locs : List Loc} {ls : Array Slot} (ou : Nat) (ts : Nat) (dr : Nat) (cl : Nat) (cp : Nat) (vs : Nat) (mo : Nat) (rpx : Nat) (rca : Nat) (rpl : Nat) (rth : Nat) (rco : Nat) (rsh : Nat) (rsf : Nat) (rcr : Nat) (rep : Nat) (rby : Nat) (rli : Nat) (rls : Nat) (rla : Nat) (rcm : Nat) (rcs : Nat) (rpa : Nat) (rpm : Nat) (rpo : Nat) (rti : Nat) (rre : Nat) (rcl : Nat) (hno : ¬ vwP (xs 1)) (hL : L ≤ 6) (hL6 : 6 ≤ L) (C0 : lw_At p s m meth c b L xs) (hG : gk classes NW D (TYS cI cZ cL cV) s) (hP : va_P D classes [(ts, .inr (8, [.ref dr, .ref cl, .ref cp, .ref vs, .int (nI 0)])), (mo, .inr (9, [.int (nI 0), .ref rpx, .int (nI 0), .ref rca, .ref rpl, .ref rth, .ref rco, .ref rsh, .ref rsf, .ref rcr, .ref rep, .ref rby, .ref rli, .ref rls, .ref rla, .ref rcm, .ref rcs, .ref rpa, .ref rpm, .ref rpo, .ref rti, .ref rre, .ref rcl, .int (nI 0), .int (nI 0), .int (nI 0), .int (nI 0)]))] H) (hD : va_D (fun q : Nat => s.heap.size ≤ q) [(ts, .inr (8, [.ref dr, .ref cl, .ref cp, .ref vs, .int (nI 0)])), (mo, .inr (9, [.int (nI 0), .ref rpx, .int (nI 0), .ref rca, .ref rpl, .ref rth, .ref rco, .ref rsh, .ref rsf, .ref rcr, .ref rep, .ref rby, .ref rli, .ref rls, .ref rla, .ref rcm, .ref rcs, .ref rpa, .ref rpm, .ref rpo, .ref rti, .ref rre, .ref rcl, .int (nI 0), .int (nI 0), .int (nI 0), .int (nI 0)]))]) (hS : va_S (fun q : Nat => s.heap.size ≤ q) s.heap H locs) (hl : lv_has ls 7 [(0, .ref b), (1, .ref ts), (2, .ref mo), (3, .ref ou), (4, .int (nI 0))]) : W p l e room_1 s m #[Value.ref b] below meth c H locs 106 155700 (lw_Z below #[Value.ref b] s) (F0 m 320 ls []) := by
  obtain ⟨hx, hb, hr, hml, hown, hts, hX, hbl, hlocks, hgv⟩ := id C0
  have hA : ∀ q : Nat, s.heap.size ≤ q → (fun q : Nat => s.heap.size ≤ q) q := fun _ h => h
  have hbA : ¬ (fun q : Nat => s.heap.size ≤ q) b := Nat.not_le.mpr hbl
  have htb : ∀ w ∈ TB, w.before #[Value.ref b] s = true := fun w hw => hts w (List.mem_filter.mp hw).1
  have Bd : bd p c code 7 s #[Value.ref b] TB "TileScreenLaw" m := ⟨hx, hb, hml, hown, htb⟩
  refine lv_aload_n hx hb d_Law_law_320 rfl (lv_at hl 1 rfl) ?_
  refine lv_aload_n hx hb d_Law_law_321 rfl (lv_at hl 0 rfl) ?_
  refine lv_iload hx hb d_Law_law_322 (lv_at hl 4 rfl) ?_
  refine lv_iconst (v := nI 1) hx hb d_Law_law_324 (by decide) ?_
  refine nv_iadd hx hb d_Law_law_325 ?_
  refine nv_top (y := nI 1) rfl ?_
  refine va_sld hx hb hX hbl hbA hS (vp_in_nI (show 1 < L by omega) (by omega)) d_Law_law_326 ?_
  refine nv_top (y := (xs 1)) ((congrArg xs (nI_clamp (by decide)))) ?_
  refine kV_i (wc := [(ts, .inr (8, [.ref dr, .ref cl, .ref cp, .ref vs, .int (nI 0)]))]) (wr := [(mo, .inr (9, [.int (nI 0), .ref rpx, .int (nI 0), .ref rca, .ref rpl, .ref rth, .ref rco, .ref rsh, .ref rsf, .ref rcr, .ref rep, .ref rby, .ref rli, .ref rls, .ref rla, .ref rcm, .ref rcs, .ref rpa, .ref rpm, .ref rpo, .ref rti, .ref rre, .ref rcl, .int (nI 0), .int (nI 0), .int (nI 0), .int (nI 0)]))]) (w2 := fun _ => [(ts, .inr (8, [.ref dr, .ref cl, .ref cp, .ref vs, .int (nI 0)])), (mo, .inr (9, [.int (nI 0), .ref rpx, .int (nI 0), .ref rca, .ref rpl, .ref rth, .ref rco, .ref rsh, .ref rsf, .ref rcr, .ref rep, .ref rby, .ref rli, .ref rls, .ref rla, .ref rcm, .ref rcs, .ref rpa, .ref rpm, .ref rpo, .ref rti, .ref rre, .ref rcl, .int (nI 0), .int (nI 0), .int (nI 0), .int (nI 0)]))]) [.int (xs 1)] [] Bd ⟨gi_app (gi_c0 k_302 (gi_c0 k_303 (gi_c0 k_304 (gi_c0 k_1 gi_nil)))) (gi_tb0 k_305), rfl, by decide, by decide⟩ (show (parseMethodDescriptor "(I)Z").map (fun d => d.parameters.length) = some 1 by decide +kernel) (c_Scr_join_no ts dr cl cp vs 0 (xs 1) (hno)) (by decide +kernel) ⟨Nat.le_of_ble_eq_true rfl, Nat.le_of_ble_eq_true rfl⟩ hG hP hD hS hA [0] [1] [1, 0] (by decide) rfl rfl (fun _ => rfl) (q0 := 0) rfl rfl rfl hl.1 rfl (Nat.le_of_ble_eq_true rfl) d_Law_law_327 (fun r1 u3 H locs hp2 hP hD hS => ?_)
  have hP : va_P D classes [(ts, .inr (8, [.ref dr, .ref cl, .ref cp, .ref vs, .int (nI 0)])), (mo, .inr (9, [.int (nI 0), .ref rpx, .int (nI 0), .ref rca, .ref rpl, .ref rth, .ref rco, .ref rsh, .ref rsf, .ref rcr, .ref rep, .ref rby, .ref rli, .ref rls, .ref rla, .ref rcm, .ref rcs, .ref rpa, .ref rpm, .ref rpo, .ref rti, .ref rre, .ref rcl, .int (nI 0), .int (nI 0), .int (nI 0), .int (nI 0)]))] H := hP
  have hD : va_D (fun q : Nat => s.heap.size ≤ q) [(ts, .inr (8, [.ref dr, .ref cl, .ref cp, .ref vs, .int (nI 0)])), (mo, .inr (9, [.int (nI 0), .ref rpx, .int (nI 0), .ref rca, .ref rpl, .ref rth, .ref rco, .ref rsh, .ref rsf, .ref rcr, .ref rep, .ref rby, .ref rli, .ref rls, .ref rla, .ref rcm, .ref rcs, .ref rpa, .ref rpm, .ref rpo, .ref rti, .ref rre, .ref rcl, .int (nI 0), .int (nI 0), .int (nI 0), .int (nI 0)]))] := hD
  subst hp2
  refine lv_aload_n hx hb d_Law_law_330 rfl (lv_at hl 2 rfl) ?_
  refine lv_aload_n hx hb d_Law_law_331 rfl (lv_at hl 0 rfl) ?_
  refine lv_iload hx hb d_Law_law_332 (lv_at hl 4 rfl) ?_
  refine lv_iconst (v := nI 1) hx hb d_Law_law_334 (by decide) ?_
  refine nv_iadd hx hb d_Law_law_335 ?_
  refine nv_top (y := nI 1) rfl ?_
  refine va_sld hx hb hX hbl hbA hS (vp_in_nI (show 1 < L by omega) (by omega)) d_Law_law_336 ?_
  refine nv_top (y := (xs 1)) ((congrArg xs (nI_clamp (by decide)))) ?_
  refine kV_i (wc := [(mo, .inr (9, [.int (nI 0), .ref rpx, .int (nI 0), .ref rca, .ref rpl, .ref rth, .ref rco, .ref rsh, .ref rsf, .ref rcr, .ref rep, .ref rby, .ref rli, .ref rls, .ref rla, .ref rcm, .ref rcs, .ref rpa, .ref rpm, .ref rpo, .ref rti, .ref rre, .ref rcl, .int (nI 0), .int (nI 0), .int (nI 0), .int (nI 0)]))]) (wr := [(ts, .inr (8, [.ref dr, .ref cl, .ref cp, .ref vs, .int (nI 0)]))]) (w2 := fun _ => [(ts, .inr (8, [.ref dr, .ref cl, .ref cp, .ref vs, .int (nI 0)])), (mo, .inr (9, [.int (nI 0), .ref rpx, .int (nI 0), .ref rca, .ref rpl, .ref rth, .ref rco, .ref rsh, .ref rsf, .ref rcr, .ref rep, .ref rby, .ref rli, .ref rls, .ref rla, .ref rcm, .ref rcs, .ref rpa, .ref rpm, .ref rpo, .ref rti, .ref rre, .ref rcl, .int (nI 0), .int (nI 0), .int (nI 0), .int (nI 0)]))]) [.int (xs 1)] [.int (nI 0)] Bd ⟨gi_app (gi_c0 k_753 (gi_c0 k_754 (gi_c0 k_755 (gi_c0 k_10 gi_nil)))) (gi_tb0 k_756), rfl, by decide, by decide⟩ (show (parseMethodDescriptor "(I)Z").map (fun d => d.parameters.length) = some 1 by decide +kernel) (c_Mod_join_no mo (nI 0) rpx (nI 0) rca rpl rth rco rsh rsf rcr rep rby rli rls rla rcm rcs rpa rpm rpo rti rre rcl 0 0 0 0 (xs 1) (hno)) (by decide +kernel) ⟨Nat.le_of_ble_eq_true rfl, Nat.le_of_ble_eq_true rfl⟩ hG hP hD hS hA [1] [0] [0, 1] (by decide) rfl rfl (fun _ => rfl) (q0 := 0) rfl rfl rfl hl.1 rfl (Nat.le_of_ble_eq_true rfl) d_Law_law_337 (fun r4 u6 H locs hp5 hP hD hS => ?_)
  have hP : va_P D classes [(ts, .inr (8, [.ref dr, .ref cl, .ref cp, .ref vs, .int (nI 0)])), (mo, .inr (9, [.int (nI 0), .ref rpx, .int (nI 0), .ref rca, .ref rpl, .ref rth, .ref rco, .ref rsh, .ref rsf, .ref rcr, .ref rep, .ref rby, .ref rli, .ref rls, .ref rla, .ref rcm, .ref rcs, .ref rpa, .ref rpm, .ref rpo, .ref rti, .ref rre, .ref rcl, .int (nI 0), .int (nI 0), .int (nI 0), .int (nI 0)]))] H := hP
  have hD : va_D (fun q : Nat => s.heap.size ≤ q) [(ts, .inr (8, [.ref dr, .ref cl, .ref cp, .ref vs, .int (nI 0)])), (mo, .inr (9, [.int (nI 0), .ref rpx, .int (nI 0), .ref rca, .ref rpl, .ref rth, .ref rco, .ref rsh, .ref rsf, .ref rcr, .ref rep, .ref rby, .ref rli, .ref rls, .ref rla, .ref rcm, .ref rcs, .ref rpa, .ref rpm, .ref rpo, .ref rti, .ref rre, .ref rcl, .int (nI 0), .int (nI 0), .int (nI 0), .int (nI 0)]))] := hD
  subst hp5
  refine nv_icmp_eq (tgt := 697) hx hb d_Law_law_340 (by decide) (by omega) (by omega) (fun _ => ?_) (fun h9 => absurd h9 (by decide))
  exact law_end hL C0 hS (lv_sub hl [0, 4] rfl)
set_option maxHeartbeats 1000000 in
set_option maxRecDepth 100000 in
theorem law_cut {p : Program} {l : Launch} {e : Env} {s : State} {m : MethodId} {below : List Frame} {meth : Method} {c : Code} {D : va_G} {cI cZ cL cV : ClassId} {b L : Nat} {xs : Nat → Int32} {H : Heap} {locs : List Loc} {ls : Array Slot} (ou : Nat) (ts : Nat) (dr : Nat) (cl : Nat) (cp : Nat) (vs : Nat) (vf : Nat → Option Nat) (vw : Nat) (fd : Nat) (ds : Nat) (po : Nat) (mo : Nat) (rpx : Nat) (rca : Nat) (rpl : Nat) (rth : Nat) (rco : Nat) (rsh : Nat) (rsf : Nat) (rcr : Nat) (rep : Nat) (rby : Nat) (rli : Nat) (rls : Nat) (rla : Nat) (rcm : Nat) (rcs : Nat) (rpa : Nat) (rpm : Nat) (rpo : Nat) (rti : Nat) (rre : Nat) (rcl : Nat) (k : Nat) (e1 : xs 1 = nI k) (hk : k < 3) (hvf : vf k = some vw) (hL : L ≤ 6) (hL6 : 6 ≤ L) (C0 : lw_At p s m meth c b L xs) (hG : gk classes NW D (TYS cI cZ cL cV) s) (hP : va_P D classes [(ts, .inr (8, [.ref dr, .ref cl, .ref cp, .ref vs, .int (nI 0)])), (vs, .inl (cV, 3, .inr (.inr (.inr (.inr vf))))), (vw, .inr (7, [.ref fd, .ref ds, .ref po, .int (nI 0), .int (nI 0), .int (nI 0)])), (mo, .inr (9, [.int (nI 0), .ref rpx, .int (nI 0), .ref rca, .ref rpl, .ref rth, .ref rco, .ref rsh, .ref rsf, .ref rcr, .ref rep, .ref rby, .ref rli, .ref rls, .ref rla, .ref rcm, .ref rcs, .ref rpa, .ref rpm, .ref rpo, .ref rti, .ref rre, .ref rcl, .int (nI 0), .int (nI 0), .int (nI 0), .int (nI 0)])), (rco, .inl (cZ, 3, .inl (nF (fun _ => 0))))] H) (hD : va_D (fun q : Nat => s.heap.size ≤ q) [(ts, .inr (8, [.ref dr, .ref cl, .ref cp, .ref vs, .int (nI 0)])), (vs, .inl (cV, 3, .inr (.inr (.inr (.inr vf))))), (vw, .inr (7, [.ref fd, .ref ds, .ref po, .int (nI 0), .int (nI 0), .int (nI 0)])), (mo, .inr (9, [.int (nI 0), .ref rpx, .int (nI 0), .ref rca, .ref rpl, .ref rth, .ref rco, .ref rsh, .ref rsf, .ref rcr, .ref rep, .ref rby, .ref rli, .ref rls, .ref rla, .ref rcm, .ref rcs, .ref rpa, .ref rpm, .ref rpo, .ref rti, .ref rre, .ref rcl, .int (nI 0), .int (nI 0), .int (nI 0), .int (nI 0)])), (rco, .inl (cZ, 3, .inl (nF (fun _ => 0))))]) (hS : va_S (fun q : Nat => s.heap.size ≤ q) s.heap H locs) (hl : lv_has ls 7 [(0, .ref b), (1, .ref ts), (2, .ref mo), (3, .ref ou), (4, .int (nI 0))]) : W p l e room_1 s m #[Value.ref b] below meth c H locs 106 155700 (lw_Z below #[Value.ref b] s) (F0 m 345 ls []) := by
  obtain ⟨hx, hb, hr, hml, hown, hts, hX, hbl, hlocks, hgv⟩ := id C0
  have hA : ∀ q : Nat, s.heap.size ≤ q → (fun q : Nat => s.heap.size ≤ q) q := fun _ h => h
  have hbA : ¬ (fun q : Nat => s.heap.size ≤ q) b := Nat.not_le.mpr hbl
  have htb : ∀ w ∈ TB, w.before #[Value.ref b] s = true := fun w hw => hts w (List.mem_filter.mp hw).1
  have Bd : bd p c code 7 s #[Value.ref b] TB "TileScreenLaw" m := ⟨hx, hb, hml, hown, htb⟩
  refine lv_aload_n hx hb d_Law_law_345 rfl (lv_at hl 1 rfl) ?_
  refine lv_aload_n hx hb d_Law_law_346 rfl (lv_at hl 0 rfl) ?_
  refine lv_iload hx hb d_Law_law_347 (lv_at hl 4 rfl) ?_
  refine lv_iconst (v := nI 1) hx hb d_Law_law_349 (by decide) ?_
  refine nv_iadd hx hb d_Law_law_350 ?_
  refine nv_top (y := nI 1) rfl ?_
  refine va_sld hx hb hX hbl hbA hS (vp_in_nI (show 1 < L by omega) (by omega)) d_Law_law_351 ?_
  refine nv_top (y := (nI k)) ((congrArg xs (nI_clamp (by decide))).trans e1) ?_
  refine kV_i (wc := [(ts, .inr (8, [.ref dr, .ref cl, .ref cp, .ref vs, .int (nI 0)])), (vs, .inl (cV, 3, .inr (.inr (.inr (.inr vf))))), (vw, .inr (7, [.ref fd, .ref ds, .ref po, .int (nI 0), .int (nI 0), .int (nI 0)]))]) (wr := [(mo, .inr (9, [.int (nI 0), .ref rpx, .int (nI 0), .ref rca, .ref rpl, .ref rth, .ref rco, .ref rsh, .ref rsf, .ref rcr, .ref rep, .ref rby, .ref rli, .ref rls, .ref rla, .ref rcm, .ref rcs, .ref rpa, .ref rpm, .ref rpo, .ref rti, .ref rre, .ref rcl, .int (nI 0), .int (nI 0), .int (nI 0), .int (nI 0)])), (rco, .inl (cZ, 3, .inl (nF (fun _ => 0))))]) (w2 := fun _ => [(ts, .inr (8, [.ref dr, .ref cl, .ref cp, .ref vs, .int (nI 0)])), (vs, .inl (cV, 3, .inr (.inr (.inr (.inr vf))))), (vw, .inr (7, [.ref fd, .ref ds, .ref po, .int (nI 0), .int (nI 0), .int (nI 0)])), (mo, .inr (9, [.int (nI 0), .ref rpx, .int (nI 0), .ref rca, .ref rpl, .ref rth, .ref rco, .ref rsh, .ref rsf, .ref rcr, .ref rep, .ref rby, .ref rli, .ref rls, .ref rla, .ref rcm, .ref rcs, .ref rpa, .ref rpm, .ref rpo, .ref rti, .ref rre, .ref rcl, .int (nI 0), .int (nI 0), .int (nI 0), .int (nI 0)])), (rco, .inl (cZ, 3, .inl (nF (fun _ => 0))))]) [.int (nI k)] [] Bd ⟨gi_app (gi_c0 k_318 (gi_c0 k_319 (gi_c0 k_320 (gi_c0 k_1 gi_nil)))) (gi_tb0 k_321), rfl, by decide, by decide⟩ (show (parseMethodDescriptor "(I)Z").map (fun d => d.parameters.length) = some 1 by decide +kernel) (c_Scr_cut_is ts dr cl cp vs 0 vf k vw fd ds po 0 0 (hk) (hvf)) (by decide +kernel) ⟨Nat.le_of_ble_eq_true rfl, Nat.le_of_ble_eq_true rfl⟩ hG hP hD hS hA [0, 1, 2] [3, 4] [2, 3, 4, 0, 1] (by decide) rfl rfl (fun _ => rfl) (q0 := 0) rfl rfl rfl hl.1 rfl (Nat.le_of_ble_eq_true rfl) d_Law_law_352 (fun r1 u3 H locs hp2 hP hD hS => ?_)
  have hP : va_P D classes [(ts, .inr (8, [.ref dr, .ref cl, .ref cp, .ref vs, .int (nI 0)])), (vs, .inl (cV, 3, .inr (.inr (.inr (.inr vf))))), (vw, .inr (7, [.ref fd, .ref ds, .ref po, .int (nI 0), .int (nI 0), .int (nI 0)])), (mo, .inr (9, [.int (nI 0), .ref rpx, .int (nI 0), .ref rca, .ref rpl, .ref rth, .ref rco, .ref rsh, .ref rsf, .ref rcr, .ref rep, .ref rby, .ref rli, .ref rls, .ref rla, .ref rcm, .ref rcs, .ref rpa, .ref rpm, .ref rpo, .ref rti, .ref rre, .ref rcl, .int (nI 0), .int (nI 0), .int (nI 0), .int (nI 0)])), (rco, .inl (cZ, 3, .inl (nF (fun _ => 0))))] H := hP
  have hD : va_D (fun q : Nat => s.heap.size ≤ q) [(ts, .inr (8, [.ref dr, .ref cl, .ref cp, .ref vs, .int (nI 0)])), (vs, .inl (cV, 3, .inr (.inr (.inr (.inr vf))))), (vw, .inr (7, [.ref fd, .ref ds, .ref po, .int (nI 0), .int (nI 0), .int (nI 0)])), (mo, .inr (9, [.int (nI 0), .ref rpx, .int (nI 0), .ref rca, .ref rpl, .ref rth, .ref rco, .ref rsh, .ref rsf, .ref rcr, .ref rep, .ref rby, .ref rli, .ref rls, .ref rla, .ref rcm, .ref rcs, .ref rpa, .ref rpm, .ref rpo, .ref rti, .ref rre, .ref rcl, .int (nI 0), .int (nI 0), .int (nI 0), .int (nI 0)])), (rco, .inl (cZ, 3, .inl (nF (fun _ => 0))))] := hD
  subst hp2
  refine lv_aload_n hx hb d_Law_law_355 rfl (lv_at hl 2 rfl) ?_
  refine lv_aload_n hx hb d_Law_law_356 rfl (lv_at hl 0 rfl) ?_
  refine lv_iload hx hb d_Law_law_357 (lv_at hl 4 rfl) ?_
  refine lv_iconst (v := nI 1) hx hb d_Law_law_359 (by decide) ?_
  refine nv_iadd hx hb d_Law_law_360 ?_
  refine nv_top (y := nI 1) rfl ?_
  refine va_sld hx hb hX hbl hbA hS (vp_in_nI (show 1 < L by omega) (by omega)) d_Law_law_361 ?_
  refine nv_top (y := (nI k)) ((congrArg xs (nI_clamp (by decide))).trans e1) ?_
  refine kV_i (wc := [(mo, .inr (9, [.int (nI 0), .ref rpx, .int (nI 0), .ref rca, .ref rpl, .ref rth, .ref rco, .ref rsh, .ref rsf, .ref rcr, .ref rep, .ref rby, .ref rli, .ref rls, .ref rla, .ref rcm, .ref rcs, .ref rpa, .ref rpm, .ref rpo, .ref rti, .ref rre, .ref rcl, .int (nI 0), .int (nI 0), .int (nI 0), .int (nI 0)])), (rco, .inl (cZ, 3, .inl (nF (fun _ => 0))))]) (wr := [(ts, .inr (8, [.ref dr, .ref cl, .ref cp, .ref vs, .int (nI 0)])), (vs, .inl (cV, 3, .inr (.inr (.inr (.inr vf))))), (vw, .inr (7, [.ref fd, .ref ds, .ref po, .int (nI 0), .int (nI 0), .int (nI 0)]))]) (w2 := fun _ => [(ts, .inr (8, [.ref dr, .ref cl, .ref cp, .ref vs, .int (nI 0)])), (vs, .inl (cV, 3, .inr (.inr (.inr (.inr vf))))), (vw, .inr (7, [.ref fd, .ref ds, .ref po, .int (nI 0), .int (nI 0), .int (nI 0)])), (mo, .inr (9, [.int (nI 0), .ref rpx, .int (nI 0), .ref rca, .ref rpl, .ref rth, .ref rco, .ref rsh, .ref rsf, .ref rcr, .ref rep, .ref rby, .ref rli, .ref rls, .ref rla, .ref rcm, .ref rcs, .ref rpa, .ref rpm, .ref rpo, .ref rti, .ref rre, .ref rcl, .int (nI 0), .int (nI 0), .int (nI 0), .int (nI 0)])), (rco, .inl (cZ, 3, .inl (nF (fun _ => 0))))]) [.int (nI k)] [.int (nI 0)] Bd ⟨gi_app (gi_c0 k_760 (gi_c0 k_761 (gi_c0 k_762 (gi_c0 k_10 gi_nil)))) (gi_tb0 k_763), rfl, by decide, by decide⟩ (show (parseMethodDescriptor "(I)Z").map (fun d => d.parameters.length) = some 1 by decide +kernel) (c_Mod_cut_is mo (nI 0) rpx (nI 0) rca rpl rth rco rsh rsf rcr rep rby rli rls rla rcm rcs rpa rpm rpo rti rre rcl 0 0 0 0 (fun _ => 0) k (hk) (zlt (by decide)) (rfl)) (by decide +kernel) ⟨Nat.le_of_ble_eq_true rfl, Nat.le_of_ble_eq_true rfl⟩ hG hP hD hS hA [3, 4] [0, 1, 2] [0, 1, 2, 3, 4] (by decide) rfl rfl (fun _ => rfl) (q0 := 0) rfl rfl rfl hl.1 rfl (Nat.le_of_ble_eq_true rfl) d_Law_law_362 (fun r4 u6 H locs hp5 hP hD hS => ?_)
  have hP : va_P D classes [(ts, .inr (8, [.ref dr, .ref cl, .ref cp, .ref vs, .int (nI 0)])), (vs, .inl (cV, 3, .inr (.inr (.inr (.inr vf))))), (vw, .inr (7, [.ref fd, .ref ds, .ref po, .int (nI 0), .int (nI 0), .int (nI 0)])), (mo, .inr (9, [.int (nI 0), .ref rpx, .int (nI 0), .ref rca, .ref rpl, .ref rth, .ref rco, .ref rsh, .ref rsf, .ref rcr, .ref rep, .ref rby, .ref rli, .ref rls, .ref rla, .ref rcm, .ref rcs, .ref rpa, .ref rpm, .ref rpo, .ref rti, .ref rre, .ref rcl, .int (nI 0), .int (nI 0), .int (nI 0), .int (nI 0)])), (rco, .inl (cZ, 3, .inl (nF (fun _ => 0))))] H := hP
  have hD : va_D (fun q : Nat => s.heap.size ≤ q) [(ts, .inr (8, [.ref dr, .ref cl, .ref cp, .ref vs, .int (nI 0)])), (vs, .inl (cV, 3, .inr (.inr (.inr (.inr vf))))), (vw, .inr (7, [.ref fd, .ref ds, .ref po, .int (nI 0), .int (nI 0), .int (nI 0)])), (mo, .inr (9, [.int (nI 0), .ref rpx, .int (nI 0), .ref rca, .ref rpl, .ref rth, .ref rco, .ref rsh, .ref rsf, .ref rcr, .ref rep, .ref rby, .ref rli, .ref rls, .ref rla, .ref rcm, .ref rcs, .ref rpa, .ref rpm, .ref rpo, .ref rti, .ref rre, .ref rcl, .int (nI 0), .int (nI 0), .int (nI 0), .int (nI 0)])), (rco, .inl (cZ, 3, .inl (nF (fun _ => 0))))] := hD
  subst hp5
  refine nv_icmp_eq (tgt := 697) hx hb d_Law_law_365 (by decide) (by omega) (by omega) (fun _ => ?_) (fun h9 => absurd h9 (by decide))
  exact law_end hL C0 hS (lv_sub hl [0, 4] rfl)
set_option maxHeartbeats 1000000 in
set_option maxRecDepth 100000 in
theorem law_cut_no {p : Program} {l : Launch} {e : Env} {s : State} {m : MethodId} {below : List Frame} {meth : Method} {c : Code} {D : va_G} {cI cZ cL cV : ClassId} {b L : Nat} {xs : Nat → Int32} {H : Heap} {locs : List Loc} {ls : Array Slot} (ou : Nat) (ts : Nat) (dr : Nat) (cl : Nat) (cp : Nat) (vs : Nat) (mo : Nat) (rpx : Nat) (rca : Nat) (rpl : Nat) (rth : Nat) (rco : Nat) (rsh : Nat) (rsf : Nat) (rcr : Nat) (rep : Nat) (rby : Nat) (rli : Nat) (rls : Nat) (rla : Nat) (rcm : Nat) (rcs : Nat) (rpa : Nat) (rpm : Nat) (rpo : Nat) (rti : Nat) (rre : Nat) (rcl : Nat) (hno : ¬ vwP (xs 1)) (hL : L ≤ 6) (hL6 : 6 ≤ L) (C0 : lw_At p s m meth c b L xs) (hG : gk classes NW D (TYS cI cZ cL cV) s) (hP : va_P D classes [(ts, .inr (8, [.ref dr, .ref cl, .ref cp, .ref vs, .int (nI 0)])), (mo, .inr (9, [.int (nI 0), .ref rpx, .int (nI 0), .ref rca, .ref rpl, .ref rth, .ref rco, .ref rsh, .ref rsf, .ref rcr, .ref rep, .ref rby, .ref rli, .ref rls, .ref rla, .ref rcm, .ref rcs, .ref rpa, .ref rpm, .ref rpo, .ref rti, .ref rre, .ref rcl, .int (nI 0), .int (nI 0), .int (nI 0), .int (nI 0)]))] H) (hD : va_D (fun q : Nat => s.heap.size ≤ q) [(ts, .inr (8, [.ref dr, .ref cl, .ref cp, .ref vs, .int (nI 0)])), (mo, .inr (9, [.int (nI 0), .ref rpx, .int (nI 0), .ref rca, .ref rpl, .ref rth, .ref rco, .ref rsh, .ref rsf, .ref rcr, .ref rep, .ref rby, .ref rli, .ref rls, .ref rla, .ref rcm, .ref rcs, .ref rpa, .ref rpm, .ref rpo, .ref rti, .ref rre, .ref rcl, .int (nI 0), .int (nI 0), .int (nI 0), .int (nI 0)]))]) (hS : va_S (fun q : Nat => s.heap.size ≤ q) s.heap H locs) (hl : lv_has ls 7 [(0, .ref b), (1, .ref ts), (2, .ref mo), (3, .ref ou), (4, .int (nI 0))]) : W p l e room_1 s m #[Value.ref b] below meth c H locs 106 155700 (lw_Z below #[Value.ref b] s) (F0 m 345 ls []) := by
  obtain ⟨hx, hb, hr, hml, hown, hts, hX, hbl, hlocks, hgv⟩ := id C0
  have hA : ∀ q : Nat, s.heap.size ≤ q → (fun q : Nat => s.heap.size ≤ q) q := fun _ h => h
  have hbA : ¬ (fun q : Nat => s.heap.size ≤ q) b := Nat.not_le.mpr hbl
  have htb : ∀ w ∈ TB, w.before #[Value.ref b] s = true := fun w hw => hts w (List.mem_filter.mp hw).1
  have Bd : bd p c code 7 s #[Value.ref b] TB "TileScreenLaw" m := ⟨hx, hb, hml, hown, htb⟩
  refine lv_aload_n hx hb d_Law_law_345 rfl (lv_at hl 1 rfl) ?_
  refine lv_aload_n hx hb d_Law_law_346 rfl (lv_at hl 0 rfl) ?_
  refine lv_iload hx hb d_Law_law_347 (lv_at hl 4 rfl) ?_
  refine lv_iconst (v := nI 1) hx hb d_Law_law_349 (by decide) ?_
  refine nv_iadd hx hb d_Law_law_350 ?_
  refine nv_top (y := nI 1) rfl ?_
  refine va_sld hx hb hX hbl hbA hS (vp_in_nI (show 1 < L by omega) (by omega)) d_Law_law_351 ?_
  refine nv_top (y := (xs 1)) ((congrArg xs (nI_clamp (by decide)))) ?_
  refine kV_i (wc := [(ts, .inr (8, [.ref dr, .ref cl, .ref cp, .ref vs, .int (nI 0)]))]) (wr := [(mo, .inr (9, [.int (nI 0), .ref rpx, .int (nI 0), .ref rca, .ref rpl, .ref rth, .ref rco, .ref rsh, .ref rsf, .ref rcr, .ref rep, .ref rby, .ref rli, .ref rls, .ref rla, .ref rcm, .ref rcs, .ref rpa, .ref rpm, .ref rpo, .ref rti, .ref rre, .ref rcl, .int (nI 0), .int (nI 0), .int (nI 0), .int (nI 0)]))]) (w2 := fun _ => [(ts, .inr (8, [.ref dr, .ref cl, .ref cp, .ref vs, .int (nI 0)])), (mo, .inr (9, [.int (nI 0), .ref rpx, .int (nI 0), .ref rca, .ref rpl, .ref rth, .ref rco, .ref rsh, .ref rsf, .ref rcr, .ref rep, .ref rby, .ref rli, .ref rls, .ref rla, .ref rcm, .ref rcs, .ref rpa, .ref rpm, .ref rpo, .ref rti, .ref rre, .ref rcl, .int (nI 0), .int (nI 0), .int (nI 0), .int (nI 0)]))]) [.int (xs 1)] [] Bd ⟨gi_app (gi_c0 k_318 (gi_c0 k_319 (gi_c0 k_320 (gi_c0 k_1 gi_nil)))) (gi_tb0 k_321), rfl, by decide, by decide⟩ (show (parseMethodDescriptor "(I)Z").map (fun d => d.parameters.length) = some 1 by decide +kernel) (c_Scr_cut_no ts dr cl cp vs 0 (xs 1) (hno)) (by decide +kernel) ⟨Nat.le_of_ble_eq_true rfl, Nat.le_of_ble_eq_true rfl⟩ hG hP hD hS hA [0] [1] [1, 0] (by decide) rfl rfl (fun _ => rfl) (q0 := 0) rfl rfl rfl hl.1 rfl (Nat.le_of_ble_eq_true rfl) d_Law_law_352 (fun r1 u3 H locs hp2 hP hD hS => ?_)
  have hP : va_P D classes [(ts, .inr (8, [.ref dr, .ref cl, .ref cp, .ref vs, .int (nI 0)])), (mo, .inr (9, [.int (nI 0), .ref rpx, .int (nI 0), .ref rca, .ref rpl, .ref rth, .ref rco, .ref rsh, .ref rsf, .ref rcr, .ref rep, .ref rby, .ref rli, .ref rls, .ref rla, .ref rcm, .ref rcs, .ref rpa, .ref rpm, .ref rpo, .ref rti, .ref rre, .ref rcl, .int (nI 0), .int (nI 0), .int (nI 0), .int (nI 0)]))] H := hP
  have hD : va_D (fun q : Nat => s.heap.size ≤ q) [(ts, .inr (8, [.ref dr, .ref cl, .ref cp, .ref vs, .int (nI 0)])), (mo, .inr (9, [.int (nI 0), .ref rpx, .int (nI 0), .ref rca, .ref rpl, .ref rth, .ref rco, .ref rsh, .ref rsf, .ref rcr, .ref rep, .ref rby, .ref rli, .ref rls, .ref rla, .ref rcm, .ref rcs, .ref rpa, .ref rpm, .ref rpo, .ref rti, .ref rre, .ref rcl, .int (nI 0), .int (nI 0), .int (nI 0), .int (nI 0)]))] := hD
  subst hp2
  refine lv_aload_n hx hb d_Law_law_355 rfl (lv_at hl 2 rfl) ?_
  refine lv_aload_n hx hb d_Law_law_356 rfl (lv_at hl 0 rfl) ?_
  refine lv_iload hx hb d_Law_law_357 (lv_at hl 4 rfl) ?_
  refine lv_iconst (v := nI 1) hx hb d_Law_law_359 (by decide) ?_
  refine nv_iadd hx hb d_Law_law_360 ?_
  refine nv_top (y := nI 1) rfl ?_
  refine va_sld hx hb hX hbl hbA hS (vp_in_nI (show 1 < L by omega) (by omega)) d_Law_law_361 ?_
  refine nv_top (y := (xs 1)) ((congrArg xs (nI_clamp (by decide)))) ?_
  refine kV_i (wc := [(mo, .inr (9, [.int (nI 0), .ref rpx, .int (nI 0), .ref rca, .ref rpl, .ref rth, .ref rco, .ref rsh, .ref rsf, .ref rcr, .ref rep, .ref rby, .ref rli, .ref rls, .ref rla, .ref rcm, .ref rcs, .ref rpa, .ref rpm, .ref rpo, .ref rti, .ref rre, .ref rcl, .int (nI 0), .int (nI 0), .int (nI 0), .int (nI 0)]))]) (wr := [(ts, .inr (8, [.ref dr, .ref cl, .ref cp, .ref vs, .int (nI 0)]))]) (w2 := fun _ => [(ts, .inr (8, [.ref dr, .ref cl, .ref cp, .ref vs, .int (nI 0)])), (mo, .inr (9, [.int (nI 0), .ref rpx, .int (nI 0), .ref rca, .ref rpl, .ref rth, .ref rco, .ref rsh, .ref rsf, .ref rcr, .ref rep, .ref rby, .ref rli, .ref rls, .ref rla, .ref rcm, .ref rcs, .ref rpa, .ref rpm, .ref rpo, .ref rti, .ref rre, .ref rcl, .int (nI 0), .int (nI 0), .int (nI 0), .int (nI 0)]))]) [.int (xs 1)] [.int (nI 0)] Bd ⟨gi_app (gi_c0 k_760 (gi_c0 k_761 (gi_c0 k_762 (gi_c0 k_10 gi_nil)))) (gi_tb0 k_763), rfl, by decide, by decide⟩ (show (parseMethodDescriptor "(I)Z").map (fun d => d.parameters.length) = some 1 by decide +kernel) (c_Mod_cut_no mo (nI 0) rpx (nI 0) rca rpl rth rco rsh rsf rcr rep rby rli rls rla rcm rcs rpa rpm rpo rti rre rcl 0 0 0 0 (xs 1) (hno)) (by decide +kernel) ⟨Nat.le_of_ble_eq_true rfl, Nat.le_of_ble_eq_true rfl⟩ hG hP hD hS hA [1] [0] [0, 1] (by decide) rfl rfl (fun _ => rfl) (q0 := 0) rfl rfl rfl hl.1 rfl (Nat.le_of_ble_eq_true rfl) d_Law_law_362 (fun r4 u6 H locs hp5 hP hD hS => ?_)
  have hP : va_P D classes [(ts, .inr (8, [.ref dr, .ref cl, .ref cp, .ref vs, .int (nI 0)])), (mo, .inr (9, [.int (nI 0), .ref rpx, .int (nI 0), .ref rca, .ref rpl, .ref rth, .ref rco, .ref rsh, .ref rsf, .ref rcr, .ref rep, .ref rby, .ref rli, .ref rls, .ref rla, .ref rcm, .ref rcs, .ref rpa, .ref rpm, .ref rpo, .ref rti, .ref rre, .ref rcl, .int (nI 0), .int (nI 0), .int (nI 0), .int (nI 0)]))] H := hP
  have hD : va_D (fun q : Nat => s.heap.size ≤ q) [(ts, .inr (8, [.ref dr, .ref cl, .ref cp, .ref vs, .int (nI 0)])), (mo, .inr (9, [.int (nI 0), .ref rpx, .int (nI 0), .ref rca, .ref rpl, .ref rth, .ref rco, .ref rsh, .ref rsf, .ref rcr, .ref rep, .ref rby, .ref rli, .ref rls, .ref rla, .ref rcm, .ref rcs, .ref rpa, .ref rpm, .ref rpo, .ref rti, .ref rre, .ref rcl, .int (nI 0), .int (nI 0), .int (nI 0), .int (nI 0)]))] := hD
  subst hp5
  refine nv_icmp_eq (tgt := 697) hx hb d_Law_law_365 (by decide) (by omega) (by omega) (fun _ => ?_) (fun h9 => absurd h9 (by decide))
  exact law_end hL C0 hS (lv_sub hl [0, 4] rfl)
end
