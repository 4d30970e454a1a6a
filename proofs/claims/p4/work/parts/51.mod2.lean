section
variable {l : Launch} {D : va_G} {cI cZ cL cV : ClassId}
set_option maxHeartbeats 400000 in
set_option maxRecDepth 100000 in
theorem c_Mod_frame (mo : Nat) (cd : Int32) (rpx : Nat) (nb : Int32) (rca : Nat) (rpl : Nat) (rth : Nat) (rco : Nat) (rsh : Nat) (rsf : Nat) (rcr : Nat) (rep : Nat) (rby : Nat) (rli : Nat) (rls : Nat) (rla : Nat) (rcm : Nat) (rcs : Nat) (rpa : Nat) (rpm : Nat) (rpo : Nat) (rti : Nat) (rre : Nat) (rcl : Nat) (sz : Nat) (cs : Nat) (nx : Nat) (la : Nat) (Px : Nat → Nat) (bPx : ∀ j, Px j < 65536) : CI (S := (Nat → Nat)) l classes NW D (TYS cI cZ cL cV) y_Mod_frame (.code y_Mod_frame b_Mod_frame 1 (some .int) :: TB) { frames := 1, cells := 0, slots := 0, locals := 23 } [.ref mo] [(mo, .inr (9, [.int cd, .ref rpx, .int nb, .ref rca, .ref rpl, .ref rth, .ref rco, .ref rsh, .ref rsf, .ref rcr, .ref rep, .ref rby, .ref rli, .ref rls, .ref rla, .ref rcm, .ref rcs, .ref rpa, .ref rpm, .ref rpo, .ref rti, .ref rre, .ref rcl, .int (nI sz), .int (nI cs), .int (nI nx), .int (nI la)])), (rpx, .inl (cI, 30720, .inl (nF Px)))] (fun r u => r = nb + (nI 1) ∧ (∀ j, u j < 65536)) (fun u => [(mo, .inr (9, [.int (nI 0), .ref rpx, .int (nb + (nI 1)), .ref rca, .ref rpl, .ref rth, .ref rco, .ref rsh, .ref rsf, .ref rcr, .ref rep, .ref rby, .ref rli, .ref rls, .ref rla, .ref rcm, .ref rcs, .ref rpa, .ref rpm, .ref rpo, .ref rti, .ref rre, .ref rcl, .int (nI sz), .int (nI cs), .int (nI nx), .int (nI la)])), (rpx, .inl (cI, 30720, .inl (nF u)))]) := by
  refine CI.of (by decide) (Nat.le_of_ble_eq_true rfl) ?_
  intro pr ev sT mM aR bW mE cO AA QQ ls Bd hG hA hP hD hS hl hret
  have Bd : bd pr cO b_Mod_frame 1 sT aR TB "TileScreenModel" mM := Bd
  obtain ⟨hx, hb, hml, hown, htb⟩ := id Bd
  have hl : lv_has ls 1 [(0, .ref mo)] := hl
  refine lv_aload_n hx hb d_Mod_frame_0 rfl (lv_at hl 0 rfl) ?_
  refine lv_iconst (v := nI 0) hx hb d_Mod_frame_1 (by decide) ?_
  refine va_put (D := D) (ci := 9) (v := .int (nI 0)) (ty := .int) (C := "TileScreenModel") (T := F_Mod) (N := 27) hx hb htb i_Mod t_Mod t_Mod_ok n_Mod hown hG.1 hP hD hS 0 rfl rfl 0 (by decide) (htb _ k_635) (fun _ h9 => h9) rfl (by decide +kernel) rfl rfl (Nat.le_of_ble_eq_true rfl) d_Mod_frame_2 (fun H locs hP hD hS => ?_)
  have hP : va_P D classes [(mo, .inr (9, [.int (nI 0), .ref rpx, .int nb, .ref rca, .ref rpl, .ref rth, .ref rco, .ref rsh, .ref rsf, .ref rcr, .ref rep, .ref rby, .ref rli, .ref rls, .ref rla, .ref rcm, .ref rcs, .ref rpa, .ref rpm, .ref rpo, .ref rti, .ref rre, .ref rcl, .int (nI sz), .int (nI cs), .int (nI nx), .int (nI la)])), (rpx, .inl (cI, 30720, .inl (nF Px)))] H := hP
  have hD : va_D AA [(mo, .inr (9, [.int (nI 0), .ref rpx, .int nb, .ref rca, .ref rpl, .ref rth, .ref rco, .ref rsh, .ref rsf, .ref rcr, .ref rep, .ref rby, .ref rli, .ref rls, .ref rla, .ref rcm, .ref rcs, .ref rpa, .ref rpm, .ref rpo, .ref rti, .ref rre, .ref rcl, .int (nI sz), .int (nI cs), .int (nI nx), .int (nI la)])), (rpx, .inl (cI, 30720, .inl (nF Px)))] := hD
  refine lv_aload_n hx hb d_Mod_frame_5 rfl (lv_at hl 0 rfl) ?_
  refine lv_iconst (v := nI 1) hx hb d_Mod_frame_6 (by decide) ?_
  refine lv_iconst (v := nI 0) hx hb d_Mod_frame_7 (by decide) ?_
  refine kV_v (wc := [(mo, .inr (9, [.int (nI 0), .ref rpx, .int nb, .ref rca, .ref rpl, .ref rth, .ref rco, .ref rsh, .ref rsf, .ref rcr, .ref rep, .ref rby, .ref rli, .ref rls, .ref rla, .ref rcm, .ref rcs, .ref rpa, .ref rpm, .ref rpo, .ref rti, .ref rre, .ref rcl, .int (nI sz), .int (nI cs), .int (nI nx), .int (nI la)])), (rpx, .inl (cI, 30720, .inl (nF Px)))]) (wr := []) (w2 := fun u => [(mo, .inr (9, [.int (nI 0), .ref rpx, .int nb, .ref rca, .ref rpl, .ref rth, .ref rco, .ref rsh, .ref rsf, .ref rcr, .ref rep, .ref rby, .ref rli, .ref rls, .ref rla, .ref rcm, .ref rcs, .ref rpa, .ref rpm, .ref rpo, .ref rti, .ref rre, .ref rcl, .int (nI sz), .int (nI cs), .int (nI nx), .int (nI la)])), (rpx, .inl (cI, 30720, .inl (nF u)))]) [.int (nI 1), .int (nI 0)] [] Bd ⟨gi_app (gi_c0 k_733 (gi_c0 k_735 (gi_c0 s_22 (gi_c0 k_10 gi_nil)))) (gi_tb0 k_736), rfl, by decide, by decide⟩ (show (parseMethodDescriptor "(II)V").map (fun d => d.parameters.length) = some 2 by decide +kernel) (c_Mod_become mo (nI 0) rpx nb rca rpl rth rco rsh rsf rcr rep rby rli rls rla rcm rcs rpa rpm rpo rti rre rcl sz cs nx la Px 1 0 (by omega) (by omega) (bPx)) (by decide +kernel) ⟨Nat.le_of_ble_eq_true rfl, Nat.le_of_ble_eq_true rfl⟩ hG hP hD hS hA [0, 1] [] [0, 1] (by decide) rfl rfl (fun _ => rfl) (q0 := 0) rfl rfl rfl hl.1 rfl (Nat.le_of_ble_eq_true rfl) d_Mod_frame_8 (fun u3 H locs hp2 hP hD hS => ?_)
  obtain ⟨u1, rfl⟩ : ∃ z9, z9 = u3 := ⟨_, rfl⟩
  try dsimp only at hp2
  have hP : va_P D classes [(mo, .inr (9, [.int (nI 0), .ref rpx, .int nb, .ref rca, .ref rpl, .ref rth, .ref rco, .ref rsh, .ref rsf, .ref rcr, .ref rep, .ref rby, .ref rli, .ref rls, .ref rla, .ref rcm, .ref rcs, .ref rpa, .ref rpm, .ref rpo, .ref rti, .ref rre, .ref rcl, .int (nI sz), .int (nI cs), .int (nI nx), .int (nI la)])), (rpx, .inl (cI, 30720, .inl (nF u1)))] H := hP
  have hD : va_D AA [(mo, .inr (9, [.int (nI 0), .ref rpx, .int nb, .ref rca, .ref rpl, .ref rth, .ref rco, .ref rsh, .ref rsf, .ref rcr, .ref rep, .ref rby, .ref rli, .ref rls, .ref rla, .ref rcm, .ref rcs, .ref rpa, .ref rpm, .ref rpo, .ref rti, .ref rre, .ref rcl, .int (nI sz), .int (nI cs), .int (nI nx), .int (nI la)])), (rpx, .inl (cI, 30720, .inl (nF u1)))] := hD
  refine lv_aload_n hx hb d_Mod_frame_11 rfl (lv_at hl 0 rfl) ?_
  refine lv_dup hx hb d_Mod_frame_12 rfl ?_
  refine va_get (D := D) (ci := 9) (v := .int nb) (C := "TileScreenModel") (T := F_Mod) (N := 27) hx hb htb i_Mod hown hG.1 hP 0 rfl rfl 2 (by decide) (htb _ k_637) (fun _ h9 => h9) rfl d_Mod_frame_13 ?_
  refine lv_iconst (v := nI 1) hx hb d_Mod_frame_16 (by decide) ?_
  refine lv_iadd hx hb d_Mod_frame_17 ?_
  refine va_put (D := D) (ci := 9) (v := .int (nb + (nI 1))) (ty := .int) (C := "TileScreenModel") (T := F_Mod) (N := 27) hx hb htb i_Mod t_Mod t_Mod_ok n_Mod hown hG.1 hP hD hS 0 rfl rfl 2 (by decide) (htb _ k_637) (fun _ h9 => h9) rfl (by decide +kernel) rfl rfl (Nat.le_of_ble_eq_true rfl) d_Mod_frame_18 (fun H locs hP hD hS => ?_)
  have hP : va_P D classes [(mo, .inr (9, [.int (nI 0), .ref rpx, .int (nb + (nI 1)), .ref rca, .ref rpl, .ref rth, .ref rco, .ref rsh, .ref rsf, .ref rcr, .ref rep, .ref rby, .ref rli, .ref rls, .ref rla, .ref rcm, .ref rcs, .ref rpa, .ref rpm, .ref rpo, .ref rti, .ref rre, .ref rcl, .int (nI sz), .int (nI cs), .int (nI nx), .int (nI la)])), (rpx, .inl (cI, 30720, .inl (nF u1)))] H := hP
  have hD : va_D AA [(mo, .inr (9, [.int (nI 0), .ref rpx, .int (nb + (nI 1)), .ref rca, .ref rpl, .ref rth, .ref rco, .ref rsh, .ref rsf, .ref rcr, .ref rep, .ref rby, .ref rli, .ref rls, .ref rla, .ref rcm, .ref rcs, .ref rpa, .ref rpm, .ref rpo, .ref rti, .ref rre, .ref rcl, .int (nI sz), .int (nI cs), .int (nI nx), .int (nI la)])), (rpx, .inl (cI, 30720, .inl (nF u1)))] := hD
  refine lv_aload_n hx hb d_Mod_frame_21 rfl (lv_at hl 0 rfl) ?_
  refine va_get (D := D) (ci := 9) (v := .int (nb + (nI 1))) (C := "TileScreenModel") (T := F_Mod) (N := 27) hx hb htb i_Mod hown hG.1 hP 0 rfl rfl 2 (by decide) (htb _ k_637) (fun _ h9 => h9) rfl d_Mod_frame_22 ?_
  exact hret _ u1 _ _ _ _ d_Mod_frame_25 rfl (⟨rfl, hp2⟩) hP hD hS
set_option maxHeartbeats 1600000 in
set_option maxRecDepth 100000 in
theorem c_Mod_blit (mo : Nat) (cd : Int32) (rpx : Nat) (nb : Int32) (rca : Nat) (rpl : Nat) (rth : Nat) (rco : Nat) (rsh : Nat) (rsf : Nat) (rcr : Nat) (rep : Nat) (rby : Nat) (rli : Nat) (rls : Nat) (rla : Nat) (rcm : Nat) (rcs : Nat) (rpa : Nat) (rpm : Nat) (rpo : Nat) (rti : Nat) (rre : Nat) (rcl : Nat) (sz : Nat) (cs : Nat) (nx : Nat) (la : Nat) (Px : Nat → Nat) (p9 : Nat) (s9 : Nat) (x : Nat) (y : Nat) (hp : p9 < 2 ^ 31) (hs1 : 1 ≤ s9) (hs2 : s9 < 2 ^ 31) (h2 : 1 ≤ ((s9 - 1) / 64)) (h3 : p9 % 64 + ((s9 - 1) % 64 + 1) ≤ 64) (h4 : p9 / 64 + ((s9 - 1) / 64) ≤ 48) (h5 : x + ((s9 - 1) % 64 + 1) ≤ 64) (h6 : y + ((s9 - 1) / 64) ≤ 48) (bPx : ∀ j, Px j < 65536) : CI (S := (Nat → Nat)) l classes NW D (TYS cI cZ cL cV) y_Mod_blit (.code y_Mod_blit b_Mod_blit 8 (some .boolean) :: TB) { frames := 1, cells := 0, slots := 0, locals := 23 } [.ref mo, .int (nI p9), .int (nI s9), .int (nI x), .int (nI y)] [(mo, .inr (9, [.int cd, .ref rpx, .int nb, .ref rca, .ref rpl, .ref rth, .ref rco, .ref rsh, .ref rsf, .ref rcr, .ref rep, .ref rby, .ref rli, .ref rls, .ref rla, .ref rcm, .ref rcs, .ref rpa, .ref rpm, .ref rpo, .ref rti, .ref rre, .ref rcl, .int (nI sz), .int (nI cs), .int (nI nx), .int (nI la)])), (rpx, .inl (cI, 30720, .inl (nF Px)))] (fun r u => r = nI 1 ∧ (∀ j, u j < 65536)) (fun u => [(mo, .inr (9, [.int (nI 0), .ref rpx, .int nb, .ref rca, .ref rpl, .ref rth, .ref rco, .ref rsh, .ref rsf, .ref rcr, .ref rep, .ref rby, .ref rli, .ref rls, .ref rla, .ref rcm, .ref rcs, .ref rpa, .ref rpm, .ref rpo, .ref rti, .ref rre, .ref rcl, .int (nI sz), .int (nI cs), .int (nI nx), .int (nI la)])), (rpx, .inl (cI, 30720, .inl (nF u)))]) := by
  refine CI.of (by decide) (Nat.le_of_ble_eq_true rfl) ?_
  intro pr ev sT mM aR bW mE cO AA QQ ls Bd hG hA hP hD hS hl hret
  have Bd : bd pr cO b_Mod_blit 8 sT aR TB "TileScreenModel" mM := Bd
  obtain ⟨hx, hb, hml, hown, htb⟩ := id Bd
  have hl : lv_has ls 8 [(0, .ref mo), (1, .int (nI p9)), (2, .int (nI s9)), (3, .int (nI x)), (4, .int (nI y))] := hl
  have hwh : ((s9 - 1) % 64 + 1) * ((s9 - 1) / 64) ≤ 3072 := Nat.mul_le_mul (show ((s9 - 1) % 64 + 1) ≤ 64 by omega) (show ((s9 - 1) / 64) ≤ 48 by omega)
  refine lv_aload_n hx hb d_Mod_blit_0 rfl (lv_at hl 0 rfl) ?_
  refine lv_iconst (v := nI 0) hx hb d_Mod_blit_1 (by decide) ?_
  refine va_put (D := D) (ci := 9) (v := .int (nI 0)) (ty := .int) (C := "TileScreenModel") (T := F_Mod) (N := 27) hx hb htb i_Mod t_Mod t_Mod_ok n_Mod hown hG.1 hP hD hS 0 rfl rfl 0 (by decide) (htb _ k_635) (fun _ h9 => h9) rfl (by decide +kernel) rfl rfl (Nat.le_of_ble_eq_true rfl) d_Mod_blit_2 (fun H locs hP hD hS => ?_)
  have hP : va_P D classes [(mo, .inr (9, [.int (nI 0), .ref rpx, .int nb, .ref rca, .ref rpl, .ref rth, .ref rco, .ref rsh, .ref rsf, .ref rcr, .ref rep, .ref rby, .ref rli, .ref rls, .ref rla, .ref rcm, .ref rcs, .ref rpa, .ref rpm, .ref rpo, .ref rti, .ref rre, .ref rcl, .int (nI sz), .int (nI cs), .int (nI nx), .int (nI la)])), (rpx, .inl (cI, 30720, .inl (nF Px)))] H := hP
  have hD : va_D AA [(mo, .inr (9, [.int (nI 0), .ref rpx, .int nb, .ref rca, .ref rpl, .ref rth, .ref rco, .ref rsh, .ref rsf, .ref rcr, .ref rep, .ref rby, .ref rli, .ref rls, .ref rla, .ref rcm, .ref rcs, .ref rpa, .ref rpm, .ref rpo, .ref rti, .ref rre, .ref rcl, .int (nI sz), .int (nI cs), .int (nI nx), .int (nI la)])), (rpx, .inl (cI, 30720, .inl (nF Px)))] := hD
  refine lv_iload_n hx hb d_Mod_blit_5 rfl (lv_at hl 1 rfl) ?_
  refine nv_if_ltF hx hb 15 d_Mod_blit_6 (by decide) (by omega) ?_
  refine lv_iload_n hx hb d_Mod_blit_9 rfl (lv_at hl 2 rfl) ?_
  refine lv_bipush (v := nI 65) hx hb d_Mod_blit_10 (by decide) ?_
  refine nv_icmp_ge (tgt := 17) hx hb d_Mod_blit_12 (by decide) (by omega) (by omega) (fun c_12 => ?_) (fun c_12 => ?_)
  · refine lv_iload_n hx hb d_Mod_blit_17 rfl (lv_at hl 2 rfl) ?_
    refine lv_iconst (v := nI 1) hx hb d_Mod_blit_18 (by decide) ?_
    refine nv_isub hx hb (by omega) d_Mod_blit_19 ?_
    refine lv_bipush (v := nI 64) hx hb d_Mod_blit_20 (by decide) ?_
    refine nv_irem hx hb (by omega) (by omega) (by omega) d_Mod_blit_22 ?_
    refine lv_iconst (v := nI 1) hx hb d_Mod_blit_23 (by decide) ?_
    refine nv_iadd hx hb d_Mod_blit_24 ?_
    refine lv_istore (lv' := [(5, .int (nI (((s9 - 1) % 64) + 1))), (0, .ref mo), (1, .int (nI p9)), (2, .int (nI s9)), (3, .int (nI x)), (4, .int (nI y))]) hx hb d_Mod_blit_25 hl (by decide) rfl (fun ls hl => ?_)
    refine lv_iload_n hx hb d_Mod_blit_27 rfl (lv_at hl 3 rfl) ?_
    refine lv_iload hx hb d_Mod_blit_28 (lv_at hl 0 rfl) ?_
    refine nv_isub hx hb (by omega) d_Mod_blit_30 ?_
    refine lv_bipush (v := nI 64) hx hb d_Mod_blit_31 (by decide) ?_
    refine nv_idiv hx hb (by omega) (by omega) (by omega) d_Mod_blit_33 ?_
    refine lv_istore (lv' := [(6, .int (nI ((s9 - (((s9 - 1) % 64) + 1)) / 64))), (5, .int (nI (((s9 - 1) % 64) + 1))), (0, .ref mo), (1, .int (nI p9)), (2, .int (nI s9)), (3, .int (nI x)), (4, .int (nI y))]) hx hb d_Mod_blit_34 hl (by decide) rfl (fun ls hl => ?_)
    rw [show (s9 - ((s9 - 1) % 64 + 1)) / 64 = ((s9 - 1) / 64) by omega] at hl
    refine lv_iload_n hx hb d_Mod_blit_36 rfl (lv_at hl 3 rfl) ?_
    refine lv_bipush (v := nI 64) hx hb d_Mod_blit_37 (by decide) ?_
    refine nv_irem hx hb (by omega) (by omega) (by omega) d_Mod_blit_39 ?_
    refine lv_iload_n hx hb d_Mod_blit_40 rfl (lv_at hl 3 rfl) ?_
    refine lv_bipush (v := nI 64) hx hb d_Mod_blit_41 (by decide) ?_
    refine nv_idiv hx hb (by omega) (by omega) (by omega) d_Mod_blit_43 ?_
    refine lv_iload hx hb d_Mod_blit_44 (lv_at hl 1 rfl) ?_
    refine lv_iload hx hb d_Mod_blit_46 (lv_at hl 0 rfl) ?_
    refine kS_i (wc := []) (wr := [(mo, .inr (9, [.int (nI 0), .ref rpx, .int nb, .ref rca, .ref rpl, .ref rth, .ref rco, .ref rsh, .ref rsf, .ref rcr, .ref rep, .ref rby, .ref rli, .ref rls, .ref rla, .ref rcm, .ref rcs, .ref rpa, .ref rpm, .ref rpo, .ref rti, .ref rre, .ref rcl, .int (nI sz), .int (nI cs), .int (nI nx), .int (nI la)])), (rpx, .inl (cI, 30720, .inl (nF Px)))]) (w2 := fun _ => [(mo, .inr (9, [.int (nI 0), .ref rpx, .int nb, .ref rca, .ref rpl, .ref rth, .ref rco, .ref rsh, .ref rsf, .ref rcr, .ref rep, .ref rby, .ref rli, .ref rls, .ref rla, .ref rcm, .ref rcs, .ref rpa, .ref rpm, .ref rpo, .ref rti, .ref rre, .ref rcl, .int (nI sz), .int (nI cs), .int (nI nx), .int (nI la)])), (rpx, .inl (cI, 30720, .inl (nF Px)))]) [.int (nI (p9 % 64)), .int (nI (p9 / 64)), .int (nI (((s9 - 1) % 64) + 1)), .int (nI ((s9 - 1) / 64))] [] Bd ⟨gi_app (gi_c0 k_722 (gi_c0 k_723 (gi_c0 k_10 gi_nil))) (gi_tb0 k_724), rfl, by decide, by decide⟩ (show (parseMethodDescriptor "(IIII)Z").map (fun d => d.parameters.length) = some 4 by decide +kernel) (c_Mod_isRect (nI (p9 % 64)) (nI (p9 / 64)) (nI (((s9 - 1) % 64) + 1)) (nI ((s9 - 1) / 64)) ) (by decide +kernel) ⟨Nat.le_of_ble_eq_true rfl, Nat.le_of_ble_eq_true rfl⟩ hG hP hD hS hA [] [0, 1] [0, 1] (by decide) rfl rfl (fun _ => rfl) hl.1 rfl (Nat.le_of_ble_eq_true rfl) d_Mod_blit_48 (fun r1 u3 H locs hp2 hP hD hS => ?_)
    have hP : va_P D classes [(mo, .inr (9, [.int (nI 0), .ref rpx, .int nb, .ref rca, .ref rpl, .ref rth, .ref rco, .ref rsh, .ref rsf, .ref rcr, .ref rep, .ref rby, .ref rli, .ref rls, .ref rla, .ref rcm, .ref rcs, .ref rpa, .ref rpm, .ref rpo, .ref rti, .ref rre, .ref rcl, .int (nI sz), .int (nI cs), .int (nI nx), .int (nI la)])), (rpx, .inl (cI, 30720, .inl (nF Px)))] H := hP
    have hD : va_D AA [(mo, .inr (9, [.int (nI 0), .ref rpx, .int nb, .ref rca, .ref rpl, .ref rth, .ref rco, .ref rsh, .ref rsf, .ref rcr, .ref rep, .ref rby, .ref rli, .ref rls, .ref rla, .ref rcm, .ref rcs, .ref rpa, .ref rpm, .ref rpo, .ref rti, .ref rre, .ref rcl, .int (nI sz), .int (nI cs), .int (nI nx), .int (nI la)])), (rpx, .inl (cI, 30720, .inl (nF Px)))] := hD
    subst hp2
    refine nv_if_eq (tgt := 67) hx hb d_Mod_blit_51 (by decide) (bt_lt _) (fun c_51 => ?_) (fun c_51 => ?_)
    · exact absurd ⟨_, _, _, _, rfl, rfl, rfl, rfl, by omega, h2, h3, h4⟩ (cB_0 c_51)
    · refine lv_iload_n hx hb d_Mod_blit_54 rfl (lv_at hl 5 rfl) ?_
      refine lv_iload hx hb d_Mod_blit_55 (lv_at hl 6 rfl) ?_
      refine lv_iload hx hb d_Mod_blit_57 (lv_at hl 1 rfl) ?_
      refine lv_iload hx hb d_Mod_blit_59 (lv_at hl 0 rfl) ?_
      refine kS_i (wc := []) (wr := [(mo, .inr (9, [.int (nI 0), .ref rpx, .int nb, .ref rca, .ref rpl, .ref rth, .ref rco, .ref rsh, .ref rsf, .ref rcr, .ref rep, .ref rby, .ref rli, .ref rls, .ref rla, .ref rcm, .ref rcs, .ref rpa, .ref rpm, .ref rpo, .ref rti, .ref rre, .ref rcl, .int (nI sz), .int (nI cs), .int (nI nx), .int (nI la)])), (rpx, .inl (cI, 30720, .inl (nF Px)))]) (w2 := fun _ => [(mo, .inr (9, [.int (nI 0), .ref rpx, .int nb, .ref rca, .ref rpl, .ref rth, .ref rco, .ref rsh, .ref rsf, .ref rcr, .ref rep, .ref rby, .ref rli, .ref rls, .ref rla, .ref rcm, .ref rcs, .ref rpa, .ref rpm, .ref rpo, .ref rti, .ref rre, .ref rcl, .int (nI sz), .int (nI cs), .int (nI nx), .int (nI la)])), (rpx, .inl (cI, 30720, .inl (nF Px)))]) [.int (nI x), .int (nI y), .int (nI (((s9 - 1) % 64) + 1)), .int (nI ((s9 - 1) / 64))] [] Bd ⟨gi_app (gi_c0 k_722 (gi_c0 k_723 (gi_c0 k_10 gi_nil))) (gi_tb0 k_724), rfl, by decide, by decide⟩ (show (parseMethodDescriptor "(IIII)Z").map (fun d => d.parameters.length) = some 4 by decide +kernel) (c_Mod_isRect (nI x) (nI y) (nI (((s9 - 1) % 64) + 1)) (nI ((s9 - 1) / 64)) ) (by decide +kernel) ⟨Nat.le_of_ble_eq_true rfl, Nat.le_of_ble_eq_true rfl⟩ hG hP hD hS hA [] [0, 1] [0, 1] (by decide) rfl rfl (fun _ => rfl) hl.1 rfl (Nat.le_of_ble_eq_true rfl) d_Mod_blit_61 (fun r4 u6 H locs hp5 hP hD hS => ?_)
      have hP : va_P D classes [(mo, .inr (9, [.int (nI 0), .ref rpx, .int nb, .ref rca, .ref rpl, .ref rth, .ref rco, .ref rsh, .ref rsf, .ref rcr, .ref rep, .ref rby, .ref rli, .ref rls, .ref rla, .ref rcm, .ref rcs, .ref rpa, .ref rpm, .ref rpo, .ref rti, .ref rre, .ref rcl, .int (nI sz), .int (nI cs), .int (nI nx), .int (nI la)])), (rpx, .inl (cI, 30720, .inl (nF Px)))] H := hP
      have hD : va_D AA [(mo, .inr (9, [.int (nI 0), .ref rpx, .int nb, .ref rca, .ref rpl, .ref rth, .ref rco, .ref rsh, .ref rsf, .ref rcr, .ref rep, .ref rby, .ref rli, .ref rls, .ref rla, .ref rcm, .ref rcs, .ref rpa, .ref rpm, .ref rpo, .ref rti, .ref rre, .ref rcl, .int (nI sz), .int (nI cs), .int (nI nx), .int (nI la)])), (rpx, .inl (cI, 30720, .inl (nF Px)))] := hD
      subst hp5
      refine nv_if_ne (tgt := 69) hx hb d_Mod_blit_64 (by decide) (bt_lt _) (fun c_64 => ?_) (fun c_64 => ?_)
      · refine lv_aload_n hx hb d_Mod_blit_69 rfl (lv_at hl 2 rfl) ?_
        refine lv_bipush (v := nI 8) hx hb d_Mod_blit_70 (by decide) ?_
        refine lv_iconst (v := nI 0) hx hb d_Mod_blit_72 (by decide) ?_
        refine kV_v (wc := [(mo, .inr (9, [.int (nI 0), .ref rpx, .int nb, .ref rca, .ref rpl, .ref rth, .ref rco, .ref rsh, .ref rsf, .ref rcr, .ref rep, .ref rby, .ref rli, .ref rls, .ref rla, .ref rcm, .ref rcs, .ref rpa, .ref rpm, .ref rpo, .ref rti, .ref rre, .ref rcl, .int (nI sz), .int (nI cs), .int (nI nx), .int (nI la)])), (rpx, .inl (cI, 30720, .inl (nF Px)))]) (wr := []) (w2 := fun u => [(mo, .inr (9, [.int (nI 0), .ref rpx, .int nb, .ref rca, .ref rpl, .ref rth, .ref rco, .ref rsh, .ref rsf, .ref rcr, .ref rep, .ref rby, .ref rli, .ref rls, .ref rla, .ref rcm, .ref rcs, .ref rpa, .ref rpm, .ref rpo, .ref rti, .ref rre, .ref rcl, .int (nI sz), .int (nI cs), .int (nI nx), .int (nI la)])), (rpx, .inl (cI, 30720, .inl (nF u)))]) [.int (nI 8), .int (nI 0)] [] Bd ⟨gi_app (gi_c0 k_733 (gi_c0 k_735 (gi_c0 s_22 (gi_c0 k_10 gi_nil)))) (gi_tb0 k_736), rfl, by decide, by decide⟩ (show (parseMethodDescriptor "(II)V").map (fun d => d.parameters.length) = some 2 by decide +kernel) (c_Mod_become mo (nI 0) rpx nb rca rpl rth rco rsh rsf rcr rep rby rli rls rla rcm rcs rpa rpm rpo rti rre rcl sz cs nx la Px 8 0 (by decide) (by decide) (bPx)) (by decide +kernel) ⟨Nat.le_of_ble_eq_true rfl, Nat.le_of_ble_eq_true rfl⟩ hG hP hD hS hA [0, 1] [] [0, 1] (by decide) rfl rfl (fun _ => rfl) (q0 := 0) rfl rfl rfl hl.1 rfl (Nat.le_of_ble_eq_true rfl) d_Mod_blit_73 (fun u9 H locs hp8 hP hD hS => ?_)
        obtain ⟨u7, rfl⟩ : ∃ z9, z9 = u9 := ⟨_, rfl⟩
        try dsimp only at hp8
        have hP : va_P D classes [(mo, .inr (9, [.int (nI 0), .ref rpx, .int nb, .ref rca, .ref rpl, .ref rth, .ref rco, .ref rsh, .ref rsf, .ref rcr, .ref rep, .ref rby, .ref rli, .ref rls, .ref rla, .ref rcm, .ref rcs, .ref rpa, .ref rpm, .ref rpo, .ref rti, .ref rre, .ref rcl, .int (nI sz), .int (nI cs), .int (nI nx), .int (nI la)])), (rpx, .inl (cI, 30720, .inl (nF u7)))] H := hP
        have hD : va_D AA [(mo, .inr (9, [.int (nI 0), .ref rpx, .int nb, .ref rca, .ref rpl, .ref rth, .ref rco, .ref rsh, .ref rsf, .ref rcr, .ref rep, .ref rby, .ref rli, .ref rls, .ref rla, .ref rcm, .ref rcs, .ref rpa, .ref rpm, .ref rpo, .ref rti, .ref rre, .ref rcl, .int (nI sz), .int (nI cs), .int (nI nx), .int (nI la)])), (rpx, .inl (cI, 30720, .inl (nF u7)))] := hD
        refine lv_iconst (v := nI 0) hx hb d_Mod_blit_76 (by decide) ?_
        refine lv_istore (lv' := [(7, .int (nI 0)), (6, .int (nI ((s9 - 1) / 64))), (5, .int (nI (((s9 - 1) % 64) + 1))), (0, .ref mo), (1, .int (nI p9)), (2, .int (nI s9)), (3, .int (nI x)), (4, .int (nI y))]) hx hb d_Mod_blit_77 hl (by decide) rfl (fun ls hl => ?_)
        have lp_79 : ∀ (nn : Nat) (q : Nat) (Px1 : Nat → Nat) (hq : q ≤ ((s9 - 1) % 64 + 1) * ((s9 - 1) / 64)) (bP1 : ∀ j, Px1 j < 65536), ((s9 - 1) % 64 + 1) * ((s9 - 1) / 64) - q < nn → ∀ (H : Heap) (locs : List Loc) (ls : Array Slot), va_P D classes [(mo, .inr (9, [.int (nI 0), .ref rpx, .int nb, .ref rca, .ref rpl, .ref rth, .ref rco, .ref rsh, .ref rsf, .ref rcr, .ref rep, .ref rby, .ref rli, .ref rls, .ref rla, .ref rcm, .ref rcs, .ref rpa, .ref rpm, .ref rpo, .ref rti, .ref rre, .ref rcl, .int (nI sz), .int (nI cs), .int (nI nx), .int (nI la)])), (rpx, .inl (cI, 30720, .inl (nF Px1)))] H → va_D AA [(mo, .inr (9, [.int (nI 0), .ref rpx, .int nb, .ref rca, .ref rpl, .ref rth, .ref rco, .ref rsh, .ref rsf, .ref rcr, .ref rep, .ref rby, .ref rli, .ref rls, .ref rla, .ref rcm, .ref rcs, .ref rpa, .ref rpm, .ref rpo, .ref rti, .ref rre, .ref rcl, .int (nI sz), .int (nI cs), .int (nI nx), .int (nI la)])), (rpx, .inl (cI, 30720, .inl (nF Px1)))] → va_S AA sT.heap H locs → lv_has ls 8 [(7, .int (nI q)), (6, .int (nI ((s9 - 1) / 64))), (5, .int (nI (((s9 - 1) % 64) + 1))), (0, .ref mo), (1, .int (nI p9)), (2, .int (nI s9)), (3, .int (nI x)), (4, .int (nI y))] → W pr l ev ({ frames := 1, cells := 0, slots := 0, locals := 23 } : Room) sT mM aR bW mE cO H locs 0 0 QQ (F0 mM 79 ls []) := by
          intro nn
          induction nn with
          | zero => intro q Px1 hq bP1 hm; exact absurd hm (Nat.not_lt_zero _)
          | succ nn ih79 =>
            intro q Px1 hq bP1 hm H locs ls hP hD hS hl
            refine lv_iload hx hb d_Mod_blit_79 (lv_at hl 0 rfl) ?_
            refine lv_iload hx hb d_Mod_blit_81 (lv_at hl 2 rfl) ?_
            refine lv_iload hx hb d_Mod_blit_83 (lv_at hl 1 rfl) ?_
            refine nv_imul hx hb d_Mod_blit_85 ?_
            refine nv_icmp_ge (tgt := 144) hx hb d_Mod_blit_86 (by decide) (by omega) (by omega) (fun c_86 => ?_) (fun c_86 => ?_)
            · refine lv_iconst (v := nI 1) hx hb d_Mod_blit_144 (by decide) ?_
              exact hret _ Px1 _ _ _ _ d_Mod_blit_145 (by rfl) (⟨rfl, bP1⟩) hP hD hS
            · have hd : q / ((s9 - 1) % 64 + 1) < ((s9 - 1) / 64) := Nat.div_lt_of_lt_mul c_86
              have hm : q % ((s9 - 1) % 64 + 1) < ((s9 - 1) % 64 + 1) := Nat.mod_lt _ (by omega)
              refine lv_aload_n hx hb d_Mod_blit_89 rfl (lv_at hl 3 rfl) ?_
              refine va_get (D := D) (ci := 9) (v := .ref rpx) (C := "TileScreenModel") (T := F_Mod) (N := 27) hx hb htb i_Mod hown hG.1 hP 0 rfl rfl 1 (by decide) (htb _ k_636) (fun _ h9 => h9) rfl d_Mod_blit_90 ?_
              refine lv_bipush (v := nI 64) hx hb d_Mod_blit_93 (by decide) ?_
              refine lv_iload hx hb d_Mod_blit_95 (lv_at hl 7 rfl) ?_
              refine lv_iload hx hb d_Mod_blit_97 (lv_at hl 0 rfl) ?_
              refine lv_iload hx hb d_Mod_blit_99 (lv_at hl 2 rfl) ?_
              refine nv_idiv hx hb (by omega) (by omega) (by omega) d_Mod_blit_101 ?_
              refine nv_iadd hx hb d_Mod_blit_102 ?_
              refine nv_imul hx hb d_Mod_blit_103 ?_
              refine lv_iload_n hx hb d_Mod_blit_104 rfl (lv_at hl 6 rfl) ?_
              refine nv_iadd hx hb d_Mod_blit_105 ?_
              refine lv_iload hx hb d_Mod_blit_106 (lv_at hl 0 rfl) ?_
              refine lv_iload hx hb d_Mod_blit_108 (lv_at hl 2 rfl) ?_
              refine nv_irem hx hb (by omega) (by omega) (by omega) d_Mod_blit_110 ?_
              refine nv_iadd hx hb d_Mod_blit_111 ?_
              refine lv_aload_n hx hb d_Mod_blit_112 rfl (lv_at hl 3 rfl) ?_
              refine va_get (D := D) (ci := 9) (v := .ref rpx) (C := "TileScreenModel") (T := F_Mod) (N := 27) hx hb htb i_Mod hown hG.1 hP 0 rfl rfl 1 (by decide) (htb _ k_636) (fun _ h9 => h9) rfl d_Mod_blit_113 ?_
              refine lv_sipush (v := nI 24576) hx hb d_Mod_blit_116 (by decide) ?_
              refine lv_iload_n hx hb d_Mod_blit_119 rfl (lv_at hl 4 rfl) ?_
              refine nv_iadd hx hb d_Mod_blit_120 ?_
              refine lv_bipush (v := nI 64) hx hb d_Mod_blit_121 (by decide) ?_
              refine lv_iload hx hb d_Mod_blit_123 (lv_at hl 0 rfl) ?_
              refine lv_iload hx hb d_Mod_blit_125 (lv_at hl 2 rfl) ?_
              refine nv_idiv hx hb (by omega) (by omega) (by omega) d_Mod_blit_127 ?_
              refine nv_imul hx hb d_Mod_blit_128 ?_
              refine nv_iadd hx hb d_Mod_blit_129 ?_
              refine lv_iload hx hb d_Mod_blit_130 (lv_at hl 0 rfl) ?_
              refine lv_iload hx hb d_Mod_blit_132 (lv_at hl 2 rfl) ?_
              refine nv_irem hx hb (by omega) (by omega) (by omega) d_Mod_blit_134 ?_
              refine nv_iadd hx hb d_Mod_blit_135 ?_
              refine nv_iald hx hb hG.1 hP 1 0 rfl rfl (by omega) (by omega) d_Mod_blit_136 ?_
              refine nv_iast hx hb hG.1 hP hD hS 1 0 rfl rfl (by omega) (by omega) d_Mod_blit_137 (fun H locs hP hD hS => ?_)
              have hP : va_P D classes [(mo, .inr (9, [.int (nI 0), .ref rpx, .int nb, .ref rca, .ref rpl, .ref rth, .ref rco, .ref rsh, .ref rsf, .ref rcr, .ref rep, .ref rby, .ref rli, .ref rls, .ref rla, .ref rcm, .ref rcs, .ref rpa, .ref rpm, .ref rpo, .ref rti, .ref rre, .ref rcl, .int (nI sz), .int (nI cs), .int (nI nx), .int (nI la)])), (rpx, .inl (cI, 30720, .inl (nF (up Px1 (((64 * (y + (q / (((s9 - 1) % 64) + 1)))) + x) + (q % (((s9 - 1) % 64) + 1))) (Px1 ((24576 + p9 + (64 * (q / (((s9 - 1) % 64) + 1)))) + (q % (((s9 - 1) % 64) + 1))))))))] H := hP
              have hD : va_D AA [(mo, .inr (9, [.int (nI 0), .ref rpx, .int nb, .ref rca, .ref rpl, .ref rth, .ref rco, .ref rsh, .ref rsf, .ref rcr, .ref rep, .ref rby, .ref rli, .ref rls, .ref rla, .ref rcm, .ref rcs, .ref rpa, .ref rpm, .ref rpo, .ref rti, .ref rre, .ref rcl, .int (nI sz), .int (nI cs), .int (nI nx), .int (nI la)])), (rpx, .inl (cI, 30720, .inl (nF (up Px1 (((64 * (y + (q / (((s9 - 1) % 64) + 1)))) + x) + (q % (((s9 - 1) % 64) + 1))) (Px1 ((24576 + p9 + (64 * (q / (((s9 - 1) % 64) + 1)))) + (q % (((s9 - 1) % 64) + 1))))))))] := hD
              refine lv_iinc (v := (nI (q + 1))) (lv' := [(7, .int (nI (q + 1))), (6, .int (nI ((s9 - 1) / 64))), (5, .int (nI (((s9 - 1) % 64) + 1))), (0, .ref mo), (1, .int (nI p9)), (2, .int (nI s9)), (3, .int (nI x)), (4, .int (nI y))]) hx hb d_Mod_blit_138 hl (k := 0) rfl (nI_add q 1) (by decide) rfl (fun ls hl => ?_)
              refine lv_goto (tgt := 79) hx hb d_Mod_blit_141 (by decide) ?_
              exact ih79 (q + 1) (up Px1 (((64 * (y + (q / (((s9 - 1) % 64) + 1)))) + x) + (q % (((s9 - 1) % 64) + 1))) (Px1 ((24576 + p9 + (64 * (q / (((s9 - 1) % 64) + 1)))) + (q % (((s9 - 1) % 64) + 1))))) (by omega) (up_lt bP1 (bP1 _)) (by omega) _ _ _ hP hD hS (lv_sub hl [0, 1, 2, 3, 4, 5, 6, 7] rfl)
        exact lp_79 _ 0 u7 (Nat.zero_le _) (hp8) (Nat.lt_succ_self _) _ _ _ hP hD hS (lv_sub hl [0, 1, 2, 3, 4, 5, 6, 7] rfl)
      · exact absurd ⟨x, y, _, _, rfl, rfl, rfl, rfl, by omega, h2, h5, h6⟩ (cB_0 c_64)
  · omega
set_option maxHeartbeats 400000 in
set_option maxRecDepth 100000 in
theorem c_Mod_blit_no (mo : Nat) (cd : Int32) (rpx : Nat) (nb : Int32) (rca : Nat) (rpl : Nat) (rth : Nat) (rco : Nat) (rsh : Nat) (rsf : Nat) (rcr : Nat) (rep : Nat) (rby : Nat) (rli : Nat) (rls : Nat) (rla : Nat) (rcm : Nat) (rcs : Nat) (rpa : Nat) (rpm : Nat) (rpo : Nat) (rti : Nat) (rre : Nat) (rcl : Nat) (sz : Nat) (cs : Nat) (nx : Nat) (la : Nat) (pl9 : Int32) (sz9 : Int32) (x : Int32) (y : Int32) (hno : ¬ blP pl9 sz9 x y) : CI (S := Unit) l classes NW D (TYS cI cZ cL cV) y_Mod_blit (.code y_Mod_blit b_Mod_blit 8 (some .boolean) :: TB) { frames := 1, cells := 0, slots := 0, locals := 23 } [.ref mo, .int pl9, .int sz9, .int x, .int y] [(mo, .inr (9, [.int cd, .ref rpx, .int nb, .ref rca, .ref rpl, .ref rth, .ref rco, .ref rsh, .ref rsf, .ref rcr, .ref rep, .ref rby, .ref rli, .ref rls, .ref rla, .ref rcm, .ref rcs, .ref rpa, .ref rpm, .ref rpo, .ref rti, .ref rre, .ref rcl, .int (nI sz), .int (nI cs), .int (nI nx), .int (nI la)]))] (fun r u => r = nI 0) (fun u => [(mo, .inr (9, [.int (nI 0), .ref rpx, .int nb, .ref rca, .ref rpl, .ref rth, .ref rco, .ref rsh, .ref rsf, .ref rcr, .ref rep, .ref rby, .ref rli, .ref rls, .ref rla, .ref rcm, .ref rcs, .ref rpa, .ref rpm, .ref rpo, .ref rti, .ref rre, .ref rcl, .int (nI sz), .int (nI cs), .int (nI nx), .int (nI la)]))]) := by
  refine CI.of (by decide) (Nat.le_of_ble_eq_true rfl) ?_
  intro pr ev sT mM aR bW mE cO AA QQ ls Bd hG hA hP hD hS hl hret
  have Bd : bd pr cO b_Mod_blit 8 sT aR TB "TileScreenModel" mM := Bd
  obtain ⟨hx, hb, hml, hown, htb⟩ := id Bd
  have hl : lv_has ls 8 [(0, .ref mo), (1, .int pl9), (2, .int sz9), (3, .int x), (4, .int y)] := hl
  refine lv_aload_n hx hb d_Mod_blit_0 rfl (lv_at hl 0 rfl) ?_
  refine lv_iconst (v := nI 0) hx hb d_Mod_blit_1 (by decide) ?_
  refine va_put (D := D) (ci := 9) (v := .int (nI 0)) (ty := .int) (C := "TileScreenModel") (T := F_Mod) (N := 27) hx hb htb i_Mod t_Mod t_Mod_ok n_Mod hown hG.1 hP hD hS 0 rfl rfl 0 (by decide) (htb _ k_635) (fun _ h9 => h9) rfl (by decide +kernel) rfl rfl (Nat.le_of_ble_eq_true rfl) d_Mod_blit_2 (fun H locs hP hD hS => ?_)
  have hP : va_P D classes [(mo, .inr (9, [.int (nI 0), .ref rpx, .int nb, .ref rca, .ref rpl, .ref rth, .ref rco, .ref rsh, .ref rsf, .ref rcr, .ref rep, .ref rby, .ref rli, .ref rls, .ref rla, .ref rcm, .ref rcs, .ref rpa, .ref rpm, .ref rpo, .ref rti, .ref rre, .ref rcl, .int (nI sz), .int (nI cs), .int (nI nx), .int (nI la)]))] H := hP
  have hD : va_D AA [(mo, .inr (9, [.int (nI 0), .ref rpx, .int nb, .ref rca, .ref rpl, .ref rth, .ref rco, .ref rsh, .ref rsf, .ref rcr, .ref rep, .ref rby, .ref rli, .ref rls, .ref rla, .ref rcm, .ref rcs, .ref rpa, .ref rpm, .ref rpo, .ref rti, .ref rre, .ref rcl, .int (nI sz), .int (nI cs), .int (nI nx), .int (nI la)]))] := hD
  refine lv_iload_n hx hb d_Mod_blit_5 rfl (lv_at hl 1 rfl) ?_
  refine lv_if_lt (tgt := 15) hx hb d_Mod_blit_6 (by decide) (fun c_6 => ?_) (fun c_6 => ?_)
  · refine lv_iconst (v := nI 0) hx hb d_Mod_blit_15 (by decide) ?_
    exact hret _ () _ _ _ _ d_Mod_blit_16 (by first | rfl | decide) (rfl) hP hD hS
  · refine lv_iload_n hx hb d_Mod_blit_9 rfl (lv_at hl 2 rfl) ?_
    refine lv_bipush (v := nI 65) hx hb d_Mod_blit_10 (by decide) ?_
    refine lv_icmp_ge (tgt := 17) hx hb d_Mod_blit_12 (by decide) (fun c_12 => ?_) (fun c_12 => ?_)
    · obtain ⟨p9, hp, rfl⟩ := nI_of c_6
      obtain ⟨s9, hs2, rfl⟩ := nI_of (fun q => absurd (Int32.lt_of_lt_of_le q (by decide)) (fun z => absurd c_12 (Int32.not_le.mpr z)) : ¬ sz9 < 0)
      have hs1 : 65 ≤ s9 := nle (by decide) hs2 c_12
      refine lv_iload_n hx hb d_Mod_blit_17 rfl (lv_at hl 2 rfl) ?_
      refine lv_iconst (v := nI 1) hx hb d_Mod_blit_18 (by decide) ?_
      refine nv_isub hx hb (by omega) d_Mod_blit_19 ?_
      refine lv_bipush (v := nI 64) hx hb d_Mod_blit_20 (by decide) ?_
      refine nv_irem hx hb (by omega) (by omega) (by omega) d_Mod_blit_22 ?_
      refine lv_iconst (v := nI 1) hx hb d_Mod_blit_23 (by decide) ?_
      refine nv_iadd hx hb d_Mod_blit_24 ?_
      refine lv_istore (lv' := [(5, .int (nI (((s9 - 1) % 64) + 1))), (0, .ref mo), (1, .int (nI p9)), (2, .int (nI s9)), (3, .int x), (4, .int y)]) hx hb d_Mod_blit_25 hl (by decide) rfl (fun ls hl => ?_)
      refine lv_iload_n hx hb d_Mod_blit_27 rfl (lv_at hl 3 rfl) ?_
      refine lv_iload hx hb d_Mod_blit_28 (lv_at hl 0 rfl) ?_
      refine nv_isub hx hb (by omega) d_Mod_blit_30 ?_
      refine lv_bipush (v := nI 64) hx hb d_Mod_blit_31 (by decide) ?_
      refine nv_idiv hx hb (by omega) (by omega) (by omega) d_Mod_blit_33 ?_
      refine lv_istore (lv' := [(6, .int (nI ((s9 - (((s9 - 1) % 64) + 1)) / 64))), (5, .int (nI (((s9 - 1) % 64) + 1))), (0, .ref mo), (1, .int (nI p9)), (2, .int (nI s9)), (3, .int x), (4, .int y)]) hx hb d_Mod_blit_34 hl (by decide) rfl (fun ls hl => ?_)
      rw [show (s9 - ((s9 - 1) % 64 + 1)) / 64 = ((s9 - 1) / 64) by omega] at hl
      refine lv_iload_n hx hb d_Mod_blit_36 rfl (lv_at hl 3 rfl) ?_
      refine lv_bipush (v := nI 64) hx hb d_Mod_blit_37 (by decide) ?_
      refine nv_irem hx hb (by omega) (by omega) (by omega) d_Mod_blit_39 ?_
      refine lv_iload_n hx hb d_Mod_blit_40 rfl (lv_at hl 3 rfl) ?_
      refine lv_bipush (v := nI 64) hx hb d_Mod_blit_41 (by decide) ?_
      refine nv_idiv hx hb (by omega) (by omega) (by omega) d_Mod_blit_43 ?_
      refine lv_iload hx hb d_Mod_blit_44 (lv_at hl 1 rfl) ?_
      refine lv_iload hx hb d_Mod_blit_46 (lv_at hl 0 rfl) ?_
      refine kS_i (wc := []) (wr := [(mo, .inr (9, [.int (nI 0), .ref rpx, .int nb, .ref rca, .ref rpl, .ref rth, .ref rco, .ref rsh, .ref rsf, .ref rcr, .ref rep, .ref rby, .ref rli, .ref rls, .ref rla, .ref rcm, .ref rcs, .ref rpa, .ref rpm, .ref rpo, .ref rti, .ref rre, .ref rcl, .int (nI sz), .int (nI cs), .int (nI nx), .int (nI la)]))]) (w2 := fun _ => [(mo, .inr (9, [.int (nI 0), .ref rpx, .int nb, .ref rca, .ref rpl, .ref rth, .ref rco, .ref rsh, .ref rsf, .ref rcr, .ref rep, .ref rby, .ref rli, .ref rls, .ref rla, .ref rcm, .ref rcs, .ref rpa, .ref rpm, .ref rpo, .ref rti, .ref rre, .ref rcl, .int (nI sz), .int (nI cs), .int (nI nx), .int (nI la)]))]) [.int (nI (p9 % 64)), .int (nI (p9 / 64)), .int (nI (((s9 - 1) % 64) + 1)), .int (nI ((s9 - 1) / 64))] [] Bd ⟨gi_app (gi_c0 k_722 (gi_c0 k_723 (gi_c0 k_10 gi_nil))) (gi_tb0 k_724), rfl, by decide, by decide⟩ (show (parseMethodDescriptor "(IIII)Z").map (fun d => d.parameters.length) = some 4 by decide +kernel) (c_Mod_isRect (nI (p9 % 64)) (nI (p9 / 64)) (nI (((s9 - 1) % 64) + 1)) (nI ((s9 - 1) / 64)) ) (by decide +kernel) ⟨Nat.le_of_ble_eq_true rfl, Nat.le_of_ble_eq_true rfl⟩ hG hP hD hS hA [] [0] [0] (by decide) rfl rfl (fun _ => rfl) hl.1 rfl (Nat.le_of_ble_eq_true rfl) d_Mod_blit_48 (fun r1 u3 H locs hp2 hP hD hS => ?_)
      have hP : va_P D classes [(mo, .inr (9, [.int (nI 0), .ref rpx, .int nb, .ref rca, .ref rpl, .ref rth, .ref rco, .ref rsh, .ref rsf, .ref rcr, .ref rep, .ref rby, .ref rli, .ref rls, .ref rla, .ref rcm, .ref rcs, .ref rpa, .ref rpm, .ref rpo, .ref rti, .ref rre, .ref rcl, .int (nI sz), .int (nI cs), .int (nI nx), .int (nI la)]))] H := hP
      have hD : va_D AA [(mo, .inr (9, [.int (nI 0), .ref rpx, .int nb, .ref rca, .ref rpl, .ref rth, .ref rco, .ref rsh, .ref rsf, .ref rcr, .ref rep, .ref rby, .ref rli, .ref rls, .ref rla, .ref rcm, .ref rcs, .ref rpa, .ref rpm, .ref rpo, .ref rti, .ref rre, .ref rcl, .int (nI sz), .int (nI cs), .int (nI nx), .int (nI la)]))] := hD
      subst hp2
      refine nv_if_eq (tgt := 67) hx hb d_Mod_blit_51 (by decide) (bt_lt _) (fun c_51 => ?_) (fun c_51 => ?_)
      · refine lv_iconst (v := nI 0) hx hb d_Mod_blit_67 (by decide) ?_
        exact hret _ () _ _ _ _ d_Mod_blit_68 (by first | rfl | decide) (rfl) hP hD hS
      · refine lv_iload_n hx hb d_Mod_blit_54 rfl (lv_at hl 5 rfl) ?_
        refine lv_iload hx hb d_Mod_blit_55 (lv_at hl 6 rfl) ?_
        refine lv_iload hx hb d_Mod_blit_57 (lv_at hl 1 rfl) ?_
        refine lv_iload hx hb d_Mod_blit_59 (lv_at hl 0 rfl) ?_
        refine kS_i (wc := []) (wr := [(mo, .inr (9, [.int (nI 0), .ref rpx, .int nb, .ref rca, .ref rpl, .ref rth, .ref rco, .ref rsh, .ref rsf, .ref rcr, .ref rep, .ref rby, .ref rli, .ref rls, .ref rla, .ref rcm, .ref rcs, .ref rpa, .ref rpm, .ref rpo, .ref rti, .ref rre, .ref rcl, .int (nI sz), .int (nI cs), .int (nI nx), .int (nI la)]))]) (w2 := fun _ => [(mo, .inr (9, [.int (nI 0), .ref rpx, .int nb, .ref rca, .ref rpl, .ref rth, .ref rco, .ref rsh, .ref rsf, .ref rcr, .ref rep, .ref rby, .ref rli, .ref rls, .ref rla, .ref rcm, .ref rcs, .ref rpa, .ref rpm, .ref rpo, .ref rti, .ref rre, .ref rcl, .int (nI sz), .int (nI cs), .int (nI nx), .int (nI la)]))]) [.int x, .int y, .int (nI (((s9 - 1) % 64) + 1)), .int (nI ((s9 - 1) / 64))] [] Bd ⟨gi_app (gi_c0 k_722 (gi_c0 k_723 (gi_c0 k_10 gi_nil))) (gi_tb0 k_724), rfl, by decide, by decide⟩ (show (parseMethodDescriptor "(IIII)Z").map (fun d => d.parameters.length) = some 4 by decide +kernel) (c_Mod_isRect x y (nI (((s9 - 1) % 64) + 1)) (nI ((s9 - 1) / 64)) ) (by decide +kernel) ⟨Nat.le_of_ble_eq_true rfl, Nat.le_of_ble_eq_true rfl⟩ hG hP hD hS hA [] [0] [0] (by decide) rfl rfl (fun _ => rfl) hl.1 rfl (Nat.le_of_ble_eq_true rfl) d_Mod_blit_61 (fun r4 u6 H locs hp5 hP hD hS => ?_)
        have hP : va_P D classes [(mo, .inr (9, [.int (nI 0), .ref rpx, .int nb, .ref rca, .ref rpl, .ref rth, .ref rco, .ref rsh, .ref rsf, .ref rcr, .ref rep, .ref rby, .ref rli, .ref rls, .ref rla, .ref rcm, .ref rcs, .ref rpa, .ref rpm, .ref rpo, .ref rti, .ref rre, .ref rcl, .int (nI sz), .int (nI cs), .int (nI nx), .int (nI la)]))] H := hP
        have hD : va_D AA [(mo, .inr (9, [.int (nI 0), .ref rpx, .int nb, .ref rca, .ref rpl, .ref rth, .ref rco, .ref rsh, .ref rsf, .ref rcr, .ref rep, .ref rby, .ref rli, .ref rls, .ref rla, .ref rcm, .ref rcs, .ref rpa, .ref rpm, .ref rpo, .ref rti, .ref rre, .ref rcl, .int (nI sz), .int (nI cs), .int (nI nx), .int (nI la)]))] := hD
        subst hp5
        refine nv_if_ne (tgt := 69) hx hb d_Mod_blit_64 (by decide) (bt_lt _) (fun c_64 => ?_) (fun c_64 => ?_)
        · exact absurd ⟨p9, s9, hp, by omega, hs2, rfl, rfl, cB_1 c_51, cB_1 c_64⟩ hno
        · refine lv_iconst (v := nI 0) hx hb d_Mod_blit_67 (by decide) ?_
          exact hret _ () _ _ _ _ d_Mod_blit_68 (by first | rfl | decide) (rfl) hP hD hS
    · refine lv_iconst (v := nI 0) hx hb d_Mod_blit_15 (by decide) ?_
      exact hret _ () _ _ _ _ d_Mod_blit_16 (by first | rfl | decide) (rfl) hP hD hS
end
