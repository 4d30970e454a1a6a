section
variable {l : Launch} {D : va_G} {cI cZ cL cV : ClassId}
theorem vwP_i {v : Nat} (h : v < 3) : vwP (nI v) := ⟨v, h, rfl⟩
theorem lt2 {a : Nat} (h : a < 2) : a < 2 ^ 31 := by omega
theorem m1_of {x : Int32} (h : ¬ x < -1) (h0 : x < 0) : x = -1 := by
  rw [Int32.lt_iff_toInt_lt] at h h0
  apply Int32.toInt_inj.mp
  have e0 : (0 : Int32).toInt = 0 := rfl
  have e1 : (-1 : Int32).toInt = -1 := rfl
  omega
theorem le2_of {x : Int32} (h : ¬ nI 2 < x) (h0 : ¬ x < 0) : vwP x := by
  obtain ⟨j, hj, rfl⟩ := nI_of h0
  exact ⟨j, by have := Nat.le_of_not_lt fun q => h ((nI_ltI (by decide) hj).mpr q); omega, rfl⟩
theorem at_yes {v x y : Int32} (c_7 : ¬ v < -1) (c_12 : ¬ nI 2 < v) (c_16 : ¬ x < 0) (c_22 : ¬ nI 64 ≤ x) (c_26 : ¬ y < 0) (c_32 : y < nI 48) : (v = -1 ∨ vwP v) ∧ reP x y (nI 1) (nI 1) := by
  refine ⟨?_, ?_⟩
  · by_cases h0 : v < 0
    · exact Or.inl (m1_of c_7 h0)
    · exact Or.inr (le2_of c_12 h0)
  · obtain ⟨x1, g1, rfl⟩ := ge_lt (by decide) c_16 c_22
    obtain ⟨y1, g2, rfl⟩ := ge_lt (by decide) c_26 (fun z => absurd c_32 (Int32.not_lt.mpr z))
    exact ⟨x1, y1, 1, 1, rfl, rfl, rfl, rfl, by omega, by omega, by omega, by omega⟩
set_option maxHeartbeats 400000 in
set_option maxRecDepth 100000 in
theorem c_Mod_join (mo : Nat) (cd : Int32) (rpx : Nat) (nb : Int32) (rca : Nat) (rpl : Nat) (rth : Nat) (rco : Nat) (rsh : Nat) (rsf : Nat) (rcr : Nat) (rep : Nat) (rby : Nat) (rli : Nat) (rls : Nat) (rla : Nat) (rcm : Nat) (rcs : Nat) (rpa : Nat) (rpm : Nat) (rpo : Nat) (rti : Nat) (rre : Nat) (rcl : Nat) (sz : Nat) (cs : Nat) (nx : Nat) (la : Nat) (Px : Nat → Nat) (Pl : Nat → Nat) (Th : Nat → Nat) (Cn : Nat → Nat) (Ep : Nat → Int32) (Sh : Nat → Int32) (Sf : Nat → Int32) (Ls : Nat → Nat) (La : Nat → Nat) (v : Nat) (hv : v < 3) (bPx : ∀ j, Px j < 65536) (bPl : ∀ j, Pl j < 16) (bTh : ∀ j, Th j < 2) (bCn : ∀ j, Cn j < 2) (hc : Cn v = 0) : CI (S := (Nat → Nat) × (Nat → Nat) × (Nat → Nat)) l classes NW D (TYS cI cZ cL cV) y_Mod_join (.code y_Mod_join b_Mod_join 3 (some .boolean) :: TB) { frames := 1, cells := 0, slots := 0, locals := 23 } [.ref mo, .int (nI v)] [(mo, .inr (9, [.int cd, .ref rpx, .int nb, .ref rca, .ref rpl, .ref rth, .ref rco, .ref rsh, .ref rsf, .ref rcr, .ref rep, .ref rby, .ref rli, .ref rls, .ref rla, .ref rcm, .ref rcs, .ref rpa, .ref rpm, .ref rpo, .ref rti, .ref rre, .ref rcl, .int (nI sz), .int (nI cs), .int (nI nx), .int (nI la)])), (rpx, .inl (cI, 30720, .inl (nF Px))), (rpl, .inl (cI, 6, .inl (nF Pl))), (rth, .inl (cZ, 96, .inl (nF Th))), (rco, .inl (cZ, 3, .inl (nF Cn))), (rep, .inl (cI, 3, .inl Ep)), (rsh, .inl (cI, 3, .inl Sh)), (rsf, .inl (cI, 3, .inl Sf)), (rls, .inl (cI, 3, .inl (nF Ls))), (rla, .inl (cI, 3, .inl (nF La)))] (fun r u => r = nI 1 ∧ (∀ j, u.1 j < 65536) ∧ (∀ j, u.2.1 j < 16) ∧ (∀ j, u.2.2 j < 2)) (fun u => [(mo, .inr (9, [.int (nI 0), .ref rpx, .int nb, .ref rca, .ref rpl, .ref rth, .ref rco, .ref rsh, .ref rsf, .ref rcr, .ref rep, .ref rby, .ref rli, .ref rls, .ref rla, .ref rcm, .ref rcs, .ref rpa, .ref rpm, .ref rpo, .ref rti, .ref rre, .ref rcl, .int (nI sz), .int (nI cs), .int (nI nx), .int (nI la)])), (rpx, .inl (cI, 30720, .inl (nF u.1))), (rpl, .inl (cI, 6, .inl (nF u.2.1))), (rth, .inl (cZ, 96, .inl (nF u.2.2))), (rco, .inl (cZ, 3, .inl (nF (up Cn v 1)))), (rep, .inl (cI, 3, .inl (upd Ep v (Ep v + nI 1)))), (rsh, .inl (cI, 3, .inl Sh)), (rsf, .inl (cI, 3, .inl (upd Sf v (Sh v)))), (rls, .inl (cI, 3, .inl (nF (up Ls v 0)))), (rla, .inl (cI, 3, .inl (nF (up La v 0))))]) := by
  refine CI.of (by decide) (Nat.le_of_ble_eq_true rfl) ?_
  intro pr ev sT mM aR bW mE cO AA QQ ls Bd hG hA hP hD hS hl hret
  have Bd : bd pr cO b_Mod_join 3 sT aR TB "TileScreenModel" mM := Bd
  obtain ⟨hx, hb, hml, hown, htb⟩ := id Bd
  have hl : lv_has ls 3 [(0, .ref mo), (1, .int (nI v))] := hl
  refine lv_aload_n hx hb d_Mod_join_0 rfl (lv_at hl 0 rfl) ?_
  refine lv_iconst (v := nI 0) hx hb d_Mod_join_1 (by decide) ?_
  refine va_put (D := D) (ci := 9) (v := .int (nI 0)) (ty := .int) (C := "TileScreenModel") (T := F_Mod) (N := 27) hx hb htb i_Mod t_Mod t_Mod_ok n_Mod hown hG.1 hP hD hS 0 rfl rfl 0 (by decide) (htb _ k_635) (fun _ h9 => h9) rfl (by decide +kernel) rfl rfl (Nat.le_of_ble_eq_true rfl) d_Mod_join_2 (fun H locs hP hD hS => ?_)
  have hP : va_P D classes [(mo, .inr (9, [.int (nI 0), .ref rpx, .int nb, .ref rca, .ref rpl, .ref rth, .ref rco, .ref rsh, .ref rsf, .ref rcr, .ref rep, .ref rby, .ref rli, .ref rls, .ref rla, .ref rcm, .ref rcs, .ref rpa, .ref rpm, .ref rpo, .ref rti, .ref rre, .ref rcl, .int (nI sz), .int (nI cs), .int (nI nx), .int (nI la)])), (rpx, .inl (cI, 30720, .inl (nF Px))), (rpl, .inl (cI, 6, .inl (nF Pl))), (rth, .inl (cZ, 96, .inl (nF Th))), (rco, .inl (cZ, 3, .inl (nF Cn))), (rep, .inl (cI, 3, .inl Ep)), (rsh, .inl (cI, 3, .inl Sh)), (rsf, .inl (cI, 3, .inl Sf)), (rls, .inl (cI, 3, .inl (nF Ls))), (rla, .inl (cI, 3, .inl (nF La)))] H := hP
  have hD : va_D AA [(mo, .inr (9, [.int (nI 0), .ref rpx, .int nb, .ref rca, .ref rpl, .ref rth, .ref rco, .ref rsh, .ref rsf, .ref rcr, .ref rep, .ref rby, .ref rli, .ref rls, .ref rla, .ref rcm, .ref rcs, .ref rpa, .ref rpm, .ref rpo, .ref rti, .ref rre, .ref rcl, .int (nI sz), .int (nI cs), .int (nI nx), .int (nI la)])), (rpx, .inl (cI, 30720, .inl (nF Px))), (rpl, .inl (cI, 6, .inl (nF Pl))), (rth, .inl (cZ, 96, .inl (nF Th))), (rco, .inl (cZ, 3, .inl (nF Cn))), (rep, .inl (cI, 3, .inl Ep)), (rsh, .inl (cI, 3, .inl Sh)), (rsf, .inl (cI, 3, .inl Sf)), (rls, .inl (cI, 3, .inl (nF Ls))), (rla, .inl (cI, 3, .inl (nF La)))] := hD
  refine lv_iload_n hx hb d_Mod_join_5 rfl (lv_at hl 1 rfl) ?_
  refine kS_i (wc := []) (wr := [(mo, .inr (9, [.int (nI 0), .ref rpx, .int nb, .ref rca, .ref rpl, .ref rth, .ref rco, .ref rsh, .ref rsf, .ref rcr, .ref rep, .ref rby, .ref rli, .ref rls, .ref rla, .ref rcm, .ref rcs, .ref rpa, .ref rpm, .ref rpo, .ref rti, .ref rre, .ref rcl, .int (nI sz), .int (nI cs), .int (nI nx), .int (nI la)])), (rpx, .inl (cI, 30720, .inl (nF Px))), (rpl, .inl (cI, 6, .inl (nF Pl))), (rth, .inl (cZ, 96, .inl (nF Th))), (rco, .inl (cZ, 3, .inl (nF Cn))), (rep, .inl (cI, 3, .inl Ep)), (rsh, .inl (cI, 3, .inl Sh)), (rsf, .inl (cI, 3, .inl Sf)), (rls, .inl (cI, 3, .inl (nF Ls))), (rla, .inl (cI, 3, .inl (nF La)))]) (w2 := fun _ => [(mo, .inr (9, [.int (nI 0), .ref rpx, .int nb, .ref rca, .ref rpl, .ref rth, .ref rco, .ref rsh, .ref rsf, .ref rcr, .ref rep, .ref rby, .ref rli, .ref rls, .ref rla, .ref rcm, .ref rcs, .ref rpa, .ref rpm, .ref rpo, .ref rti, .ref rre, .ref rcl, .int (nI sz), .int (nI cs), .int (nI nx), .int (nI la)])), (rpx, .inl (cI, 30720, .inl (nF Px))), (rpl, .inl (cI, 6, .inl (nF Pl))), (rth, .inl (cZ, 96, .inl (nF Th))), (rco, .inl (cZ, 3, .inl (nF Cn))), (rep, .inl (cI, 3, .inl Ep)), (rsh, .inl (cI, 3, .inl Sh)), (rsf, .inl (cI, 3, .inl Sf)), (rls, .inl (cI, 3, .inl (nF Ls))), (rla, .inl (cI, 3, .inl (nF La)))]) [.int (nI v)] [] Bd ⟨gi_app (gi_c0 k_753 (gi_c0 k_754 (gi_c0 k_10 gi_nil))) (gi_tb0 k_755), rfl, by decide, by decide⟩ (show (parseMethodDescriptor "(I)Z").map (fun d => d.parameters.length) = some 1 by decide +kernel) (c_Mod_isViewer (nI v) ) (by decide +kernel) ⟨Nat.le_of_ble_eq_true rfl, Nat.le_of_ble_eq_true rfl⟩ hG hP hD hS hA [] [0, 1, 2, 3, 4, 5, 6, 7, 8, 9] [0, 1, 2, 3, 4, 5, 6, 7, 8, 9] (by decide) rfl rfl (fun _ => rfl) hl.1 rfl (Nat.le_of_ble_eq_true rfl) d_Mod_join_6 (fun r1 u3 H locs hp2 hP hD hS => ?_)
  have hP : va_P D classes [(mo, .inr (9, [.int (nI 0), .ref rpx, .int nb, .ref rca, .ref rpl, .ref rth, .ref rco, .ref rsh, .ref rsf, .ref rcr, .ref rep, .ref rby, .ref rli, .ref rls, .ref rla, .ref rcm, .ref rcs, .ref rpa, .ref rpm, .ref rpo, .ref rti, .ref rre, .ref rcl, .int (nI sz), .int (nI cs), .int (nI nx), .int (nI la)])), (rpx, .inl (cI, 30720, .inl (nF Px))), (rpl, .inl (cI, 6, .inl (nF Pl))), (rth, .inl (cZ, 96, .inl (nF Th))), (rco, .inl (cZ, 3, .inl (nF Cn))), (rep, .inl (cI, 3, .inl Ep)), (rsh, .inl (cI, 3, .inl Sh)), (rsf, .inl (cI, 3, .inl Sf)), (rls, .inl (cI, 3, .inl (nF Ls))), (rla, .inl (cI, 3, .inl (nF La)))] H := hP
  have hD : va_D AA [(mo, .inr (9, [.int (nI 0), .ref rpx, .int nb, .ref rca, .ref rpl, .ref rth, .ref rco, .ref rsh, .ref rsf, .ref rcr, .ref rep, .ref rby, .ref rli, .ref rls, .ref rla, .ref rcm, .ref rcs, .ref rpa, .ref rpm, .ref rpo, .ref rti, .ref rre, .ref rcl, .int (nI sz), .int (nI cs), .int (nI nx), .int (nI la)])), (rpx, .inl (cI, 30720, .inl (nF Px))), (rpl, .inl (cI, 6, .inl (nF Pl))), (rth, .inl (cZ, 96, .inl (nF Th))), (rco, .inl (cZ, 3, .inl (nF Cn))), (rep, .inl (cI, 3, .inl Ep)), (rsh, .inl (cI, 3, .inl Sh)), (rsf, .inl (cI, 3, .inl Sf)), (rls, .inl (cI, 3, .inl (nF Ls))), (rla, .inl (cI, 3, .inl (nF La)))] := hD
  subst hp2
  refine nv_if_eq (tgt := 21) hx hb d_Mod_join_9 (by decide) (bt_lt _) (fun c_9 => ?_) (fun c_9 => ?_)
  · exact absurd (vwP_i hv) (cB_0 c_9)
  · refine lv_aload_n hx hb d_Mod_join_12 rfl (lv_at hl 0 rfl) ?_
    refine va_get (D := D) (ci := 9) (v := .ref rco) (C := "TileScreenModel") (T := F_Mod) (N := 27) hx hb htb i_Mod hown hG.1 hP 0 rfl rfl 6 (by decide) (htb _ k_641) (fun _ h9 => h9) rfl d_Mod_join_13 ?_
    refine lv_iload_n hx hb d_Mod_join_16 rfl (lv_at hl 1 rfl) ?_
    refine nv_zald hx hb hG.1 hP 4 1 rfl rfl (by omega) (by omega) d_Mod_join_17 ?_
    refine nv_if_eq (tgt := 23) hx hb d_Mod_join_18 (by decide) (lt2 (bCn _)) (fun c_18 => ?_) (fun c_18 => ?_)
    · refine lv_aload_n hx hb d_Mod_join_23 rfl (lv_at hl 0 rfl) ?_
      refine va_get (D := D) (ci := 9) (v := .ref rco) (C := "TileScreenModel") (T := F_Mod) (N := 27) hx hb htb i_Mod hown hG.1 hP 0 rfl rfl 6 (by decide) (htb _ k_641) (fun _ h9 => h9) rfl d_Mod_join_24 ?_
      refine lv_iload_n hx hb d_Mod_join_27 rfl (lv_at hl 1 rfl) ?_
      refine lv_iconst (v := nI 1) hx hb d_Mod_join_28 (by decide) ?_
      refine nv_zast hx hb hG.1 hP hD hS 4 1 rfl rfl (by omega) (by omega) (by omega) d_Mod_join_29 (fun H locs hP hD hS => ?_)
      have hP : va_P D classes [(mo, .inr (9, [.int (nI 0), .ref rpx, .int nb, .ref rca, .ref rpl, .ref rth, .ref rco, .ref rsh, .ref rsf, .ref rcr, .ref rep, .ref rby, .ref rli, .ref rls, .ref rla, .ref rcm, .ref rcs, .ref rpa, .ref rpm, .ref rpo, .ref rti, .ref rre, .ref rcl, .int (nI sz), .int (nI cs), .int (nI nx), .int (nI la)])), (rpx, .inl (cI, 30720, .inl (nF Px))), (rpl, .inl (cI, 6, .inl (nF Pl))), (rth, .inl (cZ, 96, .inl (nF Th))), (rco, .inl (cZ, 3, .inl (nF (up Cn v 1)))), (rep, .inl (cI, 3, .inl Ep)), (rsh, .inl (cI, 3, .inl Sh)), (rsf, .inl (cI, 3, .inl Sf)), (rls, .inl (cI, 3, .inl (nF Ls))), (rla, .inl (cI, 3, .inl (nF La)))] H := hP
      have hD : va_D AA [(mo, .inr (9, [.int (nI 0), .ref rpx, .int nb, .ref rca, .ref rpl, .ref rth, .ref rco, .ref rsh, .ref rsf, .ref rcr, .ref rep, .ref rby, .ref rli, .ref rls, .ref rla, .ref rcm, .ref rcs, .ref rpa, .ref rpm, .ref rpo, .ref rti, .ref rre, .ref rcl, .int (nI sz), .int (nI cs), .int (nI nx), .int (nI la)])), (rpx, .inl (cI, 30720, .inl (nF Px))), (rpl, .inl (cI, 6, .inl (nF Pl))), (rth, .inl (cZ, 96, .inl (nF Th))), (rco, .inl (cZ, 3, .inl (nF (up Cn v 1)))), (rep, .inl (cI, 3, .inl Ep)), (rsh, .inl (cI, 3, .inl Sh)), (rsf, .inl (cI, 3, .inl Sf)), (rls, .inl (cI, 3, .inl (nF Ls))), (rla, .inl (cI, 3, .inl (nF La)))] := hD
      refine lv_aload_n hx hb d_Mod_join_30 rfl (lv_at hl 0 rfl) ?_
      refine va_get (D := D) (ci := 9) (v := .ref rep) (C := "TileScreenModel") (T := F_Mod) (N := 27) hx hb htb i_Mod hown hG.1 hP 0 rfl rfl 10 (by decide) (htb _ k_645) (fun _ h9 => h9) rfl d_Mod_join_31 ?_
      refine lv_iload_n hx hb d_Mod_join_34 rfl (lv_at hl 1 rfl) ?_
      refine lv_dup2_11 hx hb d_Mod_join_35 rfl rfl ?_
      refine nr_iald hx hb hG.1 hP 5 0 rfl rfl (by omega) (by omega) d_Mod_join_36 ?_
      refine lv_iconst (v := nI 1) hx hb d_Mod_join_37 (by decide) ?_
      refine lv_iadd hx hb d_Mod_join_38 ?_
      refine nr_iast hx hb hG.1 hP hD hS 5 0 rfl rfl (by omega) (by omega) d_Mod_join_39 (fun H locs hP hD hS => ?_)
      have hP : va_P D classes [(mo, .inr (9, [.int (nI 0), .ref rpx, .int nb, .ref rca, .ref rpl, .ref rth, .ref rco, .ref rsh, .ref rsf, .ref rcr, .ref rep, .ref rby, .ref rli, .ref rls, .ref rla, .ref rcm, .ref rcs, .ref rpa, .ref rpm, .ref rpo, .ref rti, .ref rre, .ref rcl, .int (nI sz), .int (nI cs), .int (nI nx), .int (nI la)])), (rpx, .inl (cI, 30720, .inl (nF Px))), (rpl, .inl (cI, 6, .inl (nF Pl))), (rth, .inl (cZ, 96, .inl (nF Th))), (rco, .inl (cZ, 3, .inl (nF (up Cn v 1)))), (rep, .inl (cI, 3, .inl (upd Ep v ((Ep v) + (nI 1))))), (rsh, .inl (cI, 3, .inl Sh)), (rsf, .inl (cI, 3, .inl Sf)), (rls, .inl (cI, 3, .inl (nF Ls))), (rla, .inl (cI, 3, .inl (nF La)))] H := hP
      have hD : va_D AA [(mo, .inr (9, [.int (nI 0), .ref rpx, .int nb, .ref rca, .ref rpl, .ref rth, .ref rco, .ref rsh, .ref rsf, .ref rcr, .ref rep, .ref rby, .ref rli, .ref rls, .ref rla, .ref rcm, .ref rcs, .ref rpa, .ref rpm, .ref rpo, .ref rti, .ref rre, .ref rcl, .int (nI sz), .int (nI cs), .int (nI nx), .int (nI la)])), (rpx, .inl (cI, 30720, .inl (nF Px))), (rpl, .inl (cI, 6, .inl (nF Pl))), (rth, .inl (cZ, 96, .inl (nF Th))), (rco, .inl (cZ, 3, .inl (nF (up Cn v 1)))), (rep, .inl (cI, 3, .inl (upd Ep v ((Ep v) + (nI 1))))), (rsh, .inl (cI, 3, .inl Sh)), (rsf, .inl (cI, 3, .inl Sf)), (rls, .inl (cI, 3, .inl (nF Ls))), (rla, .inl (cI, 3, .inl (nF La)))] := hD
      refine lv_aload_n hx hb d_Mod_join_40 rfl (lv_at hl 0 rfl) ?_
      refine va_get (D := D) (ci := 9) (v := .ref rpl) (C := "TileScreenModel") (T := F_Mod) (N := 27) hx hb htb i_Mod hown hG.1 hP 0 rfl rfl 4 (by decide) (htb _ k_639) (fun _ h9 => h9) rfl d_Mod_join_41 ?_
      refine lv_iload_n hx hb d_Mod_join_44 rfl (lv_at hl 1 rfl) ?_
      refine lv_iconst (v := nI 0) hx hb d_Mod_join_45 (by decide) ?_
      refine nv_iast hx hb hG.1 hP hD hS 2 0 rfl rfl (by omega) (by omega) d_Mod_join_46 (fun H locs hP hD hS => ?_)
      have hP : va_P D classes [(mo, .inr (9, [.int (nI 0), .ref rpx, .int nb, .ref rca, .ref rpl, .ref rth, .ref rco, .ref rsh, .ref rsf, .ref rcr, .ref rep, .ref rby, .ref rli, .ref rls, .ref rla, .ref rcm, .ref rcs, .ref rpa, .ref rpm, .ref rpo, .ref rti, .ref rre, .ref rcl, .int (nI sz), .int (nI cs), .int (nI nx), .int (nI la)])), (rpx, .inl (cI, 30720, .inl (nF Px))), (rpl, .inl (cI, 6, .inl (nF (up Pl v 0)))), (rth, .inl (cZ, 96, .inl (nF Th))), (rco, .inl (cZ, 3, .inl (nF (up Cn v 1)))), (rep, .inl (cI, 3, .inl (upd Ep v ((Ep v) + (nI 1))))), (rsh, .inl (cI, 3, .inl Sh)), (rsf, .inl (cI, 3, .inl Sf)), (rls, .inl (cI, 3, .inl (nF Ls))), (rla, .inl (cI, 3, .inl (nF La)))] H := hP
      have hD : va_D AA [(mo, .inr (9, [.int (nI 0), .ref rpx, .int nb, .ref rca, .ref rpl, .ref rth, .ref rco, .ref rsh, .ref rsf, .ref rcr, .ref rep, .ref rby, .ref rli, .ref rls, .ref rla, .ref rcm, .ref rcs, .ref rpa, .ref rpm, .ref rpo, .ref rti, .ref rre, .ref rcl, .int (nI sz), .int (nI cs), .int (nI nx), .int (nI la)])), (rpx, .inl (cI, 30720, .inl (nF Px))), (rpl, .inl (cI, 6, .inl (nF (up Pl v 0)))), (rth, .inl (cZ, 96, .inl (nF Th))), (rco, .inl (cZ, 3, .inl (nF (up Cn v 1)))), (rep, .inl (cI, 3, .inl (upd Ep v ((Ep v) + (nI 1))))), (rsh, .inl (cI, 3, .inl Sh)), (rsf, .inl (cI, 3, .inl Sf)), (rls, .inl (cI, 3, .inl (nF Ls))), (rla, .inl (cI, 3, .inl (nF La)))] := hD
      refine lv_aload_n hx hb d_Mod_join_47 rfl (lv_at hl 0 rfl) ?_
      refine va_get (D := D) (ci := 9) (v := .ref rpl) (C := "TileScreenModel") (T := F_Mod) (N := 27) hx hb htb i_Mod hown hG.1 hP 0 rfl rfl 4 (by decide) (htb _ k_639) (fun _ h9 => h9) rfl d_Mod_join_48 ?_
      refine lv_iconst (v := nI 3) hx hb d_Mod_join_51 (by decide) ?_
      refine lv_iload_n hx hb d_Mod_join_52 rfl (lv_at hl 1 rfl) ?_
      refine nv_iadd hx hb d_Mod_join_53 ?_
      refine lv_iconst (v := nI 0) hx hb d_Mod_join_54 (by decide) ?_
      refine nv_iast hx hb hG.1 hP hD hS 2 0 rfl rfl (by omega) (by omega) d_Mod_join_55 (fun H locs hP hD hS => ?_)
      have hP : va_P D classes [(mo, .inr (9, [.int (nI 0), .ref rpx, .int nb, .ref rca, .ref rpl, .ref rth, .ref rco, .ref rsh, .ref rsf, .ref rcr, .ref rep, .ref rby, .ref rli, .ref rls, .ref rla, .ref rcm, .ref rcs, .ref rpa, .ref rpm, .ref rpo, .ref rti, .ref rre, .ref rcl, .int (nI sz), .int (nI cs), .int (nI nx), .int (nI la)])), (rpx, .inl (cI, 30720, .inl (nF Px))), (rpl, .inl (cI, 6, .inl (nF (up (up Pl v 0) (3 + v) 0)))), (rth, .inl (cZ, 96, .inl (nF Th))), (rco, .inl (cZ, 3, .inl (nF (up Cn v 1)))), (rep, .inl (cI, 3, .inl (upd Ep v ((Ep v) + (nI 1))))), (rsh, .inl (cI, 3, .inl Sh)), (rsf, .inl (cI, 3, .inl Sf)), (rls, .inl (cI, 3, .inl (nF Ls))), (rla, .inl (cI, 3, .inl (nF La)))] H := hP
      have hD : va_D AA [(mo, .inr (9, [.int (nI 0), .ref rpx, .int nb, .ref rca, .ref rpl, .ref rth, .ref rco, .ref rsh, .ref rsf, .ref rcr, .ref rep, .ref rby, .ref rli, .ref rls, .ref rla, .ref rcm, .ref rcs, .ref rpa, .ref rpm, .ref rpo, .ref rti, .ref rre, .ref rcl, .int (nI sz), .int (nI cs), .int (nI nx), .int (nI la)])), (rpx, .inl (cI, 30720, .inl (nF Px))), (rpl, .inl (cI, 6, .inl (nF (up (up Pl v 0) (3 + v) 0)))), (rth, .inl (cZ, 96, .inl (nF Th))), (rco, .inl (cZ, 3, .inl (nF (up Cn v 1)))), (rep, .inl (cI, 3, .inl (upd Ep v ((Ep v) + (nI 1))))), (rsh, .inl (cI, 3, .inl Sh)), (rsf, .inl (cI, 3, .inl Sf)), (rls, .inl (cI, 3, .inl (nF Ls))), (rla, .inl (cI, 3, .inl (nF La)))] := hD
      refine lv_iconst (v := nI 0) hx hb d_Mod_join_56 (by decide) ?_
      refine lv_istore_n (lv' := [(2, .int (nI 0)), (0, .ref mo), (1, .int (nI v))]) hx hb d_Mod_join_57 rfl hl (by decide) rfl (fun ls hl => ?_)
      have lp_58 : ∀ (nn : Nat) (k : Nat) (Th1 : Nat → Nat) (hk : k ≤ 16) (bT1 : ∀ j, Th1 j < 2), 16 - k < nn → ∀ (H : Heap) (locs : List Loc) (ls : Array Slot), va_P D classes [(mo, .inr (9, [.int (nI 0), .ref rpx, .int nb, .ref rca, .ref rpl, .ref rth, .ref rco, .ref rsh, .ref rsf, .ref rcr, .ref rep, .ref rby, .ref rli, .ref rls, .ref rla, .ref rcm, .ref rcs, .ref rpa, .ref rpm, .ref rpo, .ref rti, .ref rre, .ref rcl, .int (nI sz), .int (nI cs), .int (nI nx), .int (nI la)])), (rpx, .inl (cI, 30720, .inl (nF Px))), (rpl, .inl (cI, 6, .inl (nF (up (up Pl v 0) (3 + v) 0)))), (rth, .inl (cZ, 96, .inl (nF Th1))), (rco, .inl (cZ, 3, .inl (nF (up Cn v 1)))), (rep, .inl (cI, 3, .inl (upd Ep v ((Ep v) + (nI 1))))), (rsh, .inl (cI, 3, .inl Sh)), (rsf, .inl (cI, 3, .inl Sf)), (rls, .inl (cI, 3, .inl (nF Ls))), (rla, .inl (cI, 3, .inl (nF La)))] H → va_D AA [(mo, .inr (9, [.int (nI 0), .ref rpx, .int nb, .ref rca, .ref rpl, .ref rth, .ref rco, .ref rsh, .ref rsf, .ref rcr, .ref rep, .ref rby, .ref rli, .ref rls, .ref rla, .ref rcm, .ref rcs, .ref rpa, .ref rpm, .ref rpo, .ref rti, .ref rre, .ref rcl, .int (nI sz), .int (nI cs), .int (nI nx), .int (nI la)])), (rpx, .inl (cI, 30720, .inl (nF Px))), (rpl, .inl (cI, 6, .inl (nF (up (up Pl v 0) (3 + v) 0)))), (rth, .inl (cZ, 96, .inl (nF Th1))), (rco, .inl (cZ, 3, .inl (nF (up Cn v 1)))), (rep, .inl (cI, 3, .inl (upd Ep v ((Ep v) + (nI 1))))), (rsh, .inl (cI, 3, .inl Sh)), (rsf, .inl (cI, 3, .inl Sf)), (rls, .inl (cI, 3, .inl (nF Ls))), (rla, .inl (cI, 3, .inl (nF La)))] → va_S AA sT.heap H locs → lv_has ls 3 [(2, .int (nI k)), (0, .ref mo), (1, .int (nI v))] → W pr l ev ({ frames := 1, cells := 0, slots := 0, locals := 23 } : Room) sT mM aR bW mE cO H locs 0 0 QQ (F0 mM 58 ls []) := by
        intro nn
        induction nn with
        | zero => intro k Th1 hk bT1 hm; exact absurd hm (Nat.not_lt_zero _)
        | succ nn ih58 =>
          intro k Th1 hk bT1 hm H locs ls hP hD hS hl
          refine lv_iload_n hx hb d_Mod_join_58 rfl (lv_at hl 0 rfl) ?_
          refine lv_bipush (v := nI 16) hx hb d_Mod_join_59 (by decide) ?_
          refine nv_icmp_ge (tgt := 97) hx hb d_Mod_join_61 (by decide) (by omega) (by omega) (fun c_61 => ?_) (fun c_61 => ?_)
          · refine lv_aload_n hx hb d_Mod_join_97 rfl (lv_at hl 1 rfl) ?_
            refine lv_iconst (v := nI 5) hx hb d_Mod_join_98 (by decide) ?_
            refine lv_iload_n hx hb d_Mod_join_99 rfl (lv_at hl 2 rfl) ?_
            refine nv_iadd hx hb d_Mod_join_100 ?_
            refine lv_iconst (v := nI 2) hx hb d_Mod_join_101 (by decide) ?_
            refine lv_iload_n hx hb d_Mod_join_102 rfl (lv_at hl 2 rfl) ?_
            refine nv_iadd hx hb d_Mod_join_103 ?_
            refine kV_v (wc := [(mo, .inr (9, [.int (nI 0), .ref rpx, .int nb, .ref rca, .ref rpl, .ref rth, .ref rco, .ref rsh, .ref rsf, .ref rcr, .ref rep, .ref rby, .ref rli, .ref rls, .ref rla, .ref rcm, .ref rcs, .ref rpa, .ref rpm, .ref rpo, .ref rti, .ref rre, .ref rcl, .int (nI sz), .int (nI cs), .int (nI nx), .int (nI la)])), (rpx, .inl (cI, 30720, .inl (nF Px)))]) (wr := [(rpl, .inl (cI, 6, .inl (nF (up (up Pl v 0) (3 + v) 0)))), (rth, .inl (cZ, 96, .inl (nF Th1))), (rco, .inl (cZ, 3, .inl (nF (up Cn v 1)))), (rep, .inl (cI, 3, .inl (upd Ep v ((Ep v) + (nI 1))))), (rsh, .inl (cI, 3, .inl Sh)), (rsf, .inl (cI, 3, .inl Sf)), (rls, .inl (cI, 3, .inl (nF Ls))), (rla, .inl (cI, 3, .inl (nF La)))]) (w2 := fun u => [(mo, .inr (9, [.int (nI 0), .ref rpx, .int nb, .ref rca, .ref rpl, .ref rth, .ref rco, .ref rsh, .ref rsf, .ref rcr, .ref rep, .ref rby, .ref rli, .ref rls, .ref rla, .ref rcm, .ref rcs, .ref rpa, .ref rpm, .ref rpo, .ref rti, .ref rre, .ref rcl, .int (nI sz), .int (nI cs), .int (nI nx), .int (nI la)])), (rpx, .inl (cI, 30720, .inl (nF u))), (rpl, .inl (cI, 6, .inl (nF (up (up Pl v 0) (3 + v) 0)))), (rth, .inl (cZ, 96, .inl (nF Th1))), (rco, .inl (cZ, 3, .inl (nF (up Cn v 1)))), (rep, .inl (cI, 3, .inl (upd Ep v ((Ep v) + (nI 1))))), (rsh, .inl (cI, 3, .inl Sh)), (rsf, .inl (cI, 3, .inl Sf)), (rls, .inl (cI, 3, .inl (nF Ls))), (rla, .inl (cI, 3, .inl (nF La)))]) [.int (nI (5 + v)), .int (nI (2 + v))] [] Bd ⟨gi_app (gi_c0 k_733 (gi_c0 k_735 (gi_c0 s_22 (gi_c0 k_10 gi_nil)))) (gi_tb0 k_736), rfl, by decide, by decide⟩ (show (parseMethodDescriptor "(II)V").map (fun d => d.parameters.length) = some 2 by decide +kernel) (c_Mod_become mo (nI 0) rpx nb rca rpl rth rco rsh rsf rcr rep rby rli rls rla rcm rcs rpa rpm rpo rti rre rcl sz cs nx la Px (5 + v) (2 + v) (by omega) (by omega) (bPx)) (by decide +kernel) ⟨Nat.le_of_ble_eq_true rfl, Nat.le_of_ble_eq_true rfl⟩ hG hP hD hS hA [0, 1] [2, 3, 4, 5, 6, 7, 8, 9] [8, 9, 0, 1, 2, 3, 4, 5, 6, 7] (by decide) rfl rfl (fun _ => rfl) (q0 := 0) rfl rfl rfl hl.1 rfl (Nat.le_of_ble_eq_true rfl) d_Mod_join_104 (fun u7 H locs hp6 hP hD hS => ?_)
            obtain ⟨u5, rfl⟩ : ∃ z9, z9 = u7 := ⟨_, rfl⟩
            try dsimp only at hp6
            have hP : va_P D classes [(mo, .inr (9, [.int (nI 0), .ref rpx, .int nb, .ref rca, .ref rpl, .ref rth, .ref rco, .ref rsh, .ref rsf, .ref rcr, .ref rep, .ref rby, .ref rli, .ref rls, .ref rla, .ref rcm, .ref rcs, .ref rpa, .ref rpm, .ref rpo, .ref rti, .ref rre, .ref rcl, .int (nI sz), .int (nI cs), .int (nI nx), .int (nI la)])), (rpx, .inl (cI, 30720, .inl (nF u5))), (rpl, .inl (cI, 6, .inl (nF (up (up Pl v 0) (3 + v) 0)))), (rth, .inl (cZ, 96, .inl (nF Th1))), (rco, .inl (cZ, 3, .inl (nF (up Cn v 1)))), (rep, .inl (cI, 3, .inl (upd Ep v ((Ep v) + (nI 1))))), (rsh, .inl (cI, 3, .inl Sh)), (rsf, .inl (cI, 3, .inl Sf)), (rls, .inl (cI, 3, .inl (nF Ls))), (rla, .inl (cI, 3, .inl (nF La)))] H := hP
            have hD : va_D AA [(mo, .inr (9, [.int (nI 0), .ref rpx, .int nb, .ref rca, .ref rpl, .ref rth, .ref rco, .ref rsh, .ref rsf, .ref rcr, .ref rep, .ref rby, .ref rli, .ref rls, .ref rla, .ref rcm, .ref rcs, .ref rpa, .ref rpm, .ref rpo, .ref rti, .ref rre, .ref rcl, .int (nI sz), .int (nI cs), .int (nI nx), .int (nI la)])), (rpx, .inl (cI, 30720, .inl (nF u5))), (rpl, .inl (cI, 6, .inl (nF (up (up Pl v 0) (3 + v) 0)))), (rth, .inl (cZ, 96, .inl (nF Th1))), (rco, .inl (cZ, 3, .inl (nF (up Cn v 1)))), (rep, .inl (cI, 3, .inl (upd Ep v ((Ep v) + (nI 1))))), (rsh, .inl (cI, 3, .inl Sh)), (rsf, .inl (cI, 3, .inl Sf)), (rls, .inl (cI, 3, .inl (nF Ls))), (rla, .inl (cI, 3, .inl (nF La)))] := hD
            refine lv_aload_n hx hb d_Mod_join_107 rfl (lv_at hl 1 rfl) ?_
            refine va_get (D := D) (ci := 9) (v := .ref rsf) (C := "TileScreenModel") (T := F_Mod) (N := 27) hx hb htb i_Mod hown hG.1 hP 0 rfl rfl 8 (by decide) (htb _ k_643) (fun _ h9 => h9) rfl d_Mod_join_108 ?_
            refine lv_iload_n hx hb d_Mod_join_111 rfl (lv_at hl 2 rfl) ?_
            refine lv_aload_n hx hb d_Mod_join_112 rfl (lv_at hl 1 rfl) ?_
            refine va_get (D := D) (ci := 9) (v := .ref rsh) (C := "TileScreenModel") (T := F_Mod) (N := 27) hx hb htb i_Mod hown hG.1 hP 0 rfl rfl 7 (by decide) (htb _ k_642) (fun _ h9 => h9) rfl d_Mod_join_113 ?_
            refine lv_iload_n hx hb d_Mod_join_116 rfl (lv_at hl 2 rfl) ?_
            refine nr_iald hx hb hG.1 hP 6 0 rfl rfl (by omega) (by omega) d_Mod_join_117 ?_
            refine nr_iast hx hb hG.1 hP hD hS 7 0 rfl rfl (by omega) (by omega) d_Mod_join_118 (fun H locs hP hD hS => ?_)
            have hP : va_P D classes [(mo, .inr (9, [.int (nI 0), .ref rpx, .int nb, .ref rca, .ref rpl, .ref rth, .ref rco, .ref rsh, .ref rsf, .ref rcr, .ref rep, .ref rby, .ref rli, .ref rls, .ref rla, .ref rcm, .ref rcs, .ref rpa, .ref rpm, .ref rpo, .ref rti, .ref rre, .ref rcl, .int (nI sz), .int (nI cs), .int (nI nx), .int (nI la)])), (rpx, .inl (cI, 30720, .inl (nF u5))), (rpl, .inl (cI, 6, .inl (nF (up (up Pl v 0) (3 + v) 0)))), (rth, .inl (cZ, 96, .inl (nF Th1))), (rco, .inl (cZ, 3, .inl (nF (up Cn v 1)))), (rep, .inl (cI, 3, .inl (upd Ep v ((Ep v) + (nI 1))))), (rsh, .inl (cI, 3, .inl Sh)), (rsf, .inl (cI, 3, .inl (upd Sf v (Sh v)))), (rls, .inl (cI, 3, .inl (nF Ls))), (rla, .inl (cI, 3, .inl (nF La)))] H := hP
            have hD : va_D AA [(mo, .inr (9, [.int (nI 0), .ref rpx, .int nb, .ref rca, .ref rpl, .ref rth, .ref rco, .ref rsh, .ref rsf, .ref rcr, .ref rep, .ref rby, .ref rli, .ref rls, .ref rla, .ref rcm, .ref rcs, .ref rpa, .ref rpm, .ref rpo, .ref rti, .ref rre, .ref rcl, .int (nI sz), .int (nI cs), .int (nI nx), .int (nI la)])), (rpx, .inl (cI, 30720, .inl (nF u5))), (rpl, .inl (cI, 6, .inl (nF (up (up Pl v 0) (3 + v) 0)))), (rth, .inl (cZ, 96, .inl (nF Th1))), (rco, .inl (cZ, 3, .inl (nF (up Cn v 1)))), (rep, .inl (cI, 3, .inl (upd Ep v ((Ep v) + (nI 1))))), (rsh, .inl (cI, 3, .inl Sh)), (rsf, .inl (cI, 3, .inl (upd Sf v (Sh v)))), (rls, .inl (cI, 3, .inl (nF Ls))), (rla, .inl (cI, 3, .inl (nF La)))] := hD
            refine lv_aload_n hx hb d_Mod_join_119 rfl (lv_at hl 1 rfl) ?_
            refine va_get (D := D) (ci := 9) (v := .ref rls) (C := "TileScreenModel") (T := F_Mod) (N := 27) hx hb htb i_Mod hown hG.1 hP 0 rfl rfl 13 (by decide) (htb _ k_648) (fun _ h9 => h9) rfl d_Mod_join_120 ?_
            refine lv_iload_n hx hb d_Mod_join_123 rfl (lv_at hl 2 rfl) ?_
            refine lv_iconst (v := nI 0) hx hb d_Mod_join_124 (by decide) ?_
            refine nv_iast hx hb hG.1 hP hD hS 8 0 rfl rfl (by omega) (by omega) d_Mod_join_125 (fun H locs hP hD hS => ?_)
            have hP : va_P D classes [(mo, .inr (9, [.int (nI 0), .ref rpx, .int nb, .ref rca, .ref rpl, .ref rth, .ref rco, .ref rsh, .ref rsf, .ref rcr, .ref rep, .ref rby, .ref rli, .ref rls, .ref rla, .ref rcm, .ref rcs, .ref rpa, .ref rpm, .ref rpo, .ref rti, .ref rre, .ref rcl, .int (nI sz), .int (nI cs), .int (nI nx), .int (nI la)])), (rpx, .inl (cI, 30720, .inl (nF u5))), (rpl, .inl (cI, 6, .inl (nF (up (up Pl v 0) (3 + v) 0)))), (rth, .inl (cZ, 96, .inl (nF Th1))), (rco, .inl (cZ, 3, .inl (nF (up Cn v 1)))), (rep, .inl (cI, 3, .inl (upd Ep v ((Ep v) + (nI 1))))), (rsh, .inl (cI, 3, .inl Sh)), (rsf, .inl (cI, 3, .inl (upd Sf v (Sh v)))), (rls, .inl (cI, 3, .inl (nF (up Ls v 0)))), (rla, .inl (cI, 3, .inl (nF La)))] H := hP
            have hD : va_D AA [(mo, .inr (9, [.int (nI 0), .ref rpx, .int nb, .ref rca, .ref rpl, .ref rth, .ref rco, .ref rsh, .ref rsf, .ref rcr, .ref rep, .ref rby, .ref rli, .ref rls, .ref rla, .ref rcm, .ref rcs, .ref rpa, .ref rpm, .ref rpo, .ref rti, .ref rre, .ref rcl, .int (nI sz), .int (nI cs), .int (nI nx), .int (nI la)])), (rpx, .inl (cI, 30720, .inl (nF u5))), (rpl, .inl (cI, 6, .inl (nF (up (up Pl v 0) (3 + v) 0)))), (rth, .inl (cZ, 96, .inl (nF Th1))), (rco, .inl (cZ, 3, .inl (nF (up Cn v 1)))), (rep, .inl (cI, 3, .inl (upd Ep v ((Ep v) + (nI 1))))), (rsh, .inl (cI, 3, .inl Sh)), (rsf, .inl (cI, 3, .inl (upd Sf v (Sh v)))), (rls, .inl (cI, 3, .inl (nF (up Ls v 0)))), (rla, .inl (cI, 3, .inl (nF La)))] := hD
            refine lv_aload_n hx hb d_Mod_join_126 rfl (lv_at hl 1 rfl) ?_
            refine va_get (D := D) (ci := 9) (v := .ref rla) (C := "TileScreenModel") (T := F_Mod) (N := 27) hx hb htb i_Mod hown hG.1 hP 0 rfl rfl 14 (by decide) (htb _ k_649) (fun _ h9 => h9) rfl d_Mod_join_127 ?_
            refine lv_iload_n hx hb d_Mod_join_130 rfl (lv_at hl 2 rfl) ?_
            refine lv_iconst (v := nI 0) hx hb d_Mod_join_131 (by decide) ?_
            refine nv_iast hx hb hG.1 hP hD hS 9 0 rfl rfl (by omega) (by omega) d_Mod_join_132 (fun H locs hP hD hS => ?_)
            have hP : va_P D classes [(mo, .inr (9, [.int (nI 0), .ref rpx, .int nb, .ref rca, .ref rpl, .ref rth, .ref rco, .ref rsh, .ref rsf, .ref rcr, .ref rep, .ref rby, .ref rli, .ref rls, .ref rla, .ref rcm, .ref rcs, .ref rpa, .ref rpm, .ref rpo, .ref rti, .ref rre, .ref rcl, .int (nI sz), .int (nI cs), .int (nI nx), .int (nI la)])), (rpx, .inl (cI, 30720, .inl (nF u5))), (rpl, .inl (cI, 6, .inl (nF (up (up Pl v 0) (3 + v) 0)))), (rth, .inl (cZ, 96, .inl (nF Th1))), (rco, .inl (cZ, 3, .inl (nF (up Cn v 1)))), (rep, .inl (cI, 3, .inl (upd Ep v ((Ep v) + (nI 1))))), (rsh, .inl (cI, 3, .inl Sh)), (rsf, .inl (cI, 3, .inl (upd Sf v (Sh v)))), (rls, .inl (cI, 3, .inl (nF (up Ls v 0)))), (rla, .inl (cI, 3, .inl (nF (up La v 0))))] H := hP
            have hD : va_D AA [(mo, .inr (9, [.int (nI 0), .ref rpx, .int nb, .ref rca, .ref rpl, .ref rth, .ref rco, .ref rsh, .ref rsf, .ref rcr, .ref rep, .ref rby, .ref rli, .ref rls, .ref rla, .ref rcm, .ref rcs, .ref rpa, .ref rpm, .ref rpo, .ref rti, .ref rre, .ref rcl, .int (nI sz), .int (nI cs), .int (nI nx), .int (nI la)])), (rpx, .inl (cI, 30720, .inl (nF u5))), (rpl, .inl (cI, 6, .inl (nF (up (up Pl v 0) (3 + v) 0)))), (rth, .inl (cZ, 96, .inl (nF Th1))), (rco, .inl (cZ, 3, .inl (nF (up Cn v 1)))), (rep, .inl (cI, 3, .inl (upd Ep v ((Ep v) + (nI 1))))), (rsh, .inl (cI, 3, .inl Sh)), (rsf, .inl (cI, 3, .inl (upd Sf v (Sh v)))), (rls, .inl (cI, 3, .inl (nF (up Ls v 0)))), (rla, .inl (cI, 3, .inl (nF (up La v 0))))] := hD
            refine lv_iconst (v := nI 1) hx hb d_Mod_join_133 (by decide) ?_
            have hR := hret ((nI 1)) (u5, up (up Pl v 0) (3 + v) 0, Th1) H locs 134 ls d_Mod_join_134 (by first | rfl | decide)
            try dsimp only at hR
            exact hR (⟨rfl, hp6, up_lt (up_lt bPl (by decide)) (by decide), bT1⟩) hP hD hS
          · refine lv_aload_n hx hb d_Mod_join_64 rfl (lv_at hl 1 rfl) ?_
            refine va_get (D := D) (ci := 9) (v := .ref rth) (C := "TileScreenModel") (T := F_Mod) (N := 27) hx hb htb i_Mod hown hG.1 hP 0 rfl rfl 5 (by decide) (htb _ k_640) (fun _ h9 => h9) rfl d_Mod_join_65 ?_
            refine lv_bipush (v := nI 16) hx hb d_Mod_join_68 (by decide) ?_
            refine lv_iload_n hx hb d_Mod_join_70 rfl (lv_at hl 2 rfl) ?_
            refine nv_imul hx hb d_Mod_join_71 ?_
            refine lv_iload_n hx hb d_Mod_join_72 rfl (lv_at hl 0 rfl) ?_
            refine nv_iadd hx hb d_Mod_join_73 ?_
            refine lv_iconst (v := nI 0) hx hb d_Mod_join_74 (by decide) ?_
            refine nv_zast hx hb hG.1 hP hD hS 3 1 rfl rfl (by omega) (by omega) (by omega) d_Mod_join_75 (fun H locs hP hD hS => ?_)
            have hP : va_P D classes [(mo, .inr (9, [.int (nI 0), .ref rpx, .int nb, .ref rca, .ref rpl, .ref rth, .ref rco, .ref rsh, .ref rsf, .ref rcr, .ref rep, .ref rby, .ref rli, .ref rls, .ref rla, .ref rcm, .ref rcs, .ref rpa, .ref rpm, .ref rpo, .ref rti, .ref rre, .ref rcl, .int (nI sz), .int (nI cs), .int (nI nx), .int (nI la)])), (rpx, .inl (cI, 30720, .inl (nF Px))), (rpl, .inl (cI, 6, .inl (nF (up (up Pl v 0) (3 + v) 0)))), (rth, .inl (cZ, 96, .inl (nF (up Th1 (16 * v + k) 0)))), (rco, .inl (cZ, 3, .inl (nF (up Cn v 1)))), (rep, .inl (cI, 3, .inl (upd Ep v ((Ep v) + (nI 1))))), (rsh, .inl (cI, 3, .inl Sh)), (rsf, .inl (cI, 3, .inl Sf)), (rls, .inl (cI, 3, .inl (nF Ls))), (rla, .inl (cI, 3, .inl (nF La)))] H := hP
            have hD : va_D AA [(mo, .inr (9, [.int (nI 0), .ref rpx, .int nb, .ref rca, .ref rpl, .ref rth, .ref rco, .ref rsh, .ref rsf, .ref rcr, .ref rep, .ref rby, .ref rli, .ref rls, .ref rla, .ref rcm, .ref rcs, .ref rpa, .ref rpm, .ref rpo, .ref rti, .ref rre, .ref rcl, .int (nI sz), .int (nI cs), .int (nI nx), .int (nI la)])), (rpx, .inl (cI, 30720, .inl (nF Px))), (rpl, .inl (cI, 6, .inl (nF (up (up Pl v 0) (3 + v) 0)))), (rth, .inl (cZ, 96, .inl (nF (up Th1 (16 * v + k) 0)))), (rco, .inl (cZ, 3, .inl (nF (up Cn v 1)))), (rep, .inl (cI, 3, .inl (upd Ep v ((Ep v) + (nI 1))))), (rsh, .inl (cI, 3, .inl Sh)), (rsf, .inl (cI, 3, .inl Sf)), (rls, .inl (cI, 3, .inl (nF Ls))), (rla, .inl (cI, 3, .inl (nF La)))] := hD
            refine lv_aload_n hx hb d_Mod_join_76 rfl (lv_at hl 1 rfl) ?_
            refine va_get (D := D) (ci := 9) (v := .ref rth) (C := "TileScreenModel") (T := F_Mod) (N := 27) hx hb htb i_Mod hown hG.1 hP 0 rfl rfl 5 (by decide) (htb _ k_640) (fun _ h9 => h9) rfl d_Mod_join_77 ?_
            refine lv_bipush (v := nI 48) hx hb d_Mod_join_80 (by decide) ?_
            refine lv_bipush (v := nI 16) hx hb d_Mod_join_82 (by decide) ?_
            refine lv_iload_n hx hb d_Mod_join_84 rfl (lv_at hl 2 rfl) ?_
            refine nv_imul hx hb d_Mod_join_85 ?_
            refine nv_iadd hx hb d_Mod_join_86 ?_
            refine lv_iload_n hx hb d_Mod_join_87 rfl (lv_at hl 0 rfl) ?_
            refine nv_iadd hx hb d_Mod_join_88 ?_
            refine lv_iconst (v := nI 0) hx hb d_Mod_join_89 (by decide) ?_
            refine nv_zast hx hb hG.1 hP hD hS 3 1 rfl rfl (by omega) (by omega) (by omega) d_Mod_join_90 (fun H locs hP hD hS => ?_)
            have hP : va_P D classes [(mo, .inr (9, [.int (nI 0), .ref rpx, .int nb, .ref rca, .ref rpl, .ref rth, .ref rco, .ref rsh, .ref rsf, .ref rcr, .ref rep, .ref rby, .ref rli, .ref rls, .ref rla, .ref rcm, .ref rcs, .ref rpa, .ref rpm, .ref rpo, .ref rti, .ref rre, .ref rcl, .int (nI sz), .int (nI cs), .int (nI nx), .int (nI la)])), (rpx, .inl (cI, 30720, .inl (nF Px))), (rpl, .inl (cI, 6, .inl (nF (up (up Pl v 0) (3 + v) 0)))), (rth, .inl (cZ, 96, .inl (nF (up (up Th1 (16 * v + k) 0) (48 + (16 * v) + k) 0)))), (rco, .inl (cZ, 3, .inl (nF (up Cn v 1)))), (rep, .inl (cI, 3, .inl (upd Ep v ((Ep v) + (nI 1))))), (rsh, .inl (cI, 3, .inl Sh)), (rsf, .inl (cI, 3, .inl Sf)), (rls, .inl (cI, 3, .inl (nF Ls))), (rla, .inl (cI, 3, .inl (nF La)))] H := hP
            have hD : va_D AA [(mo, .inr (9, [.int (nI 0), .ref rpx, .int nb, .ref rca, .ref rpl, .ref rth, .ref rco, .ref rsh, .ref rsf, .ref rcr, .ref rep, .ref rby, .ref rli, .ref rls, .ref rla, .ref rcm, .ref rcs, .ref rpa, .ref rpm, .ref rpo, .ref rti, .ref rre, .ref rcl, .int (nI sz), .int (nI cs), .int (nI nx), .int (nI la)])), (rpx, .inl (cI, 30720, .inl (nF Px))), (rpl, .inl (cI, 6, .inl (nF (up (up Pl v 0) (3 + v) 0)))), (rth, .inl (cZ, 96, .inl (nF (up (up Th1 (16 * v + k) 0) (48 + (16 * v) + k) 0)))), (rco, .inl (cZ, 3, .inl (nF (up Cn v 1)))), (rep, .inl (cI, 3, .inl (upd Ep v ((Ep v) + (nI 1))))), (rsh, .inl (cI, 3, .inl Sh)), (rsf, .inl (cI, 3, .inl Sf)), (rls, .inl (cI, 3, .inl (nF Ls))), (rla, .inl (cI, 3, .inl (nF La)))] := hD
            refine lv_iinc (v := (nI (k + 1))) (lv' := [(2, .int (nI (k + 1))), (0, .ref mo), (1, .int (nI v))]) hx hb d_Mod_join_91 hl (k := 0) rfl (nI_add k 1) (by decide) rfl (fun ls hl => ?_)
            refine lv_goto (tgt := 58) hx hb d_Mod_join_94 (by decide) ?_
            exact ih58 (k + 1) (up (up Th1 (16 * v + k) 0) (48 + (16 * v) + k) 0) (by omega) (up_lt (up_lt bT1 (by decide)) (by decide)) (by omega) _ _ _ hP hD hS (lv_sub hl [0, 1, 2] rfl)
      exact lp_58 _ 0 Th (Nat.zero_le _) (bTh) (Nat.lt_succ_self _) _ _ _ hP hD hS (lv_sub hl [0, 1, 2] rfl)
    · exact absurd hc c_18
set_option maxHeartbeats 400000 in
set_option maxRecDepth 100000 in
theorem c_Mod_join_is (mo : Nat) (cd : Int32) (rpx : Nat) (nb : Int32) (rca : Nat) (rpl : Nat) (rth : Nat) (rco : Nat) (rsh : Nat) (rsf : Nat) (rcr : Nat) (rep : Nat) (rby : Nat) (rli : Nat) (rls : Nat) (rla : Nat) (rcm : Nat) (rcs : Nat) (rpa : Nat) (rpm : Nat) (rpo : Nat) (rti : Nat) (rre : Nat) (rcl : Nat) (sz : Nat) (cs : Nat) (nx : Nat) (la : Nat) (Cn : Nat → Nat) (v : Nat) (hv : v < 3) (bCn : ∀ j, Cn j < 2) (hc : Cn v ≠ 0) : CI (S := Unit) l classes NW D (TYS cI cZ cL cV) y_Mod_join (.code y_Mod_join b_Mod_join 3 (some .boolean) :: TB) { frames := 1, cells := 0, slots := 0, locals := 20 } [.ref mo, .int (nI v)] [(mo, .inr (9, [.int cd, .ref rpx, .int nb, .ref rca, .ref rpl, .ref rth, .ref rco, .ref rsh, .ref rsf, .ref rcr, .ref rep, .ref rby, .ref rli, .ref rls, .ref rla, .ref rcm, .ref rcs, .ref rpa, .ref rpm, .ref rpo, .ref rti, .ref rre, .ref rcl, .int (nI sz), .int (nI cs), .int (nI nx), .int (nI la)])), (rco, .inl (cZ, 3, .inl (nF Cn)))] (fun r u => r = nI 0) (fun u => [(mo, .inr (9, [.int (nI 0), .ref rpx, .int nb, .ref rca, .ref rpl, .ref rth, .ref rco, .ref rsh, .ref rsf, .ref rcr, .ref rep, .ref rby, .ref rli, .ref rls, .ref rla, .ref rcm, .ref rcs, .ref rpa, .ref rpm, .ref rpo, .ref rti, .ref rre, .ref rcl, .int (nI sz), .int (nI cs), .int (nI nx), .int (nI la)])), (rco, .inl (cZ, 3, .inl (nF Cn)))]) := by
  refine CI.of (by decide) (Nat.le_of_ble_eq_true rfl) ?_
  intro pr ev sT mM aR bW mE cO AA QQ ls Bd hG hA hP hD hS hl hret
  have Bd : bd pr cO b_Mod_join 3 sT aR TB "TileScreenModel" mM := Bd
  obtain ⟨hx, hb, hml, hown, htb⟩ := id Bd
  have hl : lv_has ls 3 [(0, .ref mo), (1, .int (nI v))] := hl
  refine lv_aload_n hx hb d_Mod_join_0 rfl (lv_at hl 0 rfl) ?_
  refine lv_iconst (v := nI 0) hx hb d_Mod_join_1 (by decide) ?_
  refine va_put (D := D) (ci := 9) (v := .int (nI 0)) (ty := .int) (C := "TileScreenModel") (T := F_Mod) (N := 27) hx hb htb i_Mod t_Mod t_Mod_ok n_Mod hown hG.1 hP hD hS 0 rfl rfl 0 (by decide) (htb _ k_635) (fun _ h9 => h9) rfl (by decide +kernel) rfl rfl (Nat.le_of_ble_eq_true rfl) d_Mod_join_2 (fun H locs hP hD hS => ?_)
  have hP : va_P D classes [(mo, .inr (9, [.int (nI 0), .ref rpx, .int nb, .ref rca, .ref rpl, .ref rth, .ref rco, .ref rsh, .ref rsf, .ref rcr, .ref rep, .ref rby, .ref rli, .ref rls, .ref rla, .ref rcm, .ref rcs, .ref rpa, .ref rpm, .ref rpo, .ref rti, .ref rre, .ref rcl, .int (nI sz), .int (nI cs), .int (nI nx), .int (nI la)])), (rco, .inl (cZ, 3, .inl (nF Cn)))] H := hP
  have hD : va_D AA [(mo, .inr (9, [.int (nI 0), .ref rpx, .int nb, .ref rca, .ref rpl, .ref rth, .ref rco, .ref rsh, .ref rsf, .ref rcr, .ref rep, .ref rby, .ref rli, .ref rls, .ref rla, .ref rcm, .ref rcs, .ref rpa, .ref rpm, .ref rpo, .ref rti, .ref rre, .ref rcl, .int (nI sz), .int (nI cs), .int (nI nx), .int (nI la)])), (rco, .inl (cZ, 3, .inl (nF Cn)))] := hD
  refine lv_iload_n hx hb d_Mod_join_5 rfl (lv_at hl 1 rfl) ?_
  refine kS_i (wc := []) (wr := [(mo, .inr (9, [.int (nI 0), .ref rpx, .int nb, .ref rca, .ref rpl, .ref rth, .ref rco, .ref rsh, .ref rsf, .ref rcr, .ref rep, .ref rby, .ref rli, .ref rls, .ref rla, .ref rcm, .ref rcs, .ref rpa, .ref rpm, .ref rpo, .ref rti, .ref rre, .ref rcl, .int (nI sz), .int (nI cs), .int (nI nx), .int (nI la)])), (rco, .inl (cZ, 3, .inl (nF Cn)))]) (w2 := fun _ => [(mo, .inr (9, [.int (nI 0), .ref rpx, .int nb, .ref rca, .ref rpl, .ref rth, .ref rco, .ref rsh, .ref rsf, .ref rcr, .ref rep, .ref rby, .ref rli, .ref rls, .ref rla, .ref rcm, .ref rcs, .ref rpa, .ref rpm, .ref rpo, .ref rti, .ref rre, .ref rcl, .int (nI sz), .int (nI cs), .int (nI nx), .int (nI la)])), (rco, .inl (cZ, 3, .inl (nF Cn)))]) [.int (nI v)] [] Bd ⟨gi_app (gi_c0 k_753 (gi_c0 k_754 (gi_c0 k_10 gi_nil))) (gi_tb0 k_755), rfl, by decide, by decide⟩ (show (parseMethodDescriptor "(I)Z").map (fun d => d.parameters.length) = some 1 by decide +kernel) (c_Mod_isViewer (nI v) ) (by decide +kernel) ⟨Nat.le_of_ble_eq_true rfl, Nat.le_of_ble_eq_true rfl⟩ hG hP hD hS hA [] [0, 1] [0, 1] (by decide) rfl rfl (fun _ => rfl) hl.1 rfl (Nat.le_of_ble_eq_true rfl) d_Mod_join_6 (fun r1 u3 H locs hp2 hP hD hS => ?_)
  have hP : va_P D classes [(mo, .inr (9, [.int (nI 0), .ref rpx, .int nb, .ref rca, .ref rpl, .ref rth, .ref rco, .ref rsh, .ref rsf, .ref rcr, .ref rep, .ref rby, .ref rli, .ref rls, .ref rla, .ref rcm, .ref rcs, .ref rpa, .ref rpm, .ref rpo, .ref rti, .ref rre, .ref rcl, .int (nI sz), .int (nI cs), .int (nI nx), .int (nI la)])), (rco, .inl (cZ, 3, .inl (nF Cn)))] H := hP
  have hD : va_D AA [(mo, .inr (9, [.int (nI 0), .ref rpx, .int nb, .ref rca, .ref rpl, .ref rth, .ref rco, .ref rsh, .ref rsf, .ref rcr, .ref rep, .ref rby, .ref rli, .ref rls, .ref rla, .ref rcm, .ref rcs, .ref rpa, .ref rpm, .ref rpo, .ref rti, .ref rre, .ref rcl, .int (nI sz), .int (nI cs), .int (nI nx), .int (nI la)])), (rco, .inl (cZ, 3, .inl (nF Cn)))] := hD
  subst hp2
  refine nv_if_eq (tgt := 21) hx hb d_Mod_join_9 (by decide) (bt_lt _) (fun c_9 => ?_) (fun c_9 => ?_)
  · exact absurd (vwP_i hv) (cB_0 c_9)
  · refine lv_aload_n hx hb d_Mod_join_12 rfl (lv_at hl 0 rfl) ?_
    refine va_get (D := D) (ci := 9) (v := .ref rco) (C := "TileScreenModel") (T := F_Mod) (N := 27) hx hb htb i_Mod hown hG.1 hP 0 rfl rfl 6 (by decide) (htb _ k_641) (fun _ h9 => h9) rfl d_Mod_join_13 ?_
    refine lv_iload_n hx hb d_Mod_join_16 rfl (lv_at hl 1 rfl) ?_
    refine nv_zald hx hb hG.1 hP 1 1 rfl rfl (by omega) (by omega) d_Mod_join_17 ?_
    refine nv_if_eq (tgt := 23) hx hb d_Mod_join_18 (by decide) (lt2 (bCn _)) (fun c_18 => ?_) (fun c_18 => ?_)
    · exact absurd c_18 hc
    · refine lv_iconst (v := nI 0) hx hb d_Mod_join_21 (by decide) ?_
      exact hret _ () _ _ _ _ d_Mod_join_22 (by first | rfl | decide) (rfl) hP hD hS
set_option maxHeartbeats 400000 in
set_option maxRecDepth 100000 in
theorem c_Mod_join_no (mo : Nat) (cd : Int32) (rpx : Nat) (nb : Int32) (rca : Nat) (rpl : Nat) (rth : Nat) (rco : Nat) (rsh : Nat) (rsf : Nat) (rcr : Nat) (rep : Nat) (rby : Nat) (rli : Nat) (rls : Nat) (rla : Nat) (rcm : Nat) (rcs : Nat) (rpa : Nat) (rpm : Nat) (rpo : Nat) (rti : Nat) (rre : Nat) (rcl : Nat) (sz : Nat) (cs : Nat) (nx : Nat) (la : Nat) (v : Int32) (hno : ¬ vwP v) : CI (S := Unit) l classes NW D (TYS cI cZ cL cV) y_Mod_join (.code y_Mod_join b_Mod_join 3 (some .boolean) :: TB) { frames := 1, cells := 0, slots := 0, locals := 20 } [.ref mo, .int v] [(mo, .inr (9, [.int cd, .ref rpx, .int nb, .ref rca, .ref rpl, .ref rth, .ref rco, .ref rsh, .ref rsf, .ref rcr, .ref rep, .ref rby, .ref rli, .ref rls, .ref rla, .ref rcm, .ref rcs, .ref rpa, .ref rpm, .ref rpo, .ref rti, .ref rre, .ref rcl, .int (nI sz), .int (nI cs), .int (nI nx), .int (nI la)]))] (fun r u => r = nI 0) (fun u => [(mo, .inr (9, [.int (nI 0), .ref rpx, .int nb, .ref rca, .ref rpl, .ref rth, .ref rco, .ref rsh, .ref rsf, .ref rcr, .ref rep, .ref rby, .ref rli, .ref rls, .ref rla, .ref rcm, .ref rcs, .ref rpa, .ref rpm, .ref rpo, .ref rti, .ref rre, .ref rcl, .int (nI sz), .int (nI cs), .int (nI nx), .int (nI la)]))]) := by
  refine CI.of (by decide) (Nat.le_of_ble_eq_true rfl) ?_
  intro pr ev sT mM aR bW mE cO AA QQ ls Bd hG hA hP hD hS hl hret
  have Bd : bd pr cO b_Mod_join 3 sT aR TB "TileScreenModel" mM := Bd
  obtain ⟨hx, hb, hml, hown, htb⟩ := id Bd
  have hl : lv_has ls 3 [(0, .ref mo), (1, .int v)] := hl
  refine lv_aload_n hx hb d_Mod_join_0 rfl (lv_at hl 0 rfl) ?_
  refine lv_iconst (v := nI 0) hx hb d_Mod_join_1 (by decide) ?_
  refine va_put (D := D) (ci := 9) (v := .int (nI 0)) (ty := .int) (C := "TileScreenModel") (T := F_Mod) (N := 27) hx hb htb i_Mod t_Mod t_Mod_ok n_Mod hown hG.1 hP hD hS 0 rfl rfl 0 (by decide) (htb _ k_635) (fun _ h9 => h9) rfl (by decide +kernel) rfl rfl (Nat.le_of_ble_eq_true rfl) d_Mod_join_2 (fun H locs hP hD hS => ?_)
  have hP : va_P D classes [(mo, .inr (9, [.int (nI 0), .ref rpx, .int nb, .ref rca, .ref rpl, .ref rth, .ref rco, .ref rsh, .ref rsf, .ref rcr, .ref rep, .ref rby, .ref rli, .ref rls, .ref rla, .ref rcm, .ref rcs, .ref rpa, .ref rpm, .ref rpo, .ref rti, .ref rre, .ref rcl, .int (nI sz), .int (nI cs), .int (nI nx), .int (nI la)]))] H := hP
  have hD : va_D AA [(mo, .inr (9, [.int (nI 0), .ref rpx, .int nb, .ref rca, .ref rpl, .ref rth, .ref rco, .ref rsh, .ref rsf, .ref rcr, .ref rep, .ref rby, .ref rli, .ref rls, .ref rla, .ref rcm, .ref rcs, .ref rpa, .ref rpm, .ref rpo, .ref rti, .ref rre, .ref rcl, .int (nI sz), .int (nI cs), .int (nI nx), .int (nI la)]))] := hD
  refine lv_iload_n hx hb d_Mod_join_5 rfl (lv_at hl 1 rfl) ?_
  refine kS_i (wc := []) (wr := [(mo, .inr (9, [.int (nI 0), .ref rpx, .int nb, .ref rca, .ref rpl, .ref rth, .ref rco, .ref rsh, .ref rsf, .ref rcr, .ref rep, .ref rby, .ref rli, .ref rls, .ref rla, .ref rcm, .ref rcs, .ref rpa, .ref rpm, .ref rpo, .ref rti, .ref rre, .ref rcl, .int (nI sz), .int (nI cs), .int (nI nx), .int (nI la)]))]) (w2 := fun _ => [(mo, .inr (9, [.int (nI 0), .ref rpx, .int nb, .ref rca, .ref rpl, .ref rth, .ref rco, .ref rsh, .ref rsf, .ref rcr, .ref rep, .ref rby, .ref rli, .ref rls, .ref rla, .ref rcm, .ref rcs, .ref rpa, .ref rpm, .ref rpo, .ref rti, .ref rre, .ref rcl, .int (nI sz), .int (nI cs), .int (nI nx), .int (nI la)]))]) [.int v] [] Bd ⟨gi_app (gi_c0 k_753 (gi_c0 k_754 (gi_c0 k_10 gi_nil))) (gi_tb0 k_755), rfl, by decide, by decide⟩ (show (parseMethodDescriptor "(I)Z").map (fun d => d.parameters.length) = some 1 by decide +kernel) (c_Mod_isViewer v ) (by decide +kernel) ⟨Nat.le_of_ble_eq_true rfl, Nat.le_of_ble_eq_true rfl⟩ hG hP hD hS hA [] [0] [0] (by decide) rfl rfl (fun _ => rfl) hl.1 rfl (Nat.le_of_ble_eq_true rfl) d_Mod_join_6 (fun r1 u3 H locs hp2 hP hD hS => ?_)
  have hP : va_P D classes [(mo, .inr (9, [.int (nI 0), .ref rpx, .int nb, .ref rca, .ref rpl, .ref rth, .ref rco, .ref rsh, .ref rsf, .ref rcr, .ref rep, .ref rby, .ref rli, .ref rls, .ref rla, .ref rcm, .ref rcs, .ref rpa, .ref rpm, .ref rpo, .ref rti, .ref rre, .ref rcl, .int (nI sz), .int (nI cs), .int (nI nx), .int (nI la)]))] H := hP
  have hD : va_D AA [(mo, .inr (9, [.int (nI 0), .ref rpx, .int nb, .ref rca, .ref rpl, .ref rth, .ref rco, .ref rsh, .ref rsf, .ref rcr, .ref rep, .ref rby, .ref rli, .ref rls, .ref rla, .ref rcm, .ref rcs, .ref rpa, .ref rpm, .ref rpo, .ref rti, .ref rre, .ref rcl, .int (nI sz), .int (nI cs), .int (nI nx), .int (nI la)]))] := hD
  subst hp2
  refine nv_if_eq (tgt := 21) hx hb d_Mod_join_9 (by decide) (bt_lt _) (fun c_9 => ?_) (fun c_9 => ?_)
  · refine lv_iconst (v := nI 0) hx hb d_Mod_join_21 (by decide) ?_
    exact hret _ () _ _ _ _ d_Mod_join_22 (by first | rfl | decide) (rfl) hP hD hS
  · exact absurd (cB_1 c_9) hno
set_option maxHeartbeats 400000 in
set_option maxRecDepth 100000 in
theorem c_Mod_leave (mo : Nat) (cd : Int32) (rpx : Nat) (nb : Int32) (rca : Nat) (rpl : Nat) (rth : Nat) (rco : Nat) (rsh : Nat) (rsf : Nat) (rcr : Nat) (rep : Nat) (rby : Nat) (rli : Nat) (rls : Nat) (rla : Nat) (rcm : Nat) (rcs : Nat) (rpa : Nat) (rpm : Nat) (rpo : Nat) (rti : Nat) (rre : Nat) (rcl : Nat) (sz : Nat) (cs : Nat) (nx : Nat) (la : Nat) (Cn : Nat → Nat) (Ls : Nat → Nat) (La : Nat → Nat) (Cz : Nat → Nat) (Cr : Nat → Nat) (v : Nat) (hv : v < 3) : CV (S := Unit) l classes NW D (TYS cI cZ cL cV) y_Mod_leave (.code y_Mod_leave b_Mod_leave 2 none :: TB) { frames := 0, cells := 0, slots := 0, locals := 0 } [.ref mo, .int (nI v)] [(mo, .inr (9, [.int cd, .ref rpx, .int nb, .ref rca, .ref rpl, .ref rth, .ref rco, .ref rsh, .ref rsf, .ref rcr, .ref rep, .ref rby, .ref rli, .ref rls, .ref rla, .ref rcm, .ref rcs, .ref rpa, .ref rpm, .ref rpo, .ref rti, .ref rre, .ref rcl, .int (nI sz), .int (nI cs), .int (nI nx), .int (nI la)])), (rco, .inl (cZ, 3, .inl (nF Cn))), (rls, .inl (cI, 3, .inl (nF Ls))), (rla, .inl (cI, 3, .inl (nF La))), (rcs, .inl (cI, 3, .inl (nF Cz))), (rcr, .inl (cI, 3, .inl (nF Cr)))] (fun u => True) (fun u => [(mo, .inr (9, [.int cd, .ref rpx, .int nb, .ref rca, .ref rpl, .ref rth, .ref rco, .ref rsh, .ref rsf, .ref rcr, .ref rep, .ref rby, .ref rli, .ref rls, .ref rla, .ref rcm, .ref rcs, .ref rpa, .ref rpm, .ref rpo, .ref rti, .ref rre, .ref rcl, .int (nI sz), .int (nI cs), .int (nI nx), .int (nI la)])), (rco, .inl (cZ, 3, .inl (nF (up Cn v 0)))), (rls, .inl (cI, 3, .inl (nF (up Ls v 0)))), (rla, .inl (cI, 3, .inl (nF (up La v 0)))), (rcs, .inl (cI, 3, .inl (nF (up Cz v 0)))), (rcr, .inl (cI, 3, .inl (nF (up Cr v 0))))]) := by
  refine CV.of (by decide) (Nat.le_of_ble_eq_true rfl) ?_
  intro pr ev sT mM aR bW mE cO AA QQ ls Bd hG hA hP hD hS hl hnm hret
  have Bd : bd pr cO b_Mod_leave 2 sT aR TB "TileScreenModel" mM := Bd
  obtain ⟨hx, hb, hml, hown, htb⟩ := id Bd
  have hl : lv_has ls 2 [(0, .ref mo), (1, .int (nI v))] := hl
  refine lv_aload_n hx hb d_Mod_leave_0 rfl (lv_at hl 0 rfl) ?_
  refine va_get (D := D) (ci := 9) (v := .ref rco) (C := "TileScreenModel") (T := F_Mod) (N := 27) hx hb htb i_Mod hown hG.1 hP 0 rfl rfl 6 (by decide) (htb _ k_641) (fun _ h9 => h9) rfl d_Mod_leave_1 ?_
  refine lv_iload_n hx hb d_Mod_leave_4 rfl (lv_at hl 1 rfl) ?_
  refine lv_iconst (v := nI 0) hx hb d_Mod_leave_5 (by decide) ?_
  refine nv_zast hx hb hG.1 hP hD hS 1 1 rfl rfl (by omega) (by omega) (by omega) d_Mod_leave_6 (fun H locs hP hD hS => ?_)
  have hP : va_P D classes [(mo, .inr (9, [.int cd, .ref rpx, .int nb, .ref rca, .ref rpl, .ref rth, .ref rco, .ref rsh, .ref rsf, .ref rcr, .ref rep, .ref rby, .ref rli, .ref rls, .ref rla, .ref rcm, .ref rcs, .ref rpa, .ref rpm, .ref rpo, .ref rti, .ref rre, .ref rcl, .int (nI sz), .int (nI cs), .int (nI nx), .int (nI la)])), (rco, .inl (cZ, 3, .inl (nF (up Cn v 0)))), (rls, .inl (cI, 3, .inl (nF Ls))), (rla, .inl (cI, 3, .inl (nF La))), (rcs, .inl (cI, 3, .inl (nF Cz))), (rcr, .inl (cI, 3, .inl (nF Cr)))] H := hP
  have hD : va_D AA [(mo, .inr (9, [.int cd, .ref rpx, .int nb, .ref rca, .ref rpl, .ref rth, .ref rco, .ref rsh, .ref rsf, .ref rcr, .ref rep, .ref rby, .ref rli, .ref rls, .ref rla, .ref rcm, .ref rcs, .ref rpa, .ref rpm, .ref rpo, .ref rti, .ref rre, .ref rcl, .int (nI sz), .int (nI cs), .int (nI nx), .int (nI la)])), (rco, .inl (cZ, 3, .inl (nF (up Cn v 0)))), (rls, .inl (cI, 3, .inl (nF Ls))), (rla, .inl (cI, 3, .inl (nF La))), (rcs, .inl (cI, 3, .inl (nF Cz))), (rcr, .inl (cI, 3, .inl (nF Cr)))] := hD
  refine lv_aload_n hx hb d_Mod_leave_7 rfl (lv_at hl 0 rfl) ?_
  refine va_get (D := D) (ci := 9) (v := .ref rls) (C := "TileScreenModel") (T := F_Mod) (N := 27) hx hb htb i_Mod hown hG.1 hP 0 rfl rfl 13 (by decide) (htb _ k_648) (fun _ h9 => h9) rfl d_Mod_leave_8 ?_
  refine lv_iload_n hx hb d_Mod_leave_11 rfl (lv_at hl 1 rfl) ?_
  refine lv_iconst (v := nI 0) hx hb d_Mod_leave_12 (by decide) ?_
  refine nv_iast hx hb hG.1 hP hD hS 2 0 rfl rfl (by omega) (by omega) d_Mod_leave_13 (fun H locs hP hD hS => ?_)
  have hP : va_P D classes [(mo, .inr (9, [.int cd, .ref rpx, .int nb, .ref rca, .ref rpl, .ref rth, .ref rco, .ref rsh, .ref rsf, .ref rcr, .ref rep, .ref rby, .ref rli, .ref rls, .ref rla, .ref rcm, .ref rcs, .ref rpa, .ref rpm, .ref rpo, .ref rti, .ref rre, .ref rcl, .int (nI sz), .int (nI cs), .int (nI nx), .int (nI la)])), (rco, .inl (cZ, 3, .inl (nF (up Cn v 0)))), (rls, .inl (cI, 3, .inl (nF (up Ls v 0)))), (rla, .inl (cI, 3, .inl (nF La))), (rcs, .inl (cI, 3, .inl (nF Cz))), (rcr, .inl (cI, 3, .inl (nF Cr)))] H := hP
  have hD : va_D AA [(mo, .inr (9, [.int cd, .ref rpx, .int nb, .ref rca, .ref rpl, .ref rth, .ref rco, .ref rsh, .ref rsf, .ref rcr, .ref rep, .ref rby, .ref rli, .ref rls, .ref rla, .ref rcm, .ref rcs, .ref rpa, .ref rpm, .ref rpo, .ref rti, .ref rre, .ref rcl, .int (nI sz), .int (nI cs), .int (nI nx), .int (nI la)])), (rco, .inl (cZ, 3, .inl (nF (up Cn v 0)))), (rls, .inl (cI, 3, .inl (nF (up Ls v 0)))), (rla, .inl (cI, 3, .inl (nF La))), (rcs, .inl (cI, 3, .inl (nF Cz))), (rcr, .inl (cI, 3, .inl (nF Cr)))] := hD
  refine lv_aload_n hx hb d_Mod_leave_14 rfl (lv_at hl 0 rfl) ?_
  refine va_get (D := D) (ci := 9) (v := .ref rla) (C := "TileScreenModel") (T := F_Mod) (N := 27) hx hb htb i_Mod hown hG.1 hP 0 rfl rfl 14 (by decide) (htb _ k_649) (fun _ h9 => h9) rfl d_Mod_leave_15 ?_
  refine lv_iload_n hx hb d_Mod_leave_18 rfl (lv_at hl 1 rfl) ?_
  refine lv_iconst (v := nI 0) hx hb d_Mod_leave_19 (by decide) ?_
  refine nv_iast hx hb hG.1 hP hD hS 3 0 rfl rfl (by omega) (by omega) d_Mod_leave_20 (fun H locs hP hD hS => ?_)
  have hP : va_P D classes [(mo, .inr (9, [.int cd, .ref rpx, .int nb, .ref rca, .ref rpl, .ref rth, .ref rco, .ref rsh, .ref rsf, .ref rcr, .ref rep, .ref rby, .ref rli, .ref rls, .ref rla, .ref rcm, .ref rcs, .ref rpa, .ref rpm, .ref rpo, .ref rti, .ref rre, .ref rcl, .int (nI sz), .int (nI cs), .int (nI nx), .int (nI la)])), (rco, .inl (cZ, 3, .inl (nF (up Cn v 0)))), (rls, .inl (cI, 3, .inl (nF (up Ls v 0)))), (rla, .inl (cI, 3, .inl (nF (up La v 0)))), (rcs, .inl (cI, 3, .inl (nF Cz))), (rcr, .inl (cI, 3, .inl (nF Cr)))] H := hP
  have hD : va_D AA [(mo, .inr (9, [.int cd, .ref rpx, .int nb, .ref rca, .ref rpl, .ref rth, .ref rco, .ref rsh, .ref rsf, .ref rcr, .ref rep, .ref rby, .ref rli, .ref rls, .ref rla, .ref rcm, .ref rcs, .ref rpa, .ref rpm, .ref rpo, .ref rti, .ref rre, .ref rcl, .int (nI sz), .int (nI cs), .int (nI nx), .int (nI la)])), (rco, .inl (cZ, 3, .inl (nF (up Cn v 0)))), (rls, .inl (cI, 3, .inl (nF (up Ls v 0)))), (rla, .inl (cI, 3, .inl (nF (up La v 0)))), (rcs, .inl (cI, 3, .inl (nF Cz))), (rcr, .inl (cI, 3, .inl (nF Cr)))] := hD
  refine lv_aload_n hx hb d_Mod_leave_21 rfl (lv_at hl 0 rfl) ?_
  refine va_get (D := D) (ci := 9) (v := .ref rcs) (C := "TileScreenModel") (T := F_Mod) (N := 27) hx hb htb i_Mod hown hG.1 hP 0 rfl rfl 16 (by decide) (htb _ k_651) (fun _ h9 => h9) rfl d_Mod_leave_22 ?_
  refine lv_iload_n hx hb d_Mod_leave_25 rfl (lv_at hl 1 rfl) ?_
  refine lv_iconst (v := nI 0) hx hb d_Mod_leave_26 (by decide) ?_
  refine nv_iast hx hb hG.1 hP hD hS 4 0 rfl rfl (by omega) (by omega) d_Mod_leave_27 (fun H locs hP hD hS => ?_)
  have hP : va_P D classes [(mo, .inr (9, [.int cd, .ref rpx, .int nb, .ref rca, .ref rpl, .ref rth, .ref rco, .ref rsh, .ref rsf, .ref rcr, .ref rep, .ref rby, .ref rli, .ref rls, .ref rla, .ref rcm, .ref rcs, .ref rpa, .ref rpm, .ref rpo, .ref rti, .ref rre, .ref rcl, .int (nI sz), .int (nI cs), .int (nI nx), .int (nI la)])), (rco, .inl (cZ, 3, .inl (nF (up Cn v 0)))), (rls, .inl (cI, 3, .inl (nF (up Ls v 0)))), (rla, .inl (cI, 3, .inl (nF (up La v 0)))), (rcs, .inl (cI, 3, .inl (nF (up Cz v 0)))), (rcr, .inl (cI, 3, .inl (nF Cr)))] H := hP
  have hD : va_D AA [(mo, .inr (9, [.int cd, .ref rpx, .int nb, .ref rca, .ref rpl, .ref rth, .ref rco, .ref rsh, .ref rsf, .ref rcr, .ref rep, .ref rby, .ref rli, .ref rls, .ref rla, .ref rcm, .ref rcs, .ref rpa, .ref rpm, .ref rpo, .ref rti, .ref rre, .ref rcl, .int (nI sz), .int (nI cs), .int (nI nx), .int (nI la)])), (rco, .inl (cZ, 3, .inl (nF (up Cn v 0)))), (rls, .inl (cI, 3, .inl (nF (up Ls v 0)))), (rla, .inl (cI, 3, .inl (nF (up La v 0)))), (rcs, .inl (cI, 3, .inl (nF (up Cz v 0)))), (rcr, .inl (cI, 3, .inl (nF Cr)))] := hD
  refine lv_aload_n hx hb d_Mod_leave_28 rfl (lv_at hl 0 rfl) ?_
  refine va_get (D := D) (ci := 9) (v := .ref rcr) (C := "TileScreenModel") (T := F_Mod) (N := 27) hx hb htb i_Mod hown hG.1 hP 0 rfl rfl 9 (by decide) (htb _ k_644) (fun _ h9 => h9) rfl d_Mod_leave_29 ?_
  refine lv_iload_n hx hb d_Mod_leave_32 rfl (lv_at hl 1 rfl) ?_
  refine lv_iconst (v := nI 0) hx hb d_Mod_leave_33 (by decide) ?_
  refine nv_iast hx hb hG.1 hP hD hS 5 0 rfl rfl (by omega) (by omega) d_Mod_leave_34 (fun H locs hP hD hS => ?_)
  have hP : va_P D classes [(mo, .inr (9, [.int cd, .ref rpx, .int nb, .ref rca, .ref rpl, .ref rth, .ref rco, .ref rsh, .ref rsf, .ref rcr, .ref rep, .ref rby, .ref rli, .ref rls, .ref rla, .ref rcm, .ref rcs, .ref rpa, .ref rpm, .ref rpo, .ref rti, .ref rre, .ref rcl, .int (nI sz), .int (nI cs), .int (nI nx), .int (nI la)])), (rco, .inl (cZ, 3, .inl (nF (up Cn v 0)))), (rls, .inl (cI, 3, .inl (nF (up Ls v 0)))), (rla, .inl (cI, 3, .inl (nF (up La v 0)))), (rcs, .inl (cI, 3, .inl (nF (up Cz v 0)))), (rcr, .inl (cI, 3, .inl (nF (up Cr v 0))))] H := hP
  have hD : va_D AA [(mo, .inr (9, [.int cd, .ref rpx, .int nb, .ref rca, .ref rpl, .ref rth, .ref rco, .ref rsh, .ref rsf, .ref rcr, .ref rep, .ref rby, .ref rli, .ref rls, .ref rla, .ref rcm, .ref rcs, .ref rpa, .ref rpm, .ref rpo, .ref rti, .ref rre, .ref rcl, .int (nI sz), .int (nI cs), .int (nI nx), .int (nI la)])), (rco, .inl (cZ, 3, .inl (nF (up Cn v 0)))), (rls, .inl (cI, 3, .inl (nF (up Ls v 0)))), (rla, .inl (cI, 3, .inl (nF (up La v 0)))), (rcs, .inl (cI, 3, .inl (nF (up Cz v 0)))), (rcr, .inl (cI, 3, .inl (nF (up Cr v 0))))] := hD
  exact hret () _ _ _ _ d_Mod_leave_35 (trivial) hP hD hS
set_option maxHeartbeats 400000 in
set_option maxRecDepth 100000 in
theorem c_Mod_cut (mo : Nat) (cd : Int32) (rpx : Nat) (nb : Int32) (rca : Nat) (rpl : Nat) (rth : Nat) (rco : Nat) (rsh : Nat) (rsf : Nat) (rcr : Nat) (rep : Nat) (rby : Nat) (rli : Nat) (rls : Nat) (rla : Nat) (rcm : Nat) (rcs : Nat) (rpa : Nat) (rpm : Nat) (rpo : Nat) (rti : Nat) (rre : Nat) (rcl : Nat) (sz : Nat) (cs : Nat) (nx : Nat) (la : Nat) (Cn : Nat → Nat) (Ls : Nat → Nat) (La : Nat → Nat) (Cz : Nat → Nat) (Cr : Nat → Nat) (v : Nat) (hv : v < 3) (bCn : ∀ j, Cn j < 2) (hc : Cn v ≠ 0) : CI (S := Unit) l classes NW D (TYS cI cZ cL cV) y_Mod_cut (.code y_Mod_cut b_Mod_cut 3 (some .boolean) :: TB) { frames := 1, cells := 0, slots := 0, locals := 21 } [.ref mo, .int (nI v)] [(mo, .inr (9, [.int cd, .ref rpx, .int nb, .ref rca, .ref rpl, .ref rth, .ref rco, .ref rsh, .ref rsf, .ref rcr, .ref rep, .ref rby, .ref rli, .ref rls, .ref rla, .ref rcm, .ref rcs, .ref rpa, .ref rpm, .ref rpo, .ref rti, .ref rre, .ref rcl, .int (nI sz), .int (nI cs), .int (nI nx), .int (nI la)])), (rco, .inl (cZ, 3, .inl (nF Cn))), (rls, .inl (cI, 3, .inl (nF Ls))), (rla, .inl (cI, 3, .inl (nF La))), (rcs, .inl (cI, 3, .inl (nF Cz))), (rcr, .inl (cI, 3, .inl (nF Cr)))] (fun r u => r = nI 1) (fun u => [(mo, .inr (9, [.int (nI 0), .ref rpx, .int nb, .ref rca, .ref rpl, .ref rth, .ref rco, .ref rsh, .ref rsf, .ref rcr, .ref rep, .ref rby, .ref rli, .ref rls, .ref rla, .ref rcm, .ref rcs, .ref rpa, .ref rpm, .ref rpo, .ref rti, .ref rre, .ref rcl, .int (nI sz), .int (nI cs), .int (nI nx), .int (nI la)])), (rco, .inl (cZ, 3, .inl (nF (up Cn v 0)))), (rls, .inl (cI, 3, .inl (nF (up Ls v 0)))), (rla, .inl (cI, 3, .inl (nF (up La v 0)))), (rcs, .inl (cI, 3, .inl (nF (up Cz v 0)))), (rcr, .inl (cI, 3, .inl (nF (up Cr v 0))))]) := by
  refine CI.of (by decide) (Nat.le_of_ble_eq_true rfl) ?_
  intro pr ev sT mM aR bW mE cO AA QQ ls Bd hG hA hP hD hS hl hret
  have Bd : bd pr cO b_Mod_cut 3 sT aR TB "TileScreenModel" mM := Bd
  obtain ⟨hx, hb, hml, hown, htb⟩ := id Bd
  have hl : lv_has ls 3 [(0, .ref mo), (1, .int (nI v))] := hl
  refine lv_aload_n hx hb d_Mod_cut_0 rfl (lv_at hl 0 rfl) ?_
  refine lv_iconst (v := nI 0) hx hb d_Mod_cut_1 (by decide) ?_
  refine va_put (D := D) (ci := 9) (v := .int (nI 0)) (ty := .int) (C := "TileScreenModel") (T := F_Mod) (N := 27) hx hb htb i_Mod t_Mod t_Mod_ok n_Mod hown hG.1 hP hD hS 0 rfl rfl 0 (by decide) (htb _ k_635) (fun _ h9 => h9) rfl (by decide +kernel) rfl rfl (Nat.le_of_ble_eq_true rfl) d_Mod_cut_2 (fun H locs hP hD hS => ?_)
  have hP : va_P D classes [(mo, .inr (9, [.int (nI 0), .ref rpx, .int nb, .ref rca, .ref rpl, .ref rth, .ref rco, .ref rsh, .ref rsf, .ref rcr, .ref rep, .ref rby, .ref rli, .ref rls, .ref rla, .ref rcm, .ref rcs, .ref rpa, .ref rpm, .ref rpo, .ref rti, .ref rre, .ref rcl, .int (nI sz), .int (nI cs), .int (nI nx), .int (nI la)])), (rco, .inl (cZ, 3, .inl (nF Cn))), (rls, .inl (cI, 3, .inl (nF Ls))), (rla, .inl (cI, 3, .inl (nF La))), (rcs, .inl (cI, 3, .inl (nF Cz))), (rcr, .inl (cI, 3, .inl (nF Cr)))] H := hP
  have hD : va_D AA [(mo, .inr (9, [.int (nI 0), .ref rpx, .int nb, .ref rca, .ref rpl, .ref rth, .ref rco, .ref rsh, .ref rsf, .ref rcr, .ref rep, .ref rby, .ref rli, .ref rls, .ref rla, .ref rcm, .ref rcs, .ref rpa, .ref rpm, .ref rpo, .ref rti, .ref rre, .ref rcl, .int (nI sz), .int (nI cs), .int (nI nx), .int (nI la)])), (rco, .inl (cZ, 3, .inl (nF Cn))), (rls, .inl (cI, 3, .inl (nF Ls))), (rla, .inl (cI, 3, .inl (nF La))), (rcs, .inl (cI, 3, .inl (nF Cz))), (rcr, .inl (cI, 3, .inl (nF Cr)))] := hD
  refine lv_iload_n hx hb d_Mod_cut_5 rfl (lv_at hl 1 rfl) ?_
  refine kS_i (wc := []) (wr := [(mo, .inr (9, [.int (nI 0), .ref rpx, .int nb, .ref rca, .ref rpl, .ref rth, .ref rco, .ref rsh, .ref rsf, .ref rcr, .ref rep, .ref rby, .ref rli, .ref rls, .ref rla, .ref rcm, .ref rcs, .ref rpa, .ref rpm, .ref rpo, .ref rti, .ref rre, .ref rcl, .int (nI sz), .int (nI cs), .int (nI nx), .int (nI la)])), (rco, .inl (cZ, 3, .inl (nF Cn))), (rls, .inl (cI, 3, .inl (nF Ls))), (rla, .inl (cI, 3, .inl (nF La))), (rcs, .inl (cI, 3, .inl (nF Cz))), (rcr, .inl (cI, 3, .inl (nF Cr)))]) (w2 := fun _ => [(mo, .inr (9, [.int (nI 0), .ref rpx, .int nb, .ref rca, .ref rpl, .ref rth, .ref rco, .ref rsh, .ref rsf, .ref rcr, .ref rep, .ref rby, .ref rli, .ref rls, .ref rla, .ref rcm, .ref rcs, .ref rpa, .ref rpm, .ref rpo, .ref rti, .ref rre, .ref rcl, .int (nI sz), .int (nI cs), .int (nI nx), .int (nI la)])), (rco, .inl (cZ, 3, .inl (nF Cn))), (rls, .inl (cI, 3, .inl (nF Ls))), (rla, .inl (cI, 3, .inl (nF La))), (rcs, .inl (cI, 3, .inl (nF Cz))), (rcr, .inl (cI, 3, .inl (nF Cr)))]) [.int (nI v)] [] Bd ⟨gi_app (gi_c0 k_753 (gi_c0 k_754 (gi_c0 k_10 gi_nil))) (gi_tb0 k_755), rfl, by decide, by decide⟩ (show (parseMethodDescriptor "(I)Z").map (fun d => d.parameters.length) = some 1 by decide +kernel) (c_Mod_isViewer (nI v) ) (by decide +kernel) ⟨Nat.le_of_ble_eq_true rfl, Nat.le_of_ble_eq_true rfl⟩ hG hP hD hS hA [] [0, 1, 2, 3, 4, 5] [0, 1, 2, 3, 4, 5] (by decide) rfl rfl (fun _ => rfl) hl.1 rfl (Nat.le_of_ble_eq_true rfl) d_Mod_cut_6 (fun r1 u3 H locs hp2 hP hD hS => ?_)
  have hP : va_P D classes [(mo, .inr (9, [.int (nI 0), .ref rpx, .int nb, .ref rca, .ref rpl, .ref rth, .ref rco, .ref rsh, .ref rsf, .ref rcr, .ref rep, .ref rby, .ref rli, .ref rls, .ref rla, .ref rcm, .ref rcs, .ref rpa, .ref rpm, .ref rpo, .ref rti, .ref rre, .ref rcl, .int (nI sz), .int (nI cs), .int (nI nx), .int (nI la)])), (rco, .inl (cZ, 3, .inl (nF Cn))), (rls, .inl (cI, 3, .inl (nF Ls))), (rla, .inl (cI, 3, .inl (nF La))), (rcs, .inl (cI, 3, .inl (nF Cz))), (rcr, .inl (cI, 3, .inl (nF Cr)))] H := hP
  have hD : va_D AA [(mo, .inr (9, [.int (nI 0), .ref rpx, .int nb, .ref rca, .ref rpl, .ref rth, .ref rco, .ref rsh, .ref rsf, .ref rcr, .ref rep, .ref rby, .ref rli, .ref rls, .ref rla, .ref rcm, .ref rcs, .ref rpa, .ref rpm, .ref rpo, .ref rti, .ref rre, .ref rcl, .int (nI sz), .int (nI cs), .int (nI nx), .int (nI la)])), (rco, .inl (cZ, 3, .inl (nF Cn))), (rls, .inl (cI, 3, .inl (nF Ls))), (rla, .inl (cI, 3, .inl (nF La))), (rcs, .inl (cI, 3, .inl (nF Cz))), (rcr, .inl (cI, 3, .inl (nF Cr)))] := hD
  subst hp2
  refine nv_if_eq (tgt := 25) hx hb d_Mod_cut_9 (by decide) (bt_lt _) (fun c_9 => ?_) (fun c_9 => ?_)
  · exact absurd (vwP_i hv) (cB_0 c_9)
  · refine lv_aload_n hx hb d_Mod_cut_12 rfl (lv_at hl 0 rfl) ?_
    refine va_get (D := D) (ci := 9) (v := .ref rco) (C := "TileScreenModel") (T := F_Mod) (N := 27) hx hb htb i_Mod hown hG.1 hP 0 rfl rfl 6 (by decide) (htb _ k_641) (fun _ h9 => h9) rfl d_Mod_cut_13 ?_
    refine lv_iload_n hx hb d_Mod_cut_16 rfl (lv_at hl 1 rfl) ?_
    refine nv_zald hx hb hG.1 hP 1 1 rfl rfl (by omega) (by omega) d_Mod_cut_17 ?_
    refine nv_if_eq (tgt := 25) hx hb d_Mod_cut_18 (by decide) (lt2 (bCn _)) (fun c_18 => ?_) (fun c_18 => ?_)
    · exact absurd c_18 hc
    · refine lv_iconst (v := nI 1) hx hb d_Mod_cut_21 (by decide) ?_
      refine lv_goto (tgt := 26) hx hb d_Mod_cut_22 (by decide) ?_
      refine lv_istore_n (lv' := [(2, .int (nI 1)), (0, .ref mo), (1, .int (nI v))]) hx hb d_Mod_cut_26 rfl hl (by decide) rfl (fun ls hl => ?_)
      refine lv_iload_n hx hb d_Mod_cut_27 rfl (lv_at hl 0 rfl) ?_
      refine nv_if_eq (tgt := 36) hx hb d_Mod_cut_28 (by decide) (by decide) (fun h9 => absurd h9 (by decide)) (fun _ => ?_)
      refine lv_aload_n hx hb d_Mod_cut_31 rfl (lv_at hl 1 rfl) ?_
      refine lv_iload_n hx hb d_Mod_cut_32 rfl (lv_at hl 2 rfl) ?_
      refine kV_v (wc := [(mo, .inr (9, [.int (nI 0), .ref rpx, .int nb, .ref rca, .ref rpl, .ref rth, .ref rco, .ref rsh, .ref rsf, .ref rcr, .ref rep, .ref rby, .ref rli, .ref rls, .ref rla, .ref rcm, .ref rcs, .ref rpa, .ref rpm, .ref rpo, .ref rti, .ref rre, .ref rcl, .int (nI sz), .int (nI cs), .int (nI nx), .int (nI la)])), (rco, .inl (cZ, 3, .inl (nF Cn))), (rls, .inl (cI, 3, .inl (nF Ls))), (rla, .inl (cI, 3, .inl (nF La))), (rcs, .inl (cI, 3, .inl (nF Cz))), (rcr, .inl (cI, 3, .inl (nF Cr)))]) (wr := []) (w2 := fun _ => [(mo, .inr (9, [.int (nI 0), .ref rpx, .int nb, .ref rca, .ref rpl, .ref rth, .ref rco, .ref rsh, .ref rsf, .ref rcr, .ref rep, .ref rby, .ref rli, .ref rls, .ref rla, .ref rcm, .ref rcs, .ref rpa, .ref rpm, .ref rpo, .ref rti, .ref rre, .ref rcl, .int (nI sz), .int (nI cs), .int (nI nx), .int (nI la)])), (rco, .inl (cZ, 3, .inl (nF (up Cn v 0)))), (rls, .inl (cI, 3, .inl (nF (up Ls v 0)))), (rla, .inl (cI, 3, .inl (nF (up La v 0)))), (rcs, .inl (cI, 3, .inl (nF (up Cz v 0)))), (rcr, .inl (cI, 3, .inl (nF (up Cr v 0))))]) [.int (nI v)] [] Bd ⟨gi_app (gi_c0 k_760 (gi_c0 k_762 (gi_c0 s_23 (gi_c0 k_10 gi_nil)))) (gi_tb0 k_763), rfl, by decide, by decide⟩ (show (parseMethodDescriptor "(I)V").map (fun d => d.parameters.length) = some 1 by decide +kernel) (c_Mod_leave mo (nI 0) rpx nb rca rpl rth rco rsh rsf rcr rep rby rli rls rla rcm rcs rpa rpm rpo rti rre rcl sz cs nx la Cn Ls La Cz Cr v (by omega)) (by decide +kernel) ⟨Nat.le_of_ble_eq_true rfl, Nat.le_of_ble_eq_true rfl⟩ hG hP hD hS hA [0, 1, 2, 3, 4, 5] [] [0, 1, 2, 3, 4, 5] (by decide) rfl rfl (fun _ => rfl) (q0 := 0) rfl rfl rfl hl.1 rfl (Nat.le_of_ble_eq_true rfl) d_Mod_cut_33 (fun u5 H locs hp4 hP hD hS => ?_)
      have hP : va_P D classes [(mo, .inr (9, [.int (nI 0), .ref rpx, .int nb, .ref rca, .ref rpl, .ref rth, .ref rco, .ref rsh, .ref rsf, .ref rcr, .ref rep, .ref rby, .ref rli, .ref rls, .ref rla, .ref rcm, .ref rcs, .ref rpa, .ref rpm, .ref rpo, .ref rti, .ref rre, .ref rcl, .int (nI sz), .int (nI cs), .int (nI nx), .int (nI la)])), (rco, .inl (cZ, 3, .inl (nF (up Cn v 0)))), (rls, .inl (cI, 3, .inl (nF (up Ls v 0)))), (rla, .inl (cI, 3, .inl (nF (up La v 0)))), (rcs, .inl (cI, 3, .inl (nF (up Cz v 0)))), (rcr, .inl (cI, 3, .inl (nF (up Cr v 0))))] H := hP
      have hD : va_D AA [(mo, .inr (9, [.int (nI 0), .ref rpx, .int nb, .ref rca, .ref rpl, .ref rth, .ref rco, .ref rsh, .ref rsf, .ref rcr, .ref rep, .ref rby, .ref rli, .ref rls, .ref rla, .ref rcm, .ref rcs, .ref rpa, .ref rpm, .ref rpo, .ref rti, .ref rre, .ref rcl, .int (nI sz), .int (nI cs), .int (nI nx), .int (nI la)])), (rco, .inl (cZ, 3, .inl (nF (up Cn v 0)))), (rls, .inl (cI, 3, .inl (nF (up Ls v 0)))), (rla, .inl (cI, 3, .inl (nF (up La v 0)))), (rcs, .inl (cI, 3, .inl (nF (up Cz v 0)))), (rcr, .inl (cI, 3, .inl (nF (up Cr v 0))))] := hD
      refine lv_iload_n hx hb d_Mod_cut_36 rfl (lv_at hl 0 rfl) ?_
      exact hret _ () _ _ _ _ d_Mod_cut_37 (by first | rfl | decide) (rfl) hP hD hS
set_option maxHeartbeats 400000 in
set_option maxRecDepth 100000 in
theorem c_Mod_cut_is (mo : Nat) (cd : Int32) (rpx : Nat) (nb : Int32) (rca : Nat) (rpl : Nat) (rth : Nat) (rco : Nat) (rsh : Nat) (rsf : Nat) (rcr : Nat) (rep : Nat) (rby : Nat) (rli : Nat) (rls : Nat) (rla : Nat) (rcm : Nat) (rcs : Nat) (rpa : Nat) (rpm : Nat) (rpo : Nat) (rti : Nat) (rre : Nat) (rcl : Nat) (sz : Nat) (cs : Nat) (nx : Nat) (la : Nat) (Cn : Nat → Nat) (v : Nat) (hv : v < 3) (bCn : ∀ j, Cn j < 2) (hc : Cn v = 0) : CI (S := Unit) l classes NW D (TYS cI cZ cL cV) y_Mod_cut (.code y_Mod_cut b_Mod_cut 3 (some .boolean) :: TB) { frames := 1, cells := 0, slots := 0, locals := 20 } [.ref mo, .int (nI v)] [(mo, .inr (9, [.int cd, .ref rpx, .int nb, .ref rca, .ref rpl, .ref rth, .ref rco, .ref rsh, .ref rsf, .ref rcr, .ref rep, .ref rby, .ref rli, .ref rls, .ref rla, .ref rcm, .ref rcs, .ref rpa, .ref rpm, .ref rpo, .ref rti, .ref rre, .ref rcl, .int (nI sz), .int (nI cs), .int (nI nx), .int (nI la)])), (rco, .inl (cZ, 3, .inl (nF Cn)))] (fun r u => r = nI 0) (fun u => [(mo, .inr (9, [.int (nI 0), .ref rpx, .int nb, .ref rca, .ref rpl, .ref rth, .ref rco, .ref rsh, .ref rsf, .ref rcr, .ref rep, .ref rby, .ref rli, .ref rls, .ref rla, .ref rcm, .ref rcs, .ref rpa, .ref rpm, .ref rpo, .ref rti, .ref rre, .ref rcl, .int (nI sz), .int (nI cs), .int (nI nx), .int (nI la)])), (rco, .inl (cZ, 3, .inl (nF Cn)))]) := by
  refine CI.of (by decide) (Nat.le_of_ble_eq_true rfl) ?_
  intro pr ev sT mM aR bW mE cO AA QQ ls Bd hG hA hP hD hS hl hret
  have Bd : bd pr cO b_Mod_cut 3 sT aR TB "TileScreenModel" mM := Bd
  obtain ⟨hx, hb, hml, hown, htb⟩ := id Bd
  have hl : lv_has ls 3 [(0, .ref mo), (1, .int (nI v))] := hl
  refine lv_aload_n hx hb d_Mod_cut_0 rfl (lv_at hl 0 rfl) ?_
  refine lv_iconst (v := nI 0) hx hb d_Mod_cut_1 (by decide) ?_
  refine va_put (D := D) (ci := 9) (v := .int (nI 0)) (ty := .int) (C := "TileScreenModel") (T := F_Mod) (N := 27) hx hb htb i_Mod t_Mod t_Mod_ok n_Mod hown hG.1 hP hD hS 0 rfl rfl 0 (by decide) (htb _ k_635) (fun _ h9 => h9) rfl (by decide +kernel) rfl rfl (Nat.le_of_ble_eq_true rfl) d_Mod_cut_2 (fun H locs hP hD hS => ?_)
  have hP : va_P D classes [(mo, .inr (9, [.int (nI 0), .ref rpx, .int nb, .ref rca, .ref rpl, .ref rth, .ref rco, .ref rsh, .ref rsf, .ref rcr, .ref rep, .ref rby, .ref rli, .ref rls, .ref rla, .ref rcm, .ref rcs, .ref rpa, .ref rpm, .ref rpo, .ref rti, .ref rre, .ref rcl, .int (nI sz), .int (nI cs), .int (nI nx), .int (nI la)])), (rco, .inl (cZ, 3, .inl (nF Cn)))] H := hP
  have hD : va_D AA [(mo, .inr (9, [.int (nI 0), .ref rpx, .int nb, .ref rca, .ref rpl, .ref rth, .ref rco, .ref rsh, .ref rsf, .ref rcr, .ref rep, .ref rby, .ref rli, .ref rls, .ref rla, .ref rcm, .ref rcs, .ref rpa, .ref rpm, .ref rpo, .ref rti, .ref rre, .ref rcl, .int (nI sz), .int (nI cs), .int (nI nx), .int (nI la)])), (rco, .inl (cZ, 3, .inl (nF Cn)))] := hD
  refine lv_iload_n hx hb d_Mod_cut_5 rfl (lv_at hl 1 rfl) ?_
  refine kS_i (wc := []) (wr := [(mo, .inr (9, [.int (nI 0), .ref rpx, .int nb, .ref rca, .ref rpl, .ref rth, .ref rco, .ref rsh, .ref rsf, .ref rcr, .ref rep, .ref rby, .ref rli, .ref rls, .ref rla, .ref rcm, .ref rcs, .ref rpa, .ref rpm, .ref rpo, .ref rti, .ref rre, .ref rcl, .int (nI sz), .int (nI cs), .int (nI nx), .int (nI la)])), (rco, .inl (cZ, 3, .inl (nF Cn)))]) (w2 := fun _ => [(mo, .inr (9, [.int (nI 0), .ref rpx, .int nb, .ref rca, .ref rpl, .ref rth, .ref rco, .ref rsh, .ref rsf, .ref rcr, .ref rep, .ref rby, .ref rli, .ref rls, .ref rla, .ref rcm, .ref rcs, .ref rpa, .ref rpm, .ref rpo, .ref rti, .ref rre, .ref rcl, .int (nI sz), .int (nI cs), .int (nI nx), .int (nI la)])), (rco, .inl (cZ, 3, .inl (nF Cn)))]) [.int (nI v)] [] Bd ⟨gi_app (gi_c0 k_753 (gi_c0 k_754 (gi_c0 k_10 gi_nil))) (gi_tb0 k_755), rfl, by decide, by decide⟩ (show (parseMethodDescriptor "(I)Z").map (fun d => d.parameters.length) = some 1 by decide +kernel) (c_Mod_isViewer (nI v) ) (by decide +kernel) ⟨Nat.le_of_ble_eq_true rfl, Nat.le_of_ble_eq_true rfl⟩ hG hP hD hS hA [] [0, 1] [0, 1] (by decide) rfl rfl (fun _ => rfl) hl.1 rfl (Nat.le_of_ble_eq_true rfl) d_Mod_cut_6 (fun r1 u3 H locs hp2 hP hD hS => ?_)
  have hP : va_P D classes [(mo, .inr (9, [.int (nI 0), .ref rpx, .int nb, .ref rca, .ref rpl, .ref rth, .ref rco, .ref rsh, .ref rsf, .ref rcr, .ref rep, .ref rby, .ref rli, .ref rls, .ref rla, .ref rcm, .ref rcs, .ref rpa, .ref rpm, .ref rpo, .ref rti, .ref rre, .ref rcl, .int (nI sz), .int (nI cs), .int (nI nx), .int (nI la)])), (rco, .inl (cZ, 3, .inl (nF Cn)))] H := hP
  have hD : va_D AA [(mo, .inr (9, [.int (nI 0), .ref rpx, .int nb, .ref rca, .ref rpl, .ref rth, .ref rco, .ref rsh, .ref rsf, .ref rcr, .ref rep, .ref rby, .ref rli, .ref rls, .ref rla, .ref rcm, .ref rcs, .ref rpa, .ref rpm, .ref rpo, .ref rti, .ref rre, .ref rcl, .int (nI sz), .int (nI cs), .int (nI nx), .int (nI la)])), (rco, .inl (cZ, 3, .inl (nF Cn)))] := hD
  subst hp2
  refine nv_if_eq (tgt := 25) hx hb d_Mod_cut_9 (by decide) (bt_lt _) (fun c_9 => ?_) (fun c_9 => ?_)
  · exact absurd (vwP_i hv) (cB_0 c_9)
  · refine lv_aload_n hx hb d_Mod_cut_12 rfl (lv_at hl 0 rfl) ?_
    refine va_get (D := D) (ci := 9) (v := .ref rco) (C := "TileScreenModel") (T := F_Mod) (N := 27) hx hb htb i_Mod hown hG.1 hP 0 rfl rfl 6 (by decide) (htb _ k_641) (fun _ h9 => h9) rfl d_Mod_cut_13 ?_
    refine lv_iload_n hx hb d_Mod_cut_16 rfl (lv_at hl 1 rfl) ?_
    refine nv_zald hx hb hG.1 hP 1 1 rfl rfl (by omega) (by omega) d_Mod_cut_17 ?_
    refine nv_if_eq (tgt := 25) hx hb d_Mod_cut_18 (by decide) (lt2 (bCn _)) (fun c_18 => ?_) (fun c_18 => ?_)
    · refine lv_iconst (v := nI 0) hx hb d_Mod_cut_25 (by decide) ?_
      refine lv_istore_n (lv' := [(2, .int (nI 0)), (0, .ref mo), (1, .int (nI v))]) hx hb d_Mod_cut_26 rfl hl (by decide) rfl (fun ls hl => ?_)
      refine lv_iload_n hx hb d_Mod_cut_27 rfl (lv_at hl 0 rfl) ?_
      refine nv_if_eq (tgt := 36) hx hb d_Mod_cut_28 (by decide) (by decide) (fun _ => ?_) (fun h9 => absurd h9 (by decide))
      refine lv_iload_n hx hb d_Mod_cut_36 rfl (lv_at hl 0 rfl) ?_
      exact hret _ () _ _ _ _ d_Mod_cut_37 (by first | rfl | decide) (rfl) hP hD hS
    · exact absurd hc c_18
set_option maxHeartbeats 400000 in
set_option maxRecDepth 100000 in
theorem c_Mod_cut_no (mo : Nat) (cd : Int32) (rpx : Nat) (nb : Int32) (rca : Nat) (rpl : Nat) (rth : Nat) (rco : Nat) (rsh : Nat) (rsf : Nat) (rcr : Nat) (rep : Nat) (rby : Nat) (rli : Nat) (rls : Nat) (rla : Nat) (rcm : Nat) (rcs : Nat) (rpa : Nat) (rpm : Nat) (rpo : Nat) (rti : Nat) (rre : Nat) (rcl : Nat) (sz : Nat) (cs : Nat) (nx : Nat) (la : Nat) (v : Int32) (hno : ¬ vwP v) : CI (S := Unit) l classes NW D (TYS cI cZ cL cV) y_Mod_cut (.code y_Mod_cut b_Mod_cut 3 (some .boolean) :: TB) { frames := 1, cells := 0, slots := 0, locals := 20 } [.ref mo, .int v] [(mo, .inr (9, [.int cd, .ref rpx, .int nb, .ref rca, .ref rpl, .ref rth, .ref rco, .ref rsh, .ref rsf, .ref rcr, .ref rep, .ref rby, .ref rli, .ref rls, .ref rla, .ref rcm, .ref rcs, .ref rpa, .ref rpm, .ref rpo, .ref rti, .ref rre, .ref rcl, .int (nI sz), .int (nI cs), .int (nI nx), .int (nI la)]))] (fun r u => r = nI 0) (fun u => [(mo, .inr (9, [.int (nI 0), .ref rpx, .int nb, .ref rca, .ref rpl, .ref rth, .ref rco, .ref rsh, .ref rsf, .ref rcr, .ref rep, .ref rby, .ref rli, .ref rls, .ref rla, .ref rcm, .ref rcs, .ref rpa, .ref rpm, .ref rpo, .ref rti, .ref rre, .ref rcl, .int (nI sz), .int (nI cs), .int (nI nx), .int (nI la)]))]) := by
  refine CI.of (by decide) (Nat.le_of_ble_eq_true rfl) ?_
  intro pr ev sT mM aR bW mE cO AA QQ ls Bd hG hA hP hD hS hl hret
  have Bd : bd pr cO b_Mod_cut 3 sT aR TB "TileScreenModel" mM := Bd
  obtain ⟨hx, hb, hml, hown, htb⟩ := id Bd
  have hl : lv_has ls 3 [(0, .ref mo), (1, .int v)] := hl
  refine lv_aload_n hx hb d_Mod_cut_0 rfl (lv_at hl 0 rfl) ?_
  refine lv_iconst (v := nI 0) hx hb d_Mod_cut_1 (by decide) ?_
  refine va_put (D := D) (ci := 9) (v := .int (nI 0)) (ty := .int) (C := "TileScreenModel") (T := F_Mod) (N := 27) hx hb htb i_Mod t_Mod t_Mod_ok n_Mod hown hG.1 hP hD hS 0 rfl rfl 0 (by decide) (htb _ k_635) (fun _ h9 => h9) rfl (by decide +kernel) rfl rfl (Nat.le_of_ble_eq_true rfl) d_Mod_cut_2 (fun H locs hP hD hS => ?_)
  have hP : va_P D classes [(mo, .inr (9, [.int (nI 0), .ref rpx, .int nb, .ref rca, .ref rpl, .ref rth, .ref rco, .ref rsh, .ref rsf, .ref rcr, .ref rep, .ref rby, .ref rli, .ref rls, .ref rla, .ref rcm, .ref rcs, .ref rpa, .ref rpm, .ref rpo, .ref rti, .ref rre, .ref rcl, .int (nI sz), .int (nI cs), .int (nI nx), .int (nI la)]))] H := hP
  have hD : va_D AA [(mo, .inr (9, [.int (nI 0), .ref rpx, .int nb, .ref rca, .ref rpl, .ref rth, .ref rco, .ref rsh, .ref rsf, .ref rcr, .ref rep, .ref rby, .ref rli, .ref rls, .ref rla, .ref rcm, .ref rcs, .ref rpa, .ref rpm, .ref rpo, .ref rti, .ref rre, .ref rcl, .int (nI sz), .int (nI cs), .int (nI nx), .int (nI la)]))] := hD
  refine lv_iload_n hx hb d_Mod_cut_5 rfl (lv_at hl 1 rfl) ?_
  refine kS_i (wc := []) (wr := [(mo, .inr (9, [.int (nI 0), .ref rpx, .int nb, .ref rca, .ref rpl, .ref rth, .ref rco, .ref rsh, .ref rsf, .ref rcr, .ref rep, .ref rby, .ref rli, .ref rls, .ref rla, .ref rcm, .ref rcs, .ref rpa, .ref rpm, .ref rpo, .ref rti, .ref rre, .ref rcl, .int (nI sz), .int (nI cs), .int (nI nx), .int (nI la)]))]) (w2 := fun _ => [(mo, .inr (9, [.int (nI 0), .ref rpx, .int nb, .ref rca, .ref rpl, .ref rth, .ref rco, .ref rsh, .ref rsf, .ref rcr, .ref rep, .ref rby, .ref rli, .ref rls, .ref rla, .ref rcm, .ref rcs, .ref rpa, .ref rpm, .ref rpo, .ref rti, .ref rre, .ref rcl, .int (nI sz), .int (nI cs), .int (nI nx), .int (nI la)]))]) [.int v] [] Bd ⟨gi_app (gi_c0 k_753 (gi_c0 k_754 (gi_c0 k_10 gi_nil))) (gi_tb0 k_755), rfl, by decide, by decide⟩ (show (parseMethodDescriptor "(I)Z").map (fun d => d.parameters.length) = some 1 by decide +kernel) (c_Mod_isViewer v ) (by decide +kernel) ⟨Nat.le_of_ble_eq_true rfl, Nat.le_of_ble_eq_true rfl⟩ hG hP hD hS hA [] [0] [0] (by decide) rfl rfl (fun _ => rfl) hl.1 rfl (Nat.le_of_ble_eq_true rfl) d_Mod_cut_6 (fun r1 u3 H locs hp2 hP hD hS => ?_)
  have hP : va_P D classes [(mo, .inr (9, [.int (nI 0), .ref rpx, .int nb, .ref rca, .ref rpl, .ref rth, .ref rco, .ref rsh, .ref rsf, .ref rcr, .ref rep, .ref rby, .ref rli, .ref rls, .ref rla, .ref rcm, .ref rcs, .ref rpa, .ref rpm, .ref rpo, .ref rti, .ref rre, .ref rcl, .int (nI sz), .int (nI cs), .int (nI nx), .int (nI la)]))] H := hP
  have hD : va_D AA [(mo, .inr (9, [.int (nI 0), .ref rpx, .int nb, .ref rca, .ref rpl, .ref rth, .ref rco, .ref rsh, .ref rsf, .ref rcr, .ref rep, .ref rby, .ref rli, .ref rls, .ref rla, .ref rcm, .ref rcs, .ref rpa, .ref rpm, .ref rpo, .ref rti, .ref rre, .ref rcl, .int (nI sz), .int (nI cs), .int (nI nx), .int (nI la)]))] := hD
  subst hp2
  refine nv_if_eq (tgt := 25) hx hb d_Mod_cut_9 (by decide) (bt_lt _) (fun c_9 => ?_) (fun c_9 => ?_)
  · refine lv_iconst (v := nI 0) hx hb d_Mod_cut_25 (by decide) ?_
    refine lv_istore_n (lv' := [(2, .int (nI 0)), (0, .ref mo), (1, .int v)]) hx hb d_Mod_cut_26 rfl hl (by decide) rfl (fun ls hl => ?_)
    refine lv_iload_n hx hb d_Mod_cut_27 rfl (lv_at hl 0 rfl) ?_
    refine nv_if_eq (tgt := 36) hx hb d_Mod_cut_28 (by decide) (by decide) (fun _ => ?_) (fun h9 => absurd h9 (by decide))
    refine lv_iload_n hx hb d_Mod_cut_36 rfl (lv_at hl 0 rfl) ?_
    exact hret _ () _ _ _ _ d_Mod_cut_37 (by first | rfl | decide) (rfl) hP hD hS
  · exact absurd (cB_1 c_9) hno
set_option maxHeartbeats 400000 in
set_option maxRecDepth 100000 in
theorem c_Mod_credit_arg (mo : Nat) (cd : Int32) (rpx : Nat) (nb : Int32) (rca : Nat) (rpl : Nat) (rth : Nat) (rco : Nat) (rsh : Nat) (rsf : Nat) (rcr : Nat) (rep : Nat) (rby : Nat) (rli : Nat) (rls : Nat) (rla : Nat) (rcm : Nat) (rcs : Nat) (rpa : Nat) (rpm : Nat) (rpo : Nat) (rti : Nat) (rre : Nat) (rcl : Nat) (sz : Nat) (cs : Nat) (nx : Nat) (la : Nat) (v : Int32) (n : Int32) (hno : ¬ (vwP v ∧ ∃ q, 1 ≤ q ∧ q ≤ 1000000 ∧ n = nI q)) : CI (S := Unit) l classes NW D (TYS cI cZ cL cV) y_Mod_credit (.code y_Mod_credit b_Mod_credit 3 (some .int) :: TB) { frames := 1, cells := 0, slots := 0, locals := 20 } [.ref mo, .int v, .int n] [(mo, .inr (9, [.int cd, .ref rpx, .int nb, .ref rca, .ref rpl, .ref rth, .ref rco, .ref rsh, .ref rsf, .ref rcr, .ref rep, .ref rby, .ref rli, .ref rls, .ref rla, .ref rcm, .ref rcs, .ref rpa, .ref rpm, .ref rpo, .ref rti, .ref rre, .ref rcl, .int (nI sz), .int (nI cs), .int (nI nx), .int (nI la)]))] (fun r u => r = nI 0) (fun u => [(mo, .inr (9, [.int (nI 1), .ref rpx, .int nb, .ref rca, .ref rpl, .ref rth, .ref rco, .ref rsh, .ref rsf, .ref rcr, .ref rep, .ref rby, .ref rli, .ref rls, .ref rla, .ref rcm, .ref rcs, .ref rpa, .ref rpm, .ref rpo, .ref rti, .ref rre, .ref rcl, .int (nI sz), .int (nI cs), .int (nI nx), .int (nI la)]))]) := by
  refine CI.of (by decide) (Nat.le_of_ble_eq_true rfl) ?_
  intro pr ev sT mM aR bW mE cO AA QQ ls Bd hG hA hP hD hS hl hret
  have Bd : bd pr cO b_Mod_credit 3 sT aR TB "TileScreenModel" mM := Bd
  obtain ⟨hx, hb, hml, hown, htb⟩ := id Bd
  have hl : lv_has ls 3 [(0, .ref mo), (1, .int v), (2, .int n)] := hl
  refine lv_aload_n hx hb d_Mod_credit_0 rfl (lv_at hl 0 rfl) ?_
  refine lv_iload_n hx hb d_Mod_credit_1 rfl (lv_at hl 1 rfl) ?_
  refine kS_i (wc := []) (wr := [(mo, .inr (9, [.int cd, .ref rpx, .int nb, .ref rca, .ref rpl, .ref rth, .ref rco, .ref rsh, .ref rsf, .ref rcr, .ref rep, .ref rby, .ref rli, .ref rls, .ref rla, .ref rcm, .ref rcs, .ref rpa, .ref rpm, .ref rpo, .ref rti, .ref rre, .ref rcl, .int (nI sz), .int (nI cs), .int (nI nx), .int (nI la)]))]) (w2 := fun _ => [(mo, .inr (9, [.int cd, .ref rpx, .int nb, .ref rca, .ref rpl, .ref rth, .ref rco, .ref rsh, .ref rsf, .ref rcr, .ref rep, .ref rby, .ref rli, .ref rls, .ref rla, .ref rcm, .ref rcs, .ref rpa, .ref rpm, .ref rpo, .ref rti, .ref rre, .ref rcl, .int (nI sz), .int (nI cs), .int (nI nx), .int (nI la)]))]) [.int v] [.ref mo] Bd ⟨gi_app (gi_c0 k_753 (gi_c0 k_754 (gi_c0 k_10 gi_nil))) (gi_tb0 k_755), rfl, by decide, by decide⟩ (show (parseMethodDescriptor "(I)Z").map (fun d => d.parameters.length) = some 1 by decide +kernel) (c_Mod_isViewer v ) (by decide +kernel) ⟨Nat.le_of_ble_eq_true rfl, Nat.le_of_ble_eq_true rfl⟩ hG hP hD hS hA [] [0] [0] (by decide) rfl rfl (fun _ => rfl) hl.1 rfl (Nat.le_of_ble_eq_true rfl) d_Mod_credit_2 (fun r1 u3 H locs hp2 hP hD hS => ?_)
  have hP : va_P D classes [(mo, .inr (9, [.int cd, .ref rpx, .int nb, .ref rca, .ref rpl, .ref rth, .ref rco, .ref rsh, .ref rsf, .ref rcr, .ref rep, .ref rby, .ref rli, .ref rls, .ref rla, .ref rcm, .ref rcs, .ref rpa, .ref rpm, .ref rpo, .ref rti, .ref rre, .ref rcl, .int (nI sz), .int (nI cs), .int (nI nx), .int (nI la)]))] H := hP
  have hD : va_D AA [(mo, .inr (9, [.int cd, .ref rpx, .int nb, .ref rca, .ref rpl, .ref rth, .ref rco, .ref rsh, .ref rsf, .ref rcr, .ref rep, .ref rby, .ref rli, .ref rls, .ref rla, .ref rcm, .ref rcs, .ref rpa, .ref rpm, .ref rpo, .ref rti, .ref rre, .ref rcl, .int (nI sz), .int (nI cs), .int (nI nx), .int (nI la)]))] := hD
  subst hp2
  refine nv_if_eq (tgt := 19) hx hb d_Mod_credit_5 (by decide) (bt_lt _) (fun c_5 => ?_) (fun c_5 => ?_)
  · refine lv_iconst (v := nI 1) hx hb d_Mod_credit_19 (by decide) ?_
    refine lv_goto (tgt := 50) hx hb d_Mod_credit_20 (by decide) ?_
    refine va_put (D := D) (ci := 9) (v := .int (nI 1)) (ty := .int) (C := "TileScreenModel") (T := F_Mod) (N := 27) hx hb htb i_Mod t_Mod t_Mod_ok n_Mod hown hG.1 hP hD hS 0 rfl rfl 0 (by decide) (htb _ k_635) (fun _ h9 => h9) rfl (by decide +kernel) rfl rfl (Nat.le_of_ble_eq_true rfl) d_Mod_credit_50 (fun H locs hP hD hS => ?_)
    have hP : va_P D classes [(mo, .inr (9, [.int (nI 1), .ref rpx, .int nb, .ref rca, .ref rpl, .ref rth, .ref rco, .ref rsh, .ref rsf, .ref rcr, .ref rep, .ref rby, .ref rli, .ref rls, .ref rla, .ref rcm, .ref rcs, .ref rpa, .ref rpm, .ref rpo, .ref rti, .ref rre, .ref rcl, .int (nI sz), .int (nI cs), .int (nI nx), .int (nI la)]))] H := hP
    have hD : va_D AA [(mo, .inr (9, [.int (nI 1), .ref rpx, .int nb, .ref rca, .ref rpl, .ref rth, .ref rco, .ref rsh, .ref rsf, .ref rcr, .ref rep, .ref rby, .ref rli, .ref rls, .ref rla, .ref rcm, .ref rcs, .ref rpa, .ref rpm, .ref rpo, .ref rti, .ref rre, .ref rcl, .int (nI sz), .int (nI cs), .int (nI nx), .int (nI la)]))] := hD
    refine lv_aload_n hx hb d_Mod_credit_53 rfl (lv_at hl 0 rfl) ?_
    refine va_get (D := D) (ci := 9) (v := .int (nI 1)) (C := "TileScreenModel") (T := F_Mod) (N := 27) hx hb htb i_Mod hown hG.1 hP 0 rfl rfl 0 (by decide) (htb _ k_635) (fun _ h9 => h9) rfl d_Mod_credit_54 ?_
    refine nv_if_le (tgt := 62) hx hb d_Mod_credit_57 (by decide) (by decide) (fun h9 => absurd h9 (by decide)) (fun _ => ?_)
    refine lv_iconst (v := nI 0) hx hb d_Mod_credit_60 (by decide) ?_
    exact hret _ () _ _ _ _ d_Mod_credit_61 rfl (rfl) hP hD hS
  · refine lv_iload_n hx hb d_Mod_credit_8 rfl (lv_at hl 2 rfl) ?_
    refine lv_iconst (v := nI 1) hx hb d_Mod_credit_9 (by decide) ?_
    refine lv_icmp_lt (tgt := 19) hx hb d_Mod_credit_10 (by decide) (fun c_10 => ?_) (fun c_10 => ?_)
    · refine lv_iconst (v := nI 1) hx hb d_Mod_credit_19 (by decide) ?_
      refine lv_goto (tgt := 50) hx hb d_Mod_credit_20 (by decide) ?_
      refine va_put (D := D) (ci := 9) (v := .int (nI 1)) (ty := .int) (C := "TileScreenModel") (T := F_Mod) (N := 27) hx hb htb i_Mod t_Mod t_Mod_ok n_Mod hown hG.1 hP hD hS 0 rfl rfl 0 (by decide) (htb _ k_635) (fun _ h9 => h9) rfl (by decide +kernel) rfl rfl (Nat.le_of_ble_eq_true rfl) d_Mod_credit_50 (fun H locs hP hD hS => ?_)
      have hP : va_P D classes [(mo, .inr (9, [.int (nI 1), .ref rpx, .int nb, .ref rca, .ref rpl, .ref rth, .ref rco, .ref rsh, .ref rsf, .ref rcr, .ref rep, .ref rby, .ref rli, .ref rls, .ref rla, .ref rcm, .ref rcs, .ref rpa, .ref rpm, .ref rpo, .ref rti, .ref rre, .ref rcl, .int (nI sz), .int (nI cs), .int (nI nx), .int (nI la)]))] H := hP
      have hD : va_D AA [(mo, .inr (9, [.int (nI 1), .ref rpx, .int nb, .ref rca, .ref rpl, .ref rth, .ref rco, .ref rsh, .ref rsf, .ref rcr, .ref rep, .ref rby, .ref rli, .ref rls, .ref rla, .ref rcm, .ref rcs, .ref rpa, .ref rpm, .ref rpo, .ref rti, .ref rre, .ref rcl, .int (nI sz), .int (nI cs), .int (nI nx), .int (nI la)]))] := hD
      refine lv_aload_n hx hb d_Mod_credit_53 rfl (lv_at hl 0 rfl) ?_
      refine va_get (D := D) (ci := 9) (v := .int (nI 1)) (C := "TileScreenModel") (T := F_Mod) (N := 27) hx hb htb i_Mod hown hG.1 hP 0 rfl rfl 0 (by decide) (htb _ k_635) (fun _ h9 => h9) rfl d_Mod_credit_54 ?_
      refine nv_if_le (tgt := 62) hx hb d_Mod_credit_57 (by decide) (by decide) (fun h9 => absurd h9 (by decide)) (fun _ => ?_)
      refine lv_iconst (v := nI 0) hx hb d_Mod_credit_60 (by decide) ?_
      exact hret _ () _ _ _ _ d_Mod_credit_61 rfl (rfl) hP hD hS
    · refine lv_iload_n hx hb d_Mod_credit_13 rfl (lv_at hl 2 rfl) ?_
      refine lv_ldc (v := nI 1000000) hx hb hown (htb _ k_768) d_Mod_credit_14 ?_
      refine lv_icmp_le (tgt := 23) hx hb d_Mod_credit_16 (by decide) (fun c_16 => ?_) (fun c_16 => ?_)
      · exact absurd ⟨cB_1 c_5, i_rng (by decide) c_10 (fun z => absurd c_16 (Int32.not_le.mpr z))⟩ hno
      · refine lv_iconst (v := nI 1) hx hb d_Mod_credit_19 (by decide) ?_
        refine lv_goto (tgt := 50) hx hb d_Mod_credit_20 (by decide) ?_
        refine va_put (D := D) (ci := 9) (v := .int (nI 1)) (ty := .int) (C := "TileScreenModel") (T := F_Mod) (N := 27) hx hb htb i_Mod t_Mod t_Mod_ok n_Mod hown hG.1 hP hD hS 0 rfl rfl 0 (by decide) (htb _ k_635) (fun _ h9 => h9) rfl (by decide +kernel) rfl rfl (Nat.le_of_ble_eq_true rfl) d_Mod_credit_50 (fun H locs hP hD hS => ?_)
        have hP : va_P D classes [(mo, .inr (9, [.int (nI 1), .ref rpx, .int nb, .ref rca, .ref rpl, .ref rth, .ref rco, .ref rsh, .ref rsf, .ref rcr, .ref rep, .ref rby, .ref rli, .ref rls, .ref rla, .ref rcm, .ref rcs, .ref rpa, .ref rpm, .ref rpo, .ref rti, .ref rre, .ref rcl, .int (nI sz), .int (nI cs), .int (nI nx), .int (nI la)]))] H := hP
        have hD : va_D AA [(mo, .inr (9, [.int (nI 1), .ref rpx, .int nb, .ref rca, .ref rpl, .ref rth, .ref rco, .ref rsh, .ref rsf, .ref rcr, .ref rep, .ref rby, .ref rli, .ref rls, .ref rla, .ref rcm, .ref rcs, .ref rpa, .ref rpm, .ref rpo, .ref rti, .ref rre, .ref rcl, .int (nI sz), .int (nI cs), .int (nI nx), .int (nI la)]))] := hD
        refine lv_aload_n hx hb d_Mod_credit_53 rfl (lv_at hl 0 rfl) ?_
        refine va_get (D := D) (ci := 9) (v := .int (nI 1)) (C := "TileScreenModel") (T := F_Mod) (N := 27) hx hb htb i_Mod hown hG.1 hP 0 rfl rfl 0 (by decide) (htb _ k_635) (fun _ h9 => h9) rfl d_Mod_credit_54 ?_
        refine nv_if_le (tgt := 62) hx hb d_Mod_credit_57 (by decide) (by decide) (fun h9 => absurd h9 (by decide)) (fun _ => ?_)
        refine lv_iconst (v := nI 0) hx hb d_Mod_credit_60 (by decide) ?_
        exact hret _ () _ _ _ _ d_Mod_credit_61 rfl (rfl) hP hD hS
set_option maxHeartbeats 400000 in
set_option maxRecDepth 100000 in
theorem c_Mod_credit_st (mo : Nat) (cd : Int32) (rpx : Nat) (nb : Int32) (rca : Nat) (rpl : Nat) (rth : Nat) (rco : Nat) (rsh : Nat) (rsf : Nat) (rcr : Nat) (rep : Nat) (rby : Nat) (rli : Nat) (rls : Nat) (rla : Nat) (rcm : Nat) (rcs : Nat) (rpa : Nat) (rpm : Nat) (rpo : Nat) (rti : Nat) (rre : Nat) (rcl : Nat) (sz : Nat) (cs : Nat) (nx : Nat) (la : Nat) (Cn : Nat → Nat) (Cr : Nat → Nat) (v : Nat) (n : Nat) (hv : v < 3) (bCn : ∀ j, Cn j < 2) (bCr : ∀ j, Cr j ≤ 1000000) (hn1 : 1 ≤ n) (hn2 : n ≤ 1000000) (hno : ¬ (Cn v ≠ 0 ∧ Cr v + n ≤ 1000000)) : CI (S := Unit) l classes NW D (TYS cI cZ cL cV) y_Mod_credit (.code y_Mod_credit b_Mod_credit 3 (some .int) :: TB) { frames := 1, cells := 0, slots := 0, locals := 20 } [.ref mo, .int (nI v), .int (nI n)] [(mo, .inr (9, [.int cd, .ref rpx, .int nb, .ref rca, .ref rpl, .ref rth, .ref rco, .ref rsh, .ref rsf, .ref rcr, .ref rep, .ref rby, .ref rli, .ref rls, .ref rla, .ref rcm, .ref rcs, .ref rpa, .ref rpm, .ref rpo, .ref rti, .ref rre, .ref rcl, .int (nI sz), .int (nI cs), .int (nI nx), .int (nI la)])), (rco, .inl (cZ, 3, .inl (nF Cn))), (rcr, .inl (cI, 3, .inl (nF Cr)))] (fun r u => r = nI 0) (fun u => [(mo, .inr (9, [.int (nI 2), .ref rpx, .int nb, .ref rca, .ref rpl, .ref rth, .ref rco, .ref rsh, .ref rsf, .ref rcr, .ref rep, .ref rby, .ref rli, .ref rls, .ref rla, .ref rcm, .ref rcs, .ref rpa, .ref rpm, .ref rpo, .ref rti, .ref rre, .ref rcl, .int (nI sz), .int (nI cs), .int (nI nx), .int (nI la)])), (rco, .inl (cZ, 3, .inl (nF Cn))), (rcr, .inl (cI, 3, .inl (nF Cr)))]) := by
  refine CI.of (by decide) (Nat.le_of_ble_eq_true rfl) ?_
  intro pr ev sT mM aR bW mE cO AA QQ ls Bd hG hA hP hD hS hl hret
  have Bd : bd pr cO b_Mod_credit 3 sT aR TB "TileScreenModel" mM := Bd
  obtain ⟨hx, hb, hml, hown, htb⟩ := id Bd
  have hl : lv_has ls 3 [(0, .ref mo), (1, .int (nI v)), (2, .int (nI n))] := hl
  refine lv_aload_n hx hb d_Mod_credit_0 rfl (lv_at hl 0 rfl) ?_
  refine lv_iload_n hx hb d_Mod_credit_1 rfl (lv_at hl 1 rfl) ?_
  refine kS_i (wc := []) (wr := [(mo, .inr (9, [.int cd, .ref rpx, .int nb, .ref rca, .ref rpl, .ref rth, .ref rco, .ref rsh, .ref rsf, .ref rcr, .ref rep, .ref rby, .ref rli, .ref rls, .ref rla, .ref rcm, .ref rcs, .ref rpa, .ref rpm, .ref rpo, .ref rti, .ref rre, .ref rcl, .int (nI sz), .int (nI cs), .int (nI nx), .int (nI la)])), (rco, .inl (cZ, 3, .inl (nF Cn))), (rcr, .inl (cI, 3, .inl (nF Cr)))]) (w2 := fun _ => [(mo, .inr (9, [.int cd, .ref rpx, .int nb, .ref rca, .ref rpl, .ref rth, .ref rco, .ref rsh, .ref rsf, .ref rcr, .ref rep, .ref rby, .ref rli, .ref rls, .ref rla, .ref rcm, .ref rcs, .ref rpa, .ref rpm, .ref rpo, .ref rti, .ref rre, .ref rcl, .int (nI sz), .int (nI cs), .int (nI nx), .int (nI la)])), (rco, .inl (cZ, 3, .inl (nF Cn))), (rcr, .inl (cI, 3, .inl (nF Cr)))]) [.int (nI v)] [.ref mo] Bd ⟨gi_app (gi_c0 k_753 (gi_c0 k_754 (gi_c0 k_10 gi_nil))) (gi_tb0 k_755), rfl, by decide, by decide⟩ (show (parseMethodDescriptor "(I)Z").map (fun d => d.parameters.length) = some 1 by decide +kernel) (c_Mod_isViewer (nI v) ) (by decide +kernel) ⟨Nat.le_of_ble_eq_true rfl, Nat.le_of_ble_eq_true rfl⟩ hG hP hD hS hA [] [0, 1, 2] [0, 1, 2] (by decide) rfl rfl (fun _ => rfl) hl.1 rfl (Nat.le_of_ble_eq_true rfl) d_Mod_credit_2 (fun r1 u3 H locs hp2 hP hD hS => ?_)
  have hP : va_P D classes [(mo, .inr (9, [.int cd, .ref rpx, .int nb, .ref rca, .ref rpl, .ref rth, .ref rco, .ref rsh, .ref rsf, .ref rcr, .ref rep, .ref rby, .ref rli, .ref rls, .ref rla, .ref rcm, .ref rcs, .ref rpa, .ref rpm, .ref rpo, .ref rti, .ref rre, .ref rcl, .int (nI sz), .int (nI cs), .int (nI nx), .int (nI la)])), (rco, .inl (cZ, 3, .inl (nF Cn))), (rcr, .inl (cI, 3, .inl (nF Cr)))] H := hP
  have hD : va_D AA [(mo, .inr (9, [.int cd, .ref rpx, .int nb, .ref rca, .ref rpl, .ref rth, .ref rco, .ref rsh, .ref rsf, .ref rcr, .ref rep, .ref rby, .ref rli, .ref rls, .ref rla, .ref rcm, .ref rcs, .ref rpa, .ref rpm, .ref rpo, .ref rti, .ref rre, .ref rcl, .int (nI sz), .int (nI cs), .int (nI nx), .int (nI la)])), (rco, .inl (cZ, 3, .inl (nF Cn))), (rcr, .inl (cI, 3, .inl (nF Cr)))] := hD
  subst hp2
  refine nv_if_eq (tgt := 19) hx hb d_Mod_credit_5 (by decide) (bt_lt _) (fun c_5 => ?_) (fun c_5 => ?_)
  · exact absurd (vwP_i hv) (cB_0 c_5)
  · refine lv_iload_n hx hb d_Mod_credit_8 rfl (lv_at hl 2 rfl) ?_
    refine lv_iconst (v := nI 1) hx hb d_Mod_credit_9 (by decide) ?_
    refine nv_icmp_lt (tgt := 19) hx hb d_Mod_credit_10 (by decide) (by omega) (by omega) (fun c_10 => ?_) (fun c_10 => ?_)
    · omega
    · refine lv_iload_n hx hb d_Mod_credit_13 rfl (lv_at hl 2 rfl) ?_
      refine lv_ldc (v := nI 1000000) hx hb hown (htb _ k_768) d_Mod_credit_14 ?_
      refine nv_icmp_le (tgt := 23) hx hb d_Mod_credit_16 (by decide) (by omega) (by omega) (fun c_16 => ?_) (fun c_16 => ?_)
      · refine lv_aload_n hx hb d_Mod_credit_23 rfl (lv_at hl 0 rfl) ?_
        refine va_get (D := D) (ci := 9) (v := .ref rco) (C := "TileScreenModel") (T := F_Mod) (N := 27) hx hb htb i_Mod hown hG.1 hP 0 rfl rfl 6 (by decide) (htb _ k_641) (fun _ h9 => h9) rfl d_Mod_credit_24 ?_
        refine lv_iload_n hx hb d_Mod_credit_27 rfl (lv_at hl 1 rfl) ?_
        refine nv_zald hx hb hG.1 hP 1 1 rfl rfl (by omega) (by omega) d_Mod_credit_28 ?_
        refine nv_if_eq (tgt := 45) hx hb d_Mod_credit_29 (by decide) (lt2 (bCn _)) (fun c_29 => ?_) (fun c_29 => ?_)
        · refine lv_iconst (v := nI 2) hx hb d_Mod_credit_45 (by decide) ?_
          refine lv_goto (tgt := 50) hx hb d_Mod_credit_46 (by decide) ?_
          refine va_put (D := D) (ci := 9) (v := .int (nI 2)) (ty := .int) (C := "TileScreenModel") (T := F_Mod) (N := 27) hx hb htb i_Mod t_Mod t_Mod_ok n_Mod hown hG.1 hP hD hS 0 rfl rfl 0 (by decide) (htb _ k_635) (fun _ h9 => h9) rfl (by decide +kernel) rfl rfl (Nat.le_of_ble_eq_true rfl) d_Mod_credit_50 (fun H locs hP hD hS => ?_)
          have hP : va_P D classes [(mo, .inr (9, [.int (nI 2), .ref rpx, .int nb, .ref rca, .ref rpl, .ref rth, .ref rco, .ref rsh, .ref rsf, .ref rcr, .ref rep, .ref rby, .ref rli, .ref rls, .ref rla, .ref rcm, .ref rcs, .ref rpa, .ref rpm, .ref rpo, .ref rti, .ref rre, .ref rcl, .int (nI sz), .int (nI cs), .int (nI nx), .int (nI la)])), (rco, .inl (cZ, 3, .inl (nF Cn))), (rcr, .inl (cI, 3, .inl (nF Cr)))] H := hP
          have hD : va_D AA [(mo, .inr (9, [.int (nI 2), .ref rpx, .int nb, .ref rca, .ref rpl, .ref rth, .ref rco, .ref rsh, .ref rsf, .ref rcr, .ref rep, .ref rby, .ref rli, .ref rls, .ref rla, .ref rcm, .ref rcs, .ref rpa, .ref rpm, .ref rpo, .ref rti, .ref rre, .ref rcl, .int (nI sz), .int (nI cs), .int (nI nx), .int (nI la)])), (rco, .inl (cZ, 3, .inl (nF Cn))), (rcr, .inl (cI, 3, .inl (nF Cr)))] := hD
          refine lv_aload_n hx hb d_Mod_credit_53 rfl (lv_at hl 0 rfl) ?_
          refine va_get (D := D) (ci := 9) (v := .int (nI 2)) (C := "TileScreenModel") (T := F_Mod) (N := 27) hx hb htb i_Mod hown hG.1 hP 0 rfl rfl 0 (by decide) (htb _ k_635) (fun _ h9 => h9) rfl d_Mod_credit_54 ?_
          refine nv_if_le (tgt := 62) hx hb d_Mod_credit_57 (by decide) (by decide) (fun h9 => absurd h9 (by decide)) (fun _ => ?_)
          refine lv_iconst (v := nI 0) hx hb d_Mod_credit_60 (by decide) ?_
          exact hret _ () _ _ _ _ d_Mod_credit_61 rfl (rfl) hP hD hS
        · refine lv_aload_n hx hb d_Mod_credit_32 rfl (lv_at hl 0 rfl) ?_
          refine va_get (D := D) (ci := 9) (v := .ref rcr) (C := "TileScreenModel") (T := F_Mod) (N := 27) hx hb htb i_Mod hown hG.1 hP 0 rfl rfl 9 (by decide) (htb _ k_644) (fun _ h9 => h9) rfl d_Mod_credit_33 ?_
          refine lv_iload_n hx hb d_Mod_credit_36 rfl (lv_at hl 1 rfl) ?_
          refine nv_iald hx hb hG.1 hP 2 0 rfl rfl (by omega) (by omega) d_Mod_credit_37 ?_
          refine lv_iload_n hx hb d_Mod_credit_38 rfl (lv_at hl 2 rfl) ?_
          refine nv_iadd hx hb d_Mod_credit_39 ?_
          refine lv_ldc (v := nI 1000000) hx hb hown (htb _ k_768) d_Mod_credit_40 ?_
          refine nv_icmp_le (tgt := 49) hx hb d_Mod_credit_42 (by decide) (by have := bCr v; omega) (by omega) (fun c_42 => ?_) (fun c_42 => ?_)
          · exact absurd ⟨c_29, c_42⟩ hno
          · refine lv_iconst (v := nI 2) hx hb d_Mod_credit_45 (by decide) ?_
            refine lv_goto (tgt := 50) hx hb d_Mod_credit_46 (by decide) ?_
            refine va_put (D := D) (ci := 9) (v := .int (nI 2)) (ty := .int) (C := "TileScreenModel") (T := F_Mod) (N := 27) hx hb htb i_Mod t_Mod t_Mod_ok n_Mod hown hG.1 hP hD hS 0 rfl rfl 0 (by decide) (htb _ k_635) (fun _ h9 => h9) rfl (by decide +kernel) rfl rfl (Nat.le_of_ble_eq_true rfl) d_Mod_credit_50 (fun H locs hP hD hS => ?_)
            have hP : va_P D classes [(mo, .inr (9, [.int (nI 2), .ref rpx, .int nb, .ref rca, .ref rpl, .ref rth, .ref rco, .ref rsh, .ref rsf, .ref rcr, .ref rep, .ref rby, .ref rli, .ref rls, .ref rla, .ref rcm, .ref rcs, .ref rpa, .ref rpm, .ref rpo, .ref rti, .ref rre, .ref rcl, .int (nI sz), .int (nI cs), .int (nI nx), .int (nI la)])), (rco, .inl (cZ, 3, .inl (nF Cn))), (rcr, .inl (cI, 3, .inl (nF Cr)))] H := hP
            have hD : va_D AA [(mo, .inr (9, [.int (nI 2), .ref rpx, .int nb, .ref rca, .ref rpl, .ref rth, .ref rco, .ref rsh, .ref rsf, .ref rcr, .ref rep, .ref rby, .ref rli, .ref rls, .ref rla, .ref rcm, .ref rcs, .ref rpa, .ref rpm, .ref rpo, .ref rti, .ref rre, .ref rcl, .int (nI sz), .int (nI cs), .int (nI nx), .int (nI la)])), (rco, .inl (cZ, 3, .inl (nF Cn))), (rcr, .inl (cI, 3, .inl (nF Cr)))] := hD
            refine lv_aload_n hx hb d_Mod_credit_53 rfl (lv_at hl 0 rfl) ?_
            refine va_get (D := D) (ci := 9) (v := .int (nI 2)) (C := "TileScreenModel") (T := F_Mod) (N := 27) hx hb htb i_Mod hown hG.1 hP 0 rfl rfl 0 (by decide) (htb _ k_635) (fun _ h9 => h9) rfl d_Mod_credit_54 ?_
            refine nv_if_le (tgt := 62) hx hb d_Mod_credit_57 (by decide) (by decide) (fun h9 => absurd h9 (by decide)) (fun _ => ?_)
            refine lv_iconst (v := nI 0) hx hb d_Mod_credit_60 (by decide) ?_
            exact hret _ () _ _ _ _ d_Mod_credit_61 rfl (rfl) hP hD hS
      · omega
set_option maxHeartbeats 400000 in
set_option maxRecDepth 100000 in
theorem c_Mod_credit (mo : Nat) (cd : Int32) (rpx : Nat) (nb : Int32) (rca : Nat) (rpl : Nat) (rth : Nat) (rco : Nat) (rsh : Nat) (rsf : Nat) (rcr : Nat) (rep : Nat) (rby : Nat) (rli : Nat) (rls : Nat) (rla : Nat) (rcm : Nat) (rcs : Nat) (rpa : Nat) (rpm : Nat) (rpo : Nat) (rti : Nat) (rre : Nat) (rcl : Nat) (sz : Nat) (cs : Nat) (nx : Nat) (la : Nat) (Cn : Nat → Nat) (Cr : Nat → Nat) (v : Nat) (n : Nat) (hv : v < 3) (bCn : ∀ j, Cn j < 2) (bCr : ∀ j, Cr j ≤ 1000000) (hn1 : 1 ≤ n) (hn2 : n ≤ 1000000) (hc : Cn v ≠ 0) (hm : Cr v + n ≤ 1000000) : CI (S := Unit) l classes NW D (TYS cI cZ cL cV) y_Mod_credit (.code y_Mod_credit b_Mod_credit 3 (some .int) :: TB) { frames := 1, cells := 0, slots := 0, locals := 20 } [.ref mo, .int (nI v), .int (nI n)] [(mo, .inr (9, [.int cd, .ref rpx, .int nb, .ref rca, .ref rpl, .ref rth, .ref rco, .ref rsh, .ref rsf, .ref rcr, .ref rep, .ref rby, .ref rli, .ref rls, .ref rla, .ref rcm, .ref rcs, .ref rpa, .ref rpm, .ref rpo, .ref rti, .ref rre, .ref rcl, .int (nI sz), .int (nI cs), .int (nI nx), .int (nI la)])), (rco, .inl (cZ, 3, .inl (nF Cn))), (rcr, .inl (cI, 3, .inl (nF Cr)))] (fun r u => r = nI (Cr v + n)) (fun u => [(mo, .inr (9, [.int (nI 0), .ref rpx, .int nb, .ref rca, .ref rpl, .ref rth, .ref rco, .ref rsh, .ref rsf, .ref rcr, .ref rep, .ref rby, .ref rli, .ref rls, .ref rla, .ref rcm, .ref rcs, .ref rpa, .ref rpm, .ref rpo, .ref rti, .ref rre, .ref rcl, .int (nI sz), .int (nI cs), .int (nI nx), .int (nI la)])), (rco, .inl (cZ, 3, .inl (nF Cn))), (rcr, .inl (cI, 3, .inl (nF (up Cr v (Cr v + n)))))]) := by
  refine CI.of (by decide) (Nat.le_of_ble_eq_true rfl) ?_
  intro pr ev sT mM aR bW mE cO AA QQ ls Bd hG hA hP hD hS hl hret
  have Bd : bd pr cO b_Mod_credit 3 sT aR TB "TileScreenModel" mM := Bd
  obtain ⟨hx, hb, hml, hown, htb⟩ := id Bd
  have hl : lv_has ls 3 [(0, .ref mo), (1, .int (nI v)), (2, .int (nI n))] := hl
  refine lv_aload_n hx hb d_Mod_credit_0 rfl (lv_at hl 0 rfl) ?_
  refine lv_iload_n hx hb d_Mod_credit_1 rfl (lv_at hl 1 rfl) ?_
  refine kS_i (wc := []) (wr := [(mo, .inr (9, [.int cd, .ref rpx, .int nb, .ref rca, .ref rpl, .ref rth, .ref rco, .ref rsh, .ref rsf, .ref rcr, .ref rep, .ref rby, .ref rli, .ref rls, .ref rla, .ref rcm, .ref rcs, .ref rpa, .ref rpm, .ref rpo, .ref rti, .ref rre, .ref rcl, .int (nI sz), .int (nI cs), .int (nI nx), .int (nI la)])), (rco, .inl (cZ, 3, .inl (nF Cn))), (rcr, .inl (cI, 3, .inl (nF Cr)))]) (w2 := fun _ => [(mo, .inr (9, [.int cd, .ref rpx, .int nb, .ref rca, .ref rpl, .ref rth, .ref rco, .ref rsh, .ref rsf, .ref rcr, .ref rep, .ref rby, .ref rli, .ref rls, .ref rla, .ref rcm, .ref rcs, .ref rpa, .ref rpm, .ref rpo, .ref rti, .ref rre, .ref rcl, .int (nI sz), .int (nI cs), .int (nI nx), .int (nI la)])), (rco, .inl (cZ, 3, .inl (nF Cn))), (rcr, .inl (cI, 3, .inl (nF Cr)))]) [.int (nI v)] [.ref mo] Bd ⟨gi_app (gi_c0 k_753 (gi_c0 k_754 (gi_c0 k_10 gi_nil))) (gi_tb0 k_755), rfl, by decide, by decide⟩ (show (parseMethodDescriptor "(I)Z").map (fun d => d.parameters.length) = some 1 by decide +kernel) (c_Mod_isViewer (nI v) ) (by decide +kernel) ⟨Nat.le_of_ble_eq_true rfl, Nat.le_of_ble_eq_true rfl⟩ hG hP hD hS hA [] [0, 1, 2] [0, 1, 2] (by decide) rfl rfl (fun _ => rfl) hl.1 rfl (Nat.le_of_ble_eq_true rfl) d_Mod_credit_2 (fun r1 u3 H locs hp2 hP hD hS => ?_)
  have hP : va_P D classes [(mo, .inr (9, [.int cd, .ref rpx, .int nb, .ref rca, .ref rpl, .ref rth, .ref rco, .ref rsh, .ref rsf, .ref rcr, .ref rep, .ref rby, .ref rli, .ref rls, .ref rla, .ref rcm, .ref rcs, .ref rpa, .ref rpm, .ref rpo, .ref rti, .ref rre, .ref rcl, .int (nI sz), .int (nI cs), .int (nI nx), .int (nI la)])), (rco, .inl (cZ, 3, .inl (nF Cn))), (rcr, .inl (cI, 3, .inl (nF Cr)))] H := hP
  have hD : va_D AA [(mo, .inr (9, [.int cd, .ref rpx, .int nb, .ref rca, .ref rpl, .ref rth, .ref rco, .ref rsh, .ref rsf, .ref rcr, .ref rep, .ref rby, .ref rli, .ref rls, .ref rla, .ref rcm, .ref rcs, .ref rpa, .ref rpm, .ref rpo, .ref rti, .ref rre, .ref rcl, .int (nI sz), .int (nI cs), .int (nI nx), .int (nI la)])), (rco, .inl (cZ, 3, .inl (nF Cn))), (rcr, .inl (cI, 3, .inl (nF Cr)))] := hD
  subst hp2
  refine nv_if_eq (tgt := 19) hx hb d_Mod_credit_5 (by decide) (bt_lt _) (fun c_5 => ?_) (fun c_5 => ?_)
  · exact absurd (vwP_i hv) (cB_0 c_5)
  · refine lv_iload_n hx hb d_Mod_credit_8 rfl (lv_at hl 2 rfl) ?_
    refine lv_iconst (v := nI 1) hx hb d_Mod_credit_9 (by decide) ?_
    refine nv_icmp_lt (tgt := 19) hx hb d_Mod_credit_10 (by decide) (by omega) (by omega) (fun c_10 => ?_) (fun c_10 => ?_)
    · omega
    · refine lv_iload_n hx hb d_Mod_credit_13 rfl (lv_at hl 2 rfl) ?_
      refine lv_ldc (v := nI 1000000) hx hb hown (htb _ k_768) d_Mod_credit_14 ?_
      refine nv_icmp_le (tgt := 23) hx hb d_Mod_credit_16 (by decide) (by omega) (by omega) (fun c_16 => ?_) (fun c_16 => ?_)
      · refine lv_aload_n hx hb d_Mod_credit_23 rfl (lv_at hl 0 rfl) ?_
        refine va_get (D := D) (ci := 9) (v := .ref rco) (C := "TileScreenModel") (T := F_Mod) (N := 27) hx hb htb i_Mod hown hG.1 hP 0 rfl rfl 6 (by decide) (htb _ k_641) (fun _ h9 => h9) rfl d_Mod_credit_24 ?_
        refine lv_iload_n hx hb d_Mod_credit_27 rfl (lv_at hl 1 rfl) ?_
        refine nv_zald hx hb hG.1 hP 1 1 rfl rfl (by omega) (by omega) d_Mod_credit_28 ?_
        refine nv_if_eq (tgt := 45) hx hb d_Mod_credit_29 (by decide) (lt2 (bCn _)) (fun c_29 => ?_) (fun c_29 => ?_)
        · exact absurd c_29 hc
        · refine lv_aload_n hx hb d_Mod_credit_32 rfl (lv_at hl 0 rfl) ?_
          refine va_get (D := D) (ci := 9) (v := .ref rcr) (C := "TileScreenModel") (T := F_Mod) (N := 27) hx hb htb i_Mod hown hG.1 hP 0 rfl rfl 9 (by decide) (htb _ k_644) (fun _ h9 => h9) rfl d_Mod_credit_33 ?_
          refine lv_iload_n hx hb d_Mod_credit_36 rfl (lv_at hl 1 rfl) ?_
          refine nv_iald hx hb hG.1 hP 2 0 rfl rfl (by omega) (by omega) d_Mod_credit_37 ?_
          refine lv_iload_n hx hb d_Mod_credit_38 rfl (lv_at hl 2 rfl) ?_
          refine nv_iadd hx hb d_Mod_credit_39 ?_
          refine lv_ldc (v := nI 1000000) hx hb hown (htb _ k_768) d_Mod_credit_40 ?_
          refine nv_icmp_le (tgt := 49) hx hb d_Mod_credit_42 (by decide) (by have := bCr v; omega) (by omega) (fun c_42 => ?_) (fun c_42 => ?_)
          · refine lv_iconst (v := nI 0) hx hb d_Mod_credit_49 (by decide) ?_
            refine va_put (D := D) (ci := 9) (v := .int (nI 0)) (ty := .int) (C := "TileScreenModel") (T := F_Mod) (N := 27) hx hb htb i_Mod t_Mod t_Mod_ok n_Mod hown hG.1 hP hD hS 0 rfl rfl 0 (by decide) (htb _ k_635) (fun _ h9 => h9) rfl (by decide +kernel) rfl rfl (Nat.le_of_ble_eq_true rfl) d_Mod_credit_50 (fun H locs hP hD hS => ?_)
            have hP : va_P D classes [(mo, .inr (9, [.int (nI 0), .ref rpx, .int nb, .ref rca, .ref rpl, .ref rth, .ref rco, .ref rsh, .ref rsf, .ref rcr, .ref rep, .ref rby, .ref rli, .ref rls, .ref rla, .ref rcm, .ref rcs, .ref rpa, .ref rpm, .ref rpo, .ref rti, .ref rre, .ref rcl, .int (nI sz), .int (nI cs), .int (nI nx), .int (nI la)])), (rco, .inl (cZ, 3, .inl (nF Cn))), (rcr, .inl (cI, 3, .inl (nF Cr)))] H := hP
            have hD : va_D AA [(mo, .inr (9, [.int (nI 0), .ref rpx, .int nb, .ref rca, .ref rpl, .ref rth, .ref rco, .ref rsh, .ref rsf, .ref rcr, .ref rep, .ref rby, .ref rli, .ref rls, .ref rla, .ref rcm, .ref rcs, .ref rpa, .ref rpm, .ref rpo, .ref rti, .ref rre, .ref rcl, .int (nI sz), .int (nI cs), .int (nI nx), .int (nI la)])), (rco, .inl (cZ, 3, .inl (nF Cn))), (rcr, .inl (cI, 3, .inl (nF Cr)))] := hD
            refine lv_aload_n hx hb d_Mod_credit_53 rfl (lv_at hl 0 rfl) ?_
            refine va_get (D := D) (ci := 9) (v := .int (nI 0)) (C := "TileScreenModel") (T := F_Mod) (N := 27) hx hb htb i_Mod hown hG.1 hP 0 rfl rfl 0 (by decide) (htb _ k_635) (fun _ h9 => h9) rfl d_Mod_credit_54 ?_
            refine nv_if_le (tgt := 62) hx hb d_Mod_credit_57 (by decide) (by decide) (fun _ => ?_) (fun h9 => absurd h9 (by decide))
            refine lv_aload_n hx hb d_Mod_credit_62 rfl (lv_at hl 0 rfl) ?_
            refine va_get (D := D) (ci := 9) (v := .ref rcr) (C := "TileScreenModel") (T := F_Mod) (N := 27) hx hb htb i_Mod hown hG.1 hP 0 rfl rfl 9 (by decide) (htb _ k_644) (fun _ h9 => h9) rfl d_Mod_credit_63 ?_
            refine lv_iload_n hx hb d_Mod_credit_66 rfl (lv_at hl 1 rfl) ?_
            refine lv_dup2_11 hx hb d_Mod_credit_67 rfl rfl ?_
            refine nv_iald hx hb hG.1 hP 2 0 rfl rfl (by omega) (by omega) d_Mod_credit_68 ?_
            refine lv_iload_n hx hb d_Mod_credit_69 rfl (lv_at hl 2 rfl) ?_
            refine nv_iadd hx hb d_Mod_credit_70 ?_
            refine nv_iast hx hb hG.1 hP hD hS 2 0 rfl rfl (by omega) (by omega) d_Mod_credit_71 (fun H locs hP hD hS => ?_)
            have hP : va_P D classes [(mo, .inr (9, [.int (nI 0), .ref rpx, .int nb, .ref rca, .ref rpl, .ref rth, .ref rco, .ref rsh, .ref rsf, .ref rcr, .ref rep, .ref rby, .ref rli, .ref rls, .ref rla, .ref rcm, .ref rcs, .ref rpa, .ref rpm, .ref rpo, .ref rti, .ref rre, .ref rcl, .int (nI sz), .int (nI cs), .int (nI nx), .int (nI la)])), (rco, .inl (cZ, 3, .inl (nF Cn))), (rcr, .inl (cI, 3, .inl (nF (up Cr v (Cr v + n)))))] H := hP
            have hD : va_D AA [(mo, .inr (9, [.int (nI 0), .ref rpx, .int nb, .ref rca, .ref rpl, .ref rth, .ref rco, .ref rsh, .ref rsf, .ref rcr, .ref rep, .ref rby, .ref rli, .ref rls, .ref rla, .ref rcm, .ref rcs, .ref rpa, .ref rpm, .ref rpo, .ref rti, .ref rre, .ref rcl, .int (nI sz), .int (nI cs), .int (nI nx), .int (nI la)])), (rco, .inl (cZ, 3, .inl (nF Cn))), (rcr, .inl (cI, 3, .inl (nF (up Cr v (Cr v + n)))))] := hD
            refine lv_aload_n hx hb d_Mod_credit_72 rfl (lv_at hl 0 rfl) ?_
            refine va_get (D := D) (ci := 9) (v := .ref rcr) (C := "TileScreenModel") (T := F_Mod) (N := 27) hx hb htb i_Mod hown hG.1 hP 0 rfl rfl 9 (by decide) (htb _ k_644) (fun _ h9 => h9) rfl d_Mod_credit_73 ?_
            refine lv_iload_n hx hb d_Mod_credit_76 rfl (lv_at hl 1 rfl) ?_
            refine nv_iald hx hb hG.1 hP 2 0 rfl rfl (by omega) (by omega) d_Mod_credit_77 ?_
            refine nv_top (y := nI (Cr v + n)) (congrArg nI (up_s _ _ _)) ?_
            exact hret _ () _ _ _ _ d_Mod_credit_78 rfl (rfl) hP hD hS
          · omega
      · omega
set_option maxHeartbeats 400000 in
set_option maxRecDepth 100000 in
theorem c_Mod_pump_0 (mo : Nat) (cd : Int32) (rpx : Nat) (nb : Int32) (rca : Nat) (rpl : Nat) (rth : Nat) (rco : Nat) (rsh : Nat) (rsf : Nat) (rcr : Nat) (rep : Nat) (rby : Nat) (rli : Nat) (rls : Nat) (rla : Nat) (rcm : Nat) (rcs : Nat) (rpa : Nat) (rpm : Nat) (rpo : Nat) (rti : Nat) (rre : Nat) (rcl : Nat) (sz : Nat) (cs : Nat) (nx : Nat) (la : Nat) (Cn : Nat → Nat) (v : Nat) (hv : v < 3) (bCn : ∀ j, Cn j < 2) (hc : Cn v = 0) : CI (S := Unit) l classes NW D (TYS cI cZ cL cV) y_Mod_pump (.code y_Mod_pump b_Mod_pump 4 (some .int) :: TB) { frames := 1, cells := 0, slots := 0, locals := 20 } [.ref mo, .int (nI v)] [(mo, .inr (9, [.int cd, .ref rpx, .int nb, .ref rca, .ref rpl, .ref rth, .ref rco, .ref rsh, .ref rsf, .ref rcr, .ref rep, .ref rby, .ref rli, .ref rls, .ref rla, .ref rcm, .ref rcs, .ref rpa, .ref rpm, .ref rpo, .ref rti, .ref rre, .ref rcl, .int (nI sz), .int (nI cs), .int (nI nx), .int (nI la)])), (rco, .inl (cZ, 3, .inl (nF Cn)))] (fun r u => r = nI 0) (fun u => [(mo, .inr (9, [.int (nI 0), .ref rpx, .int nb, .ref rca, .ref rpl, .ref rth, .ref rco, .ref rsh, .ref rsf, .ref rcr, .ref rep, .ref rby, .ref rli, .ref rls, .ref rla, .ref rcm, .ref rcs, .ref rpa, .ref rpm, .ref rpo, .ref rti, .ref rre, .ref rcl, .int (nI sz), .int (nI cs), .int (nI nx), .int (nI la)])), (rco, .inl (cZ, 3, .inl (nF Cn)))]) := by
  refine CI.of (by decide) (Nat.le_of_ble_eq_true rfl) ?_
  intro pr ev sT mM aR bW mE cO AA QQ ls Bd hG hA hP hD hS hl hret
  have Bd : bd pr cO b_Mod_pump 4 sT aR TB "TileScreenModel" mM := Bd
  obtain ⟨hx, hb, hml, hown, htb⟩ := id Bd
  have hl : lv_has ls 4 [(0, .ref mo), (1, .int (nI v))] := hl
  refine lv_aload_n hx hb d_Mod_pump_0 rfl (lv_at hl 0 rfl) ?_
  refine lv_iconst (v := nI 0) hx hb d_Mod_pump_1 (by decide) ?_
  refine va_put (D := D) (ci := 9) (v := .int (nI 0)) (ty := .int) (C := "TileScreenModel") (T := F_Mod) (N := 27) hx hb htb i_Mod t_Mod t_Mod_ok n_Mod hown hG.1 hP hD hS 0 rfl rfl 0 (by decide) (htb _ k_635) (fun _ h9 => h9) rfl (by decide +kernel) rfl rfl (Nat.le_of_ble_eq_true rfl) d_Mod_pump_2 (fun H locs hP hD hS => ?_)
  have hP : va_P D classes [(mo, .inr (9, [.int (nI 0), .ref rpx, .int nb, .ref rca, .ref rpl, .ref rth, .ref rco, .ref rsh, .ref rsf, .ref rcr, .ref rep, .ref rby, .ref rli, .ref rls, .ref rla, .ref rcm, .ref rcs, .ref rpa, .ref rpm, .ref rpo, .ref rti, .ref rre, .ref rcl, .int (nI sz), .int (nI cs), .int (nI nx), .int (nI la)])), (rco, .inl (cZ, 3, .inl (nF Cn)))] H := hP
  have hD : va_D AA [(mo, .inr (9, [.int (nI 0), .ref rpx, .int nb, .ref rca, .ref rpl, .ref rth, .ref rco, .ref rsh, .ref rsf, .ref rcr, .ref rep, .ref rby, .ref rli, .ref rls, .ref rla, .ref rcm, .ref rcs, .ref rpa, .ref rpm, .ref rpo, .ref rti, .ref rre, .ref rcl, .int (nI sz), .int (nI cs), .int (nI nx), .int (nI la)])), (rco, .inl (cZ, 3, .inl (nF Cn)))] := hD
  refine lv_iload_n hx hb d_Mod_pump_5 rfl (lv_at hl 1 rfl) ?_
  refine kS_i (wc := []) (wr := [(mo, .inr (9, [.int (nI 0), .ref rpx, .int nb, .ref rca, .ref rpl, .ref rth, .ref rco, .ref rsh, .ref rsf, .ref rcr, .ref rep, .ref rby, .ref rli, .ref rls, .ref rla, .ref rcm, .ref rcs, .ref rpa, .ref rpm, .ref rpo, .ref rti, .ref rre, .ref rcl, .int (nI sz), .int (nI cs), .int (nI nx), .int (nI la)])), (rco, .inl (cZ, 3, .inl (nF Cn)))]) (w2 := fun _ => [(mo, .inr (9, [.int (nI 0), .ref rpx, .int nb, .ref rca, .ref rpl, .ref rth, .ref rco, .ref rsh, .ref rsf, .ref rcr, .ref rep, .ref rby, .ref rli, .ref rls, .ref rla, .ref rcm, .ref rcs, .ref rpa, .ref rpm, .ref rpo, .ref rti, .ref rre, .ref rcl, .int (nI sz), .int (nI cs), .int (nI nx), .int (nI la)])), (rco, .inl (cZ, 3, .inl (nF Cn)))]) [.int (nI v)] [] Bd ⟨gi_app (gi_c0 k_753 (gi_c0 k_754 (gi_c0 k_10 gi_nil))) (gi_tb0 k_755), rfl, by decide, by decide⟩ (show (parseMethodDescriptor "(I)Z").map (fun d => d.parameters.length) = some 1 by decide +kernel) (c_Mod_isViewer (nI v) ) (by decide +kernel) ⟨Nat.le_of_ble_eq_true rfl, Nat.le_of_ble_eq_true rfl⟩ hG hP hD hS hA [] [0, 1] [0, 1] (by decide) rfl rfl (fun _ => rfl) hl.1 rfl (Nat.le_of_ble_eq_true rfl) d_Mod_pump_6 (fun r1 u3 H locs hp2 hP hD hS => ?_)
  have hP : va_P D classes [(mo, .inr (9, [.int (nI 0), .ref rpx, .int nb, .ref rca, .ref rpl, .ref rth, .ref rco, .ref rsh, .ref rsf, .ref rcr, .ref rep, .ref rby, .ref rli, .ref rls, .ref rla, .ref rcm, .ref rcs, .ref rpa, .ref rpm, .ref rpo, .ref rti, .ref rre, .ref rcl, .int (nI sz), .int (nI cs), .int (nI nx), .int (nI la)])), (rco, .inl (cZ, 3, .inl (nF Cn)))] H := hP
  have hD : va_D AA [(mo, .inr (9, [.int (nI 0), .ref rpx, .int nb, .ref rca, .ref rpl, .ref rth, .ref rco, .ref rsh, .ref rsf, .ref rcr, .ref rep, .ref rby, .ref rli, .ref rls, .ref rla, .ref rcm, .ref rcs, .ref rpa, .ref rpm, .ref rpo, .ref rti, .ref rre, .ref rcl, .int (nI sz), .int (nI cs), .int (nI nx), .int (nI la)])), (rco, .inl (cZ, 3, .inl (nF Cn)))] := hD
  subst hp2
  refine nv_if_ne (tgt := 14) hx hb d_Mod_pump_9 (by decide) (bt_lt _) (fun c_9 => ?_) (fun c_9 => ?_)
  · refine lv_iconst (v := nI 0) hx hb d_Mod_pump_14 (by decide) ?_
    refine lv_istore_n (lv' := [(2, .int (nI 0)), (0, .ref mo), (1, .int (nI v))]) hx hb d_Mod_pump_15 rfl hl (by decide) rfl (fun ls hl => ?_)
    refine lv_aload_n hx hb d_Mod_pump_16 rfl (lv_at hl 1 rfl) ?_
    refine va_get (D := D) (ci := 9) (v := .ref rco) (C := "TileScreenModel") (T := F_Mod) (N := 27) hx hb htb i_Mod hown hG.1 hP 0 rfl rfl 6 (by decide) (htb _ k_641) (fun _ h9 => h9) rfl d_Mod_pump_17 ?_
    refine lv_iload_n hx hb d_Mod_pump_20 rfl (lv_at hl 2 rfl) ?_
    refine nv_zald hx hb hG.1 hP 1 1 rfl rfl (by omega) (by omega) d_Mod_pump_21 ?_
    refine nv_if_eq (tgt := 142) hx hb d_Mod_pump_22 (by decide) (lt2 (bCn _)) (fun c_22 => ?_) (fun c_22 => ?_)
    · refine lv_iload_n hx hb d_Mod_pump_142 rfl (lv_at hl 0 rfl) ?_
      exact hret _ () _ _ _ _ d_Mod_pump_143 rfl (rfl) hP hD hS
    · exact absurd hc c_22
  · exact absurd (vwP_i hv) (cB_0 c_9)
set_option maxHeartbeats 400000 in
set_option maxRecDepth 100000 in
theorem c_Mod_pump_no (mo : Nat) (cd : Int32) (rpx : Nat) (nb : Int32) (rca : Nat) (rpl : Nat) (rth : Nat) (rco : Nat) (rsh : Nat) (rsf : Nat) (rcr : Nat) (rep : Nat) (rby : Nat) (rli : Nat) (rls : Nat) (rla : Nat) (rcm : Nat) (rcs : Nat) (rpa : Nat) (rpm : Nat) (rpo : Nat) (rti : Nat) (rre : Nat) (rcl : Nat) (sz : Nat) (cs : Nat) (nx : Nat) (la : Nat) (v : Int32) (hno : ¬ vwP v) : CI (S := Unit) l classes NW D (TYS cI cZ cL cV) y_Mod_pump (.code y_Mod_pump b_Mod_pump 4 (some .int) :: TB) { frames := 1, cells := 0, slots := 0, locals := 20 } [.ref mo, .int v] [(mo, .inr (9, [.int cd, .ref rpx, .int nb, .ref rca, .ref rpl, .ref rth, .ref rco, .ref rsh, .ref rsf, .ref rcr, .ref rep, .ref rby, .ref rli, .ref rls, .ref rla, .ref rcm, .ref rcs, .ref rpa, .ref rpm, .ref rpo, .ref rti, .ref rre, .ref rcl, .int (nI sz), .int (nI cs), .int (nI nx), .int (nI la)]))] (fun r u => r = (-1)) (fun u => [(mo, .inr (9, [.int (nI 0), .ref rpx, .int nb, .ref rca, .ref rpl, .ref rth, .ref rco, .ref rsh, .ref rsf, .ref rcr, .ref rep, .ref rby, .ref rli, .ref rls, .ref rla, .ref rcm, .ref rcs, .ref rpa, .ref rpm, .ref rpo, .ref rti, .ref rre, .ref rcl, .int (nI sz), .int (nI cs), .int (nI nx), .int (nI la)]))]) := by
  refine CI.of (by decide) (Nat.le_of_ble_eq_true rfl) ?_
  intro pr ev sT mM aR bW mE cO AA QQ ls Bd hG hA hP hD hS hl hret
  have Bd : bd pr cO b_Mod_pump 4 sT aR TB "TileScreenModel" mM := Bd
  obtain ⟨hx, hb, hml, hown, htb⟩ := id Bd
  have hl : lv_has ls 4 [(0, .ref mo), (1, .int v)] := hl
  refine lv_aload_n hx hb d_Mod_pump_0 rfl (lv_at hl 0 rfl) ?_
  refine lv_iconst (v := nI 0) hx hb d_Mod_pump_1 (by decide) ?_
  refine va_put (D := D) (ci := 9) (v := .int (nI 0)) (ty := .int) (C := "TileScreenModel") (T := F_Mod) (N := 27) hx hb htb i_Mod t_Mod t_Mod_ok n_Mod hown hG.1 hP hD hS 0 rfl rfl 0 (by decide) (htb _ k_635) (fun _ h9 => h9) rfl (by decide +kernel) rfl rfl (Nat.le_of_ble_eq_true rfl) d_Mod_pump_2 (fun H locs hP hD hS => ?_)
  have hP : va_P D classes [(mo, .inr (9, [.int (nI 0), .ref rpx, .int nb, .ref rca, .ref rpl, .ref rth, .ref rco, .ref rsh, .ref rsf, .ref rcr, .ref rep, .ref rby, .ref rli, .ref rls, .ref rla, .ref rcm, .ref rcs, .ref rpa, .ref rpm, .ref rpo, .ref rti, .ref rre, .ref rcl, .int (nI sz), .int (nI cs), .int (nI nx), .int (nI la)]))] H := hP
  have hD : va_D AA [(mo, .inr (9, [.int (nI 0), .ref rpx, .int nb, .ref rca, .ref rpl, .ref rth, .ref rco, .ref rsh, .ref rsf, .ref rcr, .ref rep, .ref rby, .ref rli, .ref rls, .ref rla, .ref rcm, .ref rcs, .ref rpa, .ref rpm, .ref rpo, .ref rti, .ref rre, .ref rcl, .int (nI sz), .int (nI cs), .int (nI nx), .int (nI la)]))] := hD
  refine lv_iload_n hx hb d_Mod_pump_5 rfl (lv_at hl 1 rfl) ?_
  refine kS_i (wc := []) (wr := [(mo, .inr (9, [.int (nI 0), .ref rpx, .int nb, .ref rca, .ref rpl, .ref rth, .ref rco, .ref rsh, .ref rsf, .ref rcr, .ref rep, .ref rby, .ref rli, .ref rls, .ref rla, .ref rcm, .ref rcs, .ref rpa, .ref rpm, .ref rpo, .ref rti, .ref rre, .ref rcl, .int (nI sz), .int (nI cs), .int (nI nx), .int (nI la)]))]) (w2 := fun _ => [(mo, .inr (9, [.int (nI 0), .ref rpx, .int nb, .ref rca, .ref rpl, .ref rth, .ref rco, .ref rsh, .ref rsf, .ref rcr, .ref rep, .ref rby, .ref rli, .ref rls, .ref rla, .ref rcm, .ref rcs, .ref rpa, .ref rpm, .ref rpo, .ref rti, .ref rre, .ref rcl, .int (nI sz), .int (nI cs), .int (nI nx), .int (nI la)]))]) [.int v] [] Bd ⟨gi_app (gi_c0 k_753 (gi_c0 k_754 (gi_c0 k_10 gi_nil))) (gi_tb0 k_755), rfl, by decide, by decide⟩ (show (parseMethodDescriptor "(I)Z").map (fun d => d.parameters.length) = some 1 by decide +kernel) (c_Mod_isViewer v ) (by decide +kernel) ⟨Nat.le_of_ble_eq_true rfl, Nat.le_of_ble_eq_true rfl⟩ hG hP hD hS hA [] [0] [0] (by decide) rfl rfl (fun _ => rfl) hl.1 rfl (Nat.le_of_ble_eq_true rfl) d_Mod_pump_6 (fun r1 u3 H locs hp2 hP hD hS => ?_)
  have hP : va_P D classes [(mo, .inr (9, [.int (nI 0), .ref rpx, .int nb, .ref rca, .ref rpl, .ref rth, .ref rco, .ref rsh, .ref rsf, .ref rcr, .ref rep, .ref rby, .ref rli, .ref rls, .ref rla, .ref rcm, .ref rcs, .ref rpa, .ref rpm, .ref rpo, .ref rti, .ref rre, .ref rcl, .int (nI sz), .int (nI cs), .int (nI nx), .int (nI la)]))] H := hP
  have hD : va_D AA [(mo, .inr (9, [.int (nI 0), .ref rpx, .int nb, .ref rca, .ref rpl, .ref rth, .ref rco, .ref rsh, .ref rsf, .ref rcr, .ref rep, .ref rby, .ref rli, .ref rls, .ref rla, .ref rcm, .ref rcs, .ref rpa, .ref rpm, .ref rpo, .ref rti, .ref rre, .ref rcl, .int (nI sz), .int (nI cs), .int (nI nx), .int (nI la)]))] := hD
  subst hp2
  refine nv_if_ne (tgt := 14) hx hb d_Mod_pump_9 (by decide) (bt_lt _) (fun c_9 => ?_) (fun c_9 => ?_)
  · exact absurd (cB_1 c_9) hno
  · refine lv_iconst (v := -1) hx hb d_Mod_pump_12 (by decide) ?_
    exact hret _ () _ _ _ _ d_Mod_pump_13 rfl (rfl) hP hD hS
set_option maxHeartbeats 400000 in
set_option maxRecDepth 100000 in
theorem c_Mod_poison (mo : Nat) (cd : Int32) (rpx : Nat) (nb : Int32) (rca : Nat) (rpl : Nat) (rth : Nat) (rco : Nat) (rsh : Nat) (rsf : Nat) (rcr : Nat) (rep : Nat) (rby : Nat) (rli : Nat) (rls : Nat) (rla : Nat) (rcm : Nat) (rcs : Nat) (rpa : Nat) (rpm : Nat) (rpo : Nat) (rti : Nat) (rre : Nat) (rcl : Nat) (sz : Nat) (cs : Nat) (nx : Nat) (la : Nat) (Pa : Nat → Nat) (Pm : Nat → Nat) (Po : Nat → Nat) (v : Nat) (n : Nat) (mk : Int32) (hv : v < 3) (hn1 : 1 ≤ n) (hn2 : n ≤ 10000) (bPa : ∀ j, Pa j < 20000) (bPm : ∀ j, Pm j < 256) (bPo : ∀ j, Po j < 9) : CI (S := (Nat → Nat) × (Nat → Nat) × (Nat → Nat)) l classes NW D (TYS cI cZ cL cV) y_Mod_poison (.code y_Mod_poison b_Mod_poison 4 (some .boolean) :: TB) { frames := 1, cells := 0, slots := 0, locals := 20 } [.ref mo, .int (nI v), .int (nI n), .int mk] [(mo, .inr (9, [.int cd, .ref rpx, .int nb, .ref rca, .ref rpl, .ref rth, .ref rco, .ref rsh, .ref rsf, .ref rcr, .ref rep, .ref rby, .ref rli, .ref rls, .ref rla, .ref rcm, .ref rcs, .ref rpa, .ref rpm, .ref rpo, .ref rti, .ref rre, .ref rcl, .int (nI sz), .int (nI cs), .int (nI nx), .int (nI la)])), (rpa, .inl (cI, 24, .inl (nF Pa))), (rpm, .inl (cI, 24, .inl (nF Pm))), (rpo, .inl (cI, 3, .inl (nF Po)))] (fun r u => r = nI 1 ∧ (∀ j, u.1 j < 20000) ∧ (∀ j, u.2.1 j < 256) ∧ (∀ j, u.2.2 j < 9)) (fun u => [(mo, .inr (9, [.int (nI 0), .ref rpx, .int nb, .ref rca, .ref rpl, .ref rth, .ref rco, .ref rsh, .ref rsf, .ref rcr, .ref rep, .ref rby, .ref rli, .ref rls, .ref rla, .ref rcm, .ref rcs, .ref rpa, .ref rpm, .ref rpo, .ref rti, .ref rre, .ref rcl, .int (nI sz), .int (nI cs), .int (nI nx), .int (nI la)])), (rpa, .inl (cI, 24, .inl (nF u.1))), (rpm, .inl (cI, 24, .inl (nF u.2.1))), (rpo, .inl (cI, 3, .inl (nF u.2.2)))]) := by
  refine CI.of (by decide) (Nat.le_of_ble_eq_true rfl) ?_
  intro pr ev sT mM aR bW mE cO AA QQ ls Bd hG hA hP hD hS hl hret
  have Bd : bd pr cO b_Mod_poison 4 sT aR TB "TileScreenModel" mM := Bd
  obtain ⟨hx, hb, hml, hown, htb⟩ := id Bd
  have hl : lv_has ls 4 [(0, .ref mo), (1, .int (nI v)), (2, .int (nI n)), (3, .int mk)] := hl
  refine lv_aload_n hx hb d_Mod_poison_0 rfl (lv_at hl 0 rfl) ?_
  refine lv_iconst (v := nI 0) hx hb d_Mod_poison_1 (by decide) ?_
  refine va_put (D := D) (ci := 9) (v := .int (nI 0)) (ty := .int) (C := "TileScreenModel") (T := F_Mod) (N := 27) hx hb htb i_Mod t_Mod t_Mod_ok n_Mod hown hG.1 hP hD hS 0 rfl rfl 0 (by decide) (htb _ k_635) (fun _ h9 => h9) rfl (by decide +kernel) rfl rfl (Nat.le_of_ble_eq_true rfl) d_Mod_poison_2 (fun H locs hP hD hS => ?_)
  have hP : va_P D classes [(mo, .inr (9, [.int (nI 0), .ref rpx, .int nb, .ref rca, .ref rpl, .ref rth, .ref rco, .ref rsh, .ref rsf, .ref rcr, .ref rep, .ref rby, .ref rli, .ref rls, .ref rla, .ref rcm, .ref rcs, .ref rpa, .ref rpm, .ref rpo, .ref rti, .ref rre, .ref rcl, .int (nI sz), .int (nI cs), .int (nI nx), .int (nI la)])), (rpa, .inl (cI, 24, .inl (nF Pa))), (rpm, .inl (cI, 24, .inl (nF Pm))), (rpo, .inl (cI, 3, .inl (nF Po)))] H := hP
  have hD : va_D AA [(mo, .inr (9, [.int (nI 0), .ref rpx, .int nb, .ref rca, .ref rpl, .ref rth, .ref rco, .ref rsh, .ref rsf, .ref rcr, .ref rep, .ref rby, .ref rli, .ref rls, .ref rla, .ref rcm, .ref rcs, .ref rpa, .ref rpm, .ref rpo, .ref rti, .ref rre, .ref rcl, .int (nI sz), .int (nI cs), .int (nI nx), .int (nI la)])), (rpa, .inl (cI, 24, .inl (nF Pa))), (rpm, .inl (cI, 24, .inl (nF Pm))), (rpo, .inl (cI, 3, .inl (nF Po)))] := hD
  refine lv_iload_n hx hb d_Mod_poison_5 rfl (lv_at hl 1 rfl) ?_
  refine kS_i (wc := []) (wr := [(mo, .inr (9, [.int (nI 0), .ref rpx, .int nb, .ref rca, .ref rpl, .ref rth, .ref rco, .ref rsh, .ref rsf, .ref rcr, .ref rep, .ref rby, .ref rli, .ref rls, .ref rla, .ref rcm, .ref rcs, .ref rpa, .ref rpm, .ref rpo, .ref rti, .ref rre, .ref rcl, .int (nI sz), .int (nI cs), .int (nI nx), .int (nI la)])), (rpa, .inl (cI, 24, .inl (nF Pa))), (rpm, .inl (cI, 24, .inl (nF Pm))), (rpo, .inl (cI, 3, .inl (nF Po)))]) (w2 := fun _ => [(mo, .inr (9, [.int (nI 0), .ref rpx, .int nb, .ref rca, .ref rpl, .ref rth, .ref rco, .ref rsh, .ref rsf, .ref rcr, .ref rep, .ref rby, .ref rli, .ref rls, .ref rla, .ref rcm, .ref rcs, .ref rpa, .ref rpm, .ref rpo, .ref rti, .ref rre, .ref rcl, .int (nI sz), .int (nI cs), .int (nI nx), .int (nI la)])), (rpa, .inl (cI, 24, .inl (nF Pa))), (rpm, .inl (cI, 24, .inl (nF Pm))), (rpo, .inl (cI, 3, .inl (nF Po)))]) [.int (nI v)] [] Bd ⟨gi_app (gi_c0 k_753 (gi_c0 k_754 (gi_c0 k_10 gi_nil))) (gi_tb0 k_755), rfl, by decide, by decide⟩ (show (parseMethodDescriptor "(I)Z").map (fun d => d.parameters.length) = some 1 by decide +kernel) (c_Mod_isViewer (nI v) ) (by decide +kernel) ⟨Nat.le_of_ble_eq_true rfl, Nat.le_of_ble_eq_true rfl⟩ hG hP hD hS hA [] [0, 1, 2, 3] [0, 1, 2, 3] (by decide) rfl rfl (fun _ => rfl) hl.1 rfl (Nat.le_of_ble_eq_true rfl) d_Mod_poison_6 (fun r1 u3 H locs hp2 hP hD hS => ?_)
  have hP : va_P D classes [(mo, .inr (9, [.int (nI 0), .ref rpx, .int nb, .ref rca, .ref rpl, .ref rth, .ref rco, .ref rsh, .ref rsf, .ref rcr, .ref rep, .ref rby, .ref rli, .ref rls, .ref rla, .ref rcm, .ref rcs, .ref rpa, .ref rpm, .ref rpo, .ref rti, .ref rre, .ref rcl, .int (nI sz), .int (nI cs), .int (nI nx), .int (nI la)])), (rpa, .inl (cI, 24, .inl (nF Pa))), (rpm, .inl (cI, 24, .inl (nF Pm))), (rpo, .inl (cI, 3, .inl (nF Po)))] H := hP
  have hD : va_D AA [(mo, .inr (9, [.int (nI 0), .ref rpx, .int nb, .ref rca, .ref rpl, .ref rth, .ref rco, .ref rsh, .ref rsf, .ref rcr, .ref rep, .ref rby, .ref rli, .ref rls, .ref rla, .ref rcm, .ref rcs, .ref rpa, .ref rpm, .ref rpo, .ref rti, .ref rre, .ref rcl, .int (nI sz), .int (nI cs), .int (nI nx), .int (nI la)])), (rpa, .inl (cI, 24, .inl (nF Pa))), (rpm, .inl (cI, 24, .inl (nF Pm))), (rpo, .inl (cI, 3, .inl (nF Po)))] := hD
  subst hp2
  refine nv_if_eq (tgt := 24) hx hb d_Mod_poison_9 (by decide) (bt_lt _) (fun c_9 => ?_) (fun c_9 => ?_)
  · exact absurd (vwP_i hv) (cB_0 c_9)
  · refine lv_iload_n hx hb d_Mod_poison_12 rfl (lv_at hl 2 rfl) ?_
    refine lv_iconst (v := nI 1) hx hb d_Mod_poison_13 (by decide) ?_
    refine nv_icmp_lt (tgt := 24) hx hb d_Mod_poison_14 (by decide) (by omega) (by omega) (fun c_14 => ?_) (fun c_14 => ?_)
    · omega
    · refine lv_iload_n hx hb d_Mod_poison_17 rfl (lv_at hl 2 rfl) ?_
      refine lv_sipush (v := nI 10000) hx hb d_Mod_poison_18 (by decide) ?_
      refine nv_icmp_le (tgt := 26) hx hb d_Mod_poison_21 (by decide) (by omega) (by omega) (fun c_21 => ?_) (fun c_21 => ?_)
      · refine lv_aload_n hx hb d_Mod_poison_26 rfl (lv_at hl 0 rfl) ?_
        refine va_get (D := D) (ci := 9) (v := .ref rpo) (C := "TileScreenModel") (T := F_Mod) (N := 27) hx hb htb i_Mod hown hG.1 hP 0 rfl rfl 19 (by decide) (htb _ k_654) (fun _ h9 => h9) rfl d_Mod_poison_27 ?_
        refine lv_iload_n hx hb d_Mod_poison_30 rfl (lv_at hl 1 rfl) ?_
        refine nv_iald hx hb hG.1 hP 3 0 rfl rfl (by omega) (by omega) d_Mod_poison_31 ?_
        refine lv_bipush (v := nI 8) hx hb d_Mod_poison_32 (by decide) ?_
        refine nv_icmp_ne (tgt := 47) hx hb d_Mod_poison_34 (by decide) (by have := bPo v; omega) (by omega) (fun c_34 => ?_) (fun c_34 => ?_)
        · refine lv_aload_n hx hb d_Mod_poison_47 rfl (lv_at hl 0 rfl) ?_
          refine va_get (D := D) (ci := 9) (v := .ref rpa) (C := "TileScreenModel") (T := F_Mod) (N := 27) hx hb htb i_Mod hown hG.1 hP 0 rfl rfl 17 (by decide) (htb _ k_652) (fun _ h9 => h9) rfl d_Mod_poison_48 ?_
          refine lv_bipush (v := nI 8) hx hb d_Mod_poison_51 (by decide) ?_
          refine lv_iload_n hx hb d_Mod_poison_53 rfl (lv_at hl 1 rfl) ?_
          refine nv_imul hx hb d_Mod_poison_54 ?_
          refine lv_aload_n hx hb d_Mod_poison_55 rfl (lv_at hl 0 rfl) ?_
          refine va_get (D := D) (ci := 9) (v := .ref rpo) (C := "TileScreenModel") (T := F_Mod) (N := 27) hx hb htb i_Mod hown hG.1 hP 0 rfl rfl 19 (by decide) (htb _ k_654) (fun _ h9 => h9) rfl d_Mod_poison_56 ?_
          refine lv_iload_n hx hb d_Mod_poison_59 rfl (lv_at hl 1 rfl) ?_
          refine nv_iald hx hb hG.1 hP 3 0 rfl rfl (by omega) (by omega) d_Mod_poison_60 ?_
          refine nv_iadd hx hb d_Mod_poison_61 ?_
          refine lv_iload_n hx hb d_Mod_poison_62 rfl (lv_at hl 2 rfl) ?_
          refine nv_iast hx hb hG.1 hP hD hS 1 0 rfl rfl (by have := bPo v; omega) (by omega) d_Mod_poison_63 (fun H locs hP hD hS => ?_)
          have hP : va_P D classes [(mo, .inr (9, [.int (nI 0), .ref rpx, .int nb, .ref rca, .ref rpl, .ref rth, .ref rco, .ref rsh, .ref rsf, .ref rcr, .ref rep, .ref rby, .ref rli, .ref rls, .ref rla, .ref rcm, .ref rcs, .ref rpa, .ref rpm, .ref rpo, .ref rti, .ref rre, .ref rcl, .int (nI sz), .int (nI cs), .int (nI nx), .int (nI la)])), (rpa, .inl (cI, 24, .inl (nF (up Pa (8 * v + (Po v)) n)))), (rpm, .inl (cI, 24, .inl (nF Pm))), (rpo, .inl (cI, 3, .inl (nF Po)))] H := hP
          have hD : va_D AA [(mo, .inr (9, [.int (nI 0), .ref rpx, .int nb, .ref rca, .ref rpl, .ref rth, .ref rco, .ref rsh, .ref rsf, .ref rcr, .ref rep, .ref rby, .ref rli, .ref rls, .ref rla, .ref rcm, .ref rcs, .ref rpa, .ref rpm, .ref rpo, .ref rti, .ref rre, .ref rcl, .int (nI sz), .int (nI cs), .int (nI nx), .int (nI la)])), (rpa, .inl (cI, 24, .inl (nF (up Pa (8 * v + (Po v)) n)))), (rpm, .inl (cI, 24, .inl (nF Pm))), (rpo, .inl (cI, 3, .inl (nF Po)))] := hD
          refine lv_aload_n hx hb d_Mod_poison_64 rfl (lv_at hl 0 rfl) ?_
          refine va_get (D := D) (ci := 9) (v := .ref rpm) (C := "TileScreenModel") (T := F_Mod) (N := 27) hx hb htb i_Mod hown hG.1 hP 0 rfl rfl 18 (by decide) (htb _ k_653) (fun _ h9 => h9) rfl d_Mod_poison_65 ?_
          refine lv_bipush (v := nI 8) hx hb d_Mod_poison_68 (by decide) ?_
          refine lv_iload_n hx hb d_Mod_poison_70 rfl (lv_at hl 1 rfl) ?_
          refine nv_imul hx hb d_Mod_poison_71 ?_
          refine lv_aload_n hx hb d_Mod_poison_72 rfl (lv_at hl 0 rfl) ?_
          refine va_get (D := D) (ci := 9) (v := .ref rpo) (C := "TileScreenModel") (T := F_Mod) (N := 27) hx hb htb i_Mod hown hG.1 hP 0 rfl rfl 19 (by decide) (htb _ k_654) (fun _ h9 => h9) rfl d_Mod_poison_73 ?_
          refine lv_iload_n hx hb d_Mod_poison_76 rfl (lv_at hl 1 rfl) ?_
          refine nv_iald hx hb hG.1 hP 3 0 rfl rfl (by omega) (by omega) d_Mod_poison_77 ?_
          refine nv_iadd hx hb d_Mod_poison_78 ?_
          refine lv_iload_n hx hb d_Mod_poison_79 rfl (lv_at hl 3 rfl) ?_
          refine lv_sipush (v := nI 255) hx hb d_Mod_poison_80 (by decide) ?_
          refine lv_iand hx hb d_Mod_poison_83 ?_
          refine nv_top (y := nI (mk8 mk)) (mk8_eq mk) ?_
          refine nv_iast hx hb hG.1 hP hD hS 2 0 rfl rfl (by have := bPo v; omega) (by omega) d_Mod_poison_84 (fun H locs hP hD hS => ?_)
          have hP : va_P D classes [(mo, .inr (9, [.int (nI 0), .ref rpx, .int nb, .ref rca, .ref rpl, .ref rth, .ref rco, .ref rsh, .ref rsf, .ref rcr, .ref rep, .ref rby, .ref rli, .ref rls, .ref rla, .ref rcm, .ref rcs, .ref rpa, .ref rpm, .ref rpo, .ref rti, .ref rre, .ref rcl, .int (nI sz), .int (nI cs), .int (nI nx), .int (nI la)])), (rpa, .inl (cI, 24, .inl (nF (up Pa (8 * v + (Po v)) n)))), (rpm, .inl (cI, 24, .inl (nF (up Pm (8 * v + (Po v)) (mk8 mk))))), (rpo, .inl (cI, 3, .inl (nF Po)))] H := hP
          have hD : va_D AA [(mo, .inr (9, [.int (nI 0), .ref rpx, .int nb, .ref rca, .ref rpl, .ref rth, .ref rco, .ref rsh, .ref rsf, .ref rcr, .ref rep, .ref rby, .ref rli, .ref rls, .ref rla, .ref rcm, .ref rcs, .ref rpa, .ref rpm, .ref rpo, .ref rti, .ref rre, .ref rcl, .int (nI sz), .int (nI cs), .int (nI nx), .int (nI la)])), (rpa, .inl (cI, 24, .inl (nF (up Pa (8 * v + (Po v)) n)))), (rpm, .inl (cI, 24, .inl (nF (up Pm (8 * v + (Po v)) (mk8 mk))))), (rpo, .inl (cI, 3, .inl (nF Po)))] := hD
          refine lv_aload_n hx hb d_Mod_poison_85 rfl (lv_at hl 0 rfl) ?_
          refine va_get (D := D) (ci := 9) (v := .ref rpo) (C := "TileScreenModel") (T := F_Mod) (N := 27) hx hb htb i_Mod hown hG.1 hP 0 rfl rfl 19 (by decide) (htb _ k_654) (fun _ h9 => h9) rfl d_Mod_poison_86 ?_
          refine lv_iload_n hx hb d_Mod_poison_89 rfl (lv_at hl 1 rfl) ?_
          refine lv_dup2_11 hx hb d_Mod_poison_90 rfl rfl ?_
          refine nv_iald hx hb hG.1 hP 3 0 rfl rfl (by omega) (by omega) d_Mod_poison_91 ?_
          refine lv_iconst (v := nI 1) hx hb d_Mod_poison_92 (by decide) ?_
          refine nv_iadd hx hb d_Mod_poison_93 ?_
          refine nv_iast hx hb hG.1 hP hD hS 3 0 rfl rfl (by omega) (by omega) d_Mod_poison_94 (fun H locs hP hD hS => ?_)
          have hP : va_P D classes [(mo, .inr (9, [.int (nI 0), .ref rpx, .int nb, .ref rca, .ref rpl, .ref rth, .ref rco, .ref rsh, .ref rsf, .ref rcr, .ref rep, .ref rby, .ref rli, .ref rls, .ref rla, .ref rcm, .ref rcs, .ref rpa, .ref rpm, .ref rpo, .ref rti, .ref rre, .ref rcl, .int (nI sz), .int (nI cs), .int (nI nx), .int (nI la)])), (rpa, .inl (cI, 24, .inl (nF (up Pa (8 * v + (Po v)) n)))), (rpm, .inl (cI, 24, .inl (nF (up Pm (8 * v + (Po v)) (mk8 mk))))), (rpo, .inl (cI, 3, .inl (nF (up Po v (Po v + 1)))))] H := hP
          have hD : va_D AA [(mo, .inr (9, [.int (nI 0), .ref rpx, .int nb, .ref rca, .ref rpl, .ref rth, .ref rco, .ref rsh, .ref rsf, .ref rcr, .ref rep, .ref rby, .ref rli, .ref rls, .ref rla, .ref rcm, .ref rcs, .ref rpa, .ref rpm, .ref rpo, .ref rti, .ref rre, .ref rcl, .int (nI sz), .int (nI cs), .int (nI nx), .int (nI la)])), (rpa, .inl (cI, 24, .inl (nF (up Pa (8 * v + (Po v)) n)))), (rpm, .inl (cI, 24, .inl (nF (up Pm (8 * v + (Po v)) (mk8 mk))))), (rpo, .inl (cI, 3, .inl (nF (up Po v (Po v + 1)))))] := hD
          refine lv_iconst (v := nI 1) hx hb d_Mod_poison_95 (by decide) ?_
          have hR := hret ((nI 1)) (up Pa (8 * v + (Po v)) n, up Pm (8 * v + (Po v)) (mk8 mk), up Po v (Po v + 1)) H locs 96 ls d_Mod_poison_96 (by first | rfl | decide)
          try dsimp only at hR
          exact hR (⟨rfl, up_lt bPa (by omega), up_lt bPm (mk8_lt mk), up_lt bPo (by have := bPo v; omega)⟩) hP hD hS
        · refine lv_aload_n hx hb d_Mod_poison_37 rfl (lv_at hl 0 rfl) ?_
          refine va_get (D := D) (ci := 9) (v := .ref rpo) (C := "TileScreenModel") (T := F_Mod) (N := 27) hx hb htb i_Mod hown hG.1 hP 0 rfl rfl 19 (by decide) (htb _ k_654) (fun _ h9 => h9) rfl d_Mod_poison_38 ?_
          refine lv_iload_n hx hb d_Mod_poison_41 rfl (lv_at hl 1 rfl) ?_
          refine lv_dup2_11 hx hb d_Mod_poison_42 rfl rfl ?_
          refine nv_iald hx hb hG.1 hP 3 0 rfl rfl (by omega) (by omega) d_Mod_poison_43 ?_
          refine lv_iconst (v := nI 1) hx hb d_Mod_poison_44 (by decide) ?_
          refine nv_isub hx hb (by omega) d_Mod_poison_45 ?_
          refine nv_iast hx hb hG.1 hP hD hS 3 0 rfl rfl (by omega) (by omega) d_Mod_poison_46 (fun H locs hP hD hS => ?_)
          have hP : va_P D classes [(mo, .inr (9, [.int (nI 0), .ref rpx, .int nb, .ref rca, .ref rpl, .ref rth, .ref rco, .ref rsh, .ref rsf, .ref rcr, .ref rep, .ref rby, .ref rli, .ref rls, .ref rla, .ref rcm, .ref rcs, .ref rpa, .ref rpm, .ref rpo, .ref rti, .ref rre, .ref rcl, .int (nI sz), .int (nI cs), .int (nI nx), .int (nI la)])), (rpa, .inl (cI, 24, .inl (nF Pa))), (rpm, .inl (cI, 24, .inl (nF Pm))), (rpo, .inl (cI, 3, .inl (nF (up Po v ((Po v) - 1)))))] H := hP
          have hD : va_D AA [(mo, .inr (9, [.int (nI 0), .ref rpx, .int nb, .ref rca, .ref rpl, .ref rth, .ref rco, .ref rsh, .ref rsf, .ref rcr, .ref rep, .ref rby, .ref rli, .ref rls, .ref rla, .ref rcm, .ref rcs, .ref rpa, .ref rpm, .ref rpo, .ref rti, .ref rre, .ref rcl, .int (nI sz), .int (nI cs), .int (nI nx), .int (nI la)])), (rpa, .inl (cI, 24, .inl (nF Pa))), (rpm, .inl (cI, 24, .inl (nF Pm))), (rpo, .inl (cI, 3, .inl (nF (up Po v ((Po v) - 1)))))] := hD
          refine lv_aload_n hx hb d_Mod_poison_47 rfl (lv_at hl 0 rfl) ?_
          refine va_get (D := D) (ci := 9) (v := .ref rpa) (C := "TileScreenModel") (T := F_Mod) (N := 27) hx hb htb i_Mod hown hG.1 hP 0 rfl rfl 17 (by decide) (htb _ k_652) (fun _ h9 => h9) rfl d_Mod_poison_48 ?_
          refine lv_bipush (v := nI 8) hx hb d_Mod_poison_51 (by decide) ?_
          refine lv_iload_n hx hb d_Mod_poison_53 rfl (lv_at hl 1 rfl) ?_
          refine nv_imul hx hb d_Mod_poison_54 ?_
          refine lv_aload_n hx hb d_Mod_poison_55 rfl (lv_at hl 0 rfl) ?_
          refine va_get (D := D) (ci := 9) (v := .ref rpo) (C := "TileScreenModel") (T := F_Mod) (N := 27) hx hb htb i_Mod hown hG.1 hP 0 rfl rfl 19 (by decide) (htb _ k_654) (fun _ h9 => h9) rfl d_Mod_poison_56 ?_
          refine lv_iload_n hx hb d_Mod_poison_59 rfl (lv_at hl 1 rfl) ?_
          refine nv_iald hx hb hG.1 hP 3 0 rfl rfl (by omega) (by omega) d_Mod_poison_60 ?_
          refine nv_top (y := nI (Po v - 1)) (congrArg nI (up_s _ _ _)) ?_
          refine nv_iadd hx hb d_Mod_poison_61 ?_
          refine lv_iload_n hx hb d_Mod_poison_62 rfl (lv_at hl 2 rfl) ?_
          refine nv_iast hx hb hG.1 hP hD hS 1 0 rfl rfl (by have := bPo v; omega) (by omega) d_Mod_poison_63 (fun H locs hP hD hS => ?_)
          have hP : va_P D classes [(mo, .inr (9, [.int (nI 0), .ref rpx, .int nb, .ref rca, .ref rpl, .ref rth, .ref rco, .ref rsh, .ref rsf, .ref rcr, .ref rep, .ref rby, .ref rli, .ref rls, .ref rla, .ref rcm, .ref rcs, .ref rpa, .ref rpm, .ref rpo, .ref rti, .ref rre, .ref rcl, .int (nI sz), .int (nI cs), .int (nI nx), .int (nI la)])), (rpa, .inl (cI, 24, .inl (nF (up Pa (8 * v + (Po v - 1)) n)))), (rpm, .inl (cI, 24, .inl (nF Pm))), (rpo, .inl (cI, 3, .inl (nF (up Po v ((Po v) - 1)))))] H := hP
          have hD : va_D AA [(mo, .inr (9, [.int (nI 0), .ref rpx, .int nb, .ref rca, .ref rpl, .ref rth, .ref rco, .ref rsh, .ref rsf, .ref rcr, .ref rep, .ref rby, .ref rli, .ref rls, .ref rla, .ref rcm, .ref rcs, .ref rpa, .ref rpm, .ref rpo, .ref rti, .ref rre, .ref rcl, .int (nI sz), .int (nI cs), .int (nI nx), .int (nI la)])), (rpa, .inl (cI, 24, .inl (nF (up Pa (8 * v + (Po v - 1)) n)))), (rpm, .inl (cI, 24, .inl (nF Pm))), (rpo, .inl (cI, 3, .inl (nF (up Po v ((Po v) - 1)))))] := hD
          refine lv_aload_n hx hb d_Mod_poison_64 rfl (lv_at hl 0 rfl) ?_
          refine va_get (D := D) (ci := 9) (v := .ref rpm) (C := "TileScreenModel") (T := F_Mod) (N := 27) hx hb htb i_Mod hown hG.1 hP 0 rfl rfl 18 (by decide) (htb _ k_653) (fun _ h9 => h9) rfl d_Mod_poison_65 ?_
          refine lv_bipush (v := nI 8) hx hb d_Mod_poison_68 (by decide) ?_
          refine lv_iload_n hx hb d_Mod_poison_70 rfl (lv_at hl 1 rfl) ?_
          refine nv_imul hx hb d_Mod_poison_71 ?_
          refine lv_aload_n hx hb d_Mod_poison_72 rfl (lv_at hl 0 rfl) ?_
          refine va_get (D := D) (ci := 9) (v := .ref rpo) (C := "TileScreenModel") (T := F_Mod) (N := 27) hx hb htb i_Mod hown hG.1 hP 0 rfl rfl 19 (by decide) (htb _ k_654) (fun _ h9 => h9) rfl d_Mod_poison_73 ?_
          refine lv_iload_n hx hb d_Mod_poison_76 rfl (lv_at hl 1 rfl) ?_
          refine nv_iald hx hb hG.1 hP 3 0 rfl rfl (by omega) (by omega) d_Mod_poison_77 ?_
          refine nv_top (y := nI (Po v - 1)) (congrArg nI (up_s _ _ _)) ?_
          refine nv_iadd hx hb d_Mod_poison_78 ?_
          refine lv_iload_n hx hb d_Mod_poison_79 rfl (lv_at hl 3 rfl) ?_
          refine lv_sipush (v := nI 255) hx hb d_Mod_poison_80 (by decide) ?_
          refine lv_iand hx hb d_Mod_poison_83 ?_
          refine nv_top (y := nI (mk8 mk)) (mk8_eq mk) ?_
          refine nv_iast hx hb hG.1 hP hD hS 2 0 rfl rfl (by have := bPo v; omega) (by omega) d_Mod_poison_84 (fun H locs hP hD hS => ?_)
          have hP : va_P D classes [(mo, .inr (9, [.int (nI 0), .ref rpx, .int nb, .ref rca, .ref rpl, .ref rth, .ref rco, .ref rsh, .ref rsf, .ref rcr, .ref rep, .ref rby, .ref rli, .ref rls, .ref rla, .ref rcm, .ref rcs, .ref rpa, .ref rpm, .ref rpo, .ref rti, .ref rre, .ref rcl, .int (nI sz), .int (nI cs), .int (nI nx), .int (nI la)])), (rpa, .inl (cI, 24, .inl (nF (up Pa (8 * v + (Po v - 1)) n)))), (rpm, .inl (cI, 24, .inl (nF (up Pm (8 * v + (Po v - 1)) (mk8 mk))))), (rpo, .inl (cI, 3, .inl (nF (up Po v ((Po v) - 1)))))] H := hP
          have hD : va_D AA [(mo, .inr (9, [.int (nI 0), .ref rpx, .int nb, .ref rca, .ref rpl, .ref rth, .ref rco, .ref rsh, .ref rsf, .ref rcr, .ref rep, .ref rby, .ref rli, .ref rls, .ref rla, .ref rcm, .ref rcs, .ref rpa, .ref rpm, .ref rpo, .ref rti, .ref rre, .ref rcl, .int (nI sz), .int (nI cs), .int (nI nx), .int (nI la)])), (rpa, .inl (cI, 24, .inl (nF (up Pa (8 * v + (Po v - 1)) n)))), (rpm, .inl (cI, 24, .inl (nF (up Pm (8 * v + (Po v - 1)) (mk8 mk))))), (rpo, .inl (cI, 3, .inl (nF (up Po v ((Po v) - 1)))))] := hD
          refine lv_aload_n hx hb d_Mod_poison_85 rfl (lv_at hl 0 rfl) ?_
          refine va_get (D := D) (ci := 9) (v := .ref rpo) (C := "TileScreenModel") (T := F_Mod) (N := 27) hx hb htb i_Mod hown hG.1 hP 0 rfl rfl 19 (by decide) (htb _ k_654) (fun _ h9 => h9) rfl d_Mod_poison_86 ?_
          refine lv_iload_n hx hb d_Mod_poison_89 rfl (lv_at hl 1 rfl) ?_
          refine lv_dup2_11 hx hb d_Mod_poison_90 rfl rfl ?_
          refine nv_iald hx hb hG.1 hP 3 0 rfl rfl (by omega) (by omega) d_Mod_poison_91 ?_
          refine nv_top (y := nI (Po v - 1)) (congrArg nI (up_s _ _ _)) ?_
          refine lv_iconst (v := nI 1) hx hb d_Mod_poison_92 (by decide) ?_
          refine nv_iadd hx hb d_Mod_poison_93 ?_
          refine nv_iast hx hb hG.1 hP hD hS 3 0 rfl rfl (by omega) (by omega) d_Mod_poison_94 (fun H locs hP hD hS => ?_)
          have hP : va_P D classes [(mo, .inr (9, [.int (nI 0), .ref rpx, .int nb, .ref rca, .ref rpl, .ref rth, .ref rco, .ref rsh, .ref rsf, .ref rcr, .ref rep, .ref rby, .ref rli, .ref rls, .ref rla, .ref rcm, .ref rcs, .ref rpa, .ref rpm, .ref rpo, .ref rti, .ref rre, .ref rcl, .int (nI sz), .int (nI cs), .int (nI nx), .int (nI la)])), (rpa, .inl (cI, 24, .inl (nF (up Pa (8 * v + (Po v - 1)) n)))), (rpm, .inl (cI, 24, .inl (nF (up Pm (8 * v + (Po v - 1)) (mk8 mk))))), (rpo, .inl (cI, 3, .inl (nF (up (up Po v ((Po v) - 1)) v ((Po v - 1) + 1)))))] H := hP
          have hD : va_D AA [(mo, .inr (9, [.int (nI 0), .ref rpx, .int nb, .ref rca, .ref rpl, .ref rth, .ref rco, .ref rsh, .ref rsf, .ref rcr, .ref rep, .ref rby, .ref rli, .ref rls, .ref rla, .ref rcm, .ref rcs, .ref rpa, .ref rpm, .ref rpo, .ref rti, .ref rre, .ref rcl, .int (nI sz), .int (nI cs), .int (nI nx), .int (nI la)])), (rpa, .inl (cI, 24, .inl (nF (up Pa (8 * v + (Po v - 1)) n)))), (rpm, .inl (cI, 24, .inl (nF (up Pm (8 * v + (Po v - 1)) (mk8 mk))))), (rpo, .inl (cI, 3, .inl (nF (up (up Po v ((Po v) - 1)) v ((Po v - 1) + 1)))))] := hD
          refine lv_iconst (v := nI 1) hx hb d_Mod_poison_95 (by decide) ?_
          have hR := hret ((nI 1)) (up Pa (8 * v + (Po v - 1)) n, up Pm (8 * v + (Po v - 1)) (mk8 mk), up (up Po v ((Po v) - 1)) v ((Po v - 1) + 1)) H locs 96 ls d_Mod_poison_96 (by first | rfl | decide)
          try dsimp only at hR
          exact hR (⟨rfl, up_lt bPa (by omega), up_lt bPm (mk8_lt mk), up_lt (up_lt bPo (by have := bPo v; omega)) (by have := bPo v; omega)⟩) hP hD hS
      · omega
set_option maxHeartbeats 400000 in
set_option maxRecDepth 100000 in
theorem c_Mod_poison_no (mo : Nat) (cd : Int32) (rpx : Nat) (nb : Int32) (rca : Nat) (rpl : Nat) (rth : Nat) (rco : Nat) (rsh : Nat) (rsf : Nat) (rcr : Nat) (rep : Nat) (rby : Nat) (rli : Nat) (rls : Nat) (rla : Nat) (rcm : Nat) (rcs : Nat) (rpa : Nat) (rpm : Nat) (rpo : Nat) (rti : Nat) (rre : Nat) (rcl : Nat) (sz : Nat) (cs : Nat) (nx : Nat) (la : Nat) (v : Int32) (n : Int32) (mk : Int32) (hno : ¬ (vwP v ∧ ∃ q, 1 ≤ q ∧ q ≤ 10000 ∧ n = nI q)) : CI (S := Unit) l classes NW D (TYS cI cZ cL cV) y_Mod_poison (.code y_Mod_poison b_Mod_poison 4 (some .boolean) :: TB) { frames := 1, cells := 0, slots := 0, locals := 20 } [.ref mo, .int v, .int n, .int mk] [(mo, .inr (9, [.int cd, .ref rpx, .int nb, .ref rca, .ref rpl, .ref rth, .ref rco, .ref rsh, .ref rsf, .ref rcr, .ref rep, .ref rby, .ref rli, .ref rls, .ref rla, .ref rcm, .ref rcs, .ref rpa, .ref rpm, .ref rpo, .ref rti, .ref rre, .ref rcl, .int (nI sz), .int (nI cs), .int (nI nx), .int (nI la)]))] (fun r u => r = nI 0) (fun u => [(mo, .inr (9, [.int (nI 0), .ref rpx, .int nb, .ref rca, .ref rpl, .ref rth, .ref rco, .ref rsh, .ref rsf, .ref rcr, .ref rep, .ref rby, .ref rli, .ref rls, .ref rla, .ref rcm, .ref rcs, .ref rpa, .ref rpm, .ref rpo, .ref rti, .ref rre, .ref rcl, .int (nI sz), .int (nI cs), .int (nI nx), .int (nI la)]))]) := by
  refine CI.of (by decide) (Nat.le_of_ble_eq_true rfl) ?_
  intro pr ev sT mM aR bW mE cO AA QQ ls Bd hG hA hP hD hS hl hret
  have Bd : bd pr cO b_Mod_poison 4 sT aR TB "TileScreenModel" mM := Bd
  obtain ⟨hx, hb, hml, hown, htb⟩ := id Bd
  have hl : lv_has ls 4 [(0, .ref mo), (1, .int v), (2, .int n), (3, .int mk)] := hl
  refine lv_aload_n hx hb d_Mod_poison_0 rfl (lv_at hl 0 rfl) ?_
  refine lv_iconst (v := nI 0) hx hb d_Mod_poison_1 (by decide) ?_
  refine va_put (D := D) (ci := 9) (v := .int (nI 0)) (ty := .int) (C := "TileScreenModel") (T := F_Mod) (N := 27) hx hb htb i_Mod t_Mod t_Mod_ok n_Mod hown hG.1 hP hD hS 0 rfl rfl 0 (by decide) (htb _ k_635) (fun _ h9 => h9) rfl (by decide +kernel) rfl rfl (Nat.le_of_ble_eq_true rfl) d_Mod_poison_2 (fun H locs hP hD hS => ?_)
  have hP : va_P D classes [(mo, .inr (9, [.int (nI 0), .ref rpx, .int nb, .ref rca, .ref rpl, .ref rth, .ref rco, .ref rsh, .ref rsf, .ref rcr, .ref rep, .ref rby, .ref rli, .ref rls, .ref rla, .ref rcm, .ref rcs, .ref rpa, .ref rpm, .ref rpo, .ref rti, .ref rre, .ref rcl, .int (nI sz), .int (nI cs), .int (nI nx), .int (nI la)]))] H := hP
  have hD : va_D AA [(mo, .inr (9, [.int (nI 0), .ref rpx, .int nb, .ref rca, .ref rpl, .ref rth, .ref rco, .ref rsh, .ref rsf, .ref rcr, .ref rep, .ref rby, .ref rli, .ref rls, .ref rla, .ref rcm, .ref rcs, .ref rpa, .ref rpm, .ref rpo, .ref rti, .ref rre, .ref rcl, .int (nI sz), .int (nI cs), .int (nI nx), .int (nI la)]))] := hD
  refine lv_iload_n hx hb d_Mod_poison_5 rfl (lv_at hl 1 rfl) ?_
  refine kS_i (wc := []) (wr := [(mo, .inr (9, [.int (nI 0), .ref rpx, .int nb, .ref rca, .ref rpl, .ref rth, .ref rco, .ref rsh, .ref rsf, .ref rcr, .ref rep, .ref rby, .ref rli, .ref rls, .ref rla, .ref rcm, .ref rcs, .ref rpa, .ref rpm, .ref rpo, .ref rti, .ref rre, .ref rcl, .int (nI sz), .int (nI cs), .int (nI nx), .int (nI la)]))]) (w2 := fun _ => [(mo, .inr (9, [.int (nI 0), .ref rpx, .int nb, .ref rca, .ref rpl, .ref rth, .ref rco, .ref rsh, .ref rsf, .ref rcr, .ref rep, .ref rby, .ref rli, .ref rls, .ref rla, .ref rcm, .ref rcs, .ref rpa, .ref rpm, .ref rpo, .ref rti, .ref rre, .ref rcl, .int (nI sz), .int (nI cs), .int (nI nx), .int (nI la)]))]) [.int v] [] Bd ⟨gi_app (gi_c0 k_753 (gi_c0 k_754 (gi_c0 k_10 gi_nil))) (gi_tb0 k_755), rfl, by decide, by decide⟩ (show (parseMethodDescriptor "(I)Z").map (fun d => d.parameters.length) = some 1 by decide +kernel) (c_Mod_isViewer v ) (by decide +kernel) ⟨Nat.le_of_ble_eq_true rfl, Nat.le_of_ble_eq_true rfl⟩ hG hP hD hS hA [] [0] [0] (by decide) rfl rfl (fun _ => rfl) hl.1 rfl (Nat.le_of_ble_eq_true rfl) d_Mod_poison_6 (fun r1 u3 H locs hp2 hP hD hS => ?_)
  have hP : va_P D classes [(mo, .inr (9, [.int (nI 0), .ref rpx, .int nb, .ref rca, .ref rpl, .ref rth, .ref rco, .ref rsh, .ref rsf, .ref rcr, .ref rep, .ref rby, .ref rli, .ref rls, .ref rla, .ref rcm, .ref rcs, .ref rpa, .ref rpm, .ref rpo, .ref rti, .ref rre, .ref rcl, .int (nI sz), .int (nI cs), .int (nI nx), .int (nI la)]))] H := hP
  have hD : va_D AA [(mo, .inr (9, [.int (nI 0), .ref rpx, .int nb, .ref rca, .ref rpl, .ref rth, .ref rco, .ref rsh, .ref rsf, .ref rcr, .ref rep, .ref rby, .ref rli, .ref rls, .ref rla, .ref rcm, .ref rcs, .ref rpa, .ref rpm, .ref rpo, .ref rti, .ref rre, .ref rcl, .int (nI sz), .int (nI cs), .int (nI nx), .int (nI la)]))] := hD
  subst hp2
  refine nv_if_eq (tgt := 24) hx hb d_Mod_poison_9 (by decide) (bt_lt _) (fun c_9 => ?_) (fun c_9 => ?_)
  · refine lv_iconst (v := nI 0) hx hb d_Mod_poison_24 (by decide) ?_
    exact hret _ () _ _ _ _ d_Mod_poison_25 (by first | rfl | decide) (rfl) hP hD hS
  · refine lv_iload_n hx hb d_Mod_poison_12 rfl (lv_at hl 2 rfl) ?_
    refine lv_iconst (v := nI 1) hx hb d_Mod_poison_13 (by decide) ?_
    refine lv_icmp_lt (tgt := 24) hx hb d_Mod_poison_14 (by decide) (fun c_14 => ?_) (fun c_14 => ?_)
    · refine lv_iconst (v := nI 0) hx hb d_Mod_poison_24 (by decide) ?_
      exact hret _ () _ _ _ _ d_Mod_poison_25 (by first | rfl | decide) (rfl) hP hD hS
    · refine lv_iload_n hx hb d_Mod_poison_17 rfl (lv_at hl 2 rfl) ?_
      refine lv_sipush (v := nI 10000) hx hb d_Mod_poison_18 (by decide) ?_
      refine lv_icmp_le (tgt := 26) hx hb d_Mod_poison_21 (by decide) (fun c_21 => ?_) (fun c_21 => ?_)
      · exact absurd ⟨cB_1 c_9, i_rng (by decide) c_14 (fun z => absurd c_21 (Int32.not_le.mpr z))⟩ hno
      · refine lv_iconst (v := nI 0) hx hb d_Mod_poison_24 (by decide) ?_
        exact hret _ () _ _ _ _ d_Mod_poison_25 (by first | rfl | decide) (rfl) hP hD hS
set_option maxHeartbeats 400000 in
set_option maxRecDepth 100000 in
theorem c_Mod_shown (mo : Nat) (cd : Int32) (rpx : Nat) (nb : Int32) (rca : Nat) (rpl : Nat) (rth : Nat) (rco : Nat) (rsh : Nat) (rsf : Nat) (rcr : Nat) (rep : Nat) (rby : Nat) (rli : Nat) (rls : Nat) (rla : Nat) (rcm : Nat) (rcs : Nat) (rpa : Nat) (rpm : Nat) (rpo : Nat) (rti : Nat) (rre : Nat) (rcl : Nat) (sz : Nat) (cs : Nat) (nx : Nat) (la : Nat) (Sh : Nat → Int32) (v : Nat) (hv : v < 3) : CI (S := Unit) l classes NW D (TYS cI cZ cL cV) y_Mod_shown (.code y_Mod_shown b_Mod_shown 2 (some .int) :: TB) { frames := 1, cells := 0, slots := 0, locals := 20 } [.ref mo, .int (nI v)] [(mo, .inr (9, [.int cd, .ref rpx, .int nb, .ref rca, .ref rpl, .ref rth, .ref rco, .ref rsh, .ref rsf, .ref rcr, .ref rep, .ref rby, .ref rli, .ref rls, .ref rla, .ref rcm, .ref rcs, .ref rpa, .ref rpm, .ref rpo, .ref rti, .ref rre, .ref rcl, .int (nI sz), .int (nI cs), .int (nI nx), .int (nI la)])), (rsh, .inl (cI, 3, .inl Sh))] (fun r u => r = Sh v) (fun u => [(mo, .inr (9, [.int (nI 0), .ref rpx, .int nb, .ref rca, .ref rpl, .ref rth, .ref rco, .ref rsh, .ref rsf, .ref rcr, .ref rep, .ref rby, .ref rli, .ref rls, .ref rla, .ref rcm, .ref rcs, .ref rpa, .ref rpm, .ref rpo, .ref rti, .ref rre, .ref rcl, .int (nI sz), .int (nI cs), .int (nI nx), .int (nI la)])), (rsh, .inl (cI, 3, .inl Sh))]) := by
  refine CI.of (by decide) (Nat.le_of_ble_eq_true rfl) ?_
  intro pr ev sT mM aR bW mE cO AA QQ ls Bd hG hA hP hD hS hl hret
  have Bd : bd pr cO b_Mod_shown 2 sT aR TB "TileScreenModel" mM := Bd
  obtain ⟨hx, hb, hml, hown, htb⟩ := id Bd
  have hl : lv_has ls 2 [(0, .ref mo), (1, .int (nI v))] := hl
  refine lv_aload_n hx hb d_Mod_shown_0 rfl (lv_at hl 0 rfl) ?_
  refine lv_iconst (v := nI 0) hx hb d_Mod_shown_1 (by decide) ?_
  refine va_put (D := D) (ci := 9) (v := .int (nI 0)) (ty := .int) (C := "TileScreenModel") (T := F_Mod) (N := 27) hx hb htb i_Mod t_Mod t_Mod_ok n_Mod hown hG.1 hP hD hS 0 rfl rfl 0 (by decide) (htb _ k_635) (fun _ h9 => h9) rfl (by decide +kernel) rfl rfl (Nat.le_of_ble_eq_true rfl) d_Mod_shown_2 (fun H locs hP hD hS => ?_)
  have hP : va_P D classes [(mo, .inr (9, [.int (nI 0), .ref rpx, .int nb, .ref rca, .ref rpl, .ref rth, .ref rco, .ref rsh, .ref rsf, .ref rcr, .ref rep, .ref rby, .ref rli, .ref rls, .ref rla, .ref rcm, .ref rcs, .ref rpa, .ref rpm, .ref rpo, .ref rti, .ref rre, .ref rcl, .int (nI sz), .int (nI cs), .int (nI nx), .int (nI la)])), (rsh, .inl (cI, 3, .inl Sh))] H := hP
  have hD : va_D AA [(mo, .inr (9, [.int (nI 0), .ref rpx, .int nb, .ref rca, .ref rpl, .ref rth, .ref rco, .ref rsh, .ref rsf, .ref rcr, .ref rep, .ref rby, .ref rli, .ref rls, .ref rla, .ref rcm, .ref rcs, .ref rpa, .ref rpm, .ref rpo, .ref rti, .ref rre, .ref rcl, .int (nI sz), .int (nI cs), .int (nI nx), .int (nI la)])), (rsh, .inl (cI, 3, .inl Sh))] := hD
  refine lv_iload_n hx hb d_Mod_shown_5 rfl (lv_at hl 1 rfl) ?_
  refine kS_i (wc := []) (wr := [(mo, .inr (9, [.int (nI 0), .ref rpx, .int nb, .ref rca, .ref rpl, .ref rth, .ref rco, .ref rsh, .ref rsf, .ref rcr, .ref rep, .ref rby, .ref rli, .ref rls, .ref rla, .ref rcm, .ref rcs, .ref rpa, .ref rpm, .ref rpo, .ref rti, .ref rre, .ref rcl, .int (nI sz), .int (nI cs), .int (nI nx), .int (nI la)])), (rsh, .inl (cI, 3, .inl Sh))]) (w2 := fun _ => [(mo, .inr (9, [.int (nI 0), .ref rpx, .int nb, .ref rca, .ref rpl, .ref rth, .ref rco, .ref rsh, .ref rsf, .ref rcr, .ref rep, .ref rby, .ref rli, .ref rls, .ref rla, .ref rcm, .ref rcs, .ref rpa, .ref rpm, .ref rpo, .ref rti, .ref rre, .ref rcl, .int (nI sz), .int (nI cs), .int (nI nx), .int (nI la)])), (rsh, .inl (cI, 3, .inl Sh))]) [.int (nI v)] [] Bd ⟨gi_app (gi_c0 k_753 (gi_c0 k_754 (gi_c0 k_10 gi_nil))) (gi_tb0 k_755), rfl, by decide, by decide⟩ (show (parseMethodDescriptor "(I)Z").map (fun d => d.parameters.length) = some 1 by decide +kernel) (c_Mod_isViewer (nI v) ) (by decide +kernel) ⟨Nat.le_of_ble_eq_true rfl, Nat.le_of_ble_eq_true rfl⟩ hG hP hD hS hA [] [0, 1] [0, 1] (by decide) rfl rfl (fun _ => rfl) hl.1 rfl (Nat.le_of_ble_eq_true rfl) d_Mod_shown_6 (fun r1 u3 H locs hp2 hP hD hS => ?_)
  have hP : va_P D classes [(mo, .inr (9, [.int (nI 0), .ref rpx, .int nb, .ref rca, .ref rpl, .ref rth, .ref rco, .ref rsh, .ref rsf, .ref rcr, .ref rep, .ref rby, .ref rli, .ref rls, .ref rla, .ref rcm, .ref rcs, .ref rpa, .ref rpm, .ref rpo, .ref rti, .ref rre, .ref rcl, .int (nI sz), .int (nI cs), .int (nI nx), .int (nI la)])), (rsh, .inl (cI, 3, .inl Sh))] H := hP
  have hD : va_D AA [(mo, .inr (9, [.int (nI 0), .ref rpx, .int nb, .ref rca, .ref rpl, .ref rth, .ref rco, .ref rsh, .ref rsf, .ref rcr, .ref rep, .ref rby, .ref rli, .ref rls, .ref rla, .ref rcm, .ref rcs, .ref rpa, .ref rpm, .ref rpo, .ref rti, .ref rre, .ref rcl, .int (nI sz), .int (nI cs), .int (nI nx), .int (nI la)])), (rsh, .inl (cI, 3, .inl Sh))] := hD
  subst hp2
  refine nv_if_eq (tgt := 21) hx hb d_Mod_shown_9 (by decide) (bt_lt _) (fun c_9 => ?_) (fun c_9 => ?_)
  · exact absurd (vwP_i hv) (cB_0 c_9)
  · refine lv_aload_n hx hb d_Mod_shown_12 rfl (lv_at hl 0 rfl) ?_
    refine va_get (D := D) (ci := 9) (v := .ref rsh) (C := "TileScreenModel") (T := F_Mod) (N := 27) hx hb htb i_Mod hown hG.1 hP 0 rfl rfl 7 (by decide) (htb _ k_642) (fun _ h9 => h9) rfl d_Mod_shown_13 ?_
    refine lv_iload_n hx hb d_Mod_shown_16 rfl (lv_at hl 1 rfl) ?_
    refine nr_iald hx hb hG.1 hP 1 0 rfl rfl (by omega) (by omega) d_Mod_shown_17 ?_
    refine lv_goto (tgt := 22) hx hb d_Mod_shown_18 (by decide) ?_
    exact hret _ () _ _ _ _ d_Mod_shown_22 rfl (rfl) hP hD hS
set_option maxHeartbeats 400000 in
set_option maxRecDepth 100000 in
theorem c_Mod_shown_no (mo : Nat) (cd : Int32) (rpx : Nat) (nb : Int32) (rca : Nat) (rpl : Nat) (rth : Nat) (rco : Nat) (rsh : Nat) (rsf : Nat) (rcr : Nat) (rep : Nat) (rby : Nat) (rli : Nat) (rls : Nat) (rla : Nat) (rcm : Nat) (rcs : Nat) (rpa : Nat) (rpm : Nat) (rpo : Nat) (rti : Nat) (rre : Nat) (rcl : Nat) (sz : Nat) (cs : Nat) (nx : Nat) (la : Nat) (v : Int32) (hno : ¬ vwP v) : CI (S := Unit) l classes NW D (TYS cI cZ cL cV) y_Mod_shown (.code y_Mod_shown b_Mod_shown 2 (some .int) :: TB) { frames := 1, cells := 0, slots := 0, locals := 20 } [.ref mo, .int v] [(mo, .inr (9, [.int cd, .ref rpx, .int nb, .ref rca, .ref rpl, .ref rth, .ref rco, .ref rsh, .ref rsf, .ref rcr, .ref rep, .ref rby, .ref rli, .ref rls, .ref rla, .ref rcm, .ref rcs, .ref rpa, .ref rpm, .ref rpo, .ref rti, .ref rre, .ref rcl, .int (nI sz), .int (nI cs), .int (nI nx), .int (nI la)]))] (fun r u => r = (-1)) (fun u => [(mo, .inr (9, [.int (nI 0), .ref rpx, .int nb, .ref rca, .ref rpl, .ref rth, .ref rco, .ref rsh, .ref rsf, .ref rcr, .ref rep, .ref rby, .ref rli, .ref rls, .ref rla, .ref rcm, .ref rcs, .ref rpa, .ref rpm, .ref rpo, .ref rti, .ref rre, .ref rcl, .int (nI sz), .int (nI cs), .int (nI nx), .int (nI la)]))]) := by
  refine CI.of (by decide) (Nat.le_of_ble_eq_true rfl) ?_
  intro pr ev sT mM aR bW mE cO AA QQ ls Bd hG hA hP hD hS hl hret
  have Bd : bd pr cO b_Mod_shown 2 sT aR TB "TileScreenModel" mM := Bd
  obtain ⟨hx, hb, hml, hown, htb⟩ := id Bd
  have hl : lv_has ls 2 [(0, .ref mo), (1, .int v)] := hl
  refine lv_aload_n hx hb d_Mod_shown_0 rfl (lv_at hl 0 rfl) ?_
  refine lv_iconst (v := nI 0) hx hb d_Mod_shown_1 (by decide) ?_
  refine va_put (D := D) (ci := 9) (v := .int (nI 0)) (ty := .int) (C := "TileScreenModel") (T := F_Mod) (N := 27) hx hb htb i_Mod t_Mod t_Mod_ok n_Mod hown hG.1 hP hD hS 0 rfl rfl 0 (by decide) (htb _ k_635) (fun _ h9 => h9) rfl (by decide +kernel) rfl rfl (Nat.le_of_ble_eq_true rfl) d_Mod_shown_2 (fun H locs hP hD hS => ?_)
  have hP : va_P D classes [(mo, .inr (9, [.int (nI 0), .ref rpx, .int nb, .ref rca, .ref rpl, .ref rth, .ref rco, .ref rsh, .ref rsf, .ref rcr, .ref rep, .ref rby, .ref rli, .ref rls, .ref rla, .ref rcm, .ref rcs, .ref rpa, .ref rpm, .ref rpo, .ref rti, .ref rre, .ref rcl, .int (nI sz), .int (nI cs), .int (nI nx), .int (nI la)]))] H := hP
  have hD : va_D AA [(mo, .inr (9, [.int (nI 0), .ref rpx, .int nb, .ref rca, .ref rpl, .ref rth, .ref rco, .ref rsh, .ref rsf, .ref rcr, .ref rep, .ref rby, .ref rli, .ref rls, .ref rla, .ref rcm, .ref rcs, .ref rpa, .ref rpm, .ref rpo, .ref rti, .ref rre, .ref rcl, .int (nI sz), .int (nI cs), .int (nI nx), .int (nI la)]))] := hD
  refine lv_iload_n hx hb d_Mod_shown_5 rfl (lv_at hl 1 rfl) ?_
  refine kS_i (wc := []) (wr := [(mo, .inr (9, [.int (nI 0), .ref rpx, .int nb, .ref rca, .ref rpl, .ref rth, .ref rco, .ref rsh, .ref rsf, .ref rcr, .ref rep, .ref rby, .ref rli, .ref rls, .ref rla, .ref rcm, .ref rcs, .ref rpa, .ref rpm, .ref rpo, .ref rti, .ref rre, .ref rcl, .int (nI sz), .int (nI cs), .int (nI nx), .int (nI la)]))]) (w2 := fun _ => [(mo, .inr (9, [.int (nI 0), .ref rpx, .int nb, .ref rca, .ref rpl, .ref rth, .ref rco, .ref rsh, .ref rsf, .ref rcr, .ref rep, .ref rby, .ref rli, .ref rls, .ref rla, .ref rcm, .ref rcs, .ref rpa, .ref rpm, .ref rpo, .ref rti, .ref rre, .ref rcl, .int (nI sz), .int (nI cs), .int (nI nx), .int (nI la)]))]) [.int v] [] Bd ⟨gi_app (gi_c0 k_753 (gi_c0 k_754 (gi_c0 k_10 gi_nil))) (gi_tb0 k_755), rfl, by decide, by decide⟩ (show (parseMethodDescriptor "(I)Z").map (fun d => d.parameters.length) = some 1 by decide +kernel) (c_Mod_isViewer v ) (by decide +kernel) ⟨Nat.le_of_ble_eq_true rfl, Nat.le_of_ble_eq_true rfl⟩ hG hP hD hS hA [] [0] [0] (by decide) rfl rfl (fun _ => rfl) hl.1 rfl (Nat.le_of_ble_eq_true rfl) d_Mod_shown_6 (fun r1 u3 H locs hp2 hP hD hS => ?_)
  have hP : va_P D classes [(mo, .inr (9, [.int (nI 0), .ref rpx, .int nb, .ref rca, .ref rpl, .ref rth, .ref rco, .ref rsh, .ref rsf, .ref rcr, .ref rep, .ref rby, .ref rli, .ref rls, .ref rla, .ref rcm, .ref rcs, .ref rpa, .ref rpm, .ref rpo, .ref rti, .ref rre, .ref rcl, .int (nI sz), .int (nI cs), .int (nI nx), .int (nI la)]))] H := hP
  have hD : va_D AA [(mo, .inr (9, [.int (nI 0), .ref rpx, .int nb, .ref rca, .ref rpl, .ref rth, .ref rco, .ref rsh, .ref rsf, .ref rcr, .ref rep, .ref rby, .ref rli, .ref rls, .ref rla, .ref rcm, .ref rcs, .ref rpa, .ref rpm, .ref rpo, .ref rti, .ref rre, .ref rcl, .int (nI sz), .int (nI cs), .int (nI nx), .int (nI la)]))] := hD
  subst hp2
  refine nv_if_eq (tgt := 21) hx hb d_Mod_shown_9 (by decide) (bt_lt _) (fun c_9 => ?_) (fun c_9 => ?_)
  · refine lv_iconst (v := -1) hx hb d_Mod_shown_21 (by decide) ?_
    exact hret _ () _ _ _ _ d_Mod_shown_22 rfl (rfl) hP hD hS
  · exact absurd (cB_1 c_9) hno
set_option maxHeartbeats 400000 in
set_option maxRecDepth 100000 in
theorem c_Mod_atD (mo : Nat) (cd : Int32) (rpx : Nat) (nb : Int32) (rca : Nat) (rpl : Nat) (rth : Nat) (rco : Nat) (rsh : Nat) (rsf : Nat) (rcr : Nat) (rep : Nat) (rby : Nat) (rli : Nat) (rls : Nat) (rla : Nat) (rcm : Nat) (rcs : Nat) (rpa : Nat) (rpm : Nat) (rpo : Nat) (rti : Nat) (rre : Nat) (rcl : Nat) (sz : Nat) (cs : Nat) (nx : Nat) (la : Nat) (Px : Nat → Nat) (x : Nat) (y : Nat) (hx1 : x < 64) (hy1 : y < 48) : CI (S := Unit) l classes NW D (TYS cI cZ cL cV) y_Mod_at (.code y_Mod_at b_Mod_at 4 (some .int) :: TB) { frames := 0, cells := 0, slots := 0, locals := 0 } [.ref mo, .int (-1), .int (nI x), .int (nI y)] [(mo, .inr (9, [.int cd, .ref rpx, .int nb, .ref rca, .ref rpl, .ref rth, .ref rco, .ref rsh, .ref rsf, .ref rcr, .ref rep, .ref rby, .ref rli, .ref rls, .ref rla, .ref rcm, .ref rcs, .ref rpa, .ref rpm, .ref rpo, .ref rti, .ref rre, .ref rcl, .int (nI sz), .int (nI cs), .int (nI nx), .int (nI la)])), (rpx, .inl (cI, 30720, .inl (nF Px)))] (fun r u => r = nI (Px (0 + 64 * y + x))) (fun u => [(mo, .inr (9, [.int (nI 0), .ref rpx, .int nb, .ref rca, .ref rpl, .ref rth, .ref rco, .ref rsh, .ref rsf, .ref rcr, .ref rep, .ref rby, .ref rli, .ref rls, .ref rla, .ref rcm, .ref rcs, .ref rpa, .ref rpm, .ref rpo, .ref rti, .ref rre, .ref rcl, .int (nI sz), .int (nI cs), .int (nI nx), .int (nI la)])), (rpx, .inl (cI, 30720, .inl (nF Px)))]) := by
  refine CI.of (by decide) (Nat.le_of_ble_eq_true rfl) ?_
  intro pr ev sT mM aR bW mE cO AA QQ ls Bd hG hA hP hD hS hl hret
  have Bd : bd pr cO b_Mod_at 4 sT aR TB "TileScreenModel" mM := Bd
  obtain ⟨hx, hb, hml, hown, htb⟩ := id Bd
  have hl : lv_has ls 4 [(0, .ref mo), (1, .int (-1)), (2, .int (nI x)), (3, .int (nI y))] := hl
  refine lv_aload_n hx hb d_Mod_at_0 rfl (lv_at hl 0 rfl) ?_
  refine lv_iconst (v := nI 0) hx hb d_Mod_at_1 (by decide) ?_
  refine va_put (D := D) (ci := 9) (v := .int (nI 0)) (ty := .int) (C := "TileScreenModel") (T := F_Mod) (N := 27) hx hb htb i_Mod t_Mod t_Mod_ok n_Mod hown hG.1 hP hD hS 0 rfl rfl 0 (by decide) (htb _ k_635) (fun _ h9 => h9) rfl (by decide +kernel) rfl rfl (Nat.le_of_ble_eq_true rfl) d_Mod_at_2 (fun H locs hP hD hS => ?_)
  have hP : va_P D classes [(mo, .inr (9, [.int (nI 0), .ref rpx, .int nb, .ref rca, .ref rpl, .ref rth, .ref rco, .ref rsh, .ref rsf, .ref rcr, .ref rep, .ref rby, .ref rli, .ref rls, .ref rla, .ref rcm, .ref rcs, .ref rpa, .ref rpm, .ref rpo, .ref rti, .ref rre, .ref rcl, .int (nI sz), .int (nI cs), .int (nI nx), .int (nI la)])), (rpx, .inl (cI, 30720, .inl (nF Px)))] H := hP
  have hD : va_D AA [(mo, .inr (9, [.int (nI 0), .ref rpx, .int nb, .ref rca, .ref rpl, .ref rth, .ref rco, .ref rsh, .ref rsf, .ref rcr, .ref rep, .ref rby, .ref rli, .ref rls, .ref rla, .ref rcm, .ref rcs, .ref rpa, .ref rpm, .ref rpo, .ref rti, .ref rre, .ref rcl, .int (nI sz), .int (nI cs), .int (nI nx), .int (nI la)])), (rpx, .inl (cI, 30720, .inl (nF Px)))] := hD
  refine lv_iload_n hx hb d_Mod_at_5 rfl (lv_at hl 1 rfl) ?_
  refine lv_iconst (v := -1) hx hb d_Mod_at_6 (by decide) ?_
  refine lv_icmp_lt (tgt := 35) hx hb d_Mod_at_7 (by decide) (fun c_7 => ?_) (fun c_7 => ?_)
  · exact absurd c_7 (by decide)
  · refine lv_iload_n hx hb d_Mod_at_10 rfl (lv_at hl 1 rfl) ?_
    refine lv_iconst (v := nI 2) hx hb d_Mod_at_11 (by decide) ?_
    refine lv_icmp_gt (tgt := 35) hx hb d_Mod_at_12 (by decide) (fun c_12 => ?_) (fun c_12 => ?_)
    · exact absurd c_12 (by decide)
    · refine lv_iload_n hx hb d_Mod_at_15 rfl (lv_at hl 2 rfl) ?_
      refine nv_if_ltF hx hb 35 d_Mod_at_16 (by decide) (by omega) ?_
      refine lv_iload_n hx hb d_Mod_at_19 rfl (lv_at hl 2 rfl) ?_
      refine lv_bipush (v := nI 64) hx hb d_Mod_at_20 (by decide) ?_
      refine nv_icmp_ge (tgt := 35) hx hb d_Mod_at_22 (by decide) (by omega) (by omega) (fun c_22 => ?_) (fun c_22 => ?_)
      · omega
      · refine lv_iload_n hx hb d_Mod_at_25 rfl (lv_at hl 3 rfl) ?_
        refine nv_if_ltF hx hb 35 d_Mod_at_26 (by decide) (by omega) ?_
        refine lv_iload_n hx hb d_Mod_at_29 rfl (lv_at hl 3 rfl) ?_
        refine lv_bipush (v := nI 48) hx hb d_Mod_at_30 (by decide) ?_
        refine nv_icmp_lt (tgt := 37) hx hb d_Mod_at_32 (by decide) (by omega) (by omega) (fun c_32 => ?_) (fun c_32 => ?_)
        · refine lv_aload_n hx hb d_Mod_at_37 rfl (lv_at hl 0 rfl) ?_
          refine va_get (D := D) (ci := 9) (v := .ref rpx) (C := "TileScreenModel") (T := F_Mod) (N := 27) hx hb htb i_Mod hown hG.1 hP 0 rfl rfl 1 (by decide) (htb _ k_636) (fun _ h9 => h9) rfl d_Mod_at_38 ?_
          refine lv_sipush (v := nI 3072) hx hb d_Mod_at_41 (by decide) ?_
          refine lv_iload_n hx hb d_Mod_at_44 rfl (lv_at hl 1 rfl) ?_
          refine lv_iconst (v := -1) hx hb d_Mod_at_45 (by decide) ?_
          refine lv_icmp_ne (tgt := 53) hx hb d_Mod_at_46 (by decide) (fun c_46 => ?_) (fun c_46 => ?_)
          · exact absurd rfl c_46
          · refine lv_iconst (v := nI 0) hx hb d_Mod_at_49 (by decide) ?_
            refine lv_goto (tgt := 56) hx hb d_Mod_at_50 (by decide) ?_
            refine nv_imul hx hb d_Mod_at_56 ?_
            refine nv_top (y := nI 0) rfl ?_
            refine lv_bipush (v := nI 64) hx hb d_Mod_at_57 (by decide) ?_
            refine lv_iload_n hx hb d_Mod_at_59 rfl (lv_at hl 3 rfl) ?_
            refine nv_imul hx hb d_Mod_at_60 ?_
            refine nv_iadd hx hb d_Mod_at_61 ?_
            refine lv_iload_n hx hb d_Mod_at_62 rfl (lv_at hl 2 rfl) ?_
            refine nv_iadd hx hb d_Mod_at_63 ?_
            refine nv_iald hx hb hG.1 hP 1 0 rfl rfl (by omega) (by omega) d_Mod_at_64 ?_
            exact hret _ () _ _ _ _ d_Mod_at_65 rfl (rfl) hP hD hS
        · omega
set_option maxHeartbeats 400000 in
set_option maxRecDepth 100000 in
theorem c_Mod_atV (mo : Nat) (cd : Int32) (rpx : Nat) (nb : Int32) (rca : Nat) (rpl : Nat) (rth : Nat) (rco : Nat) (rsh : Nat) (rsf : Nat) (rcr : Nat) (rep : Nat) (rby : Nat) (rli : Nat) (rls : Nat) (rla : Nat) (rcm : Nat) (rcs : Nat) (rpa : Nat) (rpm : Nat) (rpo : Nat) (rti : Nat) (rre : Nat) (rcl : Nat) (sz : Nat) (cs : Nat) (nx : Nat) (la : Nat) (Px : Nat → Nat) (v : Nat) (x : Nat) (y : Nat) (hv : v < 3) (hx1 : x < 64) (hy1 : y < 48) : CI (S := Unit) l classes NW D (TYS cI cZ cL cV) y_Mod_at (.code y_Mod_at b_Mod_at 4 (some .int) :: TB) { frames := 0, cells := 0, slots := 0, locals := 0 } [.ref mo, .int (nI v), .int (nI x), .int (nI y)] [(mo, .inr (9, [.int cd, .ref rpx, .int nb, .ref rca, .ref rpl, .ref rth, .ref rco, .ref rsh, .ref rsf, .ref rcr, .ref rep, .ref rby, .ref rli, .ref rls, .ref rla, .ref rcm, .ref rcs, .ref rpa, .ref rpm, .ref rpo, .ref rti, .ref rre, .ref rcl, .int (nI sz), .int (nI cs), .int (nI nx), .int (nI la)])), (rpx, .inl (cI, 30720, .inl (nF Px)))] (fun r u => r = nI (Px (3072 * (2 + v) + 64 * y + x))) (fun u => [(mo, .inr (9, [.int (nI 0), .ref rpx, .int nb, .ref rca, .ref rpl, .ref rth, .ref rco, .ref rsh, .ref rsf, .ref rcr, .ref rep, .ref rby, .ref rli, .ref rls, .ref rla, .ref rcm, .ref rcs, .ref rpa, .ref rpm, .ref rpo, .ref rti, .ref rre, .ref rcl, .int (nI sz), .int (nI cs), .int (nI nx), .int (nI la)])), (rpx, .inl (cI, 30720, .inl (nF Px)))]) := by
  refine CI.of (by decide) (Nat.le_of_ble_eq_true rfl) ?_
  intro pr ev sT mM aR bW mE cO AA QQ ls Bd hG hA hP hD hS hl hret
  have Bd : bd pr cO b_Mod_at 4 sT aR TB "TileScreenModel" mM := Bd
  obtain ⟨hx, hb, hml, hown, htb⟩ := id Bd
  have hl : lv_has ls 4 [(0, .ref mo), (1, .int (nI v)), (2, .int (nI x)), (3, .int (nI y))] := hl
  refine lv_aload_n hx hb d_Mod_at_0 rfl (lv_at hl 0 rfl) ?_
  refine lv_iconst (v := nI 0) hx hb d_Mod_at_1 (by decide) ?_
  refine va_put (D := D) (ci := 9) (v := .int (nI 0)) (ty := .int) (C := "TileScreenModel") (T := F_Mod) (N := 27) hx hb htb i_Mod t_Mod t_Mod_ok n_Mod hown hG.1 hP hD hS 0 rfl rfl 0 (by decide) (htb _ k_635) (fun _ h9 => h9) rfl (by decide +kernel) rfl rfl (Nat.le_of_ble_eq_true rfl) d_Mod_at_2 (fun H locs hP hD hS => ?_)
  have hP : va_P D classes [(mo, .inr (9, [.int (nI 0), .ref rpx, .int nb, .ref rca, .ref rpl, .ref rth, .ref rco, .ref rsh, .ref rsf, .ref rcr, .ref rep, .ref rby, .ref rli, .ref rls, .ref rla, .ref rcm, .ref rcs, .ref rpa, .ref rpm, .ref rpo, .ref rti, .ref rre, .ref rcl, .int (nI sz), .int (nI cs), .int (nI nx), .int (nI la)])), (rpx, .inl (cI, 30720, .inl (nF Px)))] H := hP
  have hD : va_D AA [(mo, .inr (9, [.int (nI 0), .ref rpx, .int nb, .ref rca, .ref rpl, .ref rth, .ref rco, .ref rsh, .ref rsf, .ref rcr, .ref rep, .ref rby, .ref rli, .ref rls, .ref rla, .ref rcm, .ref rcs, .ref rpa, .ref rpm, .ref rpo, .ref rti, .ref rre, .ref rcl, .int (nI sz), .int (nI cs), .int (nI nx), .int (nI la)])), (rpx, .inl (cI, 30720, .inl (nF Px)))] := hD
  refine lv_iload_n hx hb d_Mod_at_5 rfl (lv_at hl 1 rfl) ?_
  refine lv_iconst (v := -1) hx hb d_Mod_at_6 (by decide) ?_
  refine lv_icmp_lt (tgt := 35) hx hb d_Mod_at_7 (by decide) (fun c_7 => ?_) (fun c_7 => ?_)
  · exact absurd (Int32.lt_trans c_7 (by decide)) (nI_pos (by omega))
  · refine lv_iload_n hx hb d_Mod_at_10 rfl (lv_at hl 1 rfl) ?_
    refine lv_iconst (v := nI 2) hx hb d_Mod_at_11 (by decide) ?_
    refine nv_icmp_gt (tgt := 35) hx hb d_Mod_at_12 (by decide) (by omega) (by omega) (fun c_12 => ?_) (fun c_12 => ?_)
    · omega
    · refine lv_iload_n hx hb d_Mod_at_15 rfl (lv_at hl 2 rfl) ?_
      refine nv_if_ltF hx hb 35 d_Mod_at_16 (by decide) (by omega) ?_
      refine lv_iload_n hx hb d_Mod_at_19 rfl (lv_at hl 2 rfl) ?_
      refine lv_bipush (v := nI 64) hx hb d_Mod_at_20 (by decide) ?_
      refine nv_icmp_ge (tgt := 35) hx hb d_Mod_at_22 (by decide) (by omega) (by omega) (fun c_22 => ?_) (fun c_22 => ?_)
      · omega
      · refine lv_iload_n hx hb d_Mod_at_25 rfl (lv_at hl 3 rfl) ?_
        refine nv_if_ltF hx hb 35 d_Mod_at_26 (by decide) (by omega) ?_
        refine lv_iload_n hx hb d_Mod_at_29 rfl (lv_at hl 3 rfl) ?_
        refine lv_bipush (v := nI 48) hx hb d_Mod_at_30 (by decide) ?_
        refine nv_icmp_lt (tgt := 37) hx hb d_Mod_at_32 (by decide) (by omega) (by omega) (fun c_32 => ?_) (fun c_32 => ?_)
        · refine lv_aload_n hx hb d_Mod_at_37 rfl (lv_at hl 0 rfl) ?_
          refine va_get (D := D) (ci := 9) (v := .ref rpx) (C := "TileScreenModel") (T := F_Mod) (N := 27) hx hb htb i_Mod hown hG.1 hP 0 rfl rfl 1 (by decide) (htb _ k_636) (fun _ h9 => h9) rfl d_Mod_at_38 ?_
          refine lv_sipush (v := nI 3072) hx hb d_Mod_at_41 (by decide) ?_
          refine lv_iload_n hx hb d_Mod_at_44 rfl (lv_at hl 1 rfl) ?_
          refine lv_iconst (v := -1) hx hb d_Mod_at_45 (by decide) ?_
          refine lv_icmp_ne (tgt := 53) hx hb d_Mod_at_46 (by decide) (fun c_46 => ?_) (fun c_46 => ?_)
          · refine lv_iconst (v := nI 2) hx hb d_Mod_at_53 (by decide) ?_
            refine lv_iload_n hx hb d_Mod_at_54 rfl (lv_at hl 1 rfl) ?_
            refine nv_iadd hx hb d_Mod_at_55 ?_
            refine nv_imul hx hb d_Mod_at_56 ?_
            refine lv_bipush (v := nI 64) hx hb d_Mod_at_57 (by decide) ?_
            refine lv_iload_n hx hb d_Mod_at_59 rfl (lv_at hl 3 rfl) ?_
            refine nv_imul hx hb d_Mod_at_60 ?_
            refine nv_iadd hx hb d_Mod_at_61 ?_
            refine lv_iload_n hx hb d_Mod_at_62 rfl (lv_at hl 2 rfl) ?_
            refine nv_iadd hx hb d_Mod_at_63 ?_
            refine nv_iald hx hb hG.1 hP 1 0 rfl rfl (by omega) (by omega) d_Mod_at_64 ?_
            exact hret _ () _ _ _ _ d_Mod_at_65 rfl (rfl) hP hD hS
          · exact absurd (congrArg Int32.toInt c_46) (by rw [nI_toInt (by omega)]; show ¬ (v : Int) = -1; omega)
        · omega
set_option maxHeartbeats 400000 in
set_option maxRecDepth 100000 in
theorem c_Mod_at_no (mo : Nat) (cd : Int32) (rpx : Nat) (nb : Int32) (rca : Nat) (rpl : Nat) (rth : Nat) (rco : Nat) (rsh : Nat) (rsf : Nat) (rcr : Nat) (rep : Nat) (rby : Nat) (rli : Nat) (rls : Nat) (rla : Nat) (rcm : Nat) (rcs : Nat) (rpa : Nat) (rpm : Nat) (rpo : Nat) (rti : Nat) (rre : Nat) (rcl : Nat) (sz : Nat) (cs : Nat) (nx : Nat) (la : Nat) (v : Int32) (x : Int32) (y : Int32) (hno : ¬ ((v = -1 ∨ vwP v) ∧ reP x y (nI 1) (nI 1))) : CI (S := Unit) l classes NW D (TYS cI cZ cL cV) y_Mod_at (.code y_Mod_at b_Mod_at 4 (some .int) :: TB) { frames := 0, cells := 0, slots := 0, locals := 0 } [.ref mo, .int v, .int x, .int y] [(mo, .inr (9, [.int cd, .ref rpx, .int nb, .ref rca, .ref rpl, .ref rth, .ref rco, .ref rsh, .ref rsf, .ref rcr, .ref rep, .ref rby, .ref rli, .ref rls, .ref rla, .ref rcm, .ref rcs, .ref rpa, .ref rpm, .ref rpo, .ref rti, .ref rre, .ref rcl, .int (nI sz), .int (nI cs), .int (nI nx), .int (nI la)]))] (fun r u => r = (-1)) (fun u => [(mo, .inr (9, [.int (nI 0), .ref rpx, .int nb, .ref rca, .ref rpl, .ref rth, .ref rco, .ref rsh, .ref rsf, .ref rcr, .ref rep, .ref rby, .ref rli, .ref rls, .ref rla, .ref rcm, .ref rcs, .ref rpa, .ref rpm, .ref rpo, .ref rti, .ref rre, .ref rcl, .int (nI sz), .int (nI cs), .int (nI nx), .int (nI la)]))]) := by
  refine CI.of (by decide) (Nat.le_of_ble_eq_true rfl) ?_
  intro pr ev sT mM aR bW mE cO AA QQ ls Bd hG hA hP hD hS hl hret
  have Bd : bd pr cO b_Mod_at 4 sT aR TB "TileScreenModel" mM := Bd
  obtain ⟨hx, hb, hml, hown, htb⟩ := id Bd
  have hl : lv_has ls 4 [(0, .ref mo), (1, .int v), (2, .int x), (3, .int y)] := hl
  refine lv_aload_n hx hb d_Mod_at_0 rfl (lv_at hl 0 rfl) ?_
  refine lv_iconst (v := nI 0) hx hb d_Mod_at_1 (by decide) ?_
  refine va_put (D := D) (ci := 9) (v := .int (nI 0)) (ty := .int) (C := "TileScreenModel") (T := F_Mod) (N := 27) hx hb htb i_Mod t_Mod t_Mod_ok n_Mod hown hG.1 hP hD hS 0 rfl rfl 0 (by decide) (htb _ k_635) (fun _ h9 => h9) rfl (by decide +kernel) rfl rfl (Nat.le_of_ble_eq_true rfl) d_Mod_at_2 (fun H locs hP hD hS => ?_)
  have hP : va_P D classes [(mo, .inr (9, [.int (nI 0), .ref rpx, .int nb, .ref rca, .ref rpl, .ref rth, .ref rco, .ref rsh, .ref rsf, .ref rcr, .ref rep, .ref rby, .ref rli, .ref rls, .ref rla, .ref rcm, .ref rcs, .ref rpa, .ref rpm, .ref rpo, .ref rti, .ref rre, .ref rcl, .int (nI sz), .int (nI cs), .int (nI nx), .int (nI la)]))] H := hP
  have hD : va_D AA [(mo, .inr (9, [.int (nI 0), .ref rpx, .int nb, .ref rca, .ref rpl, .ref rth, .ref rco, .ref rsh, .ref rsf, .ref rcr, .ref rep, .ref rby, .ref rli, .ref rls, .ref rla, .ref rcm, .ref rcs, .ref rpa, .ref rpm, .ref rpo, .ref rti, .ref rre, .ref rcl, .int (nI sz), .int (nI cs), .int (nI nx), .int (nI la)]))] := hD
  refine lv_iload_n hx hb d_Mod_at_5 rfl (lv_at hl 1 rfl) ?_
  refine lv_iconst (v := -1) hx hb d_Mod_at_6 (by decide) ?_
  refine lv_icmp_lt (tgt := 35) hx hb d_Mod_at_7 (by decide) (fun c_7 => ?_) (fun c_7 => ?_)
  · refine lv_iconst (v := -1) hx hb d_Mod_at_35 (by decide) ?_
    exact hret _ () _ _ _ _ d_Mod_at_36 rfl (rfl) hP hD hS
  · refine lv_iload_n hx hb d_Mod_at_10 rfl (lv_at hl 1 rfl) ?_
    refine lv_iconst (v := nI 2) hx hb d_Mod_at_11 (by decide) ?_
    refine lv_icmp_gt (tgt := 35) hx hb d_Mod_at_12 (by decide) (fun c_12 => ?_) (fun c_12 => ?_)
    · refine lv_iconst (v := -1) hx hb d_Mod_at_35 (by decide) ?_
      exact hret _ () _ _ _ _ d_Mod_at_36 rfl (rfl) hP hD hS
    · refine lv_iload_n hx hb d_Mod_at_15 rfl (lv_at hl 2 rfl) ?_
      refine lv_if_lt (tgt := 35) hx hb d_Mod_at_16 (by decide) (fun c_16 => ?_) (fun c_16 => ?_)
      · refine lv_iconst (v := -1) hx hb d_Mod_at_35 (by decide) ?_
        exact hret _ () _ _ _ _ d_Mod_at_36 rfl (rfl) hP hD hS
      · refine lv_iload_n hx hb d_Mod_at_19 rfl (lv_at hl 2 rfl) ?_
        refine lv_bipush (v := nI 64) hx hb d_Mod_at_20 (by decide) ?_
        refine lv_icmp_ge (tgt := 35) hx hb d_Mod_at_22 (by decide) (fun c_22 => ?_) (fun c_22 => ?_)
        · refine lv_iconst (v := -1) hx hb d_Mod_at_35 (by decide) ?_
          exact hret _ () _ _ _ _ d_Mod_at_36 rfl (rfl) hP hD hS
        · refine lv_iload_n hx hb d_Mod_at_25 rfl (lv_at hl 3 rfl) ?_
          refine lv_if_lt (tgt := 35) hx hb d_Mod_at_26 (by decide) (fun c_26 => ?_) (fun c_26 => ?_)
          · refine lv_iconst (v := -1) hx hb d_Mod_at_35 (by decide) ?_
            exact hret _ () _ _ _ _ d_Mod_at_36 rfl (rfl) hP hD hS
          · refine lv_iload_n hx hb d_Mod_at_29 rfl (lv_at hl 3 rfl) ?_
            refine lv_bipush (v := nI 48) hx hb d_Mod_at_30 (by decide) ?_
            refine lv_icmp_lt (tgt := 37) hx hb d_Mod_at_32 (by decide) (fun c_32 => ?_) (fun c_32 => ?_)
            · exact absurd (at_yes c_7 c_12 c_16 c_22 c_26 c_32) hno
            · refine lv_iconst (v := -1) hx hb d_Mod_at_35 (by decide) ?_
              exact hret _ () _ _ _ _ d_Mod_at_36 rfl (rfl) hP hD hS
set_option maxHeartbeats 400000 in
set_option maxRecDepth 100000 in
theorem c_Mod_about0 (mo : Nat) (cd : Int32) (rpx : Nat) (nb : Int32) (rca : Nat) (rpl : Nat) (rth : Nat) (rco : Nat) (rsh : Nat) (rsf : Nat) (rcr : Nat) (rep : Nat) (rby : Nat) (rli : Nat) (rls : Nat) (rla : Nat) (rcm : Nat) (rcs : Nat) (rpa : Nat) (rpm : Nat) (rpo : Nat) (rti : Nat) (rre : Nat) (rcl : Nat) (sz : Nat) (cs : Nat) (nx : Nat) (la : Nat) (Cn : Nat → Nat) (v : Nat) (hv : v < 3) (bCn : ∀ j, Cn j < 2) : CI (S := Unit) l classes NW D (TYS cI cZ cL cV) y_Mod_about (.code y_Mod_about b_Mod_about 5 (some .int) :: TB) { frames := 1, cells := 0, slots := 0, locals := 20 } [.ref mo, .int (nI v), .int (nI 0)] [(mo, .inr (9, [.int cd, .ref rpx, .int nb, .ref rca, .ref rpl, .ref rth, .ref rco, .ref rsh, .ref rsf, .ref rcr, .ref rep, .ref rby, .ref rli, .ref rls, .ref rla, .ref rcm, .ref rcs, .ref rpa, .ref rpm, .ref rpo, .ref rti, .ref rre, .ref rcl, .int (nI sz), .int (nI cs), .int (nI nx), .int (nI la)])), (rco, .inl (cZ, 3, .inl (nF Cn)))] (fun r u => r = nI (Cn v)) (fun u => [(mo, .inr (9, [.int (nI 0), .ref rpx, .int nb, .ref rca, .ref rpl, .ref rth, .ref rco, .ref rsh, .ref rsf, .ref rcr, .ref rep, .ref rby, .ref rli, .ref rls, .ref rla, .ref rcm, .ref rcs, .ref rpa, .ref rpm, .ref rpo, .ref rti, .ref rre, .ref rcl, .int (nI sz), .int (nI cs), .int (nI nx), .int (nI la)])), (rco, .inl (cZ, 3, .inl (nF Cn)))]) := by
  refine CI.of (by decide) (Nat.le_of_ble_eq_true rfl) ?_
  intro pr ev sT mM aR bW mE cO AA QQ ls Bd hG hA hP hD hS hl hret
  have Bd : bd pr cO b_Mod_about 5 sT aR TB "TileScreenModel" mM := Bd
  obtain ⟨hx, hb, hml, hown, htb⟩ := id Bd
  have hl : lv_has ls 5 [(0, .ref mo), (1, .int (nI v)), (2, .int (nI 0))] := hl
  refine lv_aload_n hx hb d_Mod_about_0 rfl (lv_at hl 0 rfl) ?_
  refine lv_iconst (v := nI 0) hx hb d_Mod_about_1 (by decide) ?_
  refine va_put (D := D) (ci := 9) (v := .int (nI 0)) (ty := .int) (C := "TileScreenModel") (T := F_Mod) (N := 27) hx hb htb i_Mod t_Mod t_Mod_ok n_Mod hown hG.1 hP hD hS 0 rfl rfl 0 (by decide) (htb _ k_635) (fun _ h9 => h9) rfl (by decide +kernel) rfl rfl (Nat.le_of_ble_eq_true rfl) d_Mod_about_2 (fun H locs hP hD hS => ?_)
  have hP : va_P D classes [(mo, .inr (9, [.int (nI 0), .ref rpx, .int nb, .ref rca, .ref rpl, .ref rth, .ref rco, .ref rsh, .ref rsf, .ref rcr, .ref rep, .ref rby, .ref rli, .ref rls, .ref rla, .ref rcm, .ref rcs, .ref rpa, .ref rpm, .ref rpo, .ref rti, .ref rre, .ref rcl, .int (nI sz), .int (nI cs), .int (nI nx), .int (nI la)])), (rco, .inl (cZ, 3, .inl (nF Cn)))] H := hP
  have hD : va_D AA [(mo, .inr (9, [.int (nI 0), .ref rpx, .int nb, .ref rca, .ref rpl, .ref rth, .ref rco, .ref rsh, .ref rsf, .ref rcr, .ref rep, .ref rby, .ref rli, .ref rls, .ref rla, .ref rcm, .ref rcs, .ref rpa, .ref rpm, .ref rpo, .ref rti, .ref rre, .ref rcl, .int (nI sz), .int (nI cs), .int (nI nx), .int (nI la)])), (rco, .inl (cZ, 3, .inl (nF Cn)))] := hD
  refine lv_iload_n hx hb d_Mod_about_5 rfl (lv_at hl 1 rfl) ?_
  refine kS_i (wc := []) (wr := [(mo, .inr (9, [.int (nI 0), .ref rpx, .int nb, .ref rca, .ref rpl, .ref rth, .ref rco, .ref rsh, .ref rsf, .ref rcr, .ref rep, .ref rby, .ref rli, .ref rls, .ref rla, .ref rcm, .ref rcs, .ref rpa, .ref rpm, .ref rpo, .ref rti, .ref rre, .ref rcl, .int (nI sz), .int (nI cs), .int (nI nx), .int (nI la)])), (rco, .inl (cZ, 3, .inl (nF Cn)))]) (w2 := fun _ => [(mo, .inr (9, [.int (nI 0), .ref rpx, .int nb, .ref rca, .ref rpl, .ref rth, .ref rco, .ref rsh, .ref rsf, .ref rcr, .ref rep, .ref rby, .ref rli, .ref rls, .ref rla, .ref rcm, .ref rcs, .ref rpa, .ref rpm, .ref rpo, .ref rti, .ref rre, .ref rcl, .int (nI sz), .int (nI cs), .int (nI nx), .int (nI la)])), (rco, .inl (cZ, 3, .inl (nF Cn)))]) [.int (nI v)] [] Bd ⟨gi_app (gi_c0 k_753 (gi_c0 k_754 (gi_c0 k_10 gi_nil))) (gi_tb0 k_755), rfl, by decide, by decide⟩ (show (parseMethodDescriptor "(I)Z").map (fun d => d.parameters.length) = some 1 by decide +kernel) (c_Mod_isViewer (nI v) ) (by decide +kernel) ⟨Nat.le_of_ble_eq_true rfl, Nat.le_of_ble_eq_true rfl⟩ hG hP hD hS hA [] [0, 1] [0, 1] (by decide) rfl rfl (fun _ => rfl) hl.1 rfl (Nat.le_of_ble_eq_true rfl) d_Mod_about_6 (fun r1 u3 H locs hp2 hP hD hS => ?_)
  have hP : va_P D classes [(mo, .inr (9, [.int (nI 0), .ref rpx, .int nb, .ref rca, .ref rpl, .ref rth, .ref rco, .ref rsh, .ref rsf, .ref rcr, .ref rep, .ref rby, .ref rli, .ref rls, .ref rla, .ref rcm, .ref rcs, .ref rpa, .ref rpm, .ref rpo, .ref rti, .ref rre, .ref rcl, .int (nI sz), .int (nI cs), .int (nI nx), .int (nI la)])), (rco, .inl (cZ, 3, .inl (nF Cn)))] H := hP
  have hD : va_D AA [(mo, .inr (9, [.int (nI 0), .ref rpx, .int nb, .ref rca, .ref rpl, .ref rth, .ref rco, .ref rsh, .ref rsf, .ref rcr, .ref rep, .ref rby, .ref rli, .ref rls, .ref rla, .ref rcm, .ref rcs, .ref rpa, .ref rpm, .ref rpo, .ref rti, .ref rre, .ref rcl, .int (nI sz), .int (nI cs), .int (nI nx), .int (nI la)])), (rco, .inl (cZ, 3, .inl (nF Cn)))] := hD
  subst hp2
  refine nv_if_ne (tgt := 14) hx hb d_Mod_about_9 (by decide) (bt_lt _) (fun c_9 => ?_) (fun c_9 => ?_)
  · refine lv_iconst (v := nI 0) hx hb d_Mod_about_14 (by decide) ?_
    refine lv_istore_n (lv' := [(3, .int (nI 0)), (0, .ref mo), (1, .int (nI v)), (2, .int (nI 0))]) hx hb d_Mod_about_15 rfl hl (by decide) rfl (fun ls hl => ?_)
    refine lv_iconst (v := nI 0) hx hb d_Mod_about_16 (by decide) ?_
    refine lv_istore (lv' := [(4, .int (nI 0)), (3, .int (nI 0)), (0, .ref mo), (1, .int (nI v)), (2, .int (nI 0))]) hx hb d_Mod_about_17 hl (by decide) rfl (fun ls hl => ?_)
    refine lv_iload hx hb d_Mod_about_19 (lv_at hl 0 rfl) ?_
    refine lv_bipush (v := nI 48) hx hb d_Mod_about_21 (by decide) ?_
    refine nv_icmp_ge (tgt := 60) hx hb d_Mod_about_23 (by decide) (by omega) (by omega) (fun h9 => absurd h9 (by decide)) (fun _ => ?_)
    refine lv_iload_n hx hb d_Mod_about_26 rfl (lv_at hl 4 rfl) ?_
    refine lv_iconst (v := nI 5) hx hb d_Mod_about_27 (by decide) ?_
    refine nv_icmp_ne (tgt := 60) hx hb d_Mod_about_28 (by decide) (by omega) (by omega) (fun _ => ?_) (fun h9 => absurd h9 (by decide))
    refine lv_iload_n hx hb d_Mod_about_60 rfl (lv_at hl 4 rfl) ?_
    refine lv_tableIn (off := 47) (tgt := 108) hx hb d_Mod_about_61 (by decide) (by decide) (by decide) (by decide) ?_
    refine lv_aload_n hx hb d_Mod_about_108 rfl (lv_at hl 2 rfl) ?_
    refine va_get (D := D) (ci := 9) (v := .ref rco) (C := "TileScreenModel") (T := F_Mod) (N := 27) hx hb htb i_Mod hown hG.1 hP 0 rfl rfl 6 (by decide) (htb _ k_641) (fun _ h9 => h9) rfl d_Mod_about_109 ?_
    refine lv_iload_n hx hb d_Mod_about_112 rfl (lv_at hl 3 rfl) ?_
    refine nv_zald hx hb hG.1 hP 1 1 rfl rfl (by omega) (by omega) d_Mod_about_113 ?_
    refine nv_if_eq (tgt := 121) hx hb d_Mod_about_114 (by decide) (lt2 (bCn _)) (fun c_114 => ?_) (fun c_114 => ?_)
    · refine lv_iconst (v := nI 0) hx hb d_Mod_about_121 (by decide) ?_
      exact hret _ () _ _ _ _ d_Mod_about_122 rfl (by rw [show Cn v = 0 by have := bCn v; omega]) hP hD hS
    · refine lv_iconst (v := nI 1) hx hb d_Mod_about_117 (by decide) ?_
      refine lv_goto (tgt := 122) hx hb d_Mod_about_118 (by decide) ?_
      exact hret _ () _ _ _ _ d_Mod_about_122 rfl (by rw [show Cn v = 1 by have := bCn v; omega]) hP hD hS
  · exact absurd (vwP_i hv) (cB_0 c_9)
set_option maxHeartbeats 400000 in
set_option maxRecDepth 100000 in
theorem c_Mod_about1 (mo : Nat) (cd : Int32) (rpx : Nat) (nb : Int32) (rca : Nat) (rpl : Nat) (rth : Nat) (rco : Nat) (rsh : Nat) (rsf : Nat) (rcr : Nat) (rep : Nat) (rby : Nat) (rli : Nat) (rls : Nat) (rla : Nat) (rcm : Nat) (rcs : Nat) (rpa : Nat) (rpm : Nat) (rpo : Nat) (rti : Nat) (rre : Nat) (rcl : Nat) (sz : Nat) (cs : Nat) (nx : Nat) (la : Nat) (Cr : Nat → Nat) (v : Nat) (hv : v < 3) : CI (S := Unit) l classes NW D (TYS cI cZ cL cV) y_Mod_about (.code y_Mod_about b_Mod_about 5 (some .int) :: TB) { frames := 1, cells := 0, slots := 0, locals := 20 } [.ref mo, .int (nI v), .int (nI 1)] [(mo, .inr (9, [.int cd, .ref rpx, .int nb, .ref rca, .ref rpl, .ref rth, .ref rco, .ref rsh, .ref rsf, .ref rcr, .ref rep, .ref rby, .ref rli, .ref rls, .ref rla, .ref rcm, .ref rcs, .ref rpa, .ref rpm, .ref rpo, .ref rti, .ref rre, .ref rcl, .int (nI sz), .int (nI cs), .int (nI nx), .int (nI la)])), (rcr, .inl (cI, 3, .inl (nF Cr)))] (fun r u => r = nI (Cr v)) (fun u => [(mo, .inr (9, [.int (nI 0), .ref rpx, .int nb, .ref rca, .ref rpl, .ref rth, .ref rco, .ref rsh, .ref rsf, .ref rcr, .ref rep, .ref rby, .ref rli, .ref rls, .ref rla, .ref rcm, .ref rcs, .ref rpa, .ref rpm, .ref rpo, .ref rti, .ref rre, .ref rcl, .int (nI sz), .int (nI cs), .int (nI nx), .int (nI la)])), (rcr, .inl (cI, 3, .inl (nF Cr)))]) := by
  refine CI.of (by decide) (Nat.le_of_ble_eq_true rfl) ?_
  intro pr ev sT mM aR bW mE cO AA QQ ls Bd hG hA hP hD hS hl hret
  have Bd : bd pr cO b_Mod_about 5 sT aR TB "TileScreenModel" mM := Bd
  obtain ⟨hx, hb, hml, hown, htb⟩ := id Bd
  have hl : lv_has ls 5 [(0, .ref mo), (1, .int (nI v)), (2, .int (nI 1))] := hl
  refine lv_aload_n hx hb d_Mod_about_0 rfl (lv_at hl 0 rfl) ?_
  refine lv_iconst (v := nI 0) hx hb d_Mod_about_1 (by decide) ?_
  refine va_put (D := D) (ci := 9) (v := .int (nI 0)) (ty := .int) (C := "TileScreenModel") (T := F_Mod) (N := 27) hx hb htb i_Mod t_Mod t_Mod_ok n_Mod hown hG.1 hP hD hS 0 rfl rfl 0 (by decide) (htb _ k_635) (fun _ h9 => h9) rfl (by decide +kernel) rfl rfl (Nat.le_of_ble_eq_true rfl) d_Mod_about_2 (fun H locs hP hD hS => ?_)
  have hP : va_P D classes [(mo, .inr (9, [.int (nI 0), .ref rpx, .int nb, .ref rca, .ref rpl, .ref rth, .ref rco, .ref rsh, .ref rsf, .ref rcr, .ref rep, .ref rby, .ref rli, .ref rls, .ref rla, .ref rcm, .ref rcs, .ref rpa, .ref rpm, .ref rpo, .ref rti, .ref rre, .ref rcl, .int (nI sz), .int (nI cs), .int (nI nx), .int (nI la)])), (rcr, .inl (cI, 3, .inl (nF Cr)))] H := hP
  have hD : va_D AA [(mo, .inr (9, [.int (nI 0), .ref rpx, .int nb, .ref rca, .ref rpl, .ref rth, .ref rco, .ref rsh, .ref rsf, .ref rcr, .ref rep, .ref rby, .ref rli, .ref rls, .ref rla, .ref rcm, .ref rcs, .ref rpa, .ref rpm, .ref rpo, .ref rti, .ref rre, .ref rcl, .int (nI sz), .int (nI cs), .int (nI nx), .int (nI la)])), (rcr, .inl (cI, 3, .inl (nF Cr)))] := hD
  refine lv_iload_n hx hb d_Mod_about_5 rfl (lv_at hl 1 rfl) ?_
  refine kS_i (wc := []) (wr := [(mo, .inr (9, [.int (nI 0), .ref rpx, .int nb, .ref rca, .ref rpl, .ref rth, .ref rco, .ref rsh, .ref rsf, .ref rcr, .ref rep, .ref rby, .ref rli, .ref rls, .ref rla, .ref rcm, .ref rcs, .ref rpa, .ref rpm, .ref rpo, .ref rti, .ref rre, .ref rcl, .int (nI sz), .int (nI cs), .int (nI nx), .int (nI la)])), (rcr, .inl (cI, 3, .inl (nF Cr)))]) (w2 := fun _ => [(mo, .inr (9, [.int (nI 0), .ref rpx, .int nb, .ref rca, .ref rpl, .ref rth, .ref rco, .ref rsh, .ref rsf, .ref rcr, .ref rep, .ref rby, .ref rli, .ref rls, .ref rla, .ref rcm, .ref rcs, .ref rpa, .ref rpm, .ref rpo, .ref rti, .ref rre, .ref rcl, .int (nI sz), .int (nI cs), .int (nI nx), .int (nI la)])), (rcr, .inl (cI, 3, .inl (nF Cr)))]) [.int (nI v)] [] Bd ⟨gi_app (gi_c0 k_753 (gi_c0 k_754 (gi_c0 k_10 gi_nil))) (gi_tb0 k_755), rfl, by decide, by decide⟩ (show (parseMethodDescriptor "(I)Z").map (fun d => d.parameters.length) = some 1 by decide +kernel) (c_Mod_isViewer (nI v) ) (by decide +kernel) ⟨Nat.le_of_ble_eq_true rfl, Nat.le_of_ble_eq_true rfl⟩ hG hP hD hS hA [] [0, 1] [0, 1] (by decide) rfl rfl (fun _ => rfl) hl.1 rfl (Nat.le_of_ble_eq_true rfl) d_Mod_about_6 (fun r1 u3 H locs hp2 hP hD hS => ?_)
  have hP : va_P D classes [(mo, .inr (9, [.int (nI 0), .ref rpx, .int nb, .ref rca, .ref rpl, .ref rth, .ref rco, .ref rsh, .ref rsf, .ref rcr, .ref rep, .ref rby, .ref rli, .ref rls, .ref rla, .ref rcm, .ref rcs, .ref rpa, .ref rpm, .ref rpo, .ref rti, .ref rre, .ref rcl, .int (nI sz), .int (nI cs), .int (nI nx), .int (nI la)])), (rcr, .inl (cI, 3, .inl (nF Cr)))] H := hP
  have hD : va_D AA [(mo, .inr (9, [.int (nI 0), .ref rpx, .int nb, .ref rca, .ref rpl, .ref rth, .ref rco, .ref rsh, .ref rsf, .ref rcr, .ref rep, .ref rby, .ref rli, .ref rls, .ref rla, .ref rcm, .ref rcs, .ref rpa, .ref rpm, .ref rpo, .ref rti, .ref rre, .ref rcl, .int (nI sz), .int (nI cs), .int (nI nx), .int (nI la)])), (rcr, .inl (cI, 3, .inl (nF Cr)))] := hD
  subst hp2
  refine nv_if_ne (tgt := 14) hx hb d_Mod_about_9 (by decide) (bt_lt _) (fun c_9 => ?_) (fun c_9 => ?_)
  · refine lv_iconst (v := nI 0) hx hb d_Mod_about_14 (by decide) ?_
    refine lv_istore_n (lv' := [(3, .int (nI 0)), (0, .ref mo), (1, .int (nI v)), (2, .int (nI 1))]) hx hb d_Mod_about_15 rfl hl (by decide) rfl (fun ls hl => ?_)
    refine lv_iconst (v := nI 0) hx hb d_Mod_about_16 (by decide) ?_
    refine lv_istore (lv' := [(4, .int (nI 0)), (3, .int (nI 0)), (0, .ref mo), (1, .int (nI v)), (2, .int (nI 1))]) hx hb d_Mod_about_17 hl (by decide) rfl (fun ls hl => ?_)
    refine lv_iload hx hb d_Mod_about_19 (lv_at hl 0 rfl) ?_
    refine lv_bipush (v := nI 48) hx hb d_Mod_about_21 (by decide) ?_
    refine nv_icmp_ge (tgt := 60) hx hb d_Mod_about_23 (by decide) (by omega) (by omega) (fun h9 => absurd h9 (by decide)) (fun _ => ?_)
    refine lv_iload_n hx hb d_Mod_about_26 rfl (lv_at hl 4 rfl) ?_
    refine lv_iconst (v := nI 5) hx hb d_Mod_about_27 (by decide) ?_
    refine nv_icmp_ne (tgt := 60) hx hb d_Mod_about_28 (by decide) (by omega) (by omega) (fun _ => ?_) (fun h9 => absurd h9 (by decide))
    refine lv_iload_n hx hb d_Mod_about_60 rfl (lv_at hl 4 rfl) ?_
    refine lv_tableIn (off := 62) (tgt := 123) hx hb d_Mod_about_61 (by decide) (by decide) (by decide) (by decide) ?_
    refine lv_aload_n hx hb d_Mod_about_123 rfl (lv_at hl 2 rfl) ?_
    refine va_get (D := D) (ci := 9) (v := .ref rcr) (C := "TileScreenModel") (T := F_Mod) (N := 27) hx hb htb i_Mod hown hG.1 hP 0 rfl rfl 9 (by decide) (htb _ k_644) (fun _ h9 => h9) rfl d_Mod_about_124 ?_
    refine lv_iload_n hx hb d_Mod_about_127 rfl (lv_at hl 3 rfl) ?_
    refine nv_iald hx hb hG.1 hP 1 0 rfl rfl (by omega) (by omega) d_Mod_about_128 ?_
    exact hret _ () _ _ _ _ d_Mod_about_129 rfl (rfl) hP hD hS
  · exact absurd (vwP_i hv) (cB_0 c_9)
set_option maxHeartbeats 400000 in
set_option maxRecDepth 100000 in
theorem c_Mod_about2 (mo : Nat) (cd : Int32) (rpx : Nat) (nb : Int32) (rca : Nat) (rpl : Nat) (rth : Nat) (rco : Nat) (rsh : Nat) (rsf : Nat) (rcr : Nat) (rep : Nat) (rby : Nat) (rli : Nat) (rls : Nat) (rla : Nat) (rcm : Nat) (rcs : Nat) (rpa : Nat) (rpm : Nat) (rpo : Nat) (rti : Nat) (rre : Nat) (rcl : Nat) (sz : Nat) (cs : Nat) (nx : Nat) (la : Nat) (Ls : Nat → Nat) (La : Nat → Nat) (v : Nat) (hv : v < 3) (hla : La v ≤ Ls v) : CI (S := Unit) l classes NW D (TYS cI cZ cL cV) y_Mod_about (.code y_Mod_about b_Mod_about 5 (some .int) :: TB) { frames := 1, cells := 0, slots := 0, locals := 20 } [.ref mo, .int (nI v), .int (nI 2)] [(mo, .inr (9, [.int cd, .ref rpx, .int nb, .ref rca, .ref rpl, .ref rth, .ref rco, .ref rsh, .ref rsf, .ref rcr, .ref rep, .ref rby, .ref rli, .ref rls, .ref rla, .ref rcm, .ref rcs, .ref rpa, .ref rpm, .ref rpo, .ref rti, .ref rre, .ref rcl, .int (nI sz), .int (nI cs), .int (nI nx), .int (nI la)])), (rls, .inl (cI, 3, .inl (nF Ls))), (rla, .inl (cI, 3, .inl (nF La)))] (fun r u => r = nI (Ls v - La v)) (fun u => [(mo, .inr (9, [.int (nI 0), .ref rpx, .int nb, .ref rca, .ref rpl, .ref rth, .ref rco, .ref rsh, .ref rsf, .ref rcr, .ref rep, .ref rby, .ref rli, .ref rls, .ref rla, .ref rcm, .ref rcs, .ref rpa, .ref rpm, .ref rpo, .ref rti, .ref rre, .ref rcl, .int (nI sz), .int (nI cs), .int (nI nx), .int (nI la)])), (rls, .inl (cI, 3, .inl (nF Ls))), (rla, .inl (cI, 3, .inl (nF La)))]) := by
  refine CI.of (by decide) (Nat.le_of_ble_eq_true rfl) ?_
  intro pr ev sT mM aR bW mE cO AA QQ ls Bd hG hA hP hD hS hl hret
  have Bd : bd pr cO b_Mod_about 5 sT aR TB "TileScreenModel" mM := Bd
  obtain ⟨hx, hb, hml, hown, htb⟩ := id Bd
  have hl : lv_has ls 5 [(0, .ref mo), (1, .int (nI v)), (2, .int (nI 2))] := hl
  refine lv_aload_n hx hb d_Mod_about_0 rfl (lv_at hl 0 rfl) ?_
  refine lv_iconst (v := nI 0) hx hb d_Mod_about_1 (by decide) ?_
  refine va_put (D := D) (ci := 9) (v := .int (nI 0)) (ty := .int) (C := "TileScreenModel") (T := F_Mod) (N := 27) hx hb htb i_Mod t_Mod t_Mod_ok n_Mod hown hG.1 hP hD hS 0 rfl rfl 0 (by decide) (htb _ k_635) (fun _ h9 => h9) rfl (by decide +kernel) rfl rfl (Nat.le_of_ble_eq_true rfl) d_Mod_about_2 (fun H locs hP hD hS => ?_)
  have hP : va_P D classes [(mo, .inr (9, [.int (nI 0), .ref rpx, .int nb, .ref rca, .ref rpl, .ref rth, .ref rco, .ref rsh, .ref rsf, .ref rcr, .ref rep, .ref rby, .ref rli, .ref rls, .ref rla, .ref rcm, .ref rcs, .ref rpa, .ref rpm, .ref rpo, .ref rti, .ref rre, .ref rcl, .int (nI sz), .int (nI cs), .int (nI nx), .int (nI la)])), (rls, .inl (cI, 3, .inl (nF Ls))), (rla, .inl (cI, 3, .inl (nF La)))] H := hP
  have hD : va_D AA [(mo, .inr (9, [.int (nI 0), .ref rpx, .int nb, .ref rca, .ref rpl, .ref rth, .ref rco, .ref rsh, .ref rsf, .ref rcr, .ref rep, .ref rby, .ref rli, .ref rls, .ref rla, .ref rcm, .ref rcs, .ref rpa, .ref rpm, .ref rpo, .ref rti, .ref rre, .ref rcl, .int (nI sz), .int (nI cs), .int (nI nx), .int (nI la)])), (rls, .inl (cI, 3, .inl (nF Ls))), (rla, .inl (cI, 3, .inl (nF La)))] := hD
  refine lv_iload_n hx hb d_Mod_about_5 rfl (lv_at hl 1 rfl) ?_
  refine kS_i (wc := []) (wr := [(mo, .inr (9, [.int (nI 0), .ref rpx, .int nb, .ref rca, .ref rpl, .ref rth, .ref rco, .ref rsh, .ref rsf, .ref rcr, .ref rep, .ref rby, .ref rli, .ref rls, .ref rla, .ref rcm, .ref rcs, .ref rpa, .ref rpm, .ref rpo, .ref rti, .ref rre, .ref rcl, .int (nI sz), .int (nI cs), .int (nI nx), .int (nI la)])), (rls, .inl (cI, 3, .inl (nF Ls))), (rla, .inl (cI, 3, .inl (nF La)))]) (w2 := fun _ => [(mo, .inr (9, [.int (nI 0), .ref rpx, .int nb, .ref rca, .ref rpl, .ref rth, .ref rco, .ref rsh, .ref rsf, .ref rcr, .ref rep, .ref rby, .ref rli, .ref rls, .ref rla, .ref rcm, .ref rcs, .ref rpa, .ref rpm, .ref rpo, .ref rti, .ref rre, .ref rcl, .int (nI sz), .int (nI cs), .int (nI nx), .int (nI la)])), (rls, .inl (cI, 3, .inl (nF Ls))), (rla, .inl (cI, 3, .inl (nF La)))]) [.int (nI v)] [] Bd ⟨gi_app (gi_c0 k_753 (gi_c0 k_754 (gi_c0 k_10 gi_nil))) (gi_tb0 k_755), rfl, by decide, by decide⟩ (show (parseMethodDescriptor "(I)Z").map (fun d => d.parameters.length) = some 1 by decide +kernel) (c_Mod_isViewer (nI v) ) (by decide +kernel) ⟨Nat.le_of_ble_eq_true rfl, Nat.le_of_ble_eq_true rfl⟩ hG hP hD hS hA [] [0, 1, 2] [0, 1, 2] (by decide) rfl rfl (fun _ => rfl) hl.1 rfl (Nat.le_of_ble_eq_true rfl) d_Mod_about_6 (fun r1 u3 H locs hp2 hP hD hS => ?_)
  have hP : va_P D classes [(mo, .inr (9, [.int (nI 0), .ref rpx, .int nb, .ref rca, .ref rpl, .ref rth, .ref rco, .ref rsh, .ref rsf, .ref rcr, .ref rep, .ref rby, .ref rli, .ref rls, .ref rla, .ref rcm, .ref rcs, .ref rpa, .ref rpm, .ref rpo, .ref rti, .ref rre, .ref rcl, .int (nI sz), .int (nI cs), .int (nI nx), .int (nI la)])), (rls, .inl (cI, 3, .inl (nF Ls))), (rla, .inl (cI, 3, .inl (nF La)))] H := hP
  have hD : va_D AA [(mo, .inr (9, [.int (nI 0), .ref rpx, .int nb, .ref rca, .ref rpl, .ref rth, .ref rco, .ref rsh, .ref rsf, .ref rcr, .ref rep, .ref rby, .ref rli, .ref rls, .ref rla, .ref rcm, .ref rcs, .ref rpa, .ref rpm, .ref rpo, .ref rti, .ref rre, .ref rcl, .int (nI sz), .int (nI cs), .int (nI nx), .int (nI la)])), (rls, .inl (cI, 3, .inl (nF Ls))), (rla, .inl (cI, 3, .inl (nF La)))] := hD
  subst hp2
  refine nv_if_ne (tgt := 14) hx hb d_Mod_about_9 (by decide) (bt_lt _) (fun c_9 => ?_) (fun c_9 => ?_)
  · refine lv_iconst (v := nI 0) hx hb d_Mod_about_14 (by decide) ?_
    refine lv_istore_n (lv' := [(3, .int (nI 0)), (0, .ref mo), (1, .int (nI v)), (2, .int (nI 2))]) hx hb d_Mod_about_15 rfl hl (by decide) rfl (fun ls hl => ?_)
    refine lv_iconst (v := nI 0) hx hb d_Mod_about_16 (by decide) ?_
    refine lv_istore (lv' := [(4, .int (nI 0)), (3, .int (nI 0)), (0, .ref mo), (1, .int (nI v)), (2, .int (nI 2))]) hx hb d_Mod_about_17 hl (by decide) rfl (fun ls hl => ?_)
    refine lv_iload hx hb d_Mod_about_19 (lv_at hl 0 rfl) ?_
    refine lv_bipush (v := nI 48) hx hb d_Mod_about_21 (by decide) ?_
    refine nv_icmp_ge (tgt := 60) hx hb d_Mod_about_23 (by decide) (by omega) (by omega) (fun h9 => absurd h9 (by decide)) (fun _ => ?_)
    refine lv_iload_n hx hb d_Mod_about_26 rfl (lv_at hl 4 rfl) ?_
    refine lv_iconst (v := nI 5) hx hb d_Mod_about_27 (by decide) ?_
    refine nv_icmp_ne (tgt := 60) hx hb d_Mod_about_28 (by decide) (by omega) (by omega) (fun _ => ?_) (fun h9 => absurd h9 (by decide))
    refine lv_iload_n hx hb d_Mod_about_60 rfl (lv_at hl 4 rfl) ?_
    refine lv_tableIn (off := 69) (tgt := 130) hx hb d_Mod_about_61 (by decide) (by decide) (by decide) (by decide) ?_
    refine lv_aload_n hx hb d_Mod_about_130 rfl (lv_at hl 2 rfl) ?_
    refine va_get (D := D) (ci := 9) (v := .ref rls) (C := "TileScreenModel") (T := F_Mod) (N := 27) hx hb htb i_Mod hown hG.1 hP 0 rfl rfl 13 (by decide) (htb _ k_648) (fun _ h9 => h9) rfl d_Mod_about_131 ?_
    refine lv_iload_n hx hb d_Mod_about_134 rfl (lv_at hl 3 rfl) ?_
    refine nv_iald hx hb hG.1 hP 1 0 rfl rfl (by omega) (by omega) d_Mod_about_135 ?_
    refine lv_aload_n hx hb d_Mod_about_136 rfl (lv_at hl 2 rfl) ?_
    refine va_get (D := D) (ci := 9) (v := .ref rla) (C := "TileScreenModel") (T := F_Mod) (N := 27) hx hb htb i_Mod hown hG.1 hP 0 rfl rfl 14 (by decide) (htb _ k_649) (fun _ h9 => h9) rfl d_Mod_about_137 ?_
    refine lv_iload_n hx hb d_Mod_about_140 rfl (lv_at hl 3 rfl) ?_
    refine nv_iald hx hb hG.1 hP 2 0 rfl rfl (by omega) (by omega) d_Mod_about_141 ?_
    refine nv_isub hx hb (hla) d_Mod_about_142 ?_
    exact hret _ () _ _ _ _ d_Mod_about_143 rfl (rfl) hP hD hS
  · exact absurd (vwP_i hv) (cB_0 c_9)
set_option maxHeartbeats 400000 in
set_option maxRecDepth 100000 in
theorem c_Mod_about3 (mo : Nat) (cd : Int32) (rpx : Nat) (nb : Int32) (rca : Nat) (rpl : Nat) (rth : Nat) (rco : Nat) (rsh : Nat) (rsf : Nat) (rcr : Nat) (rep : Nat) (rby : Nat) (rli : Nat) (rls : Nat) (rla : Nat) (rcm : Nat) (rcs : Nat) (rpa : Nat) (rpm : Nat) (rpo : Nat) (rti : Nat) (rre : Nat) (rcl : Nat) (sz : Nat) (cs : Nat) (nx : Nat) (la : Nat) (Cz : Nat → Nat) (v : Nat) (hv : v < 3) : CI (S := Unit) l classes NW D (TYS cI cZ cL cV) y_Mod_about (.code y_Mod_about b_Mod_about 5 (some .int) :: TB) { frames := 1, cells := 0, slots := 0, locals := 20 } [.ref mo, .int (nI v), .int (nI 3)] [(mo, .inr (9, [.int cd, .ref rpx, .int nb, .ref rca, .ref rpl, .ref rth, .ref rco, .ref rsh, .ref rsf, .ref rcr, .ref rep, .ref rby, .ref rli, .ref rls, .ref rla, .ref rcm, .ref rcs, .ref rpa, .ref rpm, .ref rpo, .ref rti, .ref rre, .ref rcl, .int (nI sz), .int (nI cs), .int (nI nx), .int (nI la)])), (rcs, .inl (cI, 3, .inl (nF Cz)))] (fun r u => r = nI (Cz v)) (fun u => [(mo, .inr (9, [.int (nI 0), .ref rpx, .int nb, .ref rca, .ref rpl, .ref rth, .ref rco, .ref rsh, .ref rsf, .ref rcr, .ref rep, .ref rby, .ref rli, .ref rls, .ref rla, .ref rcm, .ref rcs, .ref rpa, .ref rpm, .ref rpo, .ref rti, .ref rre, .ref rcl, .int (nI sz), .int (nI cs), .int (nI nx), .int (nI la)])), (rcs, .inl (cI, 3, .inl (nF Cz)))]) := by
  refine CI.of (by decide) (Nat.le_of_ble_eq_true rfl) ?_
  intro pr ev sT mM aR bW mE cO AA QQ ls Bd hG hA hP hD hS hl hret
  have Bd : bd pr cO b_Mod_about 5 sT aR TB "TileScreenModel" mM := Bd
  obtain ⟨hx, hb, hml, hown, htb⟩ := id Bd
  have hl : lv_has ls 5 [(0, .ref mo), (1, .int (nI v)), (2, .int (nI 3))] := hl
  refine lv_aload_n hx hb d_Mod_about_0 rfl (lv_at hl 0 rfl) ?_
  refine lv_iconst (v := nI 0) hx hb d_Mod_about_1 (by decide) ?_
  refine va_put (D := D) (ci := 9) (v := .int (nI 0)) (ty := .int) (C := "TileScreenModel") (T := F_Mod) (N := 27) hx hb htb i_Mod t_Mod t_Mod_ok n_Mod hown hG.1 hP hD hS 0 rfl rfl 0 (by decide) (htb _ k_635) (fun _ h9 => h9) rfl (by decide +kernel) rfl rfl (Nat.le_of_ble_eq_true rfl) d_Mod_about_2 (fun H locs hP hD hS => ?_)
  have hP : va_P D classes [(mo, .inr (9, [.int (nI 0), .ref rpx, .int nb, .ref rca, .ref rpl, .ref rth, .ref rco, .ref rsh, .ref rsf, .ref rcr, .ref rep, .ref rby, .ref rli, .ref rls, .ref rla, .ref rcm, .ref rcs, .ref rpa, .ref rpm, .ref rpo, .ref rti, .ref rre, .ref rcl, .int (nI sz), .int (nI cs), .int (nI nx), .int (nI la)])), (rcs, .inl (cI, 3, .inl (nF Cz)))] H := hP
  have hD : va_D AA [(mo, .inr (9, [.int (nI 0), .ref rpx, .int nb, .ref rca, .ref rpl, .ref rth, .ref rco, .ref rsh, .ref rsf, .ref rcr, .ref rep, .ref rby, .ref rli, .ref rls, .ref rla, .ref rcm, .ref rcs, .ref rpa, .ref rpm, .ref rpo, .ref rti, .ref rre, .ref rcl, .int (nI sz), .int (nI cs), .int (nI nx), .int (nI la)])), (rcs, .inl (cI, 3, .inl (nF Cz)))] := hD
  refine lv_iload_n hx hb d_Mod_about_5 rfl (lv_at hl 1 rfl) ?_
  refine kS_i (wc := []) (wr := [(mo, .inr (9, [.int (nI 0), .ref rpx, .int nb, .ref rca, .ref rpl, .ref rth, .ref rco, .ref rsh, .ref rsf, .ref rcr, .ref rep, .ref rby, .ref rli, .ref rls, .ref rla, .ref rcm, .ref rcs, .ref rpa, .ref rpm, .ref rpo, .ref rti, .ref rre, .ref rcl, .int (nI sz), .int (nI cs), .int (nI nx), .int (nI la)])), (rcs, .inl (cI, 3, .inl (nF Cz)))]) (w2 := fun _ => [(mo, .inr (9, [.int (nI 0), .ref rpx, .int nb, .ref rca, .ref rpl, .ref rth, .ref rco, .ref rsh, .ref rsf, .ref rcr, .ref rep, .ref rby, .ref rli, .ref rls, .ref rla, .ref rcm, .ref rcs, .ref rpa, .ref rpm, .ref rpo, .ref rti, .ref rre, .ref rcl, .int (nI sz), .int (nI cs), .int (nI nx), .int (nI la)])), (rcs, .inl (cI, 3, .inl (nF Cz)))]) [.int (nI v)] [] Bd ⟨gi_app (gi_c0 k_753 (gi_c0 k_754 (gi_c0 k_10 gi_nil))) (gi_tb0 k_755), rfl, by decide, by decide⟩ (show (parseMethodDescriptor "(I)Z").map (fun d => d.parameters.length) = some 1 by decide +kernel) (c_Mod_isViewer (nI v) ) (by decide +kernel) ⟨Nat.le_of_ble_eq_true rfl, Nat.le_of_ble_eq_true rfl⟩ hG hP hD hS hA [] [0, 1] [0, 1] (by decide) rfl rfl (fun _ => rfl) hl.1 rfl (Nat.le_of_ble_eq_true rfl) d_Mod_about_6 (fun r1 u3 H locs hp2 hP hD hS => ?_)
  have hP : va_P D classes [(mo, .inr (9, [.int (nI 0), .ref rpx, .int nb, .ref rca, .ref rpl, .ref rth, .ref rco, .ref rsh, .ref rsf, .ref rcr, .ref rep, .ref rby, .ref rli, .ref rls, .ref rla, .ref rcm, .ref rcs, .ref rpa, .ref rpm, .ref rpo, .ref rti, .ref rre, .ref rcl, .int (nI sz), .int (nI cs), .int (nI nx), .int (nI la)])), (rcs, .inl (cI, 3, .inl (nF Cz)))] H := hP
  have hD : va_D AA [(mo, .inr (9, [.int (nI 0), .ref rpx, .int nb, .ref rca, .ref rpl, .ref rth, .ref rco, .ref rsh, .ref rsf, .ref rcr, .ref rep, .ref rby, .ref rli, .ref rls, .ref rla, .ref rcm, .ref rcs, .ref rpa, .ref rpm, .ref rpo, .ref rti, .ref rre, .ref rcl, .int (nI sz), .int (nI cs), .int (nI nx), .int (nI la)])), (rcs, .inl (cI, 3, .inl (nF Cz)))] := hD
  subst hp2
  refine nv_if_ne (tgt := 14) hx hb d_Mod_about_9 (by decide) (bt_lt _) (fun c_9 => ?_) (fun c_9 => ?_)
  · refine lv_iconst (v := nI 0) hx hb d_Mod_about_14 (by decide) ?_
    refine lv_istore_n (lv' := [(3, .int (nI 0)), (0, .ref mo), (1, .int (nI v)), (2, .int (nI 3))]) hx hb d_Mod_about_15 rfl hl (by decide) rfl (fun ls hl => ?_)
    refine lv_iconst (v := nI 0) hx hb d_Mod_about_16 (by decide) ?_
    refine lv_istore (lv' := [(4, .int (nI 0)), (3, .int (nI 0)), (0, .ref mo), (1, .int (nI v)), (2, .int (nI 3))]) hx hb d_Mod_about_17 hl (by decide) rfl (fun ls hl => ?_)
    refine lv_iload hx hb d_Mod_about_19 (lv_at hl 0 rfl) ?_
    refine lv_bipush (v := nI 48) hx hb d_Mod_about_21 (by decide) ?_
    refine nv_icmp_ge (tgt := 60) hx hb d_Mod_about_23 (by decide) (by omega) (by omega) (fun h9 => absurd h9 (by decide)) (fun _ => ?_)
    refine lv_iload_n hx hb d_Mod_about_26 rfl (lv_at hl 4 rfl) ?_
    refine lv_iconst (v := nI 5) hx hb d_Mod_about_27 (by decide) ?_
    refine nv_icmp_ne (tgt := 60) hx hb d_Mod_about_28 (by decide) (by omega) (by omega) (fun _ => ?_) (fun h9 => absurd h9 (by decide))
    refine lv_iload_n hx hb d_Mod_about_60 rfl (lv_at hl 4 rfl) ?_
    refine lv_tableIn (off := 83) (tgt := 144) hx hb d_Mod_about_61 (by decide) (by decide) (by decide) (by decide) ?_
    refine lv_aload_n hx hb d_Mod_about_144 rfl (lv_at hl 2 rfl) ?_
    refine va_get (D := D) (ci := 9) (v := .ref rcs) (C := "TileScreenModel") (T := F_Mod) (N := 27) hx hb htb i_Mod hown hG.1 hP 0 rfl rfl 16 (by decide) (htb _ k_651) (fun _ h9 => h9) rfl d_Mod_about_145 ?_
    refine lv_iload_n hx hb d_Mod_about_148 rfl (lv_at hl 3 rfl) ?_
    refine nv_iald hx hb hG.1 hP 1 0 rfl rfl (by omega) (by omega) d_Mod_about_149 ?_
    exact hret _ () _ _ _ _ d_Mod_about_150 rfl (rfl) hP hD hS
  · exact absurd (vwP_i hv) (cB_0 c_9)
set_option maxHeartbeats 400000 in
set_option maxRecDepth 100000 in
theorem c_Mod_about4 (mo : Nat) (cd : Int32) (rpx : Nat) (nb : Int32) (rca : Nat) (rpl : Nat) (rth : Nat) (rco : Nat) (rsh : Nat) (rsf : Nat) (rcr : Nat) (rep : Nat) (rby : Nat) (rli : Nat) (rls : Nat) (rla : Nat) (rcm : Nat) (rcs : Nat) (rpa : Nat) (rpm : Nat) (rpo : Nat) (rti : Nat) (rre : Nat) (rcl : Nat) (sz : Nat) (cs : Nat) (nx : Nat) (la : Nat) (Ep : Nat → Int32) (v : Nat) (hv : v < 3) : CI (S := Unit) l classes NW D (TYS cI cZ cL cV) y_Mod_about (.code y_Mod_about b_Mod_about 5 (some .int) :: TB) { frames := 1, cells := 0, slots := 0, locals := 20 } [.ref mo, .int (nI v), .int (nI 4)] [(mo, .inr (9, [.int cd, .ref rpx, .int nb, .ref rca, .ref rpl, .ref rth, .ref rco, .ref rsh, .ref rsf, .ref rcr, .ref rep, .ref rby, .ref rli, .ref rls, .ref rla, .ref rcm, .ref rcs, .ref rpa, .ref rpm, .ref rpo, .ref rti, .ref rre, .ref rcl, .int (nI sz), .int (nI cs), .int (nI nx), .int (nI la)])), (rep, .inl (cI, 3, .inl Ep))] (fun r u => r = Ep v) (fun u => [(mo, .inr (9, [.int (nI 0), .ref rpx, .int nb, .ref rca, .ref rpl, .ref rth, .ref rco, .ref rsh, .ref rsf, .ref rcr, .ref rep, .ref rby, .ref rli, .ref rls, .ref rla, .ref rcm, .ref rcs, .ref rpa, .ref rpm, .ref rpo, .ref rti, .ref rre, .ref rcl, .int (nI sz), .int (nI cs), .int (nI nx), .int (nI la)])), (rep, .inl (cI, 3, .inl Ep))]) := by
  refine CI.of (by decide) (Nat.le_of_ble_eq_true rfl) ?_
  intro pr ev sT mM aR bW mE cO AA QQ ls Bd hG hA hP hD hS hl hret
  have Bd : bd pr cO b_Mod_about 5 sT aR TB "TileScreenModel" mM := Bd
  obtain ⟨hx, hb, hml, hown, htb⟩ := id Bd
  have hl : lv_has ls 5 [(0, .ref mo), (1, .int (nI v)), (2, .int (nI 4))] := hl
  refine lv_aload_n hx hb d_Mod_about_0 rfl (lv_at hl 0 rfl) ?_
  refine lv_iconst (v := nI 0) hx hb d_Mod_about_1 (by decide) ?_
  refine va_put (D := D) (ci := 9) (v := .int (nI 0)) (ty := .int) (C := "TileScreenModel") (T := F_Mod) (N := 27) hx hb htb i_Mod t_Mod t_Mod_ok n_Mod hown hG.1 hP hD hS 0 rfl rfl 0 (by decide) (htb _ k_635) (fun _ h9 => h9) rfl (by decide +kernel) rfl rfl (Nat.le_of_ble_eq_true rfl) d_Mod_about_2 (fun H locs hP hD hS => ?_)
  have hP : va_P D classes [(mo, .inr (9, [.int (nI 0), .ref rpx, .int nb, .ref rca, .ref rpl, .ref rth, .ref rco, .ref rsh, .ref rsf, .ref rcr, .ref rep, .ref rby, .ref rli, .ref rls, .ref rla, .ref rcm, .ref rcs, .ref rpa, .ref rpm, .ref rpo, .ref rti, .ref rre, .ref rcl, .int (nI sz), .int (nI cs), .int (nI nx), .int (nI la)])), (rep, .inl (cI, 3, .inl Ep))] H := hP
  have hD : va_D AA [(mo, .inr (9, [.int (nI 0), .ref rpx, .int nb, .ref rca, .ref rpl, .ref rth, .ref rco, .ref rsh, .ref rsf, .ref rcr, .ref rep, .ref rby, .ref rli, .ref rls, .ref rla, .ref rcm, .ref rcs, .ref rpa, .ref rpm, .ref rpo, .ref rti, .ref rre, .ref rcl, .int (nI sz), .int (nI cs), .int (nI nx), .int (nI la)])), (rep, .inl (cI, 3, .inl Ep))] := hD
  refine lv_iload_n hx hb d_Mod_about_5 rfl (lv_at hl 1 rfl) ?_
  refine kS_i (wc := []) (wr := [(mo, .inr (9, [.int (nI 0), .ref rpx, .int nb, .ref rca, .ref rpl, .ref rth, .ref rco, .ref rsh, .ref rsf, .ref rcr, .ref rep, .ref rby, .ref rli, .ref rls, .ref rla, .ref rcm, .ref rcs, .ref rpa, .ref rpm, .ref rpo, .ref rti, .ref rre, .ref rcl, .int (nI sz), .int (nI cs), .int (nI nx), .int (nI la)])), (rep, .inl (cI, 3, .inl Ep))]) (w2 := fun _ => [(mo, .inr (9, [.int (nI 0), .ref rpx, .int nb, .ref rca, .ref rpl, .ref rth, .ref rco, .ref rsh, .ref rsf, .ref rcr, .ref rep, .ref rby, .ref rli, .ref rls, .ref rla, .ref rcm, .ref rcs, .ref rpa, .ref rpm, .ref rpo, .ref rti, .ref rre, .ref rcl, .int (nI sz), .int (nI cs), .int (nI nx), .int (nI la)])), (rep, .inl (cI, 3, .inl Ep))]) [.int (nI v)] [] Bd ⟨gi_app (gi_c0 k_753 (gi_c0 k_754 (gi_c0 k_10 gi_nil))) (gi_tb0 k_755), rfl, by decide, by decide⟩ (show (parseMethodDescriptor "(I)Z").map (fun d => d.parameters.length) = some 1 by decide +kernel) (c_Mod_isViewer (nI v) ) (by decide +kernel) ⟨Nat.le_of_ble_eq_true rfl, Nat.le_of_ble_eq_true rfl⟩ hG hP hD hS hA [] [0, 1] [0, 1] (by decide) rfl rfl (fun _ => rfl) hl.1 rfl (Nat.le_of_ble_eq_true rfl) d_Mod_about_6 (fun r1 u3 H locs hp2 hP hD hS => ?_)
  have hP : va_P D classes [(mo, .inr (9, [.int (nI 0), .ref rpx, .int nb, .ref rca, .ref rpl, .ref rth, .ref rco, .ref rsh, .ref rsf, .ref rcr, .ref rep, .ref rby, .ref rli, .ref rls, .ref rla, .ref rcm, .ref rcs, .ref rpa, .ref rpm, .ref rpo, .ref rti, .ref rre, .ref rcl, .int (nI sz), .int (nI cs), .int (nI nx), .int (nI la)])), (rep, .inl (cI, 3, .inl Ep))] H := hP
  have hD : va_D AA [(mo, .inr (9, [.int (nI 0), .ref rpx, .int nb, .ref rca, .ref rpl, .ref rth, .ref rco, .ref rsh, .ref rsf, .ref rcr, .ref rep, .ref rby, .ref rli, .ref rls, .ref rla, .ref rcm, .ref rcs, .ref rpa, .ref rpm, .ref rpo, .ref rti, .ref rre, .ref rcl, .int (nI sz), .int (nI cs), .int (nI nx), .int (nI la)])), (rep, .inl (cI, 3, .inl Ep))] := hD
  subst hp2
  refine nv_if_ne (tgt := 14) hx hb d_Mod_about_9 (by decide) (bt_lt _) (fun c_9 => ?_) (fun c_9 => ?_)
  · refine lv_iconst (v := nI 0) hx hb d_Mod_about_14 (by decide) ?_
    refine lv_istore_n (lv' := [(3, .int (nI 0)), (0, .ref mo), (1, .int (nI v)), (2, .int (nI 4))]) hx hb d_Mod_about_15 rfl hl (by decide) rfl (fun ls hl => ?_)
    refine lv_iconst (v := nI 0) hx hb d_Mod_about_16 (by decide) ?_
    refine lv_istore (lv' := [(4, .int (nI 0)), (3, .int (nI 0)), (0, .ref mo), (1, .int (nI v)), (2, .int (nI 4))]) hx hb d_Mod_about_17 hl (by decide) rfl (fun ls hl => ?_)
    refine lv_iload hx hb d_Mod_about_19 (lv_at hl 0 rfl) ?_
    refine lv_bipush (v := nI 48) hx hb d_Mod_about_21 (by decide) ?_
    refine nv_icmp_ge (tgt := 60) hx hb d_Mod_about_23 (by decide) (by omega) (by omega) (fun h9 => absurd h9 (by decide)) (fun _ => ?_)
    refine lv_iload_n hx hb d_Mod_about_26 rfl (lv_at hl 4 rfl) ?_
    refine lv_iconst (v := nI 5) hx hb d_Mod_about_27 (by decide) ?_
    refine nv_icmp_ne (tgt := 60) hx hb d_Mod_about_28 (by decide) (by omega) (by omega) (fun _ => ?_) (fun h9 => absurd h9 (by decide))
    refine lv_iload_n hx hb d_Mod_about_60 rfl (lv_at hl 4 rfl) ?_
    refine lv_tableIn (off := 90) (tgt := 151) hx hb d_Mod_about_61 (by decide) (by decide) (by decide) (by decide) ?_
    refine lv_aload_n hx hb d_Mod_about_151 rfl (lv_at hl 2 rfl) ?_
    refine va_get (D := D) (ci := 9) (v := .ref rep) (C := "TileScreenModel") (T := F_Mod) (N := 27) hx hb htb i_Mod hown hG.1 hP 0 rfl rfl 10 (by decide) (htb _ k_645) (fun _ h9 => h9) rfl d_Mod_about_152 ?_
    refine lv_iload_n hx hb d_Mod_about_155 rfl (lv_at hl 3 rfl) ?_
    refine nr_iald hx hb hG.1 hP 1 0 rfl rfl (by omega) (by omega) d_Mod_about_156 ?_
    exact hret _ () _ _ _ _ d_Mod_about_157 rfl (rfl) hP hD hS
  · exact absurd (vwP_i hv) (cB_0 c_9)
set_option maxHeartbeats 400000 in
set_option maxRecDepth 100000 in
theorem c_Mod_about6 (mo : Nat) (cd : Int32) (rpx : Nat) (nb : Int32) (rca : Nat) (rpl : Nat) (rth : Nat) (rco : Nat) (rsh : Nat) (rsf : Nat) (rcr : Nat) (rep : Nat) (rby : Nat) (rli : Nat) (rls : Nat) (rla : Nat) (rcm : Nat) (rcs : Nat) (rpa : Nat) (rpm : Nat) (rpo : Nat) (rti : Nat) (rre : Nat) (rcl : Nat) (sz : Nat) (cs : Nat) (nx : Nat) (la : Nat) (Sf : Nat → Int32) (v : Nat) (hv : v < 3) : CI (S := Unit) l classes NW D (TYS cI cZ cL cV) y_Mod_about (.code y_Mod_about b_Mod_about 5 (some .int) :: TB) { frames := 1, cells := 0, slots := 0, locals := 20 } [.ref mo, .int (nI v), .int (nI 6)] [(mo, .inr (9, [.int cd, .ref rpx, .int nb, .ref rca, .ref rpl, .ref rth, .ref rco, .ref rsh, .ref rsf, .ref rcr, .ref rep, .ref rby, .ref rli, .ref rls, .ref rla, .ref rcm, .ref rcs, .ref rpa, .ref rpm, .ref rpo, .ref rti, .ref rre, .ref rcl, .int (nI sz), .int (nI cs), .int (nI nx), .int (nI la)])), (rsf, .inl (cI, 3, .inl Sf))] (fun r u => r = Sf v) (fun u => [(mo, .inr (9, [.int (nI 0), .ref rpx, .int nb, .ref rca, .ref rpl, .ref rth, .ref rco, .ref rsh, .ref rsf, .ref rcr, .ref rep, .ref rby, .ref rli, .ref rls, .ref rla, .ref rcm, .ref rcs, .ref rpa, .ref rpm, .ref rpo, .ref rti, .ref rre, .ref rcl, .int (nI sz), .int (nI cs), .int (nI nx), .int (nI la)])), (rsf, .inl (cI, 3, .inl Sf))]) := by
  refine CI.of (by decide) (Nat.le_of_ble_eq_true rfl) ?_
  intro pr ev sT mM aR bW mE cO AA QQ ls Bd hG hA hP hD hS hl hret
  have Bd : bd pr cO b_Mod_about 5 sT aR TB "TileScreenModel" mM := Bd
  obtain ⟨hx, hb, hml, hown, htb⟩ := id Bd
  have hl : lv_has ls 5 [(0, .ref mo), (1, .int (nI v)), (2, .int (nI 6))] := hl
  refine lv_aload_n hx hb d_Mod_about_0 rfl (lv_at hl 0 rfl) ?_
  refine lv_iconst (v := nI 0) hx hb d_Mod_about_1 (by decide) ?_
  refine va_put (D := D) (ci := 9) (v := .int (nI 0)) (ty := .int) (C := "TileScreenModel") (T := F_Mod) (N := 27) hx hb htb i_Mod t_Mod t_Mod_ok n_Mod hown hG.1 hP hD hS 0 rfl rfl 0 (by decide) (htb _ k_635) (fun _ h9 => h9) rfl (by decide +kernel) rfl rfl (Nat.le_of_ble_eq_true rfl) d_Mod_about_2 (fun H locs hP hD hS => ?_)
  have hP : va_P D classes [(mo, .inr (9, [.int (nI 0), .ref rpx, .int nb, .ref rca, .ref rpl, .ref rth, .ref rco, .ref rsh, .ref rsf, .ref rcr, .ref rep, .ref rby, .ref rli, .ref rls, .ref rla, .ref rcm, .ref rcs, .ref rpa, .ref rpm, .ref rpo, .ref rti, .ref rre, .ref rcl, .int (nI sz), .int (nI cs), .int (nI nx), .int (nI la)])), (rsf, .inl (cI, 3, .inl Sf))] H := hP
  have hD : va_D AA [(mo, .inr (9, [.int (nI 0), .ref rpx, .int nb, .ref rca, .ref rpl, .ref rth, .ref rco, .ref rsh, .ref rsf, .ref rcr, .ref rep, .ref rby, .ref rli, .ref rls, .ref rla, .ref rcm, .ref rcs, .ref rpa, .ref rpm, .ref rpo, .ref rti, .ref rre, .ref rcl, .int (nI sz), .int (nI cs), .int (nI nx), .int (nI la)])), (rsf, .inl (cI, 3, .inl Sf))] := hD
  refine lv_iload_n hx hb d_Mod_about_5 rfl (lv_at hl 1 rfl) ?_
  refine kS_i (wc := []) (wr := [(mo, .inr (9, [.int (nI 0), .ref rpx, .int nb, .ref rca, .ref rpl, .ref rth, .ref rco, .ref rsh, .ref rsf, .ref rcr, .ref rep, .ref rby, .ref rli, .ref rls, .ref rla, .ref rcm, .ref rcs, .ref rpa, .ref rpm, .ref rpo, .ref rti, .ref rre, .ref rcl, .int (nI sz), .int (nI cs), .int (nI nx), .int (nI la)])), (rsf, .inl (cI, 3, .inl Sf))]) (w2 := fun _ => [(mo, .inr (9, [.int (nI 0), .ref rpx, .int nb, .ref rca, .ref rpl, .ref rth, .ref rco, .ref rsh, .ref rsf, .ref rcr, .ref rep, .ref rby, .ref rli, .ref rls, .ref rla, .ref rcm, .ref rcs, .ref rpa, .ref rpm, .ref rpo, .ref rti, .ref rre, .ref rcl, .int (nI sz), .int (nI cs), .int (nI nx), .int (nI la)])), (rsf, .inl (cI, 3, .inl Sf))]) [.int (nI v)] [] Bd ⟨gi_app (gi_c0 k_753 (gi_c0 k_754 (gi_c0 k_10 gi_nil))) (gi_tb0 k_755), rfl, by decide, by decide⟩ (show (parseMethodDescriptor "(I)Z").map (fun d => d.parameters.length) = some 1 by decide +kernel) (c_Mod_isViewer (nI v) ) (by decide +kernel) ⟨Nat.le_of_ble_eq_true rfl, Nat.le_of_ble_eq_true rfl⟩ hG hP hD hS hA [] [0, 1] [0, 1] (by decide) rfl rfl (fun _ => rfl) hl.1 rfl (Nat.le_of_ble_eq_true rfl) d_Mod_about_6 (fun r1 u3 H locs hp2 hP hD hS => ?_)
  have hP : va_P D classes [(mo, .inr (9, [.int (nI 0), .ref rpx, .int nb, .ref rca, .ref rpl, .ref rth, .ref rco, .ref rsh, .ref rsf, .ref rcr, .ref rep, .ref rby, .ref rli, .ref rls, .ref rla, .ref rcm, .ref rcs, .ref rpa, .ref rpm, .ref rpo, .ref rti, .ref rre, .ref rcl, .int (nI sz), .int (nI cs), .int (nI nx), .int (nI la)])), (rsf, .inl (cI, 3, .inl Sf))] H := hP
  have hD : va_D AA [(mo, .inr (9, [.int (nI 0), .ref rpx, .int nb, .ref rca, .ref rpl, .ref rth, .ref rco, .ref rsh, .ref rsf, .ref rcr, .ref rep, .ref rby, .ref rli, .ref rls, .ref rla, .ref rcm, .ref rcs, .ref rpa, .ref rpm, .ref rpo, .ref rti, .ref rre, .ref rcl, .int (nI sz), .int (nI cs), .int (nI nx), .int (nI la)])), (rsf, .inl (cI, 3, .inl Sf))] := hD
  subst hp2
  refine nv_if_ne (tgt := 14) hx hb d_Mod_about_9 (by decide) (bt_lt _) (fun c_9 => ?_) (fun c_9 => ?_)
  · refine lv_iconst (v := nI 0) hx hb d_Mod_about_14 (by decide) ?_
    refine lv_istore_n (lv' := [(3, .int (nI 0)), (0, .ref mo), (1, .int (nI v)), (2, .int (nI 6))]) hx hb d_Mod_about_15 rfl hl (by decide) rfl (fun ls hl => ?_)
    refine lv_iconst (v := nI 0) hx hb d_Mod_about_16 (by decide) ?_
    refine lv_istore (lv' := [(4, .int (nI 0)), (3, .int (nI 0)), (0, .ref mo), (1, .int (nI v)), (2, .int (nI 6))]) hx hb d_Mod_about_17 hl (by decide) rfl (fun ls hl => ?_)
    refine lv_iload hx hb d_Mod_about_19 (lv_at hl 0 rfl) ?_
    refine lv_bipush (v := nI 48) hx hb d_Mod_about_21 (by decide) ?_
    refine nv_icmp_ge (tgt := 60) hx hb d_Mod_about_23 (by decide) (by omega) (by omega) (fun h9 => absurd h9 (by decide)) (fun _ => ?_)
    refine lv_iload_n hx hb d_Mod_about_26 rfl (lv_at hl 4 rfl) ?_
    refine lv_iconst (v := nI 5) hx hb d_Mod_about_27 (by decide) ?_
    refine nv_icmp_ne (tgt := 60) hx hb d_Mod_about_28 (by decide) (by omega) (by omega) (fun _ => ?_) (fun h9 => absurd h9 (by decide))
    refine lv_iload_n hx hb d_Mod_about_60 rfl (lv_at hl 4 rfl) ?_
    refine lv_tableIn (off := 99) (tgt := 160) hx hb d_Mod_about_61 (by decide) (by decide) (by decide) (by decide) ?_
    refine lv_aload_n hx hb d_Mod_about_160 rfl (lv_at hl 2 rfl) ?_
    refine va_get (D := D) (ci := 9) (v := .ref rsf) (C := "TileScreenModel") (T := F_Mod) (N := 27) hx hb htb i_Mod hown hG.1 hP 0 rfl rfl 8 (by decide) (htb _ k_643) (fun _ h9 => h9) rfl d_Mod_about_161 ?_
    refine lv_iload_n hx hb d_Mod_about_164 rfl (lv_at hl 3 rfl) ?_
    refine nr_iald hx hb hG.1 hP 1 0 rfl rfl (by omega) (by omega) d_Mod_about_165 ?_
    exact hret _ () _ _ _ _ d_Mod_about_166 rfl (rfl) hP hD hS
  · exact absurd (vwP_i hv) (cB_0 c_9)
set_option maxHeartbeats 400000 in
set_option maxRecDepth 100000 in
theorem c_Mod_about7 (mo : Nat) (cd : Int32) (rpx : Nat) (nb : Int32) (rca : Nat) (rpl : Nat) (rth : Nat) (rco : Nat) (rsh : Nat) (rsf : Nat) (rcr : Nat) (rep : Nat) (rby : Nat) (rli : Nat) (rls : Nat) (rla : Nat) (rcm : Nat) (rcs : Nat) (rpa : Nat) (rpm : Nat) (rpo : Nat) (rti : Nat) (rre : Nat) (rcl : Nat) (sz : Nat) (cs : Nat) (nx : Nat) (la : Nat) (Pl : Nat → Nat) (v : Nat) (hv : v < 3) : CI (S := Unit) l classes NW D (TYS cI cZ cL cV) y_Mod_about (.code y_Mod_about b_Mod_about 5 (some .int) :: TB) { frames := 1, cells := 0, slots := 0, locals := 20 } [.ref mo, .int (nI v), .int (nI 7)] [(mo, .inr (9, [.int cd, .ref rpx, .int nb, .ref rca, .ref rpl, .ref rth, .ref rco, .ref rsh, .ref rsf, .ref rcr, .ref rep, .ref rby, .ref rli, .ref rls, .ref rla, .ref rcm, .ref rcs, .ref rpa, .ref rpm, .ref rpo, .ref rti, .ref rre, .ref rcl, .int (nI sz), .int (nI cs), .int (nI nx), .int (nI la)])), (rpl, .inl (cI, 6, .inl (nF Pl)))] (fun r u => r = nI (Pl v)) (fun u => [(mo, .inr (9, [.int (nI 0), .ref rpx, .int nb, .ref rca, .ref rpl, .ref rth, .ref rco, .ref rsh, .ref rsf, .ref rcr, .ref rep, .ref rby, .ref rli, .ref rls, .ref rla, .ref rcm, .ref rcs, .ref rpa, .ref rpm, .ref rpo, .ref rti, .ref rre, .ref rcl, .int (nI sz), .int (nI cs), .int (nI nx), .int (nI la)])), (rpl, .inl (cI, 6, .inl (nF Pl)))]) := by
  refine CI.of (by decide) (Nat.le_of_ble_eq_true rfl) ?_
  intro pr ev sT mM aR bW mE cO AA QQ ls Bd hG hA hP hD hS hl hret
  have Bd : bd pr cO b_Mod_about 5 sT aR TB "TileScreenModel" mM := Bd
  obtain ⟨hx, hb, hml, hown, htb⟩ := id Bd
  have hl : lv_has ls 5 [(0, .ref mo), (1, .int (nI v)), (2, .int (nI 7))] := hl
  refine lv_aload_n hx hb d_Mod_about_0 rfl (lv_at hl 0 rfl) ?_
  refine lv_iconst (v := nI 0) hx hb d_Mod_about_1 (by decide) ?_
  refine va_put (D := D) (ci := 9) (v := .int (nI 0)) (ty := .int) (C := "TileScreenModel") (T := F_Mod) (N := 27) hx hb htb i_Mod t_Mod t_Mod_ok n_Mod hown hG.1 hP hD hS 0 rfl rfl 0 (by decide) (htb _ k_635) (fun _ h9 => h9) rfl (by decide +kernel) rfl rfl (Nat.le_of_ble_eq_true rfl) d_Mod_about_2 (fun H locs hP hD hS => ?_)
  have hP : va_P D classes [(mo, .inr (9, [.int (nI 0), .ref rpx, .int nb, .ref rca, .ref rpl, .ref rth, .ref rco, .ref rsh, .ref rsf, .ref rcr, .ref rep, .ref rby, .ref rli, .ref rls, .ref rla, .ref rcm, .ref rcs, .ref rpa, .ref rpm, .ref rpo, .ref rti, .ref rre, .ref rcl, .int (nI sz), .int (nI cs), .int (nI nx), .int (nI la)])), (rpl, .inl (cI, 6, .inl (nF Pl)))] H := hP
  have hD : va_D AA [(mo, .inr (9, [.int (nI 0), .ref rpx, .int nb, .ref rca, .ref rpl, .ref rth, .ref rco, .ref rsh, .ref rsf, .ref rcr, .ref rep, .ref rby, .ref rli, .ref rls, .ref rla, .ref rcm, .ref rcs, .ref rpa, .ref rpm, .ref rpo, .ref rti, .ref rre, .ref rcl, .int (nI sz), .int (nI cs), .int (nI nx), .int (nI la)])), (rpl, .inl (cI, 6, .inl (nF Pl)))] := hD
  refine lv_iload_n hx hb d_Mod_about_5 rfl (lv_at hl 1 rfl) ?_
  refine kS_i (wc := []) (wr := [(mo, .inr (9, [.int (nI 0), .ref rpx, .int nb, .ref rca, .ref rpl, .ref rth, .ref rco, .ref rsh, .ref rsf, .ref rcr, .ref rep, .ref rby, .ref rli, .ref rls, .ref rla, .ref rcm, .ref rcs, .ref rpa, .ref rpm, .ref rpo, .ref rti, .ref rre, .ref rcl, .int (nI sz), .int (nI cs), .int (nI nx), .int (nI la)])), (rpl, .inl (cI, 6, .inl (nF Pl)))]) (w2 := fun _ => [(mo, .inr (9, [.int (nI 0), .ref rpx, .int nb, .ref rca, .ref rpl, .ref rth, .ref rco, .ref rsh, .ref rsf, .ref rcr, .ref rep, .ref rby, .ref rli, .ref rls, .ref rla, .ref rcm, .ref rcs, .ref rpa, .ref rpm, .ref rpo, .ref rti, .ref rre, .ref rcl, .int (nI sz), .int (nI cs), .int (nI nx), .int (nI la)])), (rpl, .inl (cI, 6, .inl (nF Pl)))]) [.int (nI v)] [] Bd ⟨gi_app (gi_c0 k_753 (gi_c0 k_754 (gi_c0 k_10 gi_nil))) (gi_tb0 k_755), rfl, by decide, by decide⟩ (show (parseMethodDescriptor "(I)Z").map (fun d => d.parameters.length) = some 1 by decide +kernel) (c_Mod_isViewer (nI v) ) (by decide +kernel) ⟨Nat.le_of_ble_eq_true rfl, Nat.le_of_ble_eq_true rfl⟩ hG hP hD hS hA [] [0, 1] [0, 1] (by decide) rfl rfl (fun _ => rfl) hl.1 rfl (Nat.le_of_ble_eq_true rfl) d_Mod_about_6 (fun r1 u3 H locs hp2 hP hD hS => ?_)
  have hP : va_P D classes [(mo, .inr (9, [.int (nI 0), .ref rpx, .int nb, .ref rca, .ref rpl, .ref rth, .ref rco, .ref rsh, .ref rsf, .ref rcr, .ref rep, .ref rby, .ref rli, .ref rls, .ref rla, .ref rcm, .ref rcs, .ref rpa, .ref rpm, .ref rpo, .ref rti, .ref rre, .ref rcl, .int (nI sz), .int (nI cs), .int (nI nx), .int (nI la)])), (rpl, .inl (cI, 6, .inl (nF Pl)))] H := hP
  have hD : va_D AA [(mo, .inr (9, [.int (nI 0), .ref rpx, .int nb, .ref rca, .ref rpl, .ref rth, .ref rco, .ref rsh, .ref rsf, .ref rcr, .ref rep, .ref rby, .ref rli, .ref rls, .ref rla, .ref rcm, .ref rcs, .ref rpa, .ref rpm, .ref rpo, .ref rti, .ref rre, .ref rcl, .int (nI sz), .int (nI cs), .int (nI nx), .int (nI la)])), (rpl, .inl (cI, 6, .inl (nF Pl)))] := hD
  subst hp2
  refine nv_if_ne (tgt := 14) hx hb d_Mod_about_9 (by decide) (bt_lt _) (fun c_9 => ?_) (fun c_9 => ?_)
  · refine lv_iconst (v := nI 0) hx hb d_Mod_about_14 (by decide) ?_
    refine lv_istore_n (lv' := [(3, .int (nI 0)), (0, .ref mo), (1, .int (nI v)), (2, .int (nI 7))]) hx hb d_Mod_about_15 rfl hl (by decide) rfl (fun ls hl => ?_)
    refine lv_iconst (v := nI 0) hx hb d_Mod_about_16 (by decide) ?_
    refine lv_istore (lv' := [(4, .int (nI 0)), (3, .int (nI 0)), (0, .ref mo), (1, .int (nI v)), (2, .int (nI 7))]) hx hb d_Mod_about_17 hl (by decide) rfl (fun ls hl => ?_)
    refine lv_iload hx hb d_Mod_about_19 (lv_at hl 0 rfl) ?_
    refine lv_bipush (v := nI 48) hx hb d_Mod_about_21 (by decide) ?_
    refine nv_icmp_ge (tgt := 60) hx hb d_Mod_about_23 (by decide) (by omega) (by omega) (fun h9 => absurd h9 (by decide)) (fun _ => ?_)
    refine lv_iload_n hx hb d_Mod_about_26 rfl (lv_at hl 4 rfl) ?_
    refine lv_iconst (v := nI 5) hx hb d_Mod_about_27 (by decide) ?_
    refine nv_icmp_ne (tgt := 60) hx hb d_Mod_about_28 (by decide) (by omega) (by omega) (fun _ => ?_) (fun h9 => absurd h9 (by decide))
    refine lv_iload_n hx hb d_Mod_about_60 rfl (lv_at hl 4 rfl) ?_
    refine lv_tableIn (off := 106) (tgt := 167) hx hb d_Mod_about_61 (by decide) (by decide) (by decide) (by decide) ?_
    refine lv_aload_n hx hb d_Mod_about_167 rfl (lv_at hl 2 rfl) ?_
    refine va_get (D := D) (ci := 9) (v := .ref rpl) (C := "TileScreenModel") (T := F_Mod) (N := 27) hx hb htb i_Mod hown hG.1 hP 0 rfl rfl 4 (by decide) (htb _ k_639) (fun _ h9 => h9) rfl d_Mod_about_168 ?_
    refine lv_iload_n hx hb d_Mod_about_171 rfl (lv_at hl 3 rfl) ?_
    refine nv_iald hx hb hG.1 hP 1 0 rfl rfl (by omega) (by omega) d_Mod_about_172 ?_
    exact hret _ () _ _ _ _ d_Mod_about_173 rfl (rfl) hP hD hS
  · exact absurd (vwP_i hv) (cB_0 c_9)
set_option maxHeartbeats 400000 in
set_option maxRecDepth 100000 in
theorem c_Mod_about_else (mo : Nat) (cd : Int32) (rpx : Nat) (nb : Int32) (rca : Nat) (rpl : Nat) (rth : Nat) (rco : Nat) (rsh : Nat) (rsf : Nat) (rcr : Nat) (rep : Nat) (rby : Nat) (rli : Nat) (rls : Nat) (rla : Nat) (rcm : Nat) (rcs : Nat) (rpa : Nat) (rpm : Nat) (rpo : Nat) (rti : Nat) (rre : Nat) (rcl : Nat) (sz : Nat) (cs : Nat) (nx : Nat) (la : Nat) (v : Nat) (q : Int32) (hv : v < 3) (hq : ∀ j, j < 8 → q ≠ nI j) : CI (S := Unit) l classes NW D (TYS cI cZ cL cV) y_Mod_about (.code y_Mod_about b_Mod_about 5 (some .int) :: TB) { frames := 1, cells := 0, slots := 0, locals := 20 } [.ref mo, .int (nI v), .int q] [(mo, .inr (9, [.int cd, .ref rpx, .int nb, .ref rca, .ref rpl, .ref rth, .ref rco, .ref rsh, .ref rsf, .ref rcr, .ref rep, .ref rby, .ref rli, .ref rls, .ref rla, .ref rcm, .ref rcs, .ref rpa, .ref rpm, .ref rpo, .ref rti, .ref rre, .ref rcl, .int (nI sz), .int (nI cs), .int (nI nx), .int (nI la)]))] (fun r u => r = (-1)) (fun u => [(mo, .inr (9, [.int (nI 0), .ref rpx, .int nb, .ref rca, .ref rpl, .ref rth, .ref rco, .ref rsh, .ref rsf, .ref rcr, .ref rep, .ref rby, .ref rli, .ref rls, .ref rla, .ref rcm, .ref rcs, .ref rpa, .ref rpm, .ref rpo, .ref rti, .ref rre, .ref rcl, .int (nI sz), .int (nI cs), .int (nI nx), .int (nI la)]))]) := by
  refine CI.of (by decide) (Nat.le_of_ble_eq_true rfl) ?_
  intro pr ev sT mM aR bW mE cO AA QQ ls Bd hG hA hP hD hS hl hret
  have Bd : bd pr cO b_Mod_about 5 sT aR TB "TileScreenModel" mM := Bd
  obtain ⟨hx, hb, hml, hown, htb⟩ := id Bd
  have hl : lv_has ls 5 [(0, .ref mo), (1, .int (nI v)), (2, .int q)] := hl
  refine lv_aload_n hx hb d_Mod_about_0 rfl (lv_at hl 0 rfl) ?_
  refine lv_iconst (v := nI 0) hx hb d_Mod_about_1 (by decide) ?_
  refine va_put (D := D) (ci := 9) (v := .int (nI 0)) (ty := .int) (C := "TileScreenModel") (T := F_Mod) (N := 27) hx hb htb i_Mod t_Mod t_Mod_ok n_Mod hown hG.1 hP hD hS 0 rfl rfl 0 (by decide) (htb _ k_635) (fun _ h9 => h9) rfl (by decide +kernel) rfl rfl (Nat.le_of_ble_eq_true rfl) d_Mod_about_2 (fun H locs hP hD hS => ?_)
  have hP : va_P D classes [(mo, .inr (9, [.int (nI 0), .ref rpx, .int nb, .ref rca, .ref rpl, .ref rth, .ref rco, .ref rsh, .ref rsf, .ref rcr, .ref rep, .ref rby, .ref rli, .ref rls, .ref rla, .ref rcm, .ref rcs, .ref rpa, .ref rpm, .ref rpo, .ref rti, .ref rre, .ref rcl, .int (nI sz), .int (nI cs), .int (nI nx), .int (nI la)]))] H := hP
  have hD : va_D AA [(mo, .inr (9, [.int (nI 0), .ref rpx, .int nb, .ref rca, .ref rpl, .ref rth, .ref rco, .ref rsh, .ref rsf, .ref rcr, .ref rep, .ref rby, .ref rli, .ref rls, .ref rla, .ref rcm, .ref rcs, .ref rpa, .ref rpm, .ref rpo, .ref rti, .ref rre, .ref rcl, .int (nI sz), .int (nI cs), .int (nI nx), .int (nI la)]))] := hD
  refine lv_iload_n hx hb d_Mod_about_5 rfl (lv_at hl 1 rfl) ?_
  refine kS_i (wc := []) (wr := [(mo, .inr (9, [.int (nI 0), .ref rpx, .int nb, .ref rca, .ref rpl, .ref rth, .ref rco, .ref rsh, .ref rsf, .ref rcr, .ref rep, .ref rby, .ref rli, .ref rls, .ref rla, .ref rcm, .ref rcs, .ref rpa, .ref rpm, .ref rpo, .ref rti, .ref rre, .ref rcl, .int (nI sz), .int (nI cs), .int (nI nx), .int (nI la)]))]) (w2 := fun _ => [(mo, .inr (9, [.int (nI 0), .ref rpx, .int nb, .ref rca, .ref rpl, .ref rth, .ref rco, .ref rsh, .ref rsf, .ref rcr, .ref rep, .ref rby, .ref rli, .ref rls, .ref rla, .ref rcm, .ref rcs, .ref rpa, .ref rpm, .ref rpo, .ref rti, .ref rre, .ref rcl, .int (nI sz), .int (nI cs), .int (nI nx), .int (nI la)]))]) [.int (nI v)] [] Bd ⟨gi_app (gi_c0 k_753 (gi_c0 k_754 (gi_c0 k_10 gi_nil))) (gi_tb0 k_755), rfl, by decide, by decide⟩ (show (parseMethodDescriptor "(I)Z").map (fun d => d.parameters.length) = some 1 by decide +kernel) (c_Mod_isViewer (nI v) ) (by decide +kernel) ⟨Nat.le_of_ble_eq_true rfl, Nat.le_of_ble_eq_true rfl⟩ hG hP hD hS hA [] [0] [0] (by decide) rfl rfl (fun _ => rfl) hl.1 rfl (Nat.le_of_ble_eq_true rfl) d_Mod_about_6 (fun r1 u3 H locs hp2 hP hD hS => ?_)
  have hP : va_P D classes [(mo, .inr (9, [.int (nI 0), .ref rpx, .int nb, .ref rca, .ref rpl, .ref rth, .ref rco, .ref rsh, .ref rsf, .ref rcr, .ref rep, .ref rby, .ref rli, .ref rls, .ref rla, .ref rcm, .ref rcs, .ref rpa, .ref rpm, .ref rpo, .ref rti, .ref rre, .ref rcl, .int (nI sz), .int (nI cs), .int (nI nx), .int (nI la)]))] H := hP
  have hD : va_D AA [(mo, .inr (9, [.int (nI 0), .ref rpx, .int nb, .ref rca, .ref rpl, .ref rth, .ref rco, .ref rsh, .ref rsf, .ref rcr, .ref rep, .ref rby, .ref rli, .ref rls, .ref rla, .ref rcm, .ref rcs, .ref rpa, .ref rpm, .ref rpo, .ref rti, .ref rre, .ref rcl, .int (nI sz), .int (nI cs), .int (nI nx), .int (nI la)]))] := hD
  subst hp2
  refine nv_if_ne (tgt := 14) hx hb d_Mod_about_9 (by decide) (bt_lt _) (fun c_9 => ?_) (fun c_9 => ?_)
  · refine lv_iconst (v := nI 0) hx hb d_Mod_about_14 (by decide) ?_
    refine lv_istore_n (lv' := [(3, .int (nI 0)), (0, .ref mo), (1, .int (nI v)), (2, .int q)]) hx hb d_Mod_about_15 rfl hl (by decide) rfl (fun ls hl => ?_)
    refine lv_iconst (v := nI 0) hx hb d_Mod_about_16 (by decide) ?_
    refine lv_istore (lv' := [(4, .int (nI 0)), (3, .int (nI 0)), (0, .ref mo), (1, .int (nI v)), (2, .int q)]) hx hb d_Mod_about_17 hl (by decide) rfl (fun ls hl => ?_)
    refine lv_iload hx hb d_Mod_about_19 (lv_at hl 0 rfl) ?_
    refine lv_bipush (v := nI 48) hx hb d_Mod_about_21 (by decide) ?_
    refine nv_icmp_ge (tgt := 60) hx hb d_Mod_about_23 (by decide) (by omega) (by omega) (fun h9 => absurd h9 (by decide)) (fun _ => ?_)
    refine lv_iload_n hx hb d_Mod_about_26 rfl (lv_at hl 4 rfl) ?_
    refine lv_iconst (v := nI 5) hx hb d_Mod_about_27 (by decide) ?_
    refine lv_icmp_ne (tgt := 60) hx hb d_Mod_about_28 (by decide) (fun c_28 => ?_) (fun c_28 => ?_)
    · refine lv_iload_n hx hb d_Mod_about_60 rfl (lv_at hl 4 rfl) ?_
      refine lv_tableOut (tgt := 174) hx hb d_Mod_about_61 (tb_out hq) (by decide) ?_
      refine lv_iconst (v := -1) hx hb d_Mod_about_174 (by decide) ?_
      exact hret _ () _ _ _ _ d_Mod_about_175 rfl (rfl) hP hD hS
    · exact absurd c_28 (hq 5 (by decide))
  · exact absurd (vwP_i hv) (cB_0 c_9)
set_option maxHeartbeats 400000 in
set_option maxRecDepth 100000 in
theorem c_Mod_about_no (mo : Nat) (cd : Int32) (rpx : Nat) (nb : Int32) (rca : Nat) (rpl : Nat) (rth : Nat) (rco : Nat) (rsh : Nat) (rsf : Nat) (rcr : Nat) (rep : Nat) (rby : Nat) (rli : Nat) (rls : Nat) (rla : Nat) (rcm : Nat) (rcs : Nat) (rpa : Nat) (rpm : Nat) (rpo : Nat) (rti : Nat) (rre : Nat) (rcl : Nat) (sz : Nat) (cs : Nat) (nx : Nat) (la : Nat) (v : Int32) (q : Int32) (hno : ¬ vwP v) : CI (S := Unit) l classes NW D (TYS cI cZ cL cV) y_Mod_about (.code y_Mod_about b_Mod_about 5 (some .int) :: TB) { frames := 1, cells := 0, slots := 0, locals := 20 } [.ref mo, .int v, .int q] [(mo, .inr (9, [.int cd, .ref rpx, .int nb, .ref rca, .ref rpl, .ref rth, .ref rco, .ref rsh, .ref rsf, .ref rcr, .ref rep, .ref rby, .ref rli, .ref rls, .ref rla, .ref rcm, .ref rcs, .ref rpa, .ref rpm, .ref rpo, .ref rti, .ref rre, .ref rcl, .int (nI sz), .int (nI cs), .int (nI nx), .int (nI la)]))] (fun r u => r = (-1)) (fun u => [(mo, .inr (9, [.int (nI 0), .ref rpx, .int nb, .ref rca, .ref rpl, .ref rth, .ref rco, .ref rsh, .ref rsf, .ref rcr, .ref rep, .ref rby, .ref rli, .ref rls, .ref rla, .ref rcm, .ref rcs, .ref rpa, .ref rpm, .ref rpo, .ref rti, .ref rre, .ref rcl, .int (nI sz), .int (nI cs), .int (nI nx), .int (nI la)]))]) := by
  refine CI.of (by decide) (Nat.le_of_ble_eq_true rfl) ?_
  intro pr ev sT mM aR bW mE cO AA QQ ls Bd hG hA hP hD hS hl hret
  have Bd : bd pr cO b_Mod_about 5 sT aR TB "TileScreenModel" mM := Bd
  obtain ⟨hx, hb, hml, hown, htb⟩ := id Bd
  have hl : lv_has ls 5 [(0, .ref mo), (1, .int v), (2, .int q)] := hl
  refine lv_aload_n hx hb d_Mod_about_0 rfl (lv_at hl 0 rfl) ?_
  refine lv_iconst (v := nI 0) hx hb d_Mod_about_1 (by decide) ?_
  refine va_put (D := D) (ci := 9) (v := .int (nI 0)) (ty := .int) (C := "TileScreenModel") (T := F_Mod) (N := 27) hx hb htb i_Mod t_Mod t_Mod_ok n_Mod hown hG.1 hP hD hS 0 rfl rfl 0 (by decide) (htb _ k_635) (fun _ h9 => h9) rfl (by decide +kernel) rfl rfl (Nat.le_of_ble_eq_true rfl) d_Mod_about_2 (fun H locs hP hD hS => ?_)
  have hP : va_P D classes [(mo, .inr (9, [.int (nI 0), .ref rpx, .int nb, .ref rca, .ref rpl, .ref rth, .ref rco, .ref rsh, .ref rsf, .ref rcr, .ref rep, .ref rby, .ref rli, .ref rls, .ref rla, .ref rcm, .ref rcs, .ref rpa, .ref rpm, .ref rpo, .ref rti, .ref rre, .ref rcl, .int (nI sz), .int (nI cs), .int (nI nx), .int (nI la)]))] H := hP
  have hD : va_D AA [(mo, .inr (9, [.int (nI 0), .ref rpx, .int nb, .ref rca, .ref rpl, .ref rth, .ref rco, .ref rsh, .ref rsf, .ref rcr, .ref rep, .ref rby, .ref rli, .ref rls, .ref rla, .ref rcm, .ref rcs, .ref rpa, .ref rpm, .ref rpo, .ref rti, .ref rre, .ref rcl, .int (nI sz), .int (nI cs), .int (nI nx), .int (nI la)]))] := hD
  refine lv_iload_n hx hb d_Mod_about_5 rfl (lv_at hl 1 rfl) ?_
  refine kS_i (wc := []) (wr := [(mo, .inr (9, [.int (nI 0), .ref rpx, .int nb, .ref rca, .ref rpl, .ref rth, .ref rco, .ref rsh, .ref rsf, .ref rcr, .ref rep, .ref rby, .ref rli, .ref rls, .ref rla, .ref rcm, .ref rcs, .ref rpa, .ref rpm, .ref rpo, .ref rti, .ref rre, .ref rcl, .int (nI sz), .int (nI cs), .int (nI nx), .int (nI la)]))]) (w2 := fun _ => [(mo, .inr (9, [.int (nI 0), .ref rpx, .int nb, .ref rca, .ref rpl, .ref rth, .ref rco, .ref rsh, .ref rsf, .ref rcr, .ref rep, .ref rby, .ref rli, .ref rls, .ref rla, .ref rcm, .ref rcs, .ref rpa, .ref rpm, .ref rpo, .ref rti, .ref rre, .ref rcl, .int (nI sz), .int (nI cs), .int (nI nx), .int (nI la)]))]) [.int v] [] Bd ⟨gi_app (gi_c0 k_753 (gi_c0 k_754 (gi_c0 k_10 gi_nil))) (gi_tb0 k_755), rfl, by decide, by decide⟩ (show (parseMethodDescriptor "(I)Z").map (fun d => d.parameters.length) = some 1 by decide +kernel) (c_Mod_isViewer v ) (by decide +kernel) ⟨Nat.le_of_ble_eq_true rfl, Nat.le_of_ble_eq_true rfl⟩ hG hP hD hS hA [] [0] [0] (by decide) rfl rfl (fun _ => rfl) hl.1 rfl (Nat.le_of_ble_eq_true rfl) d_Mod_about_6 (fun r1 u3 H locs hp2 hP hD hS => ?_)
  have hP : va_P D classes [(mo, .inr (9, [.int (nI 0), .ref rpx, .int nb, .ref rca, .ref rpl, .ref rth, .ref rco, .ref rsh, .ref rsf, .ref rcr, .ref rep, .ref rby, .ref rli, .ref rls, .ref rla, .ref rcm, .ref rcs, .ref rpa, .ref rpm, .ref rpo, .ref rti, .ref rre, .ref rcl, .int (nI sz), .int (nI cs), .int (nI nx), .int (nI la)]))] H := hP
  have hD : va_D AA [(mo, .inr (9, [.int (nI 0), .ref rpx, .int nb, .ref rca, .ref rpl, .ref rth, .ref rco, .ref rsh, .ref rsf, .ref rcr, .ref rep, .ref rby, .ref rli, .ref rls, .ref rla, .ref rcm, .ref rcs, .ref rpa, .ref rpm, .ref rpo, .ref rti, .ref rre, .ref rcl, .int (nI sz), .int (nI cs), .int (nI nx), .int (nI la)]))] := hD
  subst hp2
  refine nv_if_ne (tgt := 14) hx hb d_Mod_about_9 (by decide) (bt_lt _) (fun c_9 => ?_) (fun c_9 => ?_)
  · exact absurd (cB_1 c_9) hno
  · refine lv_iconst (v := -1) hx hb d_Mod_about_12 (by decide) ?_
    exact hret _ () _ _ _ _ d_Mod_about_13 rfl (rfl) hP hD hS
set_option maxHeartbeats 400000 in
set_option maxRecDepth 100000 in
theorem c_Mod_bytesBy (mo : Nat) (cd : Int32) (rpx : Nat) (nb : Int32) (rca : Nat) (rpl : Nat) (rth : Nat) (rco : Nat) (rsh : Nat) (rsf : Nat) (rcr : Nat) (rep : Nat) (rby : Nat) (rli : Nat) (rls : Nat) (rla : Nat) (rcm : Nat) (rcs : Nat) (rpa : Nat) (rpm : Nat) (rpo : Nat) (rti : Nat) (rre : Nat) (rcl : Nat) (sz : Nat) (cs : Nat) (nx : Nat) (la : Nat) (By : Nat → Int32) (v : Nat) (q : Nat) (hv : v < 3) (hq : q < 7) : CI (S := Unit) l classes NW D (TYS cI cZ cL cV) y_Mod_bytesBy (.code y_Mod_bytesBy b_Mod_bytesBy 3 (some .int) :: TB) { frames := 1, cells := 0, slots := 0, locals := 20 } [.ref mo, .int (nI v), .int (nI q)] [(mo, .inr (9, [.int cd, .ref rpx, .int nb, .ref rca, .ref rpl, .ref rth, .ref rco, .ref rsh, .ref rsf, .ref rcr, .ref rep, .ref rby, .ref rli, .ref rls, .ref rla, .ref rcm, .ref rcs, .ref rpa, .ref rpm, .ref rpo, .ref rti, .ref rre, .ref rcl, .int (nI sz), .int (nI cs), .int (nI nx), .int (nI la)])), (rby, .inl (cI, 21, .inl By))] (fun r u => r = By (7 * v + q)) (fun u => [(mo, .inr (9, [.int (nI 0), .ref rpx, .int nb, .ref rca, .ref rpl, .ref rth, .ref rco, .ref rsh, .ref rsf, .ref rcr, .ref rep, .ref rby, .ref rli, .ref rls, .ref rla, .ref rcm, .ref rcs, .ref rpa, .ref rpm, .ref rpo, .ref rti, .ref rre, .ref rcl, .int (nI sz), .int (nI cs), .int (nI nx), .int (nI la)])), (rby, .inl (cI, 21, .inl By))]) := by
  refine CI.of (by decide) (Nat.le_of_ble_eq_true rfl) ?_
  intro pr ev sT mM aR bW mE cO AA QQ ls Bd hG hA hP hD hS hl hret
  have Bd : bd pr cO b_Mod_bytesBy 3 sT aR TB "TileScreenModel" mM := Bd
  obtain ⟨hx, hb, hml, hown, htb⟩ := id Bd
  have hl : lv_has ls 3 [(0, .ref mo), (1, .int (nI v)), (2, .int (nI q))] := hl
  refine lv_aload_n hx hb d_Mod_bytesBy_0 rfl (lv_at hl 0 rfl) ?_
  refine lv_iconst (v := nI 0) hx hb d_Mod_bytesBy_1 (by decide) ?_
  refine va_put (D := D) (ci := 9) (v := .int (nI 0)) (ty := .int) (C := "TileScreenModel") (T := F_Mod) (N := 27) hx hb htb i_Mod t_Mod t_Mod_ok n_Mod hown hG.1 hP hD hS 0 rfl rfl 0 (by decide) (htb _ k_635) (fun _ h9 => h9) rfl (by decide +kernel) rfl rfl (Nat.le_of_ble_eq_true rfl) d_Mod_bytesBy_2 (fun H locs hP hD hS => ?_)
  have hP : va_P D classes [(mo, .inr (9, [.int (nI 0), .ref rpx, .int nb, .ref rca, .ref rpl, .ref rth, .ref rco, .ref rsh, .ref rsf, .ref rcr, .ref rep, .ref rby, .ref rli, .ref rls, .ref rla, .ref rcm, .ref rcs, .ref rpa, .ref rpm, .ref rpo, .ref rti, .ref rre, .ref rcl, .int (nI sz), .int (nI cs), .int (nI nx), .int (nI la)])), (rby, .inl (cI, 21, .inl By))] H := hP
  have hD : va_D AA [(mo, .inr (9, [.int (nI 0), .ref rpx, .int nb, .ref rca, .ref rpl, .ref rth, .ref rco, .ref rsh, .ref rsf, .ref rcr, .ref rep, .ref rby, .ref rli, .ref rls, .ref rla, .ref rcm, .ref rcs, .ref rpa, .ref rpm, .ref rpo, .ref rti, .ref rre, .ref rcl, .int (nI sz), .int (nI cs), .int (nI nx), .int (nI la)])), (rby, .inl (cI, 21, .inl By))] := hD
  refine lv_iload_n hx hb d_Mod_bytesBy_5 rfl (lv_at hl 1 rfl) ?_
  refine kS_i (wc := []) (wr := [(mo, .inr (9, [.int (nI 0), .ref rpx, .int nb, .ref rca, .ref rpl, .ref rth, .ref rco, .ref rsh, .ref rsf, .ref rcr, .ref rep, .ref rby, .ref rli, .ref rls, .ref rla, .ref rcm, .ref rcs, .ref rpa, .ref rpm, .ref rpo, .ref rti, .ref rre, .ref rcl, .int (nI sz), .int (nI cs), .int (nI nx), .int (nI la)])), (rby, .inl (cI, 21, .inl By))]) (w2 := fun _ => [(mo, .inr (9, [.int (nI 0), .ref rpx, .int nb, .ref rca, .ref rpl, .ref rth, .ref rco, .ref rsh, .ref rsf, .ref rcr, .ref rep, .ref rby, .ref rli, .ref rls, .ref rla, .ref rcm, .ref rcs, .ref rpa, .ref rpm, .ref rpo, .ref rti, .ref rre, .ref rcl, .int (nI sz), .int (nI cs), .int (nI nx), .int (nI la)])), (rby, .inl (cI, 21, .inl By))]) [.int (nI v)] [] Bd ⟨gi_app (gi_c0 k_753 (gi_c0 k_754 (gi_c0 k_10 gi_nil))) (gi_tb0 k_755), rfl, by decide, by decide⟩ (show (parseMethodDescriptor "(I)Z").map (fun d => d.parameters.length) = some 1 by decide +kernel) (c_Mod_isViewer (nI v) ) (by decide +kernel) ⟨Nat.le_of_ble_eq_true rfl, Nat.le_of_ble_eq_true rfl⟩ hG hP hD hS hA [] [0, 1] [0, 1] (by decide) rfl rfl (fun _ => rfl) hl.1 rfl (Nat.le_of_ble_eq_true rfl) d_Mod_bytesBy_6 (fun r1 u3 H locs hp2 hP hD hS => ?_)
  have hP : va_P D classes [(mo, .inr (9, [.int (nI 0), .ref rpx, .int nb, .ref rca, .ref rpl, .ref rth, .ref rco, .ref rsh, .ref rsf, .ref rcr, .ref rep, .ref rby, .ref rli, .ref rls, .ref rla, .ref rcm, .ref rcs, .ref rpa, .ref rpm, .ref rpo, .ref rti, .ref rre, .ref rcl, .int (nI sz), .int (nI cs), .int (nI nx), .int (nI la)])), (rby, .inl (cI, 21, .inl By))] H := hP
  have hD : va_D AA [(mo, .inr (9, [.int (nI 0), .ref rpx, .int nb, .ref rca, .ref rpl, .ref rth, .ref rco, .ref rsh, .ref rsf, .ref rcr, .ref rep, .ref rby, .ref rli, .ref rls, .ref rla, .ref rcm, .ref rcs, .ref rpa, .ref rpm, .ref rpo, .ref rti, .ref rre, .ref rcl, .int (nI sz), .int (nI cs), .int (nI nx), .int (nI la)])), (rby, .inl (cI, 21, .inl By))] := hD
  subst hp2
  refine nv_if_eq (tgt := 36) hx hb d_Mod_bytesBy_9 (by decide) (bt_lt _) (fun c_9 => ?_) (fun c_9 => ?_)
  · exact absurd (vwP_i hv) (cB_0 c_9)
  · refine lv_iload_n hx hb d_Mod_bytesBy_12 rfl (lv_at hl 2 rfl) ?_
    refine nv_if_ltF hx hb 36 d_Mod_bytesBy_13 (by decide) (by omega) ?_
    refine lv_iload_n hx hb d_Mod_bytesBy_16 rfl (lv_at hl 2 rfl) ?_
    refine lv_bipush (v := nI 7) hx hb d_Mod_bytesBy_17 (by decide) ?_
    refine nv_icmp_ge (tgt := 36) hx hb d_Mod_bytesBy_19 (by decide) (by omega) (by omega) (fun c_19 => ?_) (fun c_19 => ?_)
    · omega
    · refine lv_aload_n hx hb d_Mod_bytesBy_22 rfl (lv_at hl 0 rfl) ?_
      refine va_get (D := D) (ci := 9) (v := .ref rby) (C := "TileScreenModel") (T := F_Mod) (N := 27) hx hb htb i_Mod hown hG.1 hP 0 rfl rfl 11 (by decide) (htb _ k_646) (fun _ h9 => h9) rfl d_Mod_bytesBy_23 ?_
      refine lv_bipush (v := nI 7) hx hb d_Mod_bytesBy_26 (by decide) ?_
      refine lv_iload_n hx hb d_Mod_bytesBy_28 rfl (lv_at hl 1 rfl) ?_
      refine nv_imul hx hb d_Mod_bytesBy_29 ?_
      refine lv_iload_n hx hb d_Mod_bytesBy_30 rfl (lv_at hl 2 rfl) ?_
      refine nv_iadd hx hb d_Mod_bytesBy_31 ?_
      refine nr_iald hx hb hG.1 hP 1 0 rfl rfl (by omega) (by omega) d_Mod_bytesBy_32 ?_
      refine lv_goto (tgt := 37) hx hb d_Mod_bytesBy_33 (by decide) ?_
      exact hret _ () _ _ _ _ d_Mod_bytesBy_37 rfl (rfl) hP hD hS
set_option maxHeartbeats 400000 in
set_option maxRecDepth 100000 in
theorem c_Mod_bytesBy_no (mo : Nat) (cd : Int32) (rpx : Nat) (nb : Int32) (rca : Nat) (rpl : Nat) (rth : Nat) (rco : Nat) (rsh : Nat) (rsf : Nat) (rcr : Nat) (rep : Nat) (rby : Nat) (rli : Nat) (rls : Nat) (rla : Nat) (rcm : Nat) (rcs : Nat) (rpa : Nat) (rpm : Nat) (rpo : Nat) (rti : Nat) (rre : Nat) (rcl : Nat) (sz : Nat) (cs : Nat) (nx : Nat) (la : Nat) (v : Int32) (q : Int32) (hno : ¬ (vwP v ∧ ∃ j, j < 7 ∧ q = nI j)) : CI (S := Unit) l classes NW D (TYS cI cZ cL cV) y_Mod_bytesBy (.code y_Mod_bytesBy b_Mod_bytesBy 3 (some .int) :: TB) { frames := 1, cells := 0, slots := 0, locals := 20 } [.ref mo, .int v, .int q] [(mo, .inr (9, [.int cd, .ref rpx, .int nb, .ref rca, .ref rpl, .ref rth, .ref rco, .ref rsh, .ref rsf, .ref rcr, .ref rep, .ref rby, .ref rli, .ref rls, .ref rla, .ref rcm, .ref rcs, .ref rpa, .ref rpm, .ref rpo, .ref rti, .ref rre, .ref rcl, .int (nI sz), .int (nI cs), .int (nI nx), .int (nI la)]))] (fun r u => r = (-1)) (fun u => [(mo, .inr (9, [.int (nI 0), .ref rpx, .int nb, .ref rca, .ref rpl, .ref rth, .ref rco, .ref rsh, .ref rsf, .ref rcr, .ref rep, .ref rby, .ref rli, .ref rls, .ref rla, .ref rcm, .ref rcs, .ref rpa, .ref rpm, .ref rpo, .ref rti, .ref rre, .ref rcl, .int (nI sz), .int (nI cs), .int (nI nx), .int (nI la)]))]) := by
  refine CI.of (by decide) (Nat.le_of_ble_eq_true rfl) ?_
  intro pr ev sT mM aR bW mE cO AA QQ ls Bd hG hA hP hD hS hl hret
  have Bd : bd pr cO b_Mod_bytesBy 3 sT aR TB "TileScreenModel" mM := Bd
  obtain ⟨hx, hb, hml, hown, htb⟩ := id Bd
  have hl : lv_has ls 3 [(0, .ref mo), (1, .int v), (2, .int q)] := hl
  refine lv_aload_n hx hb d_Mod_bytesBy_0 rfl (lv_at hl 0 rfl) ?_
  refine lv_iconst (v := nI 0) hx hb d_Mod_bytesBy_1 (by decide) ?_
  refine va_put (D := D) (ci := 9) (v := .int (nI 0)) (ty := .int) (C := "TileScreenModel") (T := F_Mod) (N := 27) hx hb htb i_Mod t_Mod t_Mod_ok n_Mod hown hG.1 hP hD hS 0 rfl rfl 0 (by decide) (htb _ k_635) (fun _ h9 => h9) rfl (by decide +kernel) rfl rfl (Nat.le_of_ble_eq_true rfl) d_Mod_bytesBy_2 (fun H locs hP hD hS => ?_)
  have hP : va_P D classes [(mo, .inr (9, [.int (nI 0), .ref rpx, .int nb, .ref rca, .ref rpl, .ref rth, .ref rco, .ref rsh, .ref rsf, .ref rcr, .ref rep, .ref rby, .ref rli, .ref rls, .ref rla, .ref rcm, .ref rcs, .ref rpa, .ref rpm, .ref rpo, .ref rti, .ref rre, .ref rcl, .int (nI sz), .int (nI cs), .int (nI nx), .int (nI la)]))] H := hP
  have hD : va_D AA [(mo, .inr (9, [.int (nI 0), .ref rpx, .int nb, .ref rca, .ref rpl, .ref rth, .ref rco, .ref rsh, .ref rsf, .ref rcr, .ref rep, .ref rby, .ref rli, .ref rls, .ref rla, .ref rcm, .ref rcs, .ref rpa, .ref rpm, .ref rpo, .ref rti, .ref rre, .ref rcl, .int (nI sz), .int (nI cs), .int (nI nx), .int (nI la)]))] := hD
  refine lv_iload_n hx hb d_Mod_bytesBy_5 rfl (lv_at hl 1 rfl) ?_
  refine kS_i (wc := []) (wr := [(mo, .inr (9, [.int (nI 0), .ref rpx, .int nb, .ref rca, .ref rpl, .ref rth, .ref rco, .ref rsh, .ref rsf, .ref rcr, .ref rep, .ref rby, .ref rli, .ref rls, .ref rla, .ref rcm, .ref rcs, .ref rpa, .ref rpm, .ref rpo, .ref rti, .ref rre, .ref rcl, .int (nI sz), .int (nI cs), .int (nI nx), .int (nI la)]))]) (w2 := fun _ => [(mo, .inr (9, [.int (nI 0), .ref rpx, .int nb, .ref rca, .ref rpl, .ref rth, .ref rco, .ref rsh, .ref rsf, .ref rcr, .ref rep, .ref rby, .ref rli, .ref rls, .ref rla, .ref rcm, .ref rcs, .ref rpa, .ref rpm, .ref rpo, .ref rti, .ref rre, .ref rcl, .int (nI sz), .int (nI cs), .int (nI nx), .int (nI la)]))]) [.int v] [] Bd ⟨gi_app (gi_c0 k_753 (gi_c0 k_754 (gi_c0 k_10 gi_nil))) (gi_tb0 k_755), rfl, by decide, by decide⟩ (show (parseMethodDescriptor "(I)Z").map (fun d => d.parameters.length) = some 1 by decide +kernel) (c_Mod_isViewer v ) (by decide +kernel) ⟨Nat.le_of_ble_eq_true rfl, Nat.le_of_ble_eq_true rfl⟩ hG hP hD hS hA [] [0] [0] (by decide) rfl rfl (fun _ => rfl) hl.1 rfl (Nat.le_of_ble_eq_true rfl) d_Mod_bytesBy_6 (fun r1 u3 H locs hp2 hP hD hS => ?_)
  have hP : va_P D classes [(mo, .inr (9, [.int (nI 0), .ref rpx, .int nb, .ref rca, .ref rpl, .ref rth, .ref rco, .ref rsh, .ref rsf, .ref rcr, .ref rep, .ref rby, .ref rli, .ref rls, .ref rla, .ref rcm, .ref rcs, .ref rpa, .ref rpm, .ref rpo, .ref rti, .ref rre, .ref rcl, .int (nI sz), .int (nI cs), .int (nI nx), .int (nI la)]))] H := hP
  have hD : va_D AA [(mo, .inr (9, [.int (nI 0), .ref rpx, .int nb, .ref rca, .ref rpl, .ref rth, .ref rco, .ref rsh, .ref rsf, .ref rcr, .ref rep, .ref rby, .ref rli, .ref rls, .ref rla, .ref rcm, .ref rcs, .ref rpa, .ref rpm, .ref rpo, .ref rti, .ref rre, .ref rcl, .int (nI sz), .int (nI cs), .int (nI nx), .int (nI la)]))] := hD
  subst hp2
  refine nv_if_eq (tgt := 36) hx hb d_Mod_bytesBy_9 (by decide) (bt_lt _) (fun c_9 => ?_) (fun c_9 => ?_)
  · refine lv_iconst (v := -1) hx hb d_Mod_bytesBy_36 (by decide) ?_
    exact hret _ () _ _ _ _ d_Mod_bytesBy_37 rfl (rfl) hP hD hS
  · refine lv_iload_n hx hb d_Mod_bytesBy_12 rfl (lv_at hl 2 rfl) ?_
    refine lv_if_lt (tgt := 36) hx hb d_Mod_bytesBy_13 (by decide) (fun c_13 => ?_) (fun c_13 => ?_)
    · refine lv_iconst (v := -1) hx hb d_Mod_bytesBy_36 (by decide) ?_
      exact hret _ () _ _ _ _ d_Mod_bytesBy_37 rfl (rfl) hP hD hS
    · refine lv_iload_n hx hb d_Mod_bytesBy_16 rfl (lv_at hl 2 rfl) ?_
      refine lv_bipush (v := nI 7) hx hb d_Mod_bytesBy_17 (by decide) ?_
      refine lv_icmp_ge (tgt := 36) hx hb d_Mod_bytesBy_19 (by decide) (fun c_19 => ?_) (fun c_19 => ?_)
      · refine lv_iconst (v := -1) hx hb d_Mod_bytesBy_36 (by decide) ?_
        exact hret _ () _ _ _ _ d_Mod_bytesBy_37 rfl (rfl) hP hD hS
      · exact absurd ⟨cB_1 c_9, ge_lt (by decide) c_13 c_19⟩ hno
set_option maxHeartbeats 400000 in
set_option maxRecDepth 100000 in
theorem c_Mod_onLine (mo : Nat) (cd : Int32) (rpx : Nat) (nb : Int32) (rca : Nat) (rpl : Nat) (rth : Nat) (rco : Nat) (rsh : Nat) (rsf : Nat) (rcr : Nat) (rep : Nat) (rby : Nat) (rli : Nat) (rls : Nat) (rla : Nat) (rcm : Nat) (rcs : Nat) (rpa : Nat) (rpm : Nat) (rpo : Nat) (rti : Nat) (rre : Nat) (rcl : Nat) (sz : Nat) (cs : Nat) (nx : Nat) (la : Nat) (Li : Nat → Nat) (Ls : Nat → Nat) (La : Nat → Nat) (v : Nat) (q : Int32) (hv : v < 3) (hla : La v ≤ Ls v) (hls : Ls v ≤ 6247) : CI (S := Unit) l classes NW D (TYS cI cZ cL cV) y_Mod_onLine (.code y_Mod_onLine b_Mod_onLine 3 (some .int) :: TB) { frames := 1, cells := 0, slots := 0, locals := 20 } [.ref mo, .int (nI v), .int q] [(mo, .inr (9, [.int cd, .ref rpx, .int nb, .ref rca, .ref rpl, .ref rth, .ref rco, .ref rsh, .ref rsf, .ref rcr, .ref rep, .ref rby, .ref rli, .ref rls, .ref rla, .ref rcm, .ref rcs, .ref rpa, .ref rpm, .ref rpo, .ref rti, .ref rre, .ref rcl, .int (nI sz), .int (nI cs), .int (nI nx), .int (nI la)])), (rli, .inl (cI, 18741, .inl (nF Li))), (rls, .inl (cI, 3, .inl (nF Ls))), (rla, .inl (cI, 3, .inl (nF La)))] (fun r u => (((∃ j, j < Ls v - La v ∧ q = nI j ∧ r = nI (Li (6247 * v + La v + j))) ∨ ((∀ j, j < Ls v - La v → q ≠ nI j) ∧ r = -1)))) (fun u => [(mo, .inr (9, [.int (nI 0), .ref rpx, .int nb, .ref rca, .ref rpl, .ref rth, .ref rco, .ref rsh, .ref rsf, .ref rcr, .ref rep, .ref rby, .ref rli, .ref rls, .ref rla, .ref rcm, .ref rcs, .ref rpa, .ref rpm, .ref rpo, .ref rti, .ref rre, .ref rcl, .int (nI sz), .int (nI cs), .int (nI nx), .int (nI la)])), (rli, .inl (cI, 18741, .inl (nF Li))), (rls, .inl (cI, 3, .inl (nF Ls))), (rla, .inl (cI, 3, .inl (nF La)))]) := by
  refine CI.of (by decide) (Nat.le_of_ble_eq_true rfl) ?_
  intro pr ev sT mM aR bW mE cO AA QQ ls Bd hG hA hP hD hS hl hret
  have Bd : bd pr cO b_Mod_onLine 3 sT aR TB "TileScreenModel" mM := Bd
  obtain ⟨hx, hb, hml, hown, htb⟩ := id Bd
  have hl : lv_has ls 3 [(0, .ref mo), (1, .int (nI v)), (2, .int q)] := hl
  refine lv_aload_n hx hb d_Mod_onLine_0 rfl (lv_at hl 0 rfl) ?_
  refine lv_iconst (v := nI 0) hx hb d_Mod_onLine_1 (by decide) ?_
  refine va_put (D := D) (ci := 9) (v := .int (nI 0)) (ty := .int) (C := "TileScreenModel") (T := F_Mod) (N := 27) hx hb htb i_Mod t_Mod t_Mod_ok n_Mod hown hG.1 hP hD hS 0 rfl rfl 0 (by decide) (htb _ k_635) (fun _ h9 => h9) rfl (by decide +kernel) rfl rfl (Nat.le_of_ble_eq_true rfl) d_Mod_onLine_2 (fun H locs hP hD hS => ?_)
  have hP : va_P D classes [(mo, .inr (9, [.int (nI 0), .ref rpx, .int nb, .ref rca, .ref rpl, .ref rth, .ref rco, .ref rsh, .ref rsf, .ref rcr, .ref rep, .ref rby, .ref rli, .ref rls, .ref rla, .ref rcm, .ref rcs, .ref rpa, .ref rpm, .ref rpo, .ref rti, .ref rre, .ref rcl, .int (nI sz), .int (nI cs), .int (nI nx), .int (nI la)])), (rli, .inl (cI, 18741, .inl (nF Li))), (rls, .inl (cI, 3, .inl (nF Ls))), (rla, .inl (cI, 3, .inl (nF La)))] H := hP
  have hD : va_D AA [(mo, .inr (9, [.int (nI 0), .ref rpx, .int nb, .ref rca, .ref rpl, .ref rth, .ref rco, .ref rsh, .ref rsf, .ref rcr, .ref rep, .ref rby, .ref rli, .ref rls, .ref rla, .ref rcm, .ref rcs, .ref rpa, .ref rpm, .ref rpo, .ref rti, .ref rre, .ref rcl, .int (nI sz), .int (nI cs), .int (nI nx), .int (nI la)])), (rli, .inl (cI, 18741, .inl (nF Li))), (rls, .inl (cI, 3, .inl (nF Ls))), (rla, .inl (cI, 3, .inl (nF La)))] := hD
  refine lv_iload_n hx hb d_Mod_onLine_5 rfl (lv_at hl 1 rfl) ?_
  refine kS_i (wc := []) (wr := [(mo, .inr (9, [.int (nI 0), .ref rpx, .int nb, .ref rca, .ref rpl, .ref rth, .ref rco, .ref rsh, .ref rsf, .ref rcr, .ref rep, .ref rby, .ref rli, .ref rls, .ref rla, .ref rcm, .ref rcs, .ref rpa, .ref rpm, .ref rpo, .ref rti, .ref rre, .ref rcl, .int (nI sz), .int (nI cs), .int (nI nx), .int (nI la)])), (rli, .inl (cI, 18741, .inl (nF Li))), (rls, .inl (cI, 3, .inl (nF Ls))), (rla, .inl (cI, 3, .inl (nF La)))]) (w2 := fun _ => [(mo, .inr (9, [.int (nI 0), .ref rpx, .int nb, .ref rca, .ref rpl, .ref rth, .ref rco, .ref rsh, .ref rsf, .ref rcr, .ref rep, .ref rby, .ref rli, .ref rls, .ref rla, .ref rcm, .ref rcs, .ref rpa, .ref rpm, .ref rpo, .ref rti, .ref rre, .ref rcl, .int (nI sz), .int (nI cs), .int (nI nx), .int (nI la)])), (rli, .inl (cI, 18741, .inl (nF Li))), (rls, .inl (cI, 3, .inl (nF Ls))), (rla, .inl (cI, 3, .inl (nF La)))]) [.int (nI v)] [] Bd ⟨gi_app (gi_c0 k_753 (gi_c0 k_754 (gi_c0 k_10 gi_nil))) (gi_tb0 k_755), rfl, by decide, by decide⟩ (show (parseMethodDescriptor "(I)Z").map (fun d => d.parameters.length) = some 1 by decide +kernel) (c_Mod_isViewer (nI v) ) (by decide +kernel) ⟨Nat.le_of_ble_eq_true rfl, Nat.le_of_ble_eq_true rfl⟩ hG hP hD hS hA [] [0, 1, 2, 3] [0, 1, 2, 3] (by decide) rfl rfl (fun _ => rfl) hl.1 rfl (Nat.le_of_ble_eq_true rfl) d_Mod_onLine_6 (fun r1 u3 H locs hp2 hP hD hS => ?_)
  have hP : va_P D classes [(mo, .inr (9, [.int (nI 0), .ref rpx, .int nb, .ref rca, .ref rpl, .ref rth, .ref rco, .ref rsh, .ref rsf, .ref rcr, .ref rep, .ref rby, .ref rli, .ref rls, .ref rla, .ref rcm, .ref rcs, .ref rpa, .ref rpm, .ref rpo, .ref rti, .ref rre, .ref rcl, .int (nI sz), .int (nI cs), .int (nI nx), .int (nI la)])), (rli, .inl (cI, 18741, .inl (nF Li))), (rls, .inl (cI, 3, .inl (nF Ls))), (rla, .inl (cI, 3, .inl (nF La)))] H := hP
  have hD : va_D AA [(mo, .inr (9, [.int (nI 0), .ref rpx, .int nb, .ref rca, .ref rpl, .ref rth, .ref rco, .ref rsh, .ref rsf, .ref rcr, .ref rep, .ref rby, .ref rli, .ref rls, .ref rla, .ref rcm, .ref rcs, .ref rpa, .ref rpm, .ref rpo, .ref rti, .ref rre, .ref rcl, .int (nI sz), .int (nI cs), .int (nI nx), .int (nI la)])), (rli, .inl (cI, 18741, .inl (nF Li))), (rls, .inl (cI, 3, .inl (nF Ls))), (rla, .inl (cI, 3, .inl (nF La)))] := hD
  subst hp2
  refine nv_if_eq (tgt := 55) hx hb d_Mod_onLine_9 (by decide) (bt_lt _) (fun c_9 => ?_) (fun c_9 => ?_)
  · exact absurd (vwP_i hv) (cB_0 c_9)
  · refine lv_iload_n hx hb d_Mod_onLine_12 rfl (lv_at hl 2 rfl) ?_
    refine lv_if_lt (tgt := 55) hx hb d_Mod_onLine_13 (by decide) (fun c_13 => ?_) (fun c_13 => ?_)
    · refine lv_iconst (v := -1) hx hb d_Mod_onLine_55 (by decide) ?_
      exact hret _ () _ _ _ _ d_Mod_onLine_56 rfl (Or.inr ⟨fun j hj q9 => absurd (q9 ▸ c_13) (nI_pos (by omega)), rfl⟩) hP hD hS
    · obtain ⟨j9, hj9, rfl⟩ := nI_of c_13
      refine lv_iload_n hx hb d_Mod_onLine_16 rfl (lv_at hl 2 rfl) ?_
      refine lv_aload_n hx hb d_Mod_onLine_17 rfl (lv_at hl 0 rfl) ?_
      refine va_get (D := D) (ci := 9) (v := .ref rls) (C := "TileScreenModel") (T := F_Mod) (N := 27) hx hb htb i_Mod hown hG.1 hP 0 rfl rfl 13 (by decide) (htb _ k_648) (fun _ h9 => h9) rfl d_Mod_onLine_18 ?_
      refine lv_iload_n hx hb d_Mod_onLine_21 rfl (lv_at hl 1 rfl) ?_
      refine nv_iald hx hb hG.1 hP 2 0 rfl rfl (by omega) (by omega) d_Mod_onLine_22 ?_
      refine lv_aload_n hx hb d_Mod_onLine_23 rfl (lv_at hl 0 rfl) ?_
      refine va_get (D := D) (ci := 9) (v := .ref rla) (C := "TileScreenModel") (T := F_Mod) (N := 27) hx hb htb i_Mod hown hG.1 hP 0 rfl rfl 14 (by decide) (htb _ k_649) (fun _ h9 => h9) rfl d_Mod_onLine_24 ?_
      refine lv_iload_n hx hb d_Mod_onLine_27 rfl (lv_at hl 1 rfl) ?_
      refine nv_iald hx hb hG.1 hP 3 0 rfl rfl (by omega) (by omega) d_Mod_onLine_28 ?_
      refine nv_isub hx hb (hla) d_Mod_onLine_29 ?_
      refine nv_icmp_ge (tgt := 55) hx hb d_Mod_onLine_30 (by decide) (by omega) (by omega) (fun c_30 => ?_) (fun c_30 => ?_)
      · refine lv_iconst (v := -1) hx hb d_Mod_onLine_55 (by decide) ?_
        exact hret _ () _ _ _ _ d_Mod_onLine_56 rfl (Or.inr ⟨fun j hj q9 => by have := neq hj9 (by omega) q9; omega, rfl⟩) hP hD hS
      · refine lv_aload_n hx hb d_Mod_onLine_33 rfl (lv_at hl 0 rfl) ?_
        refine va_get (D := D) (ci := 9) (v := .ref rli) (C := "TileScreenModel") (T := F_Mod) (N := 27) hx hb htb i_Mod hown hG.1 hP 0 rfl rfl 12 (by decide) (htb _ k_647) (fun _ h9 => h9) rfl d_Mod_onLine_34 ?_
        refine lv_sipush (v := nI 6247) hx hb d_Mod_onLine_37 (by decide) ?_
        refine lv_iload_n hx hb d_Mod_onLine_40 rfl (lv_at hl 1 rfl) ?_
        refine nv_imul hx hb d_Mod_onLine_41 ?_
        refine lv_aload_n hx hb d_Mod_onLine_42 rfl (lv_at hl 0 rfl) ?_
        refine va_get (D := D) (ci := 9) (v := .ref rla) (C := "TileScreenModel") (T := F_Mod) (N := 27) hx hb htb i_Mod hown hG.1 hP 0 rfl rfl 14 (by decide) (htb _ k_649) (fun _ h9 => h9) rfl d_Mod_onLine_43 ?_
        refine lv_iload_n hx hb d_Mod_onLine_46 rfl (lv_at hl 1 rfl) ?_
        refine nv_iald hx hb hG.1 hP 3 0 rfl rfl (by omega) (by omega) d_Mod_onLine_47 ?_
        refine nv_iadd hx hb d_Mod_onLine_48 ?_
        refine lv_iload_n hx hb d_Mod_onLine_49 rfl (lv_at hl 2 rfl) ?_
        refine nv_iadd hx hb d_Mod_onLine_50 ?_
        refine nv_iald hx hb hG.1 hP 1 0 rfl rfl (by omega) (by omega) d_Mod_onLine_51 ?_
        refine lv_goto (tgt := 56) hx hb d_Mod_onLine_52 (by decide) ?_
        exact hret _ () _ _ _ _ d_Mod_onLine_56 rfl (Or.inl ⟨j9, c_30, rfl, rfl⟩) hP hD hS
set_option maxHeartbeats 400000 in
set_option maxRecDepth 100000 in
theorem c_Mod_onLine_no (mo : Nat) (cd : Int32) (rpx : Nat) (nb : Int32) (rca : Nat) (rpl : Nat) (rth : Nat) (rco : Nat) (rsh : Nat) (rsf : Nat) (rcr : Nat) (rep : Nat) (rby : Nat) (rli : Nat) (rls : Nat) (rla : Nat) (rcm : Nat) (rcs : Nat) (rpa : Nat) (rpm : Nat) (rpo : Nat) (rti : Nat) (rre : Nat) (rcl : Nat) (sz : Nat) (cs : Nat) (nx : Nat) (la : Nat) (v : Int32) (q : Int32) (hno : ¬ vwP v) : CI (S := Unit) l classes NW D (TYS cI cZ cL cV) y_Mod_onLine (.code y_Mod_onLine b_Mod_onLine 3 (some .int) :: TB) { frames := 1, cells := 0, slots := 0, locals := 20 } [.ref mo, .int v, .int q] [(mo, .inr (9, [.int cd, .ref rpx, .int nb, .ref rca, .ref rpl, .ref rth, .ref rco, .ref rsh, .ref rsf, .ref rcr, .ref rep, .ref rby, .ref rli, .ref rls, .ref rla, .ref rcm, .ref rcs, .ref rpa, .ref rpm, .ref rpo, .ref rti, .ref rre, .ref rcl, .int (nI sz), .int (nI cs), .int (nI nx), .int (nI la)]))] (fun r u => r = (-1)) (fun u => [(mo, .inr (9, [.int (nI 0), .ref rpx, .int nb, .ref rca, .ref rpl, .ref rth, .ref rco, .ref rsh, .ref rsf, .ref rcr, .ref rep, .ref rby, .ref rli, .ref rls, .ref rla, .ref rcm, .ref rcs, .ref rpa, .ref rpm, .ref rpo, .ref rti, .ref rre, .ref rcl, .int (nI sz), .int (nI cs), .int (nI nx), .int (nI la)]))]) := by
  refine CI.of (by decide) (Nat.le_of_ble_eq_true rfl) ?_
  intro pr ev sT mM aR bW mE cO AA QQ ls Bd hG hA hP hD hS hl hret
  have Bd : bd pr cO b_Mod_onLine 3 sT aR TB "TileScreenModel" mM := Bd
  obtain ⟨hx, hb, hml, hown, htb⟩ := id Bd
  have hl : lv_has ls 3 [(0, .ref mo), (1, .int v), (2, .int q)] := hl
  refine lv_aload_n hx hb d_Mod_onLine_0 rfl (lv_at hl 0 rfl) ?_
  refine lv_iconst (v := nI 0) hx hb d_Mod_onLine_1 (by decide) ?_
  refine va_put (D := D) (ci := 9) (v := .int (nI 0)) (ty := .int) (C := "TileScreenModel") (T := F_Mod) (N := 27) hx hb htb i_Mod t_Mod t_Mod_ok n_Mod hown hG.1 hP hD hS 0 rfl rfl 0 (by decide) (htb _ k_635) (fun _ h9 => h9) rfl (by decide +kernel) rfl rfl (Nat.le_of_ble_eq_true rfl) d_Mod_onLine_2 (fun H locs hP hD hS => ?_)
  have hP : va_P D classes [(mo, .inr (9, [.int (nI 0), .ref rpx, .int nb, .ref rca, .ref rpl, .ref rth, .ref rco, .ref rsh, .ref rsf, .ref rcr, .ref rep, .ref rby, .ref rli, .ref rls, .ref rla, .ref rcm, .ref rcs, .ref rpa, .ref rpm, .ref rpo, .ref rti, .ref rre, .ref rcl, .int (nI sz), .int (nI cs), .int (nI nx), .int (nI la)]))] H := hP
  have hD : va_D AA [(mo, .inr (9, [.int (nI 0), .ref rpx, .int nb, .ref rca, .ref rpl, .ref rth, .ref rco, .ref rsh, .ref rsf, .ref rcr, .ref rep, .ref rby, .ref rli, .ref rls, .ref rla, .ref rcm, .ref rcs, .ref rpa, .ref rpm, .ref rpo, .ref rti, .ref rre, .ref rcl, .int (nI sz), .int (nI cs), .int (nI nx), .int (nI la)]))] := hD
  refine lv_iload_n hx hb d_Mod_onLine_5 rfl (lv_at hl 1 rfl) ?_
  refine kS_i (wc := []) (wr := [(mo, .inr (9, [.int (nI 0), .ref rpx, .int nb, .ref rca, .ref rpl, .ref rth, .ref rco, .ref rsh, .ref rsf, .ref rcr, .ref rep, .ref rby, .ref rli, .ref rls, .ref rla, .ref rcm, .ref rcs, .ref rpa, .ref rpm, .ref rpo, .ref rti, .ref rre, .ref rcl, .int (nI sz), .int (nI cs), .int (nI nx), .int (nI la)]))]) (w2 := fun _ => [(mo, .inr (9, [.int (nI 0), .ref rpx, .int nb, .ref rca, .ref rpl, .ref rth, .ref rco, .ref rsh, .ref rsf, .ref rcr, .ref rep, .ref rby, .ref rli, .ref rls, .ref rla, .ref rcm, .ref rcs, .ref rpa, .ref rpm, .ref rpo, .ref rti, .ref rre, .ref rcl, .int (nI sz), .int (nI cs), .int (nI nx), .int (nI la)]))]) [.int v] [] Bd ⟨gi_app (gi_c0 k_753 (gi_c0 k_754 (gi_c0 k_10 gi_nil))) (gi_tb0 k_755), rfl, by decide, by decide⟩ (show (parseMethodDescriptor "(I)Z").map (fun d => d.parameters.length) = some 1 by decide +kernel) (c_Mod_isViewer v ) (by decide +kernel) ⟨Nat.le_of_ble_eq_true rfl, Nat.le_of_ble_eq_true rfl⟩ hG hP hD hS hA [] [0] [0] (by decide) rfl rfl (fun _ => rfl) hl.1 rfl (Nat.le_of_ble_eq_true rfl) d_Mod_onLine_6 (fun r1 u3 H locs hp2 hP hD hS => ?_)
  have hP : va_P D classes [(mo, .inr (9, [.int (nI 0), .ref rpx, .int nb, .ref rca, .ref rpl, .ref rth, .ref rco, .ref rsh, .ref rsf, .ref rcr, .ref rep, .ref rby, .ref rli, .ref rls, .ref rla, .ref rcm, .ref rcs, .ref rpa, .ref rpm, .ref rpo, .ref rti, .ref rre, .ref rcl, .int (nI sz), .int (nI cs), .int (nI nx), .int (nI la)]))] H := hP
  have hD : va_D AA [(mo, .inr (9, [.int (nI 0), .ref rpx, .int nb, .ref rca, .ref rpl, .ref rth, .ref rco, .ref rsh, .ref rsf, .ref rcr, .ref rep, .ref rby, .ref rli, .ref rls, .ref rla, .ref rcm, .ref rcs, .ref rpa, .ref rpm, .ref rpo, .ref rti, .ref rre, .ref rcl, .int (nI sz), .int (nI cs), .int (nI nx), .int (nI la)]))] := hD
  subst hp2
  refine nv_if_eq (tgt := 55) hx hb d_Mod_onLine_9 (by decide) (bt_lt _) (fun c_9 => ?_) (fun c_9 => ?_)
  · refine lv_iconst (v := -1) hx hb d_Mod_onLine_55 (by decide) ?_
    exact hret _ () _ _ _ _ d_Mod_onLine_56 rfl (rfl) hP hD hS
  · exact absurd (cB_1 c_9) hno
end
