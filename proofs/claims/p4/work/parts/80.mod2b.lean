section
variable {l : Launch} {D : va_G} {cI cZ cL cV : ClassId}
set_option maxHeartbeats 400000 in
set_option maxRecDepth 100000 in
theorem c_Mod_numberOf (mo : Nat) (cd : Int32) (rpx : Nat) (nb : Int32) (rca : Nat) (rpl : Nat) (rth : Nat) (rco : Nat) (rsh : Nat) (rsf : Nat) (rcr : Nat) (rep : Nat) (rby : Nat) (rli : Nat) (rls : Nat) (rla : Nat) (rcm : Nat) (rcs : Nat) (rpa : Nat) (rpm : Nat) (rpo : Nat) (rti : Nat) (rre : Nat) (rcl : Nat) (sz : Nat) (cs : Nat) (nx : Nat) (la : Nat) (Co : Nat → Nat) (c9 : Nat) (hcs : cs ≤ 64) (bCo : ∀ j, Co j < 65536) (hc9 : c9 < 65536) : CI (S := Nat) l classes NW D (TYS cI cZ cL cV) y_Mod_numberOf (.code y_Mod_numberOf b_Mod_numberOf 3 (some .int) :: TB) { frames := 0, cells := 0, slots := 0, locals := 0 } [.ref mo, .int (nI c9)] [(mo, .inr (9, [.int cd, .ref rpx, .int nb, .ref rca, .ref rpl, .ref rth, .ref rco, .ref rsh, .ref rsf, .ref rcr, .ref rep, .ref rby, .ref rli, .ref rls, .ref rla, .ref rcm, .ref rcs, .ref rpa, .ref rpm, .ref rpo, .ref rti, .ref rre, .ref rcl, .int (nI sz), .int (nI cs), .int (nI nx), .int (nI la)])), (rcl, .inl (cI, 64, .inl (nF Co)))] (fun r u => r = nI u ∧ u ≤ cs) (fun u => [(mo, .inr (9, [.int cd, .ref rpx, .int nb, .ref rca, .ref rpl, .ref rth, .ref rco, .ref rsh, .ref rsf, .ref rcr, .ref rep, .ref rby, .ref rli, .ref rls, .ref rla, .ref rcm, .ref rcs, .ref rpa, .ref rpm, .ref rpo, .ref rti, .ref rre, .ref rcl, .int (nI sz), .int (nI cs), .int (nI nx), .int (nI la)])), (rcl, .inl (cI, 64, .inl (nF Co)))]) := by
  refine CI.of (by decide) (Nat.le_of_ble_eq_true rfl) ?_
  intro pr ev sT mM aR bW mE cO AA QQ ls Bd hG hA hP hD hS hl hret
  have Bd : bd pr cO b_Mod_numberOf 3 sT aR TB "TileScreenModel" mM := Bd
  obtain ⟨hx, hb, hml, hown, htb⟩ := id Bd
  have hl : lv_has ls 3 [(0, .ref mo), (1, .int (nI c9))] := hl
  refine lv_iconst (v := nI 0) hx hb d_Mod_numberOf_0 (by decide) ?_
  refine lv_istore_n (lv' := [(2, .int (nI 0)), (0, .ref mo), (1, .int (nI c9))]) hx hb d_Mod_numberOf_1 rfl hl (by decide) rfl (fun ls hl => ?_)
  have lp_2 : ∀ (nn : Nat) (k : Nat) (hk : k ≤ cs), cs - k < nn → ∀ (H : Heap) (locs : List Loc) (ls : Array Slot), va_P D classes [(mo, .inr (9, [.int cd, .ref rpx, .int nb, .ref rca, .ref rpl, .ref rth, .ref rco, .ref rsh, .ref rsf, .ref rcr, .ref rep, .ref rby, .ref rli, .ref rls, .ref rla, .ref rcm, .ref rcs, .ref rpa, .ref rpm, .ref rpo, .ref rti, .ref rre, .ref rcl, .int (nI sz), .int (nI cs), .int (nI nx), .int (nI la)])), (rcl, .inl (cI, 64, .inl (nF Co)))] H → va_D AA [(mo, .inr (9, [.int cd, .ref rpx, .int nb, .ref rca, .ref rpl, .ref rth, .ref rco, .ref rsh, .ref rsf, .ref rcr, .ref rep, .ref rby, .ref rli, .ref rls, .ref rla, .ref rcm, .ref rcs, .ref rpa, .ref rpm, .ref rpo, .ref rti, .ref rre, .ref rcl, .int (nI sz), .int (nI cs), .int (nI nx), .int (nI la)])), (rcl, .inl (cI, 64, .inl (nF Co)))] → va_S AA sT.heap H locs → lv_has ls 3 [(2, .int (nI k)), (0, .ref mo), (1, .int (nI c9))] → W pr l ev ({ frames := 0, cells := 0, slots := 0, locals := 0 } : Room) sT mM aR bW mE cO H locs 0 0 QQ (F0 mM 2 ls []) := by
    intro nn
    induction nn with
    | zero => intro k hk hm; exact absurd hm (Nat.not_lt_zero _)
    | succ nn ih2 =>
      intro k hk hm H locs ls hP hD hS hl
      refine lv_iload_n hx hb d_Mod_numberOf_2 rfl (lv_at hl 0 rfl) ?_
      refine lv_aload_n hx hb d_Mod_numberOf_3 rfl (lv_at hl 1 rfl) ?_
      refine va_get (D := D) (ci := 9) (v := .int (nI cs)) (C := "TileScreenModel") (T := F_Mod) (N := 27) hx hb htb i_Mod hown hG.1 hP 0 rfl rfl 24 (by decide) (htb _ k_659) (fun _ h9 => h9) rfl d_Mod_numberOf_4 ?_
      refine nv_icmp_ge (tgt := 26) hx hb d_Mod_numberOf_7 (by decide) (by omega) (by omega) (fun c_7 => ?_) (fun c_7 => ?_)
      · refine lv_iload_n hx hb d_Mod_numberOf_26 rfl (lv_at hl 0 rfl) ?_
        exact hret _ k _ _ _ _ d_Mod_numberOf_27 rfl (⟨rfl, hk⟩) hP hD hS
      · refine lv_aload_n hx hb d_Mod_numberOf_10 rfl (lv_at hl 1 rfl) ?_
        refine va_get (D := D) (ci := 9) (v := .ref rcl) (C := "TileScreenModel") (T := F_Mod) (N := 27) hx hb htb i_Mod hown hG.1 hP 0 rfl rfl 22 (by decide) (htb _ k_657) (fun _ h9 => h9) rfl d_Mod_numberOf_11 ?_
        refine lv_iload_n hx hb d_Mod_numberOf_14 rfl (lv_at hl 0 rfl) ?_
        refine nv_iald hx hb hG.1 hP 1 0 rfl rfl (by omega) (by omega) d_Mod_numberOf_15 ?_
        refine lv_iload_n hx hb d_Mod_numberOf_16 rfl (lv_at hl 2 rfl) ?_
        refine nv_icmp_eq (tgt := 26) hx hb d_Mod_numberOf_17 (by decide) (Nat.lt_trans (bCo _) (by decide)) (Nat.lt_trans hc9 (by decide)) (fun c_17 => ?_) (fun c_17 => ?_)
        · refine lv_iload_n hx hb d_Mod_numberOf_26 rfl (lv_at hl 0 rfl) ?_
          exact hret _ k _ _ _ _ d_Mod_numberOf_27 rfl (⟨rfl, hk⟩) hP hD hS
        · refine lv_iinc (v := (nI (k + 1))) (lv' := [(2, .int (nI (k + 1))), (0, .ref mo), (1, .int (nI c9))]) hx hb d_Mod_numberOf_20 hl (k := 0) rfl (nI_add k 1) (by decide) rfl (fun ls hl => ?_)
          refine lv_goto (tgt := 2) hx hb d_Mod_numberOf_23 (by decide) ?_
          exact ih2 (k + 1) (by omega) (by omega) _ _ _ hP hD hS (lv_sub hl [0, 1, 2] rfl)
  exact lp_2 _ 0 (Nat.zero_le _) (Nat.lt_succ_self _) _ _ _ hP hD hS (lv_sub hl [0, 1, 2] rfl)
set_option maxHeartbeats 400000 in
set_option maxRecDepth 100000 in
theorem c_Mod_findColours (mo : Nat) (cd : Int32) (rpx : Nat) (nb : Int32) (rca : Nat) (rpl : Nat) (rth : Nat) (rco : Nat) (rsh : Nat) (rsf : Nat) (rcr : Nat) (rep : Nat) (rby : Nat) (rli : Nat) (rls : Nat) (rla : Nat) (rcm : Nat) (rcs : Nat) (rpa : Nat) (rpm : Nat) (rpo : Nat) (rti : Nat) (rre : Nat) (rcl : Nat) (sz : Nat) (cs : Nat) (nx : Nat) (la : Nat) (Ti : Nat → Nat) (Co : Nat → Nat) (bTi : ∀ j, Ti j < 65536) (bCo : ∀ j, Co j < 65536) : CV (S := Nat × (Nat → Nat)) l classes NW D (TYS cI cZ cL cV) y_Mod_findColours (.code y_Mod_findColours b_Mod_findColours 2 none :: TB) { frames := 1, cells := 0, slots := 0, locals := 22 } [.ref mo] [(mo, .inr (9, [.int cd, .ref rpx, .int nb, .ref rca, .ref rpl, .ref rth, .ref rco, .ref rsh, .ref rsf, .ref rcr, .ref rep, .ref rby, .ref rli, .ref rls, .ref rla, .ref rcm, .ref rcs, .ref rpa, .ref rpm, .ref rpo, .ref rti, .ref rre, .ref rcl, .int (nI sz), .int (nI cs), .int (nI nx), .int (nI la)])), (rti, .inl (cI, 64, .inl (nF Ti))), (rcl, .inl (cI, 64, .inl (nF Co)))] (fun u => u.1 ≤ 64 ∧ (∀ j, u.2 j < 65536)) (fun u => [(mo, .inr (9, [.int cd, .ref rpx, .int nb, .ref rca, .ref rpl, .ref rth, .ref rco, .ref rsh, .ref rsf, .ref rcr, .ref rep, .ref rby, .ref rli, .ref rls, .ref rla, .ref rcm, .ref rcs, .ref rpa, .ref rpm, .ref rpo, .ref rti, .ref rre, .ref rcl, .int (nI sz), .int (nI u.1), .int (nI nx), .int (nI la)])), (rti, .inl (cI, 64, .inl (nF Ti))), (rcl, .inl (cI, 64, .inl (nF u.2)))]) := by
  refine CV.of (by decide) (Nat.le_of_ble_eq_true rfl) ?_
  intro pr ev sT mM aR bW mE cO AA QQ ls Bd hG hA hP hD hS hl hnm hret
  have Bd : bd pr cO b_Mod_findColours 2 sT aR TB "TileScreenModel" mM := Bd
  obtain ⟨hx, hb, hml, hown, htb⟩ := id Bd
  have hl : lv_has ls 2 [(0, .ref mo)] := hl
  refine lv_aload_n hx hb d_Mod_findColours_0 rfl (lv_at hl 0 rfl) ?_
  refine lv_iconst (v := nI 0) hx hb d_Mod_findColours_1 (by decide) ?_
  refine va_put (D := D) (ci := 9) (v := .int (nI 0)) (ty := .int) (C := "TileScreenModel") (T := F_Mod) (N := 27) hx hb htb i_Mod t_Mod t_Mod_ok n_Mod hown hG.1 hP hD hS 0 rfl rfl 24 (by decide) (htb _ k_659) (fun _ h9 => h9) rfl (by decide +kernel) rfl rfl (Nat.le_of_ble_eq_true rfl) d_Mod_findColours_2 (fun H locs hP hD hS => ?_)
  have hP : va_P D classes [(mo, .inr (9, [.int cd, .ref rpx, .int nb, .ref rca, .ref rpl, .ref rth, .ref rco, .ref rsh, .ref rsf, .ref rcr, .ref rep, .ref rby, .ref rli, .ref rls, .ref rla, .ref rcm, .ref rcs, .ref rpa, .ref rpm, .ref rpo, .ref rti, .ref rre, .ref rcl, .int (nI sz), .int (nI 0), .int (nI nx), .int (nI la)])), (rti, .inl (cI, 64, .inl (nF Ti))), (rcl, .inl (cI, 64, .inl (nF Co)))] H := hP
  have hD : va_D AA [(mo, .inr (9, [.int cd, .ref rpx, .int nb, .ref rca, .ref rpl, .ref rth, .ref rco, .ref rsh, .ref rsf, .ref rcr, .ref rep, .ref rby, .ref rli, .ref rls, .ref rla, .ref rcm, .ref rcs, .ref rpa, .ref rpm, .ref rpo, .ref rti, .ref rre, .ref rcl, .int (nI sz), .int (nI 0), .int (nI nx), .int (nI la)])), (rti, .inl (cI, 64, .inl (nF Ti))), (rcl, .inl (cI, 64, .inl (nF Co)))] := hD
  refine lv_iconst (v := nI 0) hx hb d_Mod_findColours_5 (by decide) ?_
  refine lv_istore_n (lv' := [(1, .int (nI 0)), (0, .ref mo)]) hx hb d_Mod_findColours_6 rfl hl (by decide) rfl (fun ls hl => ?_)
  have lp_7 : ∀ (nn : Nat) (k : Nat) (cs1 : Nat) (Co1 : Nat → Nat) (hk : k ≤ 64) (hc1 : cs1 ≤ k) (bC1 : ∀ j, Co1 j < 65536), 64 - k < nn → ∀ (H : Heap) (locs : List Loc) (ls : Array Slot), va_P D classes [(mo, .inr (9, [.int cd, .ref rpx, .int nb, .ref rca, .ref rpl, .ref rth, .ref rco, .ref rsh, .ref rsf, .ref rcr, .ref rep, .ref rby, .ref rli, .ref rls, .ref rla, .ref rcm, .ref rcs, .ref rpa, .ref rpm, .ref rpo, .ref rti, .ref rre, .ref rcl, .int (nI sz), .int (nI cs1), .int (nI nx), .int (nI la)])), (rti, .inl (cI, 64, .inl (nF Ti))), (rcl, .inl (cI, 64, .inl (nF Co1)))] H → va_D AA [(mo, .inr (9, [.int cd, .ref rpx, .int nb, .ref rca, .ref rpl, .ref rth, .ref rco, .ref rsh, .ref rsf, .ref rcr, .ref rep, .ref rby, .ref rli, .ref rls, .ref rla, .ref rcm, .ref rcs, .ref rpa, .ref rpm, .ref rpo, .ref rti, .ref rre, .ref rcl, .int (nI sz), .int (nI cs1), .int (nI nx), .int (nI la)])), (rti, .inl (cI, 64, .inl (nF Ti))), (rcl, .inl (cI, 64, .inl (nF Co1)))] → va_S AA sT.heap H locs → lv_has ls 2 [(1, .int (nI k)), (0, .ref mo)] → W pr l ev ({ frames := 1, cells := 0, slots := 0, locals := 22 } : Room) sT mM aR bW mE cO H locs 0 0 QQ (F0 mM 7 ls []) := by
    intro nn
    induction nn with
    | zero => intro k cs1 Co1 hk hc1 bC1 hm; exact absurd hm (Nat.not_lt_zero _)
    | succ nn ih7 =>
      intro k cs1 Co1 hk hc1 bC1 hm H locs ls hP hD hS hl
      refine lv_iload_n hx hb d_Mod_findColours_7 rfl (lv_at hl 0 rfl) ?_
      refine lv_bipush (v := nI 64) hx hb d_Mod_findColours_8 (by decide) ?_
      refine nv_icmp_ge (tgt := 64) hx hb d_Mod_findColours_10 (by decide) (by omega) (by omega) (fun c_10 => ?_) (fun c_10 => ?_)
      · have hR := hret (cs1, Co1) H locs 64 ls d_Mod_findColours_64
        try dsimp only at hR
        exact hR (⟨by omega, bC1⟩) hP hD hS
      · refine lv_aload_n hx hb d_Mod_findColours_13 rfl (lv_at hl 1 rfl) ?_
        refine lv_aload_n hx hb d_Mod_findColours_14 rfl (lv_at hl 1 rfl) ?_
        refine va_get (D := D) (ci := 9) (v := .ref rti) (C := "TileScreenModel") (T := F_Mod) (N := 27) hx hb htb i_Mod hown hG.1 hP 0 rfl rfl 20 (by decide) (htb _ k_655) (fun _ h9 => h9) rfl d_Mod_findColours_15 ?_
        refine lv_iload_n hx hb d_Mod_findColours_18 rfl (lv_at hl 0 rfl) ?_
        refine nv_iald hx hb hG.1 hP 1 0 rfl rfl (by omega) (by omega) d_Mod_findColours_19 ?_
        refine kV_i (wc := [(mo, .inr (9, [.int cd, .ref rpx, .int nb, .ref rca, .ref rpl, .ref rth, .ref rco, .ref rsh, .ref rsf, .ref rcr, .ref rep, .ref rby, .ref rli, .ref rls, .ref rla, .ref rcm, .ref rcs, .ref rpa, .ref rpm, .ref rpo, .ref rti, .ref rre, .ref rcl, .int (nI sz), .int (nI cs1), .int (nI nx), .int (nI la)])), (rcl, .inl (cI, 64, .inl (nF Co1)))]) (wr := [(rti, .inl (cI, 64, .inl (nF Ti)))]) (w2 := fun u => [(mo, .inr (9, [.int cd, .ref rpx, .int nb, .ref rca, .ref rpl, .ref rth, .ref rco, .ref rsh, .ref rsf, .ref rcr, .ref rep, .ref rby, .ref rli, .ref rls, .ref rla, .ref rcm, .ref rcs, .ref rpa, .ref rpm, .ref rpo, .ref rti, .ref rre, .ref rcl, .int (nI sz), .int (nI cs1), .int (nI nx), .int (nI la)])), (rti, .inl (cI, 64, .inl (nF Ti))), (rcl, .inl (cI, 64, .inl (nF Co1)))]) [.int (nI (Ti k))] [] Bd ⟨gi_app (gi_c0 k_789 (gi_c0 k_791 (gi_c0 s_28 (gi_c0 k_10 gi_nil)))) (gi_tb0 k_792), rfl, by decide, by decide⟩ (show (parseMethodDescriptor "(I)I").map (fun d => d.parameters.length) = some 1 by decide +kernel) (c_Mod_numberOf mo cd rpx nb rca rpl rth rco rsh rsf rcr rep rby rli rls rla rcm rcs rpa rpm rpo rti rre rcl sz cs1 nx la Co1 (Ti k) (by omega) (bC1) (bTi _)) (by decide +kernel) ⟨Nat.le_of_ble_eq_true rfl, Nat.le_of_ble_eq_true rfl⟩ hG hP hD hS hA [0, 2] [1] [1, 0, 2] (by decide) rfl rfl (fun _ => rfl) (q0 := 0) rfl rfl rfl hl.1 rfl (Nat.le_of_ble_eq_true rfl) d_Mod_findColours_20 (fun r3 u5 H locs hp4 hP hD hS => ?_)
        obtain ⟨u2, rfl⟩ : ∃ z9, z9 = u5 := ⟨_, rfl⟩
        try dsimp only at hp4
        have hP : va_P D classes [(mo, .inr (9, [.int cd, .ref rpx, .int nb, .ref rca, .ref rpl, .ref rth, .ref rco, .ref rsh, .ref rsf, .ref rcr, .ref rep, .ref rby, .ref rli, .ref rls, .ref rla, .ref rcm, .ref rcs, .ref rpa, .ref rpm, .ref rpo, .ref rti, .ref rre, .ref rcl, .int (nI sz), .int (nI cs1), .int (nI nx), .int (nI la)])), (rti, .inl (cI, 64, .inl (nF Ti))), (rcl, .inl (cI, 64, .inl (nF Co1)))] H := hP
        have hD : va_D AA [(mo, .inr (9, [.int cd, .ref rpx, .int nb, .ref rca, .ref rpl, .ref rth, .ref rco, .ref rsh, .ref rsf, .ref rcr, .ref rep, .ref rby, .ref rli, .ref rls, .ref rla, .ref rcm, .ref rcs, .ref rpa, .ref rpm, .ref rpo, .ref rti, .ref rre, .ref rcl, .int (nI sz), .int (nI cs1), .int (nI nx), .int (nI la)])), (rti, .inl (cI, 64, .inl (nF Ti))), (rcl, .inl (cI, 64, .inl (nF Co1)))] := hD
        obtain ⟨rfl, hp6⟩ := hp4
        refine lv_aload_n hx hb d_Mod_findColours_23 rfl (lv_at hl 1 rfl) ?_
        refine va_get (D := D) (ci := 9) (v := .int (nI cs1)) (C := "TileScreenModel") (T := F_Mod) (N := 27) hx hb htb i_Mod hown hG.1 hP 0 rfl rfl 24 (by decide) (htb _ k_659) (fun _ h9 => h9) rfl d_Mod_findColours_24 ?_
        refine nv_icmp_ge (tgt := 33) hx hb d_Mod_findColours_27 (by decide) (by omega) (by omega) (fun c_27 => ?_) (fun c_27 => ?_)
        · refine lv_aload_n hx hb d_Mod_findColours_33 rfl (lv_at hl 1 rfl) ?_
          refine va_get (D := D) (ci := 9) (v := .ref rcl) (C := "TileScreenModel") (T := F_Mod) (N := 27) hx hb htb i_Mod hown hG.1 hP 0 rfl rfl 22 (by decide) (htb _ k_657) (fun _ h9 => h9) rfl d_Mod_findColours_34 ?_
          refine lv_aload_n hx hb d_Mod_findColours_37 rfl (lv_at hl 1 rfl) ?_
          refine va_get (D := D) (ci := 9) (v := .int (nI cs1)) (C := "TileScreenModel") (T := F_Mod) (N := 27) hx hb htb i_Mod hown hG.1 hP 0 rfl rfl 24 (by decide) (htb _ k_659) (fun _ h9 => h9) rfl d_Mod_findColours_38 ?_
          refine lv_aload_n hx hb d_Mod_findColours_41 rfl (lv_at hl 1 rfl) ?_
          refine va_get (D := D) (ci := 9) (v := .ref rti) (C := "TileScreenModel") (T := F_Mod) (N := 27) hx hb htb i_Mod hown hG.1 hP 0 rfl rfl 20 (by decide) (htb _ k_655) (fun _ h9 => h9) rfl d_Mod_findColours_42 ?_
          refine lv_iload_n hx hb d_Mod_findColours_45 rfl (lv_at hl 0 rfl) ?_
          refine nv_iald hx hb hG.1 hP 1 0 rfl rfl (by omega) (by omega) d_Mod_findColours_46 ?_
          refine nv_iast hx hb hG.1 hP hD hS 2 0 rfl rfl (by omega) (by omega) d_Mod_findColours_47 (fun H locs hP hD hS => ?_)
          have hP : va_P D classes [(mo, .inr (9, [.int cd, .ref rpx, .int nb, .ref rca, .ref rpl, .ref rth, .ref rco, .ref rsh, .ref rsf, .ref rcr, .ref rep, .ref rby, .ref rli, .ref rls, .ref rla, .ref rcm, .ref rcs, .ref rpa, .ref rpm, .ref rpo, .ref rti, .ref rre, .ref rcl, .int (nI sz), .int (nI cs1), .int (nI nx), .int (nI la)])), (rti, .inl (cI, 64, .inl (nF Ti))), (rcl, .inl (cI, 64, .inl (nF (up Co1 cs1 (Ti k)))))] H := hP
          have hD : va_D AA [(mo, .inr (9, [.int cd, .ref rpx, .int nb, .ref rca, .ref rpl, .ref rth, .ref rco, .ref rsh, .ref rsf, .ref rcr, .ref rep, .ref rby, .ref rli, .ref rls, .ref rla, .ref rcm, .ref rcs, .ref rpa, .ref rpm, .ref rpo, .ref rti, .ref rre, .ref rcl, .int (nI sz), .int (nI cs1), .int (nI nx), .int (nI la)])), (rti, .inl (cI, 64, .inl (nF Ti))), (rcl, .inl (cI, 64, .inl (nF (up Co1 cs1 (Ti k)))))] := hD
          refine lv_aload_n hx hb d_Mod_findColours_48 rfl (lv_at hl 1 rfl) ?_
          refine lv_dup hx hb d_Mod_findColours_49 rfl ?_
          refine va_get (D := D) (ci := 9) (v := .int (nI cs1)) (C := "TileScreenModel") (T := F_Mod) (N := 27) hx hb htb i_Mod hown hG.1 hP 0 rfl rfl 24 (by decide) (htb _ k_659) (fun _ h9 => h9) rfl d_Mod_findColours_50 ?_
          refine lv_iconst (v := nI 1) hx hb d_Mod_findColours_53 (by decide) ?_
          refine nv_iadd hx hb d_Mod_findColours_54 ?_
          refine va_put (D := D) (ci := 9) (v := .int (nI (cs1 + 1))) (ty := .int) (C := "TileScreenModel") (T := F_Mod) (N := 27) hx hb htb i_Mod t_Mod t_Mod_ok n_Mod hown hG.1 hP hD hS 0 rfl rfl 24 (by decide) (htb _ k_659) (fun _ h9 => h9) rfl (by decide +kernel) rfl rfl (Nat.le_of_ble_eq_true rfl) d_Mod_findColours_55 (fun H locs hP hD hS => ?_)
          have hP : va_P D classes [(mo, .inr (9, [.int cd, .ref rpx, .int nb, .ref rca, .ref rpl, .ref rth, .ref rco, .ref rsh, .ref rsf, .ref rcr, .ref rep, .ref rby, .ref rli, .ref rls, .ref rla, .ref rcm, .ref rcs, .ref rpa, .ref rpm, .ref rpo, .ref rti, .ref rre, .ref rcl, .int (nI sz), .int (nI (cs1 + 1)), .int (nI nx), .int (nI la)])), (rti, .inl (cI, 64, .inl (nF Ti))), (rcl, .inl (cI, 64, .inl (nF (up Co1 cs1 (Ti k)))))] H := hP
          have hD : va_D AA [(mo, .inr (9, [.int cd, .ref rpx, .int nb, .ref rca, .ref rpl, .ref rth, .ref rco, .ref rsh, .ref rsf, .ref rcr, .ref rep, .ref rby, .ref rli, .ref rls, .ref rla, .ref rcm, .ref rcs, .ref rpa, .ref rpm, .ref rpo, .ref rti, .ref rre, .ref rcl, .int (nI sz), .int (nI (cs1 + 1)), .int (nI nx), .int (nI la)])), (rti, .inl (cI, 64, .inl (nF Ti))), (rcl, .inl (cI, 64, .inl (nF (up Co1 cs1 (Ti k)))))] := hD
          refine lv_iinc (v := (nI (k + 1))) (lv' := [(1, .int (nI (k + 1))), (0, .ref mo)]) hx hb d_Mod_findColours_58 hl (k := 0) rfl (nI_add k 1) (by decide) rfl (fun ls hl => ?_)
          refine lv_goto (tgt := 7) hx hb d_Mod_findColours_61 (by decide) ?_
          exact ih7 (k + 1) (cs1 + 1) (up Co1 cs1 (Ti k)) (by omega) (by omega) (up_lt bC1 (bTi _)) (by omega) _ _ _ hP hD hS (lv_sub hl [0, 1] rfl)
        · refine lv_goto (tgt := 58) hx hb d_Mod_findColours_30 (by decide) ?_
          refine lv_iinc (v := (nI (k + 1))) (lv' := [(1, .int (nI (k + 1))), (0, .ref mo)]) hx hb d_Mod_findColours_58 hl (k := 0) rfl (nI_add k 1) (by decide) rfl (fun ls hl => ?_)
          refine lv_goto (tgt := 7) hx hb d_Mod_findColours_61 (by decide) ?_
          exact ih7 (k + 1) cs1 Co1 (by omega) (by omega) (bC1) (by omega) _ _ _ hP hD hS (lv_sub hl [0, 1] rfl)
  exact lp_7 _ 0 0 Co (Nat.zero_le _) (Nat.zero_le _) (bCo) (Nat.lt_succ_self _) _ _ _ hP hD hS (lv_sub hl [0, 1] rfl)
set_option maxHeartbeats 400000 in
set_option maxRecDepth 100000 in
theorem c_Mod_put (mo : Nat) (cd : Int32) (rpx : Nat) (nb : Int32) (rca : Nat) (rpl : Nat) (rth : Nat) (rco : Nat) (rsh : Nat) (rsf : Nat) (rcr : Nat) (rep : Nat) (rby : Nat) (rli : Nat) (rls : Nat) (rla : Nat) (rcm : Nat) (rcs : Nat) (rpa : Nat) (rpm : Nat) (rpo : Nat) (rti : Nat) (rre : Nat) (rcl : Nat) (sz : Nat) (cs : Nat) (nx : Nat) (la : Nat) (Re : Nat → Nat) (b9 : Int32) (hs : sz < 256) : CV (S := Unit) l classes NW D (TYS cI cZ cL cV) y_Mod_put (.code y_Mod_put b_Mod_put 2 none :: TB) { frames := 0, cells := 0, slots := 0, locals := 0 } [.ref mo, .int b9] [(mo, .inr (9, [.int cd, .ref rpx, .int nb, .ref rca, .ref rpl, .ref rth, .ref rco, .ref rsh, .ref rsf, .ref rcr, .ref rep, .ref rby, .ref rli, .ref rls, .ref rla, .ref rcm, .ref rcs, .ref rpa, .ref rpm, .ref rpo, .ref rti, .ref rre, .ref rcl, .int (nI sz), .int (nI cs), .int (nI nx), .int (nI la)])), (rre, .inl (cI, 256, .inl (nF Re)))] (fun u => True) (fun u => [(mo, .inr (9, [.int cd, .ref rpx, .int nb, .ref rca, .ref rpl, .ref rth, .ref rco, .ref rsh, .ref rsf, .ref rcr, .ref rep, .ref rby, .ref rli, .ref rls, .ref rla, .ref rcm, .ref rcs, .ref rpa, .ref rpm, .ref rpo, .ref rti, .ref rre, .ref rcl, .int (nI (sz + 1)), .int (nI cs), .int (nI nx), .int (nI la)])), (rre, .inl (cI, 256, .inl (nF (up Re sz (mk8 b9)))))]) := by
  refine CV.of (by decide) (Nat.le_of_ble_eq_true rfl) ?_
  intro pr ev sT mM aR bW mE cO AA QQ ls Bd hG hA hP hD hS hl hnm hret
  have Bd : bd pr cO b_Mod_put 2 sT aR TB "TileScreenModel" mM := Bd
  obtain ⟨hx, hb, hml, hown, htb⟩ := id Bd
  have hl : lv_has ls 2 [(0, .ref mo), (1, .int b9)] := hl
  refine lv_aload_n hx hb d_Mod_put_0 rfl (lv_at hl 0 rfl) ?_
  refine va_get (D := D) (ci := 9) (v := .ref rre) (C := "TileScreenModel") (T := F_Mod) (N := 27) hx hb htb i_Mod hown hG.1 hP 0 rfl rfl 21 (by decide) (htb _ k_656) (fun _ h9 => h9) rfl d_Mod_put_1 ?_
  refine lv_aload_n hx hb d_Mod_put_4 rfl (lv_at hl 0 rfl) ?_
  refine va_get (D := D) (ci := 9) (v := .int (nI sz)) (C := "TileScreenModel") (T := F_Mod) (N := 27) hx hb htb i_Mod hown hG.1 hP 0 rfl rfl 23 (by decide) (htb _ k_658) (fun _ h9 => h9) rfl d_Mod_put_5 ?_
  refine lv_iload_n hx hb d_Mod_put_8 rfl (lv_at hl 1 rfl) ?_
  refine lv_sipush (v := nI 255) hx hb d_Mod_put_9 (by decide) ?_
  refine lv_iand hx hb d_Mod_put_12 ?_
  refine nv_top (y := nI (mk8 b9)) (mk8_eq b9) ?_
  refine nv_iast hx hb hG.1 hP hD hS 1 0 rfl rfl (by omega) (by omega) d_Mod_put_13 (fun H locs hP hD hS => ?_)
  have hP : va_P D classes [(mo, .inr (9, [.int cd, .ref rpx, .int nb, .ref rca, .ref rpl, .ref rth, .ref rco, .ref rsh, .ref rsf, .ref rcr, .ref rep, .ref rby, .ref rli, .ref rls, .ref rla, .ref rcm, .ref rcs, .ref rpa, .ref rpm, .ref rpo, .ref rti, .ref rre, .ref rcl, .int (nI sz), .int (nI cs), .int (nI nx), .int (nI la)])), (rre, .inl (cI, 256, .inl (nF (up Re sz (mk8 b9)))))] H := hP
  have hD : va_D AA [(mo, .inr (9, [.int cd, .ref rpx, .int nb, .ref rca, .ref rpl, .ref rth, .ref rco, .ref rsh, .ref rsf, .ref rcr, .ref rep, .ref rby, .ref rli, .ref rls, .ref rla, .ref rcm, .ref rcs, .ref rpa, .ref rpm, .ref rpo, .ref rti, .ref rre, .ref rcl, .int (nI sz), .int (nI cs), .int (nI nx), .int (nI la)])), (rre, .inl (cI, 256, .inl (nF (up Re sz (mk8 b9)))))] := hD
  refine lv_aload_n hx hb d_Mod_put_14 rfl (lv_at hl 0 rfl) ?_
  refine lv_dup hx hb d_Mod_put_15 rfl ?_
  refine va_get (D := D) (ci := 9) (v := .int (nI sz)) (C := "TileScreenModel") (T := F_Mod) (N := 27) hx hb htb i_Mod hown hG.1 hP 0 rfl rfl 23 (by decide) (htb _ k_658) (fun _ h9 => h9) rfl d_Mod_put_16 ?_
  refine lv_iconst (v := nI 1) hx hb d_Mod_put_19 (by decide) ?_
  refine nv_iadd hx hb d_Mod_put_20 ?_
  refine va_put (D := D) (ci := 9) (v := .int (nI (sz + 1))) (ty := .int) (C := "TileScreenModel") (T := F_Mod) (N := 27) hx hb htb i_Mod t_Mod t_Mod_ok n_Mod hown hG.1 hP hD hS 0 rfl rfl 23 (by decide) (htb _ k_658) (fun _ h9 => h9) rfl (by decide +kernel) rfl rfl (Nat.le_of_ble_eq_true rfl) d_Mod_put_21 (fun H locs hP hD hS => ?_)
  have hP : va_P D classes [(mo, .inr (9, [.int cd, .ref rpx, .int nb, .ref rca, .ref rpl, .ref rth, .ref rco, .ref rsh, .ref rsf, .ref rcr, .ref rep, .ref rby, .ref rli, .ref rls, .ref rla, .ref rcm, .ref rcs, .ref rpa, .ref rpm, .ref rpo, .ref rti, .ref rre, .ref rcl, .int (nI (sz + 1)), .int (nI cs), .int (nI nx), .int (nI la)])), (rre, .inl (cI, 256, .inl (nF (up Re sz (mk8 b9)))))] H := hP
  have hD : va_D AA [(mo, .inr (9, [.int cd, .ref rpx, .int nb, .ref rca, .ref rpl, .ref rth, .ref rco, .ref rsh, .ref rsf, .ref rcr, .ref rep, .ref rby, .ref rli, .ref rls, .ref rla, .ref rcm, .ref rcs, .ref rpa, .ref rpm, .ref rpo, .ref rti, .ref rre, .ref rcl, .int (nI (sz + 1)), .int (nI cs), .int (nI nx), .int (nI la)])), (rre, .inl (cI, 256, .inl (nF (up Re sz (mk8 b9)))))] := hD
  exact hret () _ _ _ _ d_Mod_put_24 (trivial) hP hD hS
set_option maxHeartbeats 400000 in
set_option maxRecDepth 100000 in
theorem c_Mod_putTwo (mo : Nat) (cd : Int32) (rpx : Nat) (nb : Int32) (rca : Nat) (rpl : Nat) (rth : Nat) (rco : Nat) (rsh : Nat) (rsf : Nat) (rcr : Nat) (rep : Nat) (rby : Nat) (rli : Nat) (rls : Nat) (rla : Nat) (rcm : Nat) (rcs : Nat) (rpa : Nat) (rpm : Nat) (rpo : Nat) (rti : Nat) (rre : Nat) (rcl : Nat) (sz : Nat) (cs : Nat) (nx : Nat) (la : Nat) (Re : Nat → Nat) (b9 : Int32) (hs : sz + 1 < 256) : CV (S := (Nat → Nat)) l classes NW D (TYS cI cZ cL cV) y_Mod_putTwo (.code y_Mod_putTwo b_Mod_putTwo 2 none :: TB) { frames := 1, cells := 0, slots := 0, locals := 21 } [.ref mo, .int b9] [(mo, .inr (9, [.int cd, .ref rpx, .int nb, .ref rca, .ref rpl, .ref rth, .ref rco, .ref rsh, .ref rsf, .ref rcr, .ref rep, .ref rby, .ref rli, .ref rls, .ref rla, .ref rcm, .ref rcs, .ref rpa, .ref rpm, .ref rpo, .ref rti, .ref rre, .ref rcl, .int (nI sz), .int (nI cs), .int (nI nx), .int (nI la)])), (rre, .inl (cI, 256, .inl (nF Re)))] (fun u => True) (fun u => [(mo, .inr (9, [.int cd, .ref rpx, .int nb, .ref rca, .ref rpl, .ref rth, .ref rco, .ref rsh, .ref rsf, .ref rcr, .ref rep, .ref rby, .ref rli, .ref rls, .ref rla, .ref rcm, .ref rcs, .ref rpa, .ref rpm, .ref rpo, .ref rti, .ref rre, .ref rcl, .int (nI (sz + 2)), .int (nI cs), .int (nI nx), .int (nI la)])), (rre, .inl (cI, 256, .inl (nF u)))]) := by
  refine CV.of (by decide) (Nat.le_of_ble_eq_true rfl) ?_
  intro pr ev sT mM aR bW mE cO AA QQ ls Bd hG hA hP hD hS hl hnm hret
  have Bd : bd pr cO b_Mod_putTwo 2 sT aR TB "TileScreenModel" mM := Bd
  obtain ⟨hx, hb, hml, hown, htb⟩ := id Bd
  have hl : lv_has ls 2 [(0, .ref mo), (1, .int b9)] := hl
  refine lv_aload_n hx hb d_Mod_putTwo_0 rfl (lv_at hl 0 rfl) ?_
  refine lv_iload_n hx hb d_Mod_putTwo_1 rfl (lv_at hl 1 rfl) ?_
  refine lv_bipush (v := nI 8) hx hb d_Mod_putTwo_2 (by decide) ?_
  refine lv_ishr hx hb d_Mod_putTwo_4 ?_
  refine kV_v (wc := [(mo, .inr (9, [.int cd, .ref rpx, .int nb, .ref rca, .ref rpl, .ref rth, .ref rco, .ref rsh, .ref rsf, .ref rcr, .ref rep, .ref rby, .ref rli, .ref rls, .ref rla, .ref rcm, .ref rcs, .ref rpa, .ref rpm, .ref rpo, .ref rti, .ref rre, .ref rcl, .int (nI sz), .int (nI cs), .int (nI nx), .int (nI la)])), (rre, .inl (cI, 256, .inl (nF Re)))]) (wr := []) (w2 := fun _ => [(mo, .inr (9, [.int cd, .ref rpx, .int nb, .ref rca, .ref rpl, .ref rth, .ref rco, .ref rsh, .ref rsf, .ref rcr, .ref rep, .ref rby, .ref rli, .ref rls, .ref rla, .ref rcm, .ref rcs, .ref rpa, .ref rpm, .ref rpo, .ref rti, .ref rre, .ref rcl, .int (nI (sz + 1)), .int (nI cs), .int (nI nx), .int (nI la)])), (rre, .inl (cI, 256, .inl (nF (up Re sz (mk8 (b9 >>> (nI 8 &&& 31)))))))]) [.int (b9 >>> (nI 8 &&& 31))] [] Bd ⟨gi_app (gi_c0 k_797 (gi_c0 k_799 (gi_c0 s_30 (gi_c0 k_10 gi_nil)))) (gi_tb0 k_800), rfl, by decide, by decide⟩ (show (parseMethodDescriptor "(I)V").map (fun d => d.parameters.length) = some 1 by decide +kernel) (c_Mod_put mo cd rpx nb rca rpl rth rco rsh rsf rcr rep rby rli rls rla rcm rcs rpa rpm rpo rti rre rcl sz cs nx la Re (b9 >>> (nI 8 &&& 31)) (by omega)) (by decide +kernel) ⟨Nat.le_of_ble_eq_true rfl, Nat.le_of_ble_eq_true rfl⟩ hG hP hD hS hA [0, 1] [] [0, 1] (by decide) rfl rfl (fun _ => rfl) (q0 := 0) rfl rfl rfl hl.1 rfl (Nat.le_of_ble_eq_true rfl) d_Mod_putTwo_5 (fun u2 H locs hp1 hP hD hS => ?_)
  have hP : va_P D classes [(mo, .inr (9, [.int cd, .ref rpx, .int nb, .ref rca, .ref rpl, .ref rth, .ref rco, .ref rsh, .ref rsf, .ref rcr, .ref rep, .ref rby, .ref rli, .ref rls, .ref rla, .ref rcm, .ref rcs, .ref rpa, .ref rpm, .ref rpo, .ref rti, .ref rre, .ref rcl, .int (nI (sz + 1)), .int (nI cs), .int (nI nx), .int (nI la)])), (rre, .inl (cI, 256, .inl (nF (up Re sz (mk8 (b9 >>> (nI 8 &&& 31)))))))] H := hP
  have hD : va_D AA [(mo, .inr (9, [.int cd, .ref rpx, .int nb, .ref rca, .ref rpl, .ref rth, .ref rco, .ref rsh, .ref rsf, .ref rcr, .ref rep, .ref rby, .ref rli, .ref rls, .ref rla, .ref rcm, .ref rcs, .ref rpa, .ref rpm, .ref rpo, .ref rti, .ref rre, .ref rcl, .int (nI (sz + 1)), .int (nI cs), .int (nI nx), .int (nI la)])), (rre, .inl (cI, 256, .inl (nF (up Re sz (mk8 (b9 >>> (nI 8 &&& 31)))))))] := hD
  refine lv_aload_n hx hb d_Mod_putTwo_8 rfl (lv_at hl 0 rfl) ?_
  refine lv_iload_n hx hb d_Mod_putTwo_9 rfl (lv_at hl 1 rfl) ?_
  refine kV_v (wc := [(mo, .inr (9, [.int cd, .ref rpx, .int nb, .ref rca, .ref rpl, .ref rth, .ref rco, .ref rsh, .ref rsf, .ref rcr, .ref rep, .ref rby, .ref rli, .ref rls, .ref rla, .ref rcm, .ref rcs, .ref rpa, .ref rpm, .ref rpo, .ref rti, .ref rre, .ref rcl, .int (nI (sz + 1)), .int (nI cs), .int (nI nx), .int (nI la)])), (rre, .inl (cI, 256, .inl (nF (up Re sz (mk8 (b9 >>> (nI 8 &&& 31)))))))]) (wr := []) (w2 := fun _ => [(mo, .inr (9, [.int cd, .ref rpx, .int nb, .ref rca, .ref rpl, .ref rth, .ref rco, .ref rsh, .ref rsf, .ref rcr, .ref rep, .ref rby, .ref rli, .ref rls, .ref rla, .ref rcm, .ref rcs, .ref rpa, .ref rpm, .ref rpo, .ref rti, .ref rre, .ref rcl, .int (nI ((sz + 1) + 1)), .int (nI cs), .int (nI nx), .int (nI la)])), (rre, .inl (cI, 256, .inl (nF (up (up Re sz (mk8 (b9 >>> (nI 8 &&& 31)))) (sz + 1) (mk8 b9)))))]) [.int b9] [] Bd ⟨gi_app (gi_c0 k_797 (gi_c0 k_799 (gi_c0 s_30 (gi_c0 k_10 gi_nil)))) (gi_tb0 k_800), rfl, by decide, by decide⟩ (show (parseMethodDescriptor "(I)V").map (fun d => d.parameters.length) = some 1 by decide +kernel) (c_Mod_put mo cd rpx nb rca rpl rth rco rsh rsf rcr rep rby rli rls rla rcm rcs rpa rpm rpo rti rre rcl (sz + 1) cs nx la (up Re sz (mk8 (b9 >>> (nI 8 &&& 31)))) b9 (by omega)) (by decide +kernel) ⟨Nat.le_of_ble_eq_true rfl, Nat.le_of_ble_eq_true rfl⟩ hG hP hD hS hA [0, 1] [] [0, 1] (by decide) rfl rfl (fun _ => rfl) (q0 := 0) rfl rfl rfl hl.1 rfl (Nat.le_of_ble_eq_true rfl) d_Mod_putTwo_10 (fun u4 H locs hp3 hP hD hS => ?_)
  have hP : va_P D classes [(mo, .inr (9, [.int cd, .ref rpx, .int nb, .ref rca, .ref rpl, .ref rth, .ref rco, .ref rsh, .ref rsf, .ref rcr, .ref rep, .ref rby, .ref rli, .ref rls, .ref rla, .ref rcm, .ref rcs, .ref rpa, .ref rpm, .ref rpo, .ref rti, .ref rre, .ref rcl, .int (nI ((sz + 1) + 1)), .int (nI cs), .int (nI nx), .int (nI la)])), (rre, .inl (cI, 256, .inl (nF (up (up Re sz (mk8 (b9 >>> (nI 8 &&& 31)))) (sz + 1) (mk8 b9)))))] H := hP
  have hD : va_D AA [(mo, .inr (9, [.int cd, .ref rpx, .int nb, .ref rca, .ref rpl, .ref rth, .ref rco, .ref rsh, .ref rsf, .ref rcr, .ref rep, .ref rby, .ref rli, .ref rls, .ref rla, .ref rcm, .ref rcs, .ref rpa, .ref rpm, .ref rpo, .ref rti, .ref rre, .ref rcl, .int (nI ((sz + 1) + 1)), .int (nI cs), .int (nI nx), .int (nI la)])), (rre, .inl (cI, 256, .inl (nF (up (up Re sz (mk8 (b9 >>> (nI 8 &&& 31)))) (sz + 1) (mk8 b9)))))] := hD
  exact hret (up (up Re sz (mk8 (b9 >>> (nI 8 &&& 31)))) (sz + 1) (mk8 b9)) _ _ _ _ d_Mod_putTwo_13 (trivial) hP hD hS
set_option maxHeartbeats 400000 in
set_option maxRecDepth 100000 in
theorem c_Mod_likeTile (mo : Nat) (cd : Int32) (rpx : Nat) (nb : Int32) (rca : Nat) (rpl : Nat) (rth : Nat) (rco : Nat) (rsh : Nat) (rsf : Nat) (rcr : Nat) (rep : Nat) (rby : Nat) (rli : Nat) (rls : Nat) (rla : Nat) (rcm : Nat) (rcs : Nat) (rpa : Nat) (rpm : Nat) (rpo : Nat) (rti : Nat) (rre : Nat) (rcl : Nat) (sz : Nat) (cs : Nat) (nx : Nat) (la : Nat) (Px : Nat → Nat) (t : Nat) (ht : t < 48) (bPx : ∀ j, Px j < 65536) : CI (S := Unit) l classes NW D (TYS cI cZ cL cV) y_Mod_likeTile (.code y_Mod_likeTile b_Mod_likeTile 3 (some .int) :: TB) { frames := 2, cells := 0, slots := 0, locals := 48 } [.ref mo, .int (nI t)] [(mo, .inr (9, [.int cd, .ref rpx, .int nb, .ref rca, .ref rpl, .ref rth, .ref rco, .ref rsh, .ref rsf, .ref rcr, .ref rep, .ref rby, .ref rli, .ref rls, .ref rla, .ref rcm, .ref rcs, .ref rpa, .ref rpm, .ref rpo, .ref rti, .ref rre, .ref rcl, .int (nI sz), .int (nI cs), .int (nI nx), .int (nI la)])), (rpx, .inl (cI, 30720, .inl (nF Px)))] (fun r u => ((r = -1 ∨ ∃ i9, i9 < 48 ∧ r = nI i9))) (fun u => [(mo, .inr (9, [.int cd, .ref rpx, .int nb, .ref rca, .ref rpl, .ref rth, .ref rco, .ref rsh, .ref rsf, .ref rcr, .ref rep, .ref rby, .ref rli, .ref rls, .ref rla, .ref rcm, .ref rcs, .ref rpa, .ref rpm, .ref rpo, .ref rti, .ref rre, .ref rcl, .int (nI sz), .int (nI cs), .int (nI nx), .int (nI la)])), (rpx, .inl (cI, 30720, .inl (nF Px)))]) := by
  refine CI.of (by decide) (Nat.le_of_ble_eq_true rfl) ?_
  intro pr ev sT mM aR bW mE cO AA QQ ls Bd hG hA hP hD hS hl hret
  have Bd : bd pr cO b_Mod_likeTile 3 sT aR TB "TileScreenModel" mM := Bd
  obtain ⟨hx, hb, hml, hown, htb⟩ := id Bd
  have hl : lv_has ls 3 [(0, .ref mo), (1, .int (nI t))] := hl
  refine lv_iconst (v := nI 0) hx hb d_Mod_likeTile_0 (by decide) ?_
  refine lv_istore_n (lv' := [(2, .int (nI 0)), (0, .ref mo), (1, .int (nI t))]) hx hb d_Mod_likeTile_1 rfl hl (by decide) rfl (fun ls hl => ?_)
  have lp_2 : ∀ (nn : Nat) (q : Nat) (hq : q ≤ 48), 48 - q < nn → ∀ (H : Heap) (locs : List Loc) (ls : Array Slot), va_P D classes [(mo, .inr (9, [.int cd, .ref rpx, .int nb, .ref rca, .ref rpl, .ref rth, .ref rco, .ref rsh, .ref rsf, .ref rcr, .ref rep, .ref rby, .ref rli, .ref rls, .ref rla, .ref rcm, .ref rcs, .ref rpa, .ref rpm, .ref rpo, .ref rti, .ref rre, .ref rcl, .int (nI sz), .int (nI cs), .int (nI nx), .int (nI la)])), (rpx, .inl (cI, 30720, .inl (nF Px)))] H → va_D AA [(mo, .inr (9, [.int cd, .ref rpx, .int nb, .ref rca, .ref rpl, .ref rth, .ref rco, .ref rsh, .ref rsf, .ref rcr, .ref rep, .ref rby, .ref rli, .ref rls, .ref rla, .ref rcm, .ref rcs, .ref rpa, .ref rpm, .ref rpo, .ref rti, .ref rre, .ref rcl, .int (nI sz), .int (nI cs), .int (nI nx), .int (nI la)])), (rpx, .inl (cI, 30720, .inl (nF Px)))] → va_S AA sT.heap H locs → lv_has ls 3 [(2, .int (nI q)), (0, .ref mo), (1, .int (nI t))] → W pr l ev ({ frames := 2, cells := 0, slots := 0, locals := 48 } : Room) sT mM aR bW mE cO H locs 0 0 QQ (F0 mM 2 ls []) := by
    intro nn
    induction nn with
    | zero => intro q hq hm; exact absurd hm (Nat.not_lt_zero _)
    | succ nn ih2 =>
      intro q hq hm H locs ls hP hD hS hl
      refine lv_iload_n hx hb d_Mod_likeTile_2 rfl (lv_at hl 0 rfl) ?_
      refine lv_bipush (v := nI 48) hx hb d_Mod_likeTile_3 (by decide) ?_
      refine nv_icmp_ge (tgt := 26) hx hb d_Mod_likeTile_5 (by decide) (by omega) (by omega) (fun c_5 => ?_) (fun c_5 => ?_)
      · refine lv_iload_n hx hb d_Mod_likeTile_26 rfl (lv_at hl 0 rfl) ?_
        refine lv_bipush (v := nI 48) hx hb d_Mod_likeTile_27 (by decide) ?_
        refine nv_icmp_ge (tgt := 36) hx hb d_Mod_likeTile_29 (by decide) (by omega) (by omega) (fun c_29 => ?_) (fun c_29 => ?_)
        · refine lv_iconst (v := -1) hx hb d_Mod_likeTile_36 (by decide) ?_
          exact hret _ () _ _ _ _ d_Mod_likeTile_37 rfl (Or.inl rfl) hP hD hS
        · refine lv_iload_n hx hb d_Mod_likeTile_32 rfl (lv_at hl 0 rfl) ?_
          refine lv_goto (tgt := 37) hx hb d_Mod_likeTile_33 (by decide) ?_
          exact hret _ () _ _ _ _ d_Mod_likeTile_37 rfl (Or.inr ⟨q, by omega, rfl⟩) hP hD hS
      · refine lv_aload_n hx hb d_Mod_likeTile_8 rfl (lv_at hl 1 rfl) ?_
        refine lv_bipush (v := nI 9) hx hb d_Mod_likeTile_9 (by decide) ?_
        refine lv_iload_n hx hb d_Mod_likeTile_11 rfl (lv_at hl 0 rfl) ?_
        refine lv_iconst (v := nI 1) hx hb d_Mod_likeTile_12 (by decide) ?_
        refine lv_iload_n hx hb d_Mod_likeTile_13 rfl (lv_at hl 2 rfl) ?_
        refine kV_i (wc := [(mo, .inr (9, [.int cd, .ref rpx, .int nb, .ref rca, .ref rpl, .ref rth, .ref rco, .ref rsh, .ref rsf, .ref rcr, .ref rep, .ref rby, .ref rli, .ref rls, .ref rla, .ref rcm, .ref rcs, .ref rpa, .ref rpm, .ref rpo, .ref rti, .ref rre, .ref rcl, .int (nI sz), .int (nI cs), .int (nI nx), .int (nI la)])), (rpx, .inl (cI, 30720, .inl (nF Px)))]) (wr := []) (w2 := fun u => [(mo, .inr (9, [.int cd, .ref rpx, .int nb, .ref rca, .ref rpl, .ref rth, .ref rco, .ref rsh, .ref rsf, .ref rcr, .ref rep, .ref rby, .ref rli, .ref rls, .ref rla, .ref rcm, .ref rcs, .ref rpa, .ref rpm, .ref rpo, .ref rti, .ref rre, .ref rcl, .int (nI sz), .int (nI cs), .int (nI nx), .int (nI la)])), (rpx, .inl (cI, 30720, .inl (nF Px)))]) [.int (nI 9), .int (nI q), .int (nI 1), .int (nI t)] [] Bd ⟨gi_app (gi_c0 k_781 (gi_c0 k_783 (gi_c0 s_26 (gi_c0 k_10 gi_nil)))) (gi_tb0 k_784), rfl, by decide, by decide⟩ (show (parseMethodDescriptor "(IIII)Z").map (fun d => d.parameters.length) = some 4 by decide +kernel) (c_Mod_sameTile mo cd rpx nb rca rpl rth rco rsh rsf rcr rep rby rli rls rla rcm rcs rpa rpm rpo rti rre rcl sz cs nx la Px 9 q 1 t (by decide) (by omega) (by decide) (ht) (bPx)) (by decide +kernel) ⟨Nat.le_of_ble_eq_true rfl, Nat.le_of_ble_eq_true rfl⟩ hG hP hD hS hA [0, 1] [] [0, 1] (by decide) rfl rfl (fun _ => rfl) (q0 := 0) rfl rfl rfl hl.1 rfl (Nat.le_of_ble_eq_true rfl) d_Mod_likeTile_14 (fun r3 u5 H locs hp4 hP hD hS => ?_)
        obtain ⟨u2, rfl⟩ : ∃ z9, z9 = u5 := ⟨_, rfl⟩
        try dsimp only at hp4
        have hP : va_P D classes [(mo, .inr (9, [.int cd, .ref rpx, .int nb, .ref rca, .ref rpl, .ref rth, .ref rco, .ref rsh, .ref rsf, .ref rcr, .ref rep, .ref rby, .ref rli, .ref rls, .ref rla, .ref rcm, .ref rcs, .ref rpa, .ref rpm, .ref rpo, .ref rti, .ref rre, .ref rcl, .int (nI sz), .int (nI cs), .int (nI nx), .int (nI la)])), (rpx, .inl (cI, 30720, .inl (nF Px)))] H := hP
        have hD : va_D AA [(mo, .inr (9, [.int cd, .ref rpx, .int nb, .ref rca, .ref rpl, .ref rth, .ref rco, .ref rsh, .ref rsf, .ref rcr, .ref rep, .ref rby, .ref rli, .ref rls, .ref rla, .ref rcm, .ref rcs, .ref rpa, .ref rpm, .ref rpo, .ref rti, .ref rre, .ref rcl, .int (nI sz), .int (nI cs), .int (nI nx), .int (nI la)])), (rpx, .inl (cI, 30720, .inl (nF Px)))] := hD
        obtain ⟨rfl, hp6⟩ := hp4
        refine nv_if_ne (tgt := 26) hx hb d_Mod_likeTile_17 (by decide) (by omega) (fun c_17 => ?_) (fun c_17 => ?_)
        · refine lv_iload_n hx hb d_Mod_likeTile_26 rfl (lv_at hl 0 rfl) ?_
          refine lv_bipush (v := nI 48) hx hb d_Mod_likeTile_27 (by decide) ?_
          refine nv_icmp_ge (tgt := 36) hx hb d_Mod_likeTile_29 (by decide) (by omega) (by omega) (fun c_29 => ?_) (fun c_29 => ?_)
          · refine lv_iconst (v := -1) hx hb d_Mod_likeTile_36 (by decide) ?_
            exact hret _ () _ _ _ _ d_Mod_likeTile_37 rfl (Or.inl rfl) hP hD hS
          · refine lv_iload_n hx hb d_Mod_likeTile_32 rfl (lv_at hl 0 rfl) ?_
            refine lv_goto (tgt := 37) hx hb d_Mod_likeTile_33 (by decide) ?_
            exact hret _ () _ _ _ _ d_Mod_likeTile_37 rfl (Or.inr ⟨q, by omega, rfl⟩) hP hD hS
        · refine lv_iinc (v := (nI (q + 1))) (lv' := [(2, .int (nI (q + 1))), (0, .ref mo), (1, .int (nI t))]) hx hb d_Mod_likeTile_20 hl (k := 0) rfl (nI_add q 1) (by decide) rfl (fun ls hl => ?_)
          refine lv_goto (tgt := 2) hx hb d_Mod_likeTile_23 (by decide) ?_
          exact ih2 (q + 1) (by omega) (by omega) _ _ _ hP hD hS (lv_sub hl [0, 1, 2] rfl)
  exact lp_2 _ 0 (Nat.zero_le _) (Nat.lt_succ_self _) _ _ _ hP hD hS (lv_sub hl [0, 1, 2] rfl)
set_option maxHeartbeats 400000 in
set_option maxRecDepth 100000 in
theorem c_Mod_likeEntry (mo : Nat) (cd : Int32) (rpx : Nat) (nb : Int32) (rca : Nat) (rpl : Nat) (rth : Nat) (rco : Nat) (rsh : Nat) (rsf : Nat) (rcr : Nat) (rep : Nat) (rby : Nat) (rli : Nat) (rls : Nat) (rla : Nat) (rcm : Nat) (rcs : Nat) (rpa : Nat) (rpm : Nat) (rpo : Nat) (rti : Nat) (rre : Nat) (rcl : Nat) (sz : Nat) (cs : Nat) (nx : Nat) (la : Nat) (Th : Nat → Nat) (Ca : Nat → Nat) (Ti : Nat → Nat) (c9 : Nat) (hc : c9 < 6) (bTh : ∀ j, Th j < 2) (bCa : ∀ j, Ca j < 65536) (bTi : ∀ j, Ti j < 65536) : CI (S := Unit) l classes NW D (TYS cI cZ cL cV) y_Mod_likeEntry (.code y_Mod_likeEntry b_Mod_likeEntry 5 (some .int) :: TB) { frames := 0, cells := 0, slots := 0, locals := 0 } [.ref mo, .int (nI c9)] [(mo, .inr (9, [.int cd, .ref rpx, .int nb, .ref rca, .ref rpl, .ref rth, .ref rco, .ref rsh, .ref rsf, .ref rcr, .ref rep, .ref rby, .ref rli, .ref rls, .ref rla, .ref rcm, .ref rcs, .ref rpa, .ref rpm, .ref rpo, .ref rti, .ref rre, .ref rcl, .int (nI sz), .int (nI cs), .int (nI nx), .int (nI la)])), (rth, .inl (cZ, 96, .inl (nF Th))), (rca, .inl (cI, 6144, .inl (nF Ca))), (rti, .inl (cI, 64, .inl (nF Ti)))] (fun r u => ((r = -1 ∨ ∃ i9, i9 < 16 ∧ r = nI i9))) (fun u => [(mo, .inr (9, [.int cd, .ref rpx, .int nb, .ref rca, .ref rpl, .ref rth, .ref rco, .ref rsh, .ref rsf, .ref rcr, .ref rep, .ref rby, .ref rli, .ref rls, .ref rla, .ref rcm, .ref rcs, .ref rpa, .ref rpm, .ref rpo, .ref rti, .ref rre, .ref rcl, .int (nI sz), .int (nI cs), .int (nI nx), .int (nI la)])), (rth, .inl (cZ, 96, .inl (nF Th))), (rca, .inl (cI, 6144, .inl (nF Ca))), (rti, .inl (cI, 64, .inl (nF Ti)))]) := by
  refine CI.of (by decide) (Nat.le_of_ble_eq_true rfl) ?_
  intro pr ev sT mM aR bW mE cO AA QQ ls Bd hG hA hP hD hS hl hret
  have Bd : bd pr cO b_Mod_likeEntry 5 sT aR TB "TileScreenModel" mM := Bd
  obtain ⟨hx, hb, hml, hown, htb⟩ := id Bd
  have hl : lv_has ls 5 [(0, .ref mo), (1, .int (nI c9))] := hl
  refine lv_iconst (v := nI 0) hx hb d_Mod_likeEntry_0 (by decide) ?_
  refine lv_istore_n (lv' := [(2, .int (nI 0)), (0, .ref mo), (1, .int (nI c9))]) hx hb d_Mod_likeEntry_1 rfl hl (by decide) rfl (fun ls hl => ?_)
  have lp_2 : ∀ (nn : Nat) (q : Nat) (hq : q ≤ 16), 16 - q < nn → ∀ (H : Heap) (locs : List Loc) (ls : Array Slot), va_P D classes [(mo, .inr (9, [.int cd, .ref rpx, .int nb, .ref rca, .ref rpl, .ref rth, .ref rco, .ref rsh, .ref rsf, .ref rcr, .ref rep, .ref rby, .ref rli, .ref rls, .ref rla, .ref rcm, .ref rcs, .ref rpa, .ref rpm, .ref rpo, .ref rti, .ref rre, .ref rcl, .int (nI sz), .int (nI cs), .int (nI nx), .int (nI la)])), (rth, .inl (cZ, 96, .inl (nF Th))), (rca, .inl (cI, 6144, .inl (nF Ca))), (rti, .inl (cI, 64, .inl (nF Ti)))] H → va_D AA [(mo, .inr (9, [.int cd, .ref rpx, .int nb, .ref rca, .ref rpl, .ref rth, .ref rco, .ref rsh, .ref rsf, .ref rcr, .ref rep, .ref rby, .ref rli, .ref rls, .ref rla, .ref rcm, .ref rcs, .ref rpa, .ref rpm, .ref rpo, .ref rti, .ref rre, .ref rcl, .int (nI sz), .int (nI cs), .int (nI nx), .int (nI la)])), (rth, .inl (cZ, 96, .inl (nF Th))), (rca, .inl (cI, 6144, .inl (nF Ca))), (rti, .inl (cI, 64, .inl (nF Ti)))] → va_S AA sT.heap H locs → lv_has ls 5 [(2, .int (nI q)), (0, .ref mo), (1, .int (nI c9))] → W pr l ev ({ frames := 0, cells := 0, slots := 0, locals := 0 } : Room) sT mM aR bW mE cO H locs 0 0 QQ (F0 mM 2 ls []) := by
    intro nn
    induction nn with
    | zero => intro q hq hm; exact absurd hm (Nat.not_lt_zero _)
    | succ nn ih2 =>
      intro q hq hm H locs ls hP hD hS hl
      refine lv_iload_n hx hb d_Mod_likeEntry_2 rfl (lv_at hl 0 rfl) ?_
      refine lv_bipush (v := nI 16) hx hb d_Mod_likeEntry_3 (by decide) ?_
      refine nv_icmp_ge (tgt := 86) hx hb d_Mod_likeEntry_5 (by decide) (by omega) (by omega) (fun c_5 => ?_) (fun c_5 => ?_)
      · refine lv_iconst (v := -1) hx hb d_Mod_likeEntry_86 (by decide) ?_
        exact hret _ () _ _ _ _ d_Mod_likeEntry_87 rfl (Or.inl rfl) hP hD hS
      · refine lv_aload_n hx hb d_Mod_likeEntry_8 rfl (lv_at hl 1 rfl) ?_
        refine va_get (D := D) (ci := 9) (v := .ref rth) (C := "TileScreenModel") (T := F_Mod) (N := 27) hx hb htb i_Mod hown hG.1 hP 0 rfl rfl 5 (by decide) (htb _ k_640) (fun _ h9 => h9) rfl d_Mod_likeEntry_9 ?_
        refine lv_bipush (v := nI 16) hx hb d_Mod_likeEntry_12 (by decide) ?_
        refine lv_iload_n hx hb d_Mod_likeEntry_14 rfl (lv_at hl 2 rfl) ?_
        refine nv_imul hx hb d_Mod_likeEntry_15 ?_
        refine lv_iload_n hx hb d_Mod_likeEntry_16 rfl (lv_at hl 0 rfl) ?_
        refine nv_iadd hx hb d_Mod_likeEntry_17 ?_
        refine nv_zald hx hb hG.1 hP 1 1 rfl rfl (by omega) (by omega) d_Mod_likeEntry_18 ?_
        refine lv_istore_n (lv' := [(3, .int (nI (Th (16 * c9 + q)))), (2, .int (nI q)), (0, .ref mo), (1, .int (nI c9))]) hx hb d_Mod_likeEntry_19 rfl hl (by decide) rfl (fun ls hl => ?_)
        refine lv_iconst (v := nI 0) hx hb d_Mod_likeEntry_20 (by decide) ?_
        refine lv_istore (lv' := [(4, .int (nI 0)), (3, .int (nI (Th (16 * c9 + q)))), (2, .int (nI q)), (0, .ref mo), (1, .int (nI c9))]) hx hb d_Mod_likeEntry_21 hl (by decide) rfl (fun ls hl => ?_)
        have lp_23 : ∀ (nn : Nat) (k : Nat) (b1 : Nat) (hk : k ≤ 64) (hb1 : b1 < 2), 64 - k < nn → ∀ (H : Heap) (locs : List Loc) (ls : Array Slot), va_P D classes [(mo, .inr (9, [.int cd, .ref rpx, .int nb, .ref rca, .ref rpl, .ref rth, .ref rco, .ref rsh, .ref rsf, .ref rcr, .ref rep, .ref rby, .ref rli, .ref rls, .ref rla, .ref rcm, .ref rcs, .ref rpa, .ref rpm, .ref rpo, .ref rti, .ref rre, .ref rcl, .int (nI sz), .int (nI cs), .int (nI nx), .int (nI la)])), (rth, .inl (cZ, 96, .inl (nF Th))), (rca, .inl (cI, 6144, .inl (nF Ca))), (rti, .inl (cI, 64, .inl (nF Ti)))] H → va_D AA [(mo, .inr (9, [.int cd, .ref rpx, .int nb, .ref rca, .ref rpl, .ref rth, .ref rco, .ref rsh, .ref rsf, .ref rcr, .ref rep, .ref rby, .ref rli, .ref rls, .ref rla, .ref rcm, .ref rcs, .ref rpa, .ref rpm, .ref rpo, .ref rti, .ref rre, .ref rcl, .int (nI sz), .int (nI cs), .int (nI nx), .int (nI la)])), (rth, .inl (cZ, 96, .inl (nF Th))), (rca, .inl (cI, 6144, .inl (nF Ca))), (rti, .inl (cI, 64, .inl (nF Ti)))] → va_S AA sT.heap H locs → lv_has ls 5 [(4, .int (nI k)), (3, .int (nI b1)), (2, .int (nI q)), (0, .ref mo), (1, .int (nI c9))] → W pr l ev ({ frames := 0, cells := 0, slots := 0, locals := 0 } : Room) sT mM aR bW mE cO H locs 0 0 QQ (F0 mM 23 ls []) := by
          intro nn
          induction nn with
          | zero => intro k b1 hk hb1 hm; exact absurd hm (Nat.not_lt_zero _)
          | succ nn ih23 =>
            intro k b1 hk hb1 hm H locs ls hP hD hS hl
            refine lv_iload hx hb d_Mod_likeEntry_23 (lv_at hl 0 rfl) ?_
            refine lv_bipush (v := nI 64) hx hb d_Mod_likeEntry_25 (by decide) ?_
            refine nv_icmp_ge (tgt := 74) hx hb d_Mod_likeEntry_27 (by decide) (by omega) (by omega) (fun c_27 => ?_) (fun c_27 => ?_)
            · refine lv_iload_n hx hb d_Mod_likeEntry_74 rfl (lv_at hl 1 rfl) ?_
              refine nv_if_eq (tgt := 80) hx hb d_Mod_likeEntry_75 (by decide) (by omega) (fun c_75 => ?_) (fun c_75 => ?_)
              · refine lv_iinc (v := (nI (q + 1))) (lv' := [(2, .int (nI (q + 1))), (4, .int (nI k)), (3, .int (nI b1)), (0, .ref mo), (1, .int (nI c9))]) hx hb d_Mod_likeEntry_80 hl (k := 2) rfl (nI_add q 1) (by decide) rfl (fun ls hl => ?_)
                refine lv_goto (tgt := 2) hx hb d_Mod_likeEntry_83 (by decide) ?_
                exact ih2 (q + 1) (by omega) (by omega) _ _ _ hP hD hS (lv_sub hl [0, 3, 4] rfl)
              · refine lv_iload_n hx hb d_Mod_likeEntry_78 rfl (lv_at hl 2 rfl) ?_
                exact hret _ () _ _ _ _ d_Mod_likeEntry_79 rfl (Or.inr ⟨q, by omega, rfl⟩) hP hD hS
            · refine lv_iload_n hx hb d_Mod_likeEntry_30 rfl (lv_at hl 1 rfl) ?_
              refine nv_if_eq (tgt := 74) hx hb d_Mod_likeEntry_31 (by decide) (by omega) (fun c_31 => ?_) (fun c_31 => ?_)
              · refine lv_iload_n hx hb d_Mod_likeEntry_74 rfl (lv_at hl 1 rfl) ?_
                refine nv_if_eq (tgt := 80) hx hb d_Mod_likeEntry_75 (by decide) (by omega) (fun c_75 => ?_) (fun c_75 => ?_)
                · refine lv_iinc (v := (nI (q + 1))) (lv' := [(2, .int (nI (q + 1))), (4, .int (nI k)), (3, .int (nI b1)), (0, .ref mo), (1, .int (nI c9))]) hx hb d_Mod_likeEntry_80 hl (k := 2) rfl (nI_add q 1) (by decide) rfl (fun ls hl => ?_)
                  refine lv_goto (tgt := 2) hx hb d_Mod_likeEntry_83 (by decide) ?_
                  exact ih2 (q + 1) (by omega) (by omega) _ _ _ hP hD hS (lv_sub hl [0, 3, 4] rfl)
                · refine lv_iload_n hx hb d_Mod_likeEntry_78 rfl (lv_at hl 2 rfl) ?_
                  exact hret _ () _ _ _ _ d_Mod_likeEntry_79 rfl (Or.inr ⟨q, by omega, rfl⟩) hP hD hS
              · refine lv_aload_n hx hb d_Mod_likeEntry_34 rfl (lv_at hl 3 rfl) ?_
                refine va_get (D := D) (ci := 9) (v := .ref rca) (C := "TileScreenModel") (T := F_Mod) (N := 27) hx hb htb i_Mod hown hG.1 hP 0 rfl rfl 3 (by decide) (htb _ k_638) (fun _ h9 => h9) rfl d_Mod_likeEntry_35 ?_
                refine lv_sipush (v := nI 1024) hx hb d_Mod_likeEntry_38 (by decide) ?_
                refine lv_iload_n hx hb d_Mod_likeEntry_41 rfl (lv_at hl 4 rfl) ?_
                refine nv_imul hx hb d_Mod_likeEntry_42 ?_
                refine lv_bipush (v := nI 64) hx hb d_Mod_likeEntry_43 (by decide) ?_
                refine lv_iload_n hx hb d_Mod_likeEntry_45 rfl (lv_at hl 2 rfl) ?_
                refine nv_imul hx hb d_Mod_likeEntry_46 ?_
                refine nv_iadd hx hb d_Mod_likeEntry_47 ?_
                refine lv_iload hx hb d_Mod_likeEntry_48 (lv_at hl 0 rfl) ?_
                refine nv_iadd hx hb d_Mod_likeEntry_50 ?_
                refine nv_iald hx hb hG.1 hP 2 0 rfl rfl (by omega) (by omega) d_Mod_likeEntry_51 ?_
                refine lv_aload_n hx hb d_Mod_likeEntry_52 rfl (lv_at hl 3 rfl) ?_
                refine va_get (D := D) (ci := 9) (v := .ref rti) (C := "TileScreenModel") (T := F_Mod) (N := 27) hx hb htb i_Mod hown hG.1 hP 0 rfl rfl 20 (by decide) (htb _ k_655) (fun _ h9 => h9) rfl d_Mod_likeEntry_53 ?_
                refine lv_iload hx hb d_Mod_likeEntry_56 (lv_at hl 0 rfl) ?_
                refine nv_iald hx hb hG.1 hP 3 0 rfl rfl (by omega) (by omega) d_Mod_likeEntry_58 ?_
                refine nv_icmp_ne (tgt := 66) hx hb d_Mod_likeEntry_59 (by decide) (Nat.lt_trans (bCa _) (by decide)) (Nat.lt_trans (bTi _) (by decide)) (fun c_59 => ?_) (fun c_59 => ?_)
                · refine lv_iconst (v := nI 0) hx hb d_Mod_likeEntry_66 (by decide) ?_
                  refine lv_istore_n (lv' := [(3, .int (nI 0)), (4, .int (nI k)), (2, .int (nI q)), (0, .ref mo), (1, .int (nI c9))]) hx hb d_Mod_likeEntry_67 rfl hl (by decide) rfl (fun ls hl => ?_)
                  refine lv_iinc (v := (nI (k + 1))) (lv' := [(4, .int (nI (k + 1))), (3, .int (nI 0)), (2, .int (nI q)), (0, .ref mo), (1, .int (nI c9))]) hx hb d_Mod_likeEntry_68 hl (k := 1) rfl (nI_add k 1) (by decide) rfl (fun ls hl => ?_)
                  refine lv_goto (tgt := 23) hx hb d_Mod_likeEntry_71 (by decide) ?_
                  exact ih23 (k + 1) 0 (by omega) (by decide) (by omega) _ _ _ hP hD hS (lv_sub hl [0, 1, 2, 3, 4] rfl)
                · refine lv_iconst (v := nI 1) hx hb d_Mod_likeEntry_62 (by decide) ?_
                  refine lv_goto (tgt := 67) hx hb d_Mod_likeEntry_63 (by decide) ?_
                  refine lv_istore_n (lv' := [(3, .int (nI 1)), (4, .int (nI k)), (2, .int (nI q)), (0, .ref mo), (1, .int (nI c9))]) hx hb d_Mod_likeEntry_67 rfl hl (by decide) rfl (fun ls hl => ?_)
                  refine lv_iinc (v := (nI (k + 1))) (lv' := [(4, .int (nI (k + 1))), (3, .int (nI 1)), (2, .int (nI q)), (0, .ref mo), (1, .int (nI c9))]) hx hb d_Mod_likeEntry_68 hl (k := 1) rfl (nI_add k 1) (by decide) rfl (fun ls hl => ?_)
                  refine lv_goto (tgt := 23) hx hb d_Mod_likeEntry_71 (by decide) ?_
                  exact ih23 (k + 1) 1 (by omega) (by decide) (by omega) _ _ _ hP hD hS (lv_sub hl [0, 1, 2, 3, 4] rfl)
        exact lp_23 _ 0 (Th (16 * c9 + q)) (Nat.zero_le _) (bTh _) (Nat.lt_succ_self _) _ _ _ hP hD hS (lv_sub hl [0, 1, 2, 3, 4] rfl)
  exact lp_2 _ 0 (Nat.zero_le _) (Nat.lt_succ_self _) _ _ _ hP hD hS (lv_sub hl [0, 1, 2] rfl)
set_option maxHeartbeats 400000 in
set_option maxRecDepth 100000 in
theorem c_Mod_putBits (mo : Nat) (cd : Int32) (rpx : Nat) (nb : Int32) (rca : Nat) (rpl : Nat) (rth : Nat) (rco : Nat) (rsh : Nat) (rsf : Nat) (rcr : Nat) (rep : Nat) (rby : Nat) (rli : Nat) (rls : Nat) (rla : Nat) (rcm : Nat) (rcs : Nat) (rpa : Nat) (rpm : Nat) (rpo : Nat) (rti : Nat) (rre : Nat) (rcl : Nat) (sz : Nat) (cs : Nat) (nx : Nat) (la : Nat) (Ti : Nat → Nat) (Re : Nat → Nat) (Co : Nat → Nat) (w : Nat) (hw : w = 1 ∨ w = 2) (hs : sz + 64 ≤ 256) (hcs : cs ≤ 64) (bTi : ∀ j, Ti j < 65536) (bCo : ∀ j, Co j < 65536) : CV (S := Nat × (Nat → Nat)) l classes NW D (TYS cI cZ cL cV) y_Mod_putBits (.code y_Mod_putBits b_Mod_putBits 4 none :: TB) { frames := 1, cells := 0, slots := 0, locals := 22 } [.ref mo, .int (nI w)] [(mo, .inr (9, [.int cd, .ref rpx, .int nb, .ref rca, .ref rpl, .ref rth, .ref rco, .ref rsh, .ref rsf, .ref rcr, .ref rep, .ref rby, .ref rli, .ref rls, .ref rla, .ref rcm, .ref rcs, .ref rpa, .ref rpm, .ref rpo, .ref rti, .ref rre, .ref rcl, .int (nI sz), .int (nI cs), .int (nI nx), .int (nI la)])), (rti, .inl (cI, 64, .inl (nF Ti))), (rre, .inl (cI, 256, .inl (nF Re))), (rcl, .inl (cI, 64, .inl (nF Co)))] (fun u => u.1 ≤ sz + 64) (fun u => [(mo, .inr (9, [.int cd, .ref rpx, .int nb, .ref rca, .ref rpl, .ref rth, .ref rco, .ref rsh, .ref rsf, .ref rcr, .ref rep, .ref rby, .ref rli, .ref rls, .ref rla, .ref rcm, .ref rcs, .ref rpa, .ref rpm, .ref rpo, .ref rti, .ref rre, .ref rcl, .int (nI u.1), .int (nI cs), .int (nI nx), .int (nI la)])), (rti, .inl (cI, 64, .inl (nF Ti))), (rre, .inl (cI, 256, .inl (nF u.2))), (rcl, .inl (cI, 64, .inl (nF Co)))]) := by
  refine CV.of (by decide) (Nat.le_of_ble_eq_true rfl) ?_
  intro pr ev sT mM aR bW mE cO AA QQ ls Bd hG hA hP hD hS hl hnm hret
  have Bd : bd pr cO b_Mod_putBits 4 sT aR TB "TileScreenModel" mM := Bd
  obtain ⟨hx, hb, hml, hown, htb⟩ := id Bd
  have hl : lv_has ls 4 [(0, .ref mo), (1, .int (nI w))] := hl
  refine lv_iconst (v := nI 0) hx hb d_Mod_putBits_0 (by decide) ?_
  refine lv_istore_n (lv' := [(2, .int (nI 0)), (0, .ref mo), (1, .int (nI w))]) hx hb d_Mod_putBits_1 rfl hl (by decide) rfl (fun ls hl => ?_)
  refine lv_iconst (v := nI 0) hx hb d_Mod_putBits_2 (by decide) ?_
  refine lv_istore_n (lv' := [(3, .int (nI 0)), (2, .int (nI 0)), (0, .ref mo), (1, .int (nI w))]) hx hb d_Mod_putBits_3 rfl hl (by decide) rfl (fun ls hl => ?_)
  have lp_4 : ∀ (nn : Nat) (k : Nat) (b1 : Int32) (s1 : Nat) (Re1 : Nat → Nat) (hk : k ≤ 64) (hs1 : s1 ≤ sz + k), 64 - k < nn → ∀ (H : Heap) (locs : List Loc) (ls : Array Slot), va_P D classes [(mo, .inr (9, [.int cd, .ref rpx, .int nb, .ref rca, .ref rpl, .ref rth, .ref rco, .ref rsh, .ref rsf, .ref rcr, .ref rep, .ref rby, .ref rli, .ref rls, .ref rla, .ref rcm, .ref rcs, .ref rpa, .ref rpm, .ref rpo, .ref rti, .ref rre, .ref rcl, .int (nI s1), .int (nI cs), .int (nI nx), .int (nI la)])), (rti, .inl (cI, 64, .inl (nF Ti))), (rre, .inl (cI, 256, .inl (nF Re1))), (rcl, .inl (cI, 64, .inl (nF Co)))] H → va_D AA [(mo, .inr (9, [.int cd, .ref rpx, .int nb, .ref rca, .ref rpl, .ref rth, .ref rco, .ref rsh, .ref rsf, .ref rcr, .ref rep, .ref rby, .ref rli, .ref rls, .ref rla, .ref rcm, .ref rcs, .ref rpa, .ref rpm, .ref rpo, .ref rti, .ref rre, .ref rcl, .int (nI s1), .int (nI cs), .int (nI nx), .int (nI la)])), (rti, .inl (cI, 64, .inl (nF Ti))), (rre, .inl (cI, 256, .inl (nF Re1))), (rcl, .inl (cI, 64, .inl (nF Co)))] → va_S AA sT.heap H locs → lv_has ls 4 [(3, .int (nI k)), (2, .int b1), (0, .ref mo), (1, .int (nI w))] → W pr l ev ({ frames := 1, cells := 0, slots := 0, locals := 22 } : Room) sT mM aR bW mE cO H locs 0 0 QQ (F0 mM 4 ls []) := by
    intro nn
    induction nn with
    | zero => intro k b1 s1 Re1 hk hs1 hm; exact absurd hm (Nat.not_lt_zero _)
    | succ nn ih4 =>
      intro k b1 s1 Re1 hk hs1 hm H locs ls hP hD hS hl
      refine lv_iload_n hx hb d_Mod_putBits_4 rfl (lv_at hl 0 rfl) ?_
      refine lv_bipush (v := nI 64) hx hb d_Mod_putBits_5 (by decide) ?_
      refine nv_icmp_ge (tgt := 52) hx hb d_Mod_putBits_7 (by decide) (by omega) (by omega) (fun c_7 => ?_) (fun c_7 => ?_)
      · have hR := hret (s1, Re1) H locs 52 ls d_Mod_putBits_52
        try dsimp only at hR
        exact hR (by omega) hP hD hS
      · refine lv_iload_n hx hb d_Mod_putBits_10 rfl (lv_at hl 1 rfl) ?_
        refine lv_iload_n hx hb d_Mod_putBits_11 rfl (lv_at hl 3 rfl) ?_
        refine lv_ishl hx hb d_Mod_putBits_12 ?_
        refine lv_aload_n hx hb d_Mod_putBits_13 rfl (lv_at hl 2 rfl) ?_
        refine lv_aload_n hx hb d_Mod_putBits_14 rfl (lv_at hl 2 rfl) ?_
        refine va_get (D := D) (ci := 9) (v := .ref rti) (C := "TileScreenModel") (T := F_Mod) (N := 27) hx hb htb i_Mod hown hG.1 hP 0 rfl rfl 20 (by decide) (htb _ k_655) (fun _ h9 => h9) rfl d_Mod_putBits_15 ?_
        refine lv_iload_n hx hb d_Mod_putBits_18 rfl (lv_at hl 0 rfl) ?_
        refine nv_iald hx hb hG.1 hP 1 0 rfl rfl (by omega) (by omega) d_Mod_putBits_19 ?_
        refine kV_i (wc := [(mo, .inr (9, [.int cd, .ref rpx, .int nb, .ref rca, .ref rpl, .ref rth, .ref rco, .ref rsh, .ref rsf, .ref rcr, .ref rep, .ref rby, .ref rli, .ref rls, .ref rla, .ref rcm, .ref rcs, .ref rpa, .ref rpm, .ref rpo, .ref rti, .ref rre, .ref rcl, .int (nI s1), .int (nI cs), .int (nI nx), .int (nI la)])), (rcl, .inl (cI, 64, .inl (nF Co)))]) (wr := [(rti, .inl (cI, 64, .inl (nF Ti))), (rre, .inl (cI, 256, .inl (nF Re1)))]) (w2 := fun u => [(mo, .inr (9, [.int cd, .ref rpx, .int nb, .ref rca, .ref rpl, .ref rth, .ref rco, .ref rsh, .ref rsf, .ref rcr, .ref rep, .ref rby, .ref rli, .ref rls, .ref rla, .ref rcm, .ref rcs, .ref rpa, .ref rpm, .ref rpo, .ref rti, .ref rre, .ref rcl, .int (nI s1), .int (nI cs), .int (nI nx), .int (nI la)])), (rti, .inl (cI, 64, .inl (nF Ti))), (rre, .inl (cI, 256, .inl (nF Re1))), (rcl, .inl (cI, 64, .inl (nF Co)))]) [.int (nI (Ti k))] [.int (b1 <<< (nI w &&& 31))] Bd ⟨gi_app (gi_c0 k_789 (gi_c0 k_791 (gi_c0 s_28 (gi_c0 k_10 gi_nil)))) (gi_tb0 k_792), rfl, by decide, by decide⟩ (show (parseMethodDescriptor "(I)I").map (fun d => d.parameters.length) = some 1 by decide +kernel) (c_Mod_numberOf mo cd rpx nb rca rpl rth rco rsh rsf rcr rep rby rli rls rla rcm rcs rpa rpm rpo rti rre rcl s1 cs nx la Co (Ti k) (by omega) (bCo) (bTi _)) (by decide +kernel) ⟨Nat.le_of_ble_eq_true rfl, Nat.le_of_ble_eq_true rfl⟩ hG hP hD hS hA [0, 3] [1, 2] [2, 0, 1, 3] (by decide) rfl rfl (fun _ => rfl) (q0 := 0) rfl rfl rfl hl.1 rfl (Nat.le_of_ble_eq_true rfl) d_Mod_putBits_20 (fun r3 u5 H locs hp4 hP hD hS => ?_)
        obtain ⟨u2, rfl⟩ : ∃ z9, z9 = u5 := ⟨_, rfl⟩
        try dsimp only at hp4
        have hP : va_P D classes [(mo, .inr (9, [.int cd, .ref rpx, .int nb, .ref rca, .ref rpl, .ref rth, .ref rco, .ref rsh, .ref rsf, .ref rcr, .ref rep, .ref rby, .ref rli, .ref rls, .ref rla, .ref rcm, .ref rcs, .ref rpa, .ref rpm, .ref rpo, .ref rti, .ref rre, .ref rcl, .int (nI s1), .int (nI cs), .int (nI nx), .int (nI la)])), (rti, .inl (cI, 64, .inl (nF Ti))), (rre, .inl (cI, 256, .inl (nF Re1))), (rcl, .inl (cI, 64, .inl (nF Co)))] H := hP
        have hD : va_D AA [(mo, .inr (9, [.int cd, .ref rpx, .int nb, .ref rca, .ref rpl, .ref rth, .ref rco, .ref rsh, .ref rsf, .ref rcr, .ref rep, .ref rby, .ref rli, .ref rls, .ref rla, .ref rcm, .ref rcs, .ref rpa, .ref rpm, .ref rpo, .ref rti, .ref rre, .ref rcl, .int (nI s1), .int (nI cs), .int (nI nx), .int (nI la)])), (rti, .inl (cI, 64, .inl (nF Ti))), (rre, .inl (cI, 256, .inl (nF Re1))), (rcl, .inl (cI, 64, .inl (nF Co)))] := hD
        obtain ⟨rfl, hp6⟩ := hp4
        refine lv_iadd hx hb d_Mod_putBits_23 ?_
        refine lv_istore_n (lv' := [(2, .int ((b1 <<< (nI w &&& 31)) + (nI u2))), (3, .int (nI k)), (0, .ref mo), (1, .int (nI w))]) hx hb d_Mod_putBits_24 rfl hl (by decide) rfl (fun ls hl => ?_)
        refine lv_iload_n hx hb d_Mod_putBits_25 rfl (lv_at hl 1 rfl) ?_
        refine lv_iconst (v := nI 1) hx hb d_Mod_putBits_26 (by decide) ?_
        refine nv_iadd hx hb d_Mod_putBits_27 ?_
        refine lv_iload_n hx hb d_Mod_putBits_28 rfl (lv_at hl 3 rfl) ?_
        refine nv_imul hx hb d_Mod_putBits_29 ?_
        refine lv_bipush (v := nI 8) hx hb d_Mod_putBits_30 (by decide) ?_
        refine nv_irem hx hb (by rcases hw with rfl | rfl <;> omega) (by omega) (by omega) d_Mod_putBits_32 ?_
        refine nv_if_le (tgt := 39) hx hb d_Mod_putBits_33 (by decide) (Nat.lt_trans (Nat.mod_lt _ (by decide)) (by decide)) (fun c_33 => ?_) (fun c_33 => ?_)
        · refine lv_aload_n hx hb d_Mod_putBits_39 rfl (lv_at hl 2 rfl) ?_
          refine lv_iload_n hx hb d_Mod_putBits_40 rfl (lv_at hl 0 rfl) ?_
          refine kV_v (wc := [(mo, .inr (9, [.int cd, .ref rpx, .int nb, .ref rca, .ref rpl, .ref rth, .ref rco, .ref rsh, .ref rsf, .ref rcr, .ref rep, .ref rby, .ref rli, .ref rls, .ref rla, .ref rcm, .ref rcs, .ref rpa, .ref rpm, .ref rpo, .ref rti, .ref rre, .ref rcl, .int (nI s1), .int (nI cs), .int (nI nx), .int (nI la)])), (rre, .inl (cI, 256, .inl (nF Re1)))]) (wr := [(rti, .inl (cI, 64, .inl (nF Ti))), (rcl, .inl (cI, 64, .inl (nF Co)))]) (w2 := fun _ => [(mo, .inr (9, [.int cd, .ref rpx, .int nb, .ref rca, .ref rpl, .ref rth, .ref rco, .ref rsh, .ref rsf, .ref rcr, .ref rep, .ref rby, .ref rli, .ref rls, .ref rla, .ref rcm, .ref rcs, .ref rpa, .ref rpm, .ref rpo, .ref rti, .ref rre, .ref rcl, .int (nI (s1 + 1)), .int (nI cs), .int (nI nx), .int (nI la)])), (rti, .inl (cI, 64, .inl (nF Ti))), (rre, .inl (cI, 256, .inl (nF (up Re1 s1 (mk8 ((b1 <<< (nI w &&& 31)) + (nI u2))))))), (rcl, .inl (cI, 64, .inl (nF Co)))]) [.int ((b1 <<< (nI w &&& 31)) + (nI u2))] [] Bd ⟨gi_app (gi_c0 k_797 (gi_c0 k_799 (gi_c0 s_30 (gi_c0 k_10 gi_nil)))) (gi_tb0 k_800), rfl, by decide, by decide⟩ (show (parseMethodDescriptor "(I)V").map (fun d => d.parameters.length) = some 1 by decide +kernel) (c_Mod_put mo cd rpx nb rca rpl rth rco rsh rsf rcr rep rby rli rls rla rcm rcs rpa rpm rpo rti rre rcl s1 cs nx la Re1 ((b1 <<< (nI w &&& 31)) + (nI u2)) (by omega)) (by decide +kernel) ⟨Nat.le_of_ble_eq_true rfl, Nat.le_of_ble_eq_true rfl⟩ hG hP hD hS hA [0, 2] [1, 3] [2, 0, 3, 1] (by decide) rfl rfl (fun _ => rfl) (q0 := 0) rfl rfl rfl hl.1 rfl (Nat.le_of_ble_eq_true rfl) d_Mod_putBits_41 (fun u8 H locs hp7 hP hD hS => ?_)
          have hP : va_P D classes [(mo, .inr (9, [.int cd, .ref rpx, .int nb, .ref rca, .ref rpl, .ref rth, .ref rco, .ref rsh, .ref rsf, .ref rcr, .ref rep, .ref rby, .ref rli, .ref rls, .ref rla, .ref rcm, .ref rcs, .ref rpa, .ref rpm, .ref rpo, .ref rti, .ref rre, .ref rcl, .int (nI (s1 + 1)), .int (nI cs), .int (nI nx), .int (nI la)])), (rti, .inl (cI, 64, .inl (nF Ti))), (rre, .inl (cI, 256, .inl (nF (up Re1 s1 (mk8 ((b1 <<< (nI w &&& 31)) + (nI u2))))))), (rcl, .inl (cI, 64, .inl (nF Co)))] H := hP
          have hD : va_D AA [(mo, .inr (9, [.int cd, .ref rpx, .int nb, .ref rca, .ref rpl, .ref rth, .ref rco, .ref rsh, .ref rsf, .ref rcr, .ref rep, .ref rby, .ref rli, .ref rls, .ref rla, .ref rcm, .ref rcs, .ref rpa, .ref rpm, .ref rpo, .ref rti, .ref rre, .ref rcl, .int (nI (s1 + 1)), .int (nI cs), .int (nI nx), .int (nI la)])), (rti, .inl (cI, 64, .inl (nF Ti))), (rre, .inl (cI, 256, .inl (nF (up Re1 s1 (mk8 ((b1 <<< (nI w &&& 31)) + (nI u2))))))), (rcl, .inl (cI, 64, .inl (nF Co)))] := hD
          refine lv_iconst (v := nI 0) hx hb d_Mod_putBits_44 (by decide) ?_
          refine lv_istore_n (lv' := [(2, .int (nI 0)), (3, .int (nI k)), (0, .ref mo), (1, .int (nI w))]) hx hb d_Mod_putBits_45 rfl hl (by decide) rfl (fun ls hl => ?_)
          refine lv_iinc (v := (nI (k + 1))) (lv' := [(3, .int (nI (k + 1))), (2, .int (nI 0)), (0, .ref mo), (1, .int (nI w))]) hx hb d_Mod_putBits_46 hl (k := 1) rfl (nI_add k 1) (by decide) rfl (fun ls hl => ?_)
          refine lv_goto (tgt := 4) hx hb d_Mod_putBits_49 (by decide) ?_
          exact ih4 (k + 1) (nI 0) (s1 + 1) (up Re1 s1 (mk8 ((b1 <<< (nI w &&& 31)) + (nI u2)))) (by omega) (by omega) (by omega) _ _ _ hP hD hS (lv_sub hl [0, 1, 2, 3] rfl)
        · refine lv_goto (tgt := 46) hx hb d_Mod_putBits_36 (by decide) ?_
          refine lv_iinc (v := (nI (k + 1))) (lv' := [(3, .int (nI (k + 1))), (2, .int ((b1 <<< (nI w &&& 31)) + (nI u2))), (0, .ref mo), (1, .int (nI w))]) hx hb d_Mod_putBits_46 hl (k := 1) rfl (nI_add k 1) (by decide) rfl (fun ls hl => ?_)
          refine lv_goto (tgt := 4) hx hb d_Mod_putBits_49 (by decide) ?_
          exact ih4 (k + 1) ((b1 <<< (nI w &&& 31)) + (nI u2)) s1 Re1 (by omega) (by omega) (by omega) _ _ _ hP hD hS (lv_sub hl [0, 1, 2, 3] rfl)
  exact lp_4 _ 0 (nI 0) sz Re (Nat.zero_le _) (by omega) (Nat.lt_succ_self _) _ _ _ hP hD hS (lv_sub hl [0, 1, 2, 3] rfl)
set_option maxHeartbeats 400000 in
set_option maxRecDepth 100000 in
theorem c_Mod_keep (mo : Nat) (cd : Int32) (rpx : Nat) (nb : Int32) (rca : Nat) (rpl : Nat) (rth : Nat) (rco : Nat) (rsh : Nat) (rsf : Nat) (rcr : Nat) (rep : Nat) (rby : Nat) (rli : Nat) (rls : Nat) (rla : Nat) (rcm : Nat) (rcs : Nat) (rpa : Nat) (rpm : Nat) (rpo : Nat) (rti : Nat) (rre : Nat) (rcl : Nat) (sz : Nat) (cs : Nat) (nx : Nat) (la : Nat) (Ca : Nat → Nat) (Pl : Nat → Nat) (Th : Nat → Nat) (Ti : Nat → Nat) (c9 : Nat) (hc : c9 < 6) (bCa : ∀ j, Ca j < 65536) (bPl : ∀ j, Pl j < 16) (bTh : ∀ j, Th j < 2) (bTi : ∀ j, Ti j < 65536) : CV (S := (Nat → Nat) × (Nat → Nat) × (Nat → Nat)) l classes NW D (TYS cI cZ cL cV) y_Mod_keep (.code y_Mod_keep b_Mod_keep 3 none :: TB) { frames := 0, cells := 0, slots := 0, locals := 0 } [.ref mo, .int (nI c9)] [(mo, .inr (9, [.int cd, .ref rpx, .int nb, .ref rca, .ref rpl, .ref rth, .ref rco, .ref rsh, .ref rsf, .ref rcr, .ref rep, .ref rby, .ref rli, .ref rls, .ref rla, .ref rcm, .ref rcs, .ref rpa, .ref rpm, .ref rpo, .ref rti, .ref rre, .ref rcl, .int (nI sz), .int (nI cs), .int (nI nx), .int (nI la)])), (rca, .inl (cI, 6144, .inl (nF Ca))), (rpl, .inl (cI, 6, .inl (nF Pl))), (rth, .inl (cZ, 96, .inl (nF Th))), (rti, .inl (cI, 64, .inl (nF Ti)))] (fun u => (∀ j, u.1 j < 65536) ∧ (∀ j, u.2.1 j < 16) ∧ (∀ j, u.2.2 j < 2)) (fun u => [(mo, .inr (9, [.int cd, .ref rpx, .int nb, .ref rca, .ref rpl, .ref rth, .ref rco, .ref rsh, .ref rsf, .ref rcr, .ref rep, .ref rby, .ref rli, .ref rls, .ref rla, .ref rcm, .ref rcs, .ref rpa, .ref rpm, .ref rpo, .ref rti, .ref rre, .ref rcl, .int (nI sz), .int (nI cs), .int (nI nx), .int (nI la)])), (rca, .inl (cI, 6144, .inl (nF u.1))), (rpl, .inl (cI, 6, .inl (nF u.2.1))), (rth, .inl (cZ, 96, .inl (nF u.2.2))), (rti, .inl (cI, 64, .inl (nF Ti)))]) := by
  refine CV.of (by decide) (Nat.le_of_ble_eq_true rfl) ?_
  intro pr ev sT mM aR bW mE cO AA QQ ls Bd hG hA hP hD hS hl hnm hret
  have Bd : bd pr cO b_Mod_keep 3 sT aR TB "TileScreenModel" mM := Bd
  obtain ⟨hx, hb, hml, hown, htb⟩ := id Bd
  have hl : lv_has ls 3 [(0, .ref mo), (1, .int (nI c9))] := hl
  have hpl9 := bPl c9
  refine lv_iconst (v := nI 0) hx hb d_Mod_keep_0 (by decide) ?_
  refine lv_istore_n (lv' := [(2, .int (nI 0)), (0, .ref mo), (1, .int (nI c9))]) hx hb d_Mod_keep_1 rfl hl (by decide) rfl (fun ls hl => ?_)
  have lp_2 : ∀ (nn : Nat) (k : Nat) (Ca1 : Nat → Nat) (hk : k ≤ 64) (bC1 : ∀ j, Ca1 j < 65536), 64 - k < nn → ∀ (H : Heap) (locs : List Loc) (ls : Array Slot), va_P D classes [(mo, .inr (9, [.int cd, .ref rpx, .int nb, .ref rca, .ref rpl, .ref rth, .ref rco, .ref rsh, .ref rsf, .ref rcr, .ref rep, .ref rby, .ref rli, .ref rls, .ref rla, .ref rcm, .ref rcs, .ref rpa, .ref rpm, .ref rpo, .ref rti, .ref rre, .ref rcl, .int (nI sz), .int (nI cs), .int (nI nx), .int (nI la)])), (rca, .inl (cI, 6144, .inl (nF Ca1))), (rpl, .inl (cI, 6, .inl (nF Pl))), (rth, .inl (cZ, 96, .inl (nF Th))), (rti, .inl (cI, 64, .inl (nF Ti)))] H → va_D AA [(mo, .inr (9, [.int cd, .ref rpx, .int nb, .ref rca, .ref rpl, .ref rth, .ref rco, .ref rsh, .ref rsf, .ref rcr, .ref rep, .ref rby, .ref rli, .ref rls, .ref rla, .ref rcm, .ref rcs, .ref rpa, .ref rpm, .ref rpo, .ref rti, .ref rre, .ref rcl, .int (nI sz), .int (nI cs), .int (nI nx), .int (nI la)])), (rca, .inl (cI, 6144, .inl (nF Ca1))), (rpl, .inl (cI, 6, .inl (nF Pl))), (rth, .inl (cZ, 96, .inl (nF Th))), (rti, .inl (cI, 64, .inl (nF Ti)))] → va_S AA sT.heap H locs → lv_has ls 3 [(2, .int (nI k)), (0, .ref mo), (1, .int (nI c9))] → W pr l ev ({ frames := 0, cells := 0, slots := 0, locals := 0 } : Room) sT mM aR bW mE cO H locs 0 0 QQ (F0 mM 2 ls []) := by
    intro nn
    induction nn with
    | zero => intro k Ca1 hk bC1 hm; exact absurd hm (Nat.not_lt_zero _)
    | succ nn ih2 =>
      intro k Ca1 hk bC1 hm H locs ls hP hD hS hl
      refine lv_iload_n hx hb d_Mod_keep_2 rfl (lv_at hl 0 rfl) ?_
      refine lv_bipush (v := nI 64) hx hb d_Mod_keep_3 (by decide) ?_
      refine nv_icmp_ge (tgt := 42) hx hb d_Mod_keep_5 (by decide) (by omega) (by omega) (fun c_5 => ?_) (fun c_5 => ?_)
      · refine lv_aload_n hx hb d_Mod_keep_42 rfl (lv_at hl 1 rfl) ?_
        refine va_get (D := D) (ci := 9) (v := .ref rth) (C := "TileScreenModel") (T := F_Mod) (N := 27) hx hb htb i_Mod hown hG.1 hP 0 rfl rfl 5 (by decide) (htb _ k_640) (fun _ h9 => h9) rfl d_Mod_keep_43 ?_
        refine lv_bipush (v := nI 16) hx hb d_Mod_keep_46 (by decide) ?_
        refine lv_iload_n hx hb d_Mod_keep_48 rfl (lv_at hl 2 rfl) ?_
        refine nv_imul hx hb d_Mod_keep_49 ?_
        refine lv_aload_n hx hb d_Mod_keep_50 rfl (lv_at hl 1 rfl) ?_
        refine va_get (D := D) (ci := 9) (v := .ref rpl) (C := "TileScreenModel") (T := F_Mod) (N := 27) hx hb htb i_Mod hown hG.1 hP 0 rfl rfl 4 (by decide) (htb _ k_639) (fun _ h9 => h9) rfl d_Mod_keep_51 ?_
        refine lv_iload_n hx hb d_Mod_keep_54 rfl (lv_at hl 2 rfl) ?_
        refine nv_iald hx hb hG.1 hP 2 0 rfl rfl (by omega) (by omega) d_Mod_keep_55 ?_
        refine nv_iadd hx hb d_Mod_keep_56 ?_
        refine lv_iconst (v := nI 1) hx hb d_Mod_keep_57 (by decide) ?_
        refine nv_zast hx hb hG.1 hP hD hS 3 1 rfl rfl (by omega) (by omega) (by decide) d_Mod_keep_58 (fun H locs hP hD hS => ?_)
        have hP : va_P D classes [(mo, .inr (9, [.int cd, .ref rpx, .int nb, .ref rca, .ref rpl, .ref rth, .ref rco, .ref rsh, .ref rsf, .ref rcr, .ref rep, .ref rby, .ref rli, .ref rls, .ref rla, .ref rcm, .ref rcs, .ref rpa, .ref rpm, .ref rpo, .ref rti, .ref rre, .ref rcl, .int (nI sz), .int (nI cs), .int (nI nx), .int (nI la)])), (rca, .inl (cI, 6144, .inl (nF Ca1))), (rpl, .inl (cI, 6, .inl (nF Pl))), (rth, .inl (cZ, 96, .inl (nF (up Th (16 * c9 + (Pl c9)) 1)))), (rti, .inl (cI, 64, .inl (nF Ti)))] H := hP
        have hD : va_D AA [(mo, .inr (9, [.int cd, .ref rpx, .int nb, .ref rca, .ref rpl, .ref rth, .ref rco, .ref rsh, .ref rsf, .ref rcr, .ref rep, .ref rby, .ref rli, .ref rls, .ref rla, .ref rcm, .ref rcs, .ref rpa, .ref rpm, .ref rpo, .ref rti, .ref rre, .ref rcl, .int (nI sz), .int (nI cs), .int (nI nx), .int (nI la)])), (rca, .inl (cI, 6144, .inl (nF Ca1))), (rpl, .inl (cI, 6, .inl (nF Pl))), (rth, .inl (cZ, 96, .inl (nF (up Th (16 * c9 + (Pl c9)) 1)))), (rti, .inl (cI, 64, .inl (nF Ti)))] := hD
        refine lv_aload_n hx hb d_Mod_keep_59 rfl (lv_at hl 1 rfl) ?_
        refine va_get (D := D) (ci := 9) (v := .ref rpl) (C := "TileScreenModel") (T := F_Mod) (N := 27) hx hb htb i_Mod hown hG.1 hP 0 rfl rfl 4 (by decide) (htb _ k_639) (fun _ h9 => h9) rfl d_Mod_keep_60 ?_
        refine lv_iload_n hx hb d_Mod_keep_63 rfl (lv_at hl 2 rfl) ?_
        refine lv_aload_n hx hb d_Mod_keep_64 rfl (lv_at hl 1 rfl) ?_
        refine va_get (D := D) (ci := 9) (v := .ref rpl) (C := "TileScreenModel") (T := F_Mod) (N := 27) hx hb htb i_Mod hown hG.1 hP 0 rfl rfl 4 (by decide) (htb _ k_639) (fun _ h9 => h9) rfl d_Mod_keep_65 ?_
        refine lv_iload_n hx hb d_Mod_keep_68 rfl (lv_at hl 2 rfl) ?_
        refine nv_iald hx hb hG.1 hP 2 0 rfl rfl (by omega) (by omega) d_Mod_keep_69 ?_
        refine lv_iconst (v := nI 1) hx hb d_Mod_keep_70 (by decide) ?_
        refine nv_iadd hx hb d_Mod_keep_71 ?_
        refine lv_bipush (v := nI 16) hx hb d_Mod_keep_72 (by decide) ?_
        refine nv_irem hx hb (by omega) (by omega) (by omega) d_Mod_keep_74 ?_
        refine nv_iast hx hb hG.1 hP hD hS 2 0 rfl rfl (by omega) (by omega) d_Mod_keep_75 (fun H locs hP hD hS => ?_)
        have hP : va_P D classes [(mo, .inr (9, [.int cd, .ref rpx, .int nb, .ref rca, .ref rpl, .ref rth, .ref rco, .ref rsh, .ref rsf, .ref rcr, .ref rep, .ref rby, .ref rli, .ref rls, .ref rla, .ref rcm, .ref rcs, .ref rpa, .ref rpm, .ref rpo, .ref rti, .ref rre, .ref rcl, .int (nI sz), .int (nI cs), .int (nI nx), .int (nI la)])), (rca, .inl (cI, 6144, .inl (nF Ca1))), (rpl, .inl (cI, 6, .inl (nF (up Pl c9 ((Pl c9 + 1) % 16))))), (rth, .inl (cZ, 96, .inl (nF (up Th (16 * c9 + (Pl c9)) 1)))), (rti, .inl (cI, 64, .inl (nF Ti)))] H := hP
        have hD : va_D AA [(mo, .inr (9, [.int cd, .ref rpx, .int nb, .ref rca, .ref rpl, .ref rth, .ref rco, .ref rsh, .ref rsf, .ref rcr, .ref rep, .ref rby, .ref rli, .ref rls, .ref rla, .ref rcm, .ref rcs, .ref rpa, .ref rpm, .ref rpo, .ref rti, .ref rre, .ref rcl, .int (nI sz), .int (nI cs), .int (nI nx), .int (nI la)])), (rca, .inl (cI, 6144, .inl (nF Ca1))), (rpl, .inl (cI, 6, .inl (nF (up Pl c9 ((Pl c9 + 1) % 16))))), (rth, .inl (cZ, 96, .inl (nF (up Th (16 * c9 + (Pl c9)) 1)))), (rti, .inl (cI, 64, .inl (nF Ti)))] := hD
        have hR := hret (Ca1, up Pl c9 ((Pl c9 + 1) % 16), up Th (16 * c9 + (Pl c9)) 1) H locs 76 ls d_Mod_keep_76
        try dsimp only at hR
        exact hR (⟨bC1, up_lt bPl (Nat.mod_lt _ (by decide)), up_lt bTh (by decide)⟩) hP hD hS
      · refine lv_aload_n hx hb d_Mod_keep_8 rfl (lv_at hl 1 rfl) ?_
        refine va_get (D := D) (ci := 9) (v := .ref rca) (C := "TileScreenModel") (T := F_Mod) (N := 27) hx hb htb i_Mod hown hG.1 hP 0 rfl rfl 3 (by decide) (htb _ k_638) (fun _ h9 => h9) rfl d_Mod_keep_9 ?_
        refine lv_sipush (v := nI 1024) hx hb d_Mod_keep_12 (by decide) ?_
        refine lv_iload_n hx hb d_Mod_keep_15 rfl (lv_at hl 2 rfl) ?_
        refine nv_imul hx hb d_Mod_keep_16 ?_
        refine lv_bipush (v := nI 64) hx hb d_Mod_keep_17 (by decide) ?_
        refine lv_aload_n hx hb d_Mod_keep_19 rfl (lv_at hl 1 rfl) ?_
        refine va_get (D := D) (ci := 9) (v := .ref rpl) (C := "TileScreenModel") (T := F_Mod) (N := 27) hx hb htb i_Mod hown hG.1 hP 0 rfl rfl 4 (by decide) (htb _ k_639) (fun _ h9 => h9) rfl d_Mod_keep_20 ?_
        refine lv_iload_n hx hb d_Mod_keep_23 rfl (lv_at hl 2 rfl) ?_
        refine nv_iald hx hb hG.1 hP 2 0 rfl rfl (by omega) (by omega) d_Mod_keep_24 ?_
        refine nv_imul hx hb d_Mod_keep_25 ?_
        refine nv_iadd hx hb d_Mod_keep_26 ?_
        refine lv_iload_n hx hb d_Mod_keep_27 rfl (lv_at hl 0 rfl) ?_
        refine nv_iadd hx hb d_Mod_keep_28 ?_
        refine lv_aload_n hx hb d_Mod_keep_29 rfl (lv_at hl 1 rfl) ?_
        refine va_get (D := D) (ci := 9) (v := .ref rti) (C := "TileScreenModel") (T := F_Mod) (N := 27) hx hb htb i_Mod hown hG.1 hP 0 rfl rfl 20 (by decide) (htb _ k_655) (fun _ h9 => h9) rfl d_Mod_keep_30 ?_
        refine lv_iload_n hx hb d_Mod_keep_33 rfl (lv_at hl 0 rfl) ?_
        refine nv_iald hx hb hG.1 hP 4 0 rfl rfl (by omega) (by omega) d_Mod_keep_34 ?_
        refine nv_iast hx hb hG.1 hP hD hS 1 0 rfl rfl (by omega) (by omega) d_Mod_keep_35 (fun H locs hP hD hS => ?_)
        have hP : va_P D classes [(mo, .inr (9, [.int cd, .ref rpx, .int nb, .ref rca, .ref rpl, .ref rth, .ref rco, .ref rsh, .ref rsf, .ref rcr, .ref rep, .ref rby, .ref rli, .ref rls, .ref rla, .ref rcm, .ref rcs, .ref rpa, .ref rpm, .ref rpo, .ref rti, .ref rre, .ref rcl, .int (nI sz), .int (nI cs), .int (nI nx), .int (nI la)])), (rca, .inl (cI, 6144, .inl (nF (up Ca1 (1024 * c9 + (64 * (Pl c9)) + k) (Ti k))))), (rpl, .inl (cI, 6, .inl (nF Pl))), (rth, .inl (cZ, 96, .inl (nF Th))), (rti, .inl (cI, 64, .inl (nF Ti)))] H := hP
        have hD : va_D AA [(mo, .inr (9, [.int cd, .ref rpx, .int nb, .ref rca, .ref rpl, .ref rth, .ref rco, .ref rsh, .ref rsf, .ref rcr, .ref rep, .ref rby, .ref rli, .ref rls, .ref rla, .ref rcm, .ref rcs, .ref rpa, .ref rpm, .ref rpo, .ref rti, .ref rre, .ref rcl, .int (nI sz), .int (nI cs), .int (nI nx), .int (nI la)])), (rca, .inl (cI, 6144, .inl (nF (up Ca1 (1024 * c9 + (64 * (Pl c9)) + k) (Ti k))))), (rpl, .inl (cI, 6, .inl (nF Pl))), (rth, .inl (cZ, 96, .inl (nF Th))), (rti, .inl (cI, 64, .inl (nF Ti)))] := hD
        refine lv_iinc (v := (nI (k + 1))) (lv' := [(2, .int (nI (k + 1))), (0, .ref mo), (1, .int (nI c9))]) hx hb d_Mod_keep_36 hl (k := 0) rfl (nI_add k 1) (by decide) rfl (fun ls hl => ?_)
        refine lv_goto (tgt := 2) hx hb d_Mod_keep_39 (by decide) ?_
        exact ih2 (k + 1) (up Ca1 (1024 * c9 + (64 * (Pl c9)) + k) (Ti k)) (by omega) (up_lt bC1 (bTi _)) (by omega) _ _ _ hP hD hS (lv_sub hl [0, 1, 2] rfl)
  exact lp_2 _ 0 Ca (Nat.zero_le _) (bCa) (Nat.lt_succ_self _) _ _ _ hP hD hS (lv_sub hl [0, 1, 2] rfl)
set_option maxHeartbeats 400000 in
set_option maxRecDepth 100000 in
theorem c_Mod_send (mo : Nat) (cd : Int32) (rpx : Nat) (nb : Int32) (rca : Nat) (rpl : Nat) (rth : Nat) (rco : Nat) (rsh : Nat) (rsf : Nat) (rcr : Nat) (rep : Nat) (rby : Nat) (rli : Nat) (rls : Nat) (rla : Nat) (rcm : Nat) (rcs : Nat) (rpa : Nat) (rpm : Nat) (rpo : Nat) (rti : Nat) (rre : Nat) (rcl : Nat) (sz : Nat) (cs : Nat) (nx : Nat) (la : Nat) (Li : Nat → Nat) (Ls : Nat → Nat) (v : Nat) (b9 : Int32) (hv : v < 3) (hl9 : Ls v < 6247) : CV (S := Unit) l classes NW D (TYS cI cZ cL cV) y_Mod_send (.code y_Mod_send b_Mod_send 3 none :: TB) { frames := 0, cells := 0, slots := 0, locals := 0 } [.ref mo, .int (nI v), .int b9] [(mo, .inr (9, [.int cd, .ref rpx, .int nb, .ref rca, .ref rpl, .ref rth, .ref rco, .ref rsh, .ref rsf, .ref rcr, .ref rep, .ref rby, .ref rli, .ref rls, .ref rla, .ref rcm, .ref rcs, .ref rpa, .ref rpm, .ref rpo, .ref rti, .ref rre, .ref rcl, .int (nI sz), .int (nI cs), .int (nI nx), .int (nI la)])), (rli, .inl (cI, 18741, .inl (nF Li))), (rls, .inl (cI, 3, .inl (nF Ls)))] (fun u => True) (fun u => [(mo, .inr (9, [.int cd, .ref rpx, .int nb, .ref rca, .ref rpl, .ref rth, .ref rco, .ref rsh, .ref rsf, .ref rcr, .ref rep, .ref rby, .ref rli, .ref rls, .ref rla, .ref rcm, .ref rcs, .ref rpa, .ref rpm, .ref rpo, .ref rti, .ref rre, .ref rcl, .int (nI sz), .int (nI cs), .int (nI nx), .int (nI la)])), (rli, .inl (cI, 18741, .inl (nF (up Li (6247 * v + Ls v) (mk8 b9))))), (rls, .inl (cI, 3, .inl (nF (up Ls v (Ls v + 1)))))]) := by
  refine CV.of (by decide) (Nat.le_of_ble_eq_true rfl) ?_
  intro pr ev sT mM aR bW mE cO AA QQ ls Bd hG hA hP hD hS hl hnm hret
  have Bd : bd pr cO b_Mod_send 3 sT aR TB "TileScreenModel" mM := Bd
  obtain ⟨hx, hb, hml, hown, htb⟩ := id Bd
  have hl : lv_has ls 3 [(0, .ref mo), (1, .int (nI v)), (2, .int b9)] := hl
  refine lv_aload_n hx hb d_Mod_send_0 rfl (lv_at hl 0 rfl) ?_
  refine va_get (D := D) (ci := 9) (v := .ref rli) (C := "TileScreenModel") (T := F_Mod) (N := 27) hx hb htb i_Mod hown hG.1 hP 0 rfl rfl 12 (by decide) (htb _ k_647) (fun _ h9 => h9) rfl d_Mod_send_1 ?_
  refine lv_sipush (v := nI 6247) hx hb d_Mod_send_4 (by decide) ?_
  refine lv_iload_n hx hb d_Mod_send_7 rfl (lv_at hl 1 rfl) ?_
  refine nv_imul hx hb d_Mod_send_8 ?_
  refine lv_aload_n hx hb d_Mod_send_9 rfl (lv_at hl 0 rfl) ?_
  refine va_get (D := D) (ci := 9) (v := .ref rls) (C := "TileScreenModel") (T := F_Mod) (N := 27) hx hb htb i_Mod hown hG.1 hP 0 rfl rfl 13 (by decide) (htb _ k_648) (fun _ h9 => h9) rfl d_Mod_send_10 ?_
  refine lv_iload_n hx hb d_Mod_send_13 rfl (lv_at hl 1 rfl) ?_
  refine nv_iald hx hb hG.1 hP 2 0 rfl rfl (by omega) (by omega) d_Mod_send_14 ?_
  refine nv_iadd hx hb d_Mod_send_15 ?_
  refine lv_iload_n hx hb d_Mod_send_16 rfl (lv_at hl 2 rfl) ?_
  refine lv_sipush (v := nI 255) hx hb d_Mod_send_17 (by decide) ?_
  refine lv_iand hx hb d_Mod_send_20 ?_
  refine nv_top (y := nI (mk8 b9)) (mk8_eq b9) ?_
  refine nv_iast hx hb hG.1 hP hD hS 1 0 rfl rfl (by omega) (by omega) d_Mod_send_21 (fun H locs hP hD hS => ?_)
  have hP : va_P D classes [(mo, .inr (9, [.int cd, .ref rpx, .int nb, .ref rca, .ref rpl, .ref rth, .ref rco, .ref rsh, .ref rsf, .ref rcr, .ref rep, .ref rby, .ref rli, .ref rls, .ref rla, .ref rcm, .ref rcs, .ref rpa, .ref rpm, .ref rpo, .ref rti, .ref rre, .ref rcl, .int (nI sz), .int (nI cs), .int (nI nx), .int (nI la)])), (rli, .inl (cI, 18741, .inl (nF (up Li (6247 * v + (Ls v)) (mk8 b9))))), (rls, .inl (cI, 3, .inl (nF Ls)))] H := hP
  have hD : va_D AA [(mo, .inr (9, [.int cd, .ref rpx, .int nb, .ref rca, .ref rpl, .ref rth, .ref rco, .ref rsh, .ref rsf, .ref rcr, .ref rep, .ref rby, .ref rli, .ref rls, .ref rla, .ref rcm, .ref rcs, .ref rpa, .ref rpm, .ref rpo, .ref rti, .ref rre, .ref rcl, .int (nI sz), .int (nI cs), .int (nI nx), .int (nI la)])), (rli, .inl (cI, 18741, .inl (nF (up Li (6247 * v + (Ls v)) (mk8 b9))))), (rls, .inl (cI, 3, .inl (nF Ls)))] := hD
  refine lv_aload_n hx hb d_Mod_send_22 rfl (lv_at hl 0 rfl) ?_
  refine va_get (D := D) (ci := 9) (v := .ref rls) (C := "TileScreenModel") (T := F_Mod) (N := 27) hx hb htb i_Mod hown hG.1 hP 0 rfl rfl 13 (by decide) (htb _ k_648) (fun _ h9 => h9) rfl d_Mod_send_23 ?_
  refine lv_iload_n hx hb d_Mod_send_26 rfl (lv_at hl 1 rfl) ?_
  refine lv_dup2_11 hx hb d_Mod_send_27 rfl rfl ?_
  refine nv_iald hx hb hG.1 hP 2 0 rfl rfl (by omega) (by omega) d_Mod_send_28 ?_
  refine lv_iconst (v := nI 1) hx hb d_Mod_send_29 (by decide) ?_
  refine nv_iadd hx hb d_Mod_send_30 ?_
  refine nv_iast hx hb hG.1 hP hD hS 2 0 rfl rfl (by omega) (by omega) d_Mod_send_31 (fun H locs hP hD hS => ?_)
  have hP : va_P D classes [(mo, .inr (9, [.int cd, .ref rpx, .int nb, .ref rca, .ref rpl, .ref rth, .ref rco, .ref rsh, .ref rsf, .ref rcr, .ref rep, .ref rby, .ref rli, .ref rls, .ref rla, .ref rcm, .ref rcs, .ref rpa, .ref rpm, .ref rpo, .ref rti, .ref rre, .ref rcl, .int (nI sz), .int (nI cs), .int (nI nx), .int (nI la)])), (rli, .inl (cI, 18741, .inl (nF (up Li (6247 * v + (Ls v)) (mk8 b9))))), (rls, .inl (cI, 3, .inl (nF (up Ls v (Ls v + 1)))))] H := hP
  have hD : va_D AA [(mo, .inr (9, [.int cd, .ref rpx, .int nb, .ref rca, .ref rpl, .ref rth, .ref rco, .ref rsh, .ref rsf, .ref rcr, .ref rep, .ref rby, .ref rli, .ref rls, .ref rla, .ref rcm, .ref rcs, .ref rpa, .ref rpm, .ref rpo, .ref rti, .ref rre, .ref rcl, .int (nI sz), .int (nI cs), .int (nI nx), .int (nI la)])), (rli, .inl (cI, 18741, .inl (nF (up Li (6247 * v + (Ls v)) (mk8 b9))))), (rls, .inl (cI, 3, .inl (nF (up Ls v (Ls v + 1)))))] := hD
  exact hret () _ _ _ _ d_Mod_send_32 (trivial) hP hD hS
set_option maxHeartbeats 400000 in
set_option maxRecDepth 100000 in
theorem c_Mod_get (mo : Nat) (cd : Int32) (rpx : Nat) (nb : Int32) (rca : Nat) (rpl : Nat) (rth : Nat) (rco : Nat) (rsh : Nat) (rsf : Nat) (rcr : Nat) (rep : Nat) (rby : Nat) (rli : Nat) (rls : Nat) (rla : Nat) (rcm : Nat) (rcs : Nat) (rpa : Nat) (rpm : Nat) (rpo : Nat) (rti : Nat) (rre : Nat) (rcl : Nat) (sz : Nat) (cs : Nat) (nx : Nat) (la : Nat) (Cm : Nat → Nat) (v : Nat) (hv : v < 3) (hla : la ≤ 6247) (hnx : nx < 2 ^ 30) (bCm : ∀ j, Cm j < 256) : CI (S := Nat) l classes NW D (TYS cI cZ cL cV) y_Mod_get (.code y_Mod_get b_Mod_get 3 (some .int) :: TB) { frames := 0, cells := 0, slots := 0, locals := 0 } [.ref mo, .int (nI v)] [(mo, .inr (9, [.int cd, .ref rpx, .int nb, .ref rca, .ref rpl, .ref rth, .ref rco, .ref rsh, .ref rsf, .ref rcr, .ref rep, .ref rby, .ref rli, .ref rls, .ref rla, .ref rcm, .ref rcs, .ref rpa, .ref rpm, .ref rpo, .ref rti, .ref rre, .ref rcl, .int (nI sz), .int (nI cs), .int (nI nx), .int (nI la)])), (rcm, .inl (cI, 18741, .inl (nF Cm)))] (fun r u => r = nI u ∧ u < 256) (fun u => [(mo, .inr (9, [.int cd, .ref rpx, .int nb, .ref rca, .ref rpl, .ref rth, .ref rco, .ref rsh, .ref rsf, .ref rcr, .ref rep, .ref rby, .ref rli, .ref rls, .ref rla, .ref rcm, .ref rcs, .ref rpa, .ref rpm, .ref rpo, .ref rti, .ref rre, .ref rcl, .int (nI sz), .int (nI cs), .int (nI (nx + 1)), .int (nI la)])), (rcm, .inl (cI, 18741, .inl (nF Cm)))]) := by
  refine CI.of (by decide) (Nat.le_of_ble_eq_true rfl) ?_
  intro pr ev sT mM aR bW mE cO AA QQ ls Bd hG hA hP hD hS hl hret
  have Bd : bd pr cO b_Mod_get 3 sT aR TB "TileScreenModel" mM := Bd
  obtain ⟨hx, hb, hml, hown, htb⟩ := id Bd
  have hl : lv_has ls 3 [(0, .ref mo), (1, .int (nI v))] := hl
  refine lv_aload_n hx hb d_Mod_get_0 rfl (lv_at hl 0 rfl) ?_
  refine va_get (D := D) (ci := 9) (v := .int (nI nx)) (C := "TileScreenModel") (T := F_Mod) (N := 27) hx hb htb i_Mod hown hG.1 hP 0 rfl rfl 25 (by decide) (htb _ k_660) (fun _ h9 => h9) rfl d_Mod_get_1 ?_
  refine lv_aload_n hx hb d_Mod_get_4 rfl (lv_at hl 0 rfl) ?_
  refine va_get (D := D) (ci := 9) (v := .int (nI la)) (C := "TileScreenModel") (T := F_Mod) (N := 27) hx hb htb i_Mod hown hG.1 hP 0 rfl rfl 26 (by decide) (htb _ k_661) (fun _ h9 => h9) rfl d_Mod_get_5 ?_
  refine nv_icmp_ge (tgt := 29) hx hb d_Mod_get_8 (by decide) (by omega) (by omega) (fun c_8 => ?_) (fun c_8 => ?_)
  · refine lv_iconst (v := nI 0) hx hb d_Mod_get_29 (by decide) ?_
    refine lv_istore_n (lv' := [(2, .int (nI 0)), (0, .ref mo), (1, .int (nI v))]) hx hb d_Mod_get_30 rfl hl (by decide) rfl (fun ls hl => ?_)
    refine lv_aload_n hx hb d_Mod_get_31 rfl (lv_at hl 1 rfl) ?_
    refine lv_dup hx hb d_Mod_get_32 rfl ?_
    refine va_get (D := D) (ci := 9) (v := .int (nI nx)) (C := "TileScreenModel") (T := F_Mod) (N := 27) hx hb htb i_Mod hown hG.1 hP 0 rfl rfl 25 (by decide) (htb _ k_660) (fun _ h9 => h9) rfl d_Mod_get_33 ?_
    refine lv_iconst (v := nI 1) hx hb d_Mod_get_36 (by decide) ?_
    refine nv_iadd hx hb d_Mod_get_37 ?_
    refine va_put (D := D) (ci := 9) (v := .int (nI (nx + 1))) (ty := .int) (C := "TileScreenModel") (T := F_Mod) (N := 27) hx hb htb i_Mod t_Mod t_Mod_ok n_Mod hown hG.1 hP hD hS 0 rfl rfl 25 (by decide) (htb _ k_660) (fun _ h9 => h9) rfl (by decide +kernel) rfl rfl (Nat.le_of_ble_eq_true rfl) d_Mod_get_38 (fun H locs hP hD hS => ?_)
    have hP : va_P D classes [(mo, .inr (9, [.int cd, .ref rpx, .int nb, .ref rca, .ref rpl, .ref rth, .ref rco, .ref rsh, .ref rsf, .ref rcr, .ref rep, .ref rby, .ref rli, .ref rls, .ref rla, .ref rcm, .ref rcs, .ref rpa, .ref rpm, .ref rpo, .ref rti, .ref rre, .ref rcl, .int (nI sz), .int (nI cs), .int (nI (nx + 1)), .int (nI la)])), (rcm, .inl (cI, 18741, .inl (nF Cm)))] H := hP
    have hD : va_D AA [(mo, .inr (9, [.int cd, .ref rpx, .int nb, .ref rca, .ref rpl, .ref rth, .ref rco, .ref rsh, .ref rsf, .ref rcr, .ref rep, .ref rby, .ref rli, .ref rls, .ref rla, .ref rcm, .ref rcs, .ref rpa, .ref rpm, .ref rpo, .ref rti, .ref rre, .ref rcl, .int (nI sz), .int (nI cs), .int (nI (nx + 1)), .int (nI la)])), (rcm, .inl (cI, 18741, .inl (nF Cm)))] := hD
    refine lv_iload_n hx hb d_Mod_get_41 rfl (lv_at hl 0 rfl) ?_
    exact hret _ 0 _ _ _ _ d_Mod_get_42 rfl (⟨rfl, by decide⟩) hP hD hS
  · refine lv_aload_n hx hb d_Mod_get_11 rfl (lv_at hl 0 rfl) ?_
    refine va_get (D := D) (ci := 9) (v := .ref rcm) (C := "TileScreenModel") (T := F_Mod) (N := 27) hx hb htb i_Mod hown hG.1 hP 0 rfl rfl 15 (by decide) (htb _ k_650) (fun _ h9 => h9) rfl d_Mod_get_12 ?_
    refine lv_sipush (v := nI 6247) hx hb d_Mod_get_15 (by decide) ?_
    refine lv_iload_n hx hb d_Mod_get_18 rfl (lv_at hl 1 rfl) ?_
    refine nv_imul hx hb d_Mod_get_19 ?_
    refine lv_aload_n hx hb d_Mod_get_20 rfl (lv_at hl 0 rfl) ?_
    refine va_get (D := D) (ci := 9) (v := .int (nI nx)) (C := "TileScreenModel") (T := F_Mod) (N := 27) hx hb htb i_Mod hown hG.1 hP 0 rfl rfl 25 (by decide) (htb _ k_660) (fun _ h9 => h9) rfl d_Mod_get_21 ?_
    refine nv_iadd hx hb d_Mod_get_24 ?_
    refine nv_iald hx hb hG.1 hP 1 0 rfl rfl (by omega) (by omega) d_Mod_get_25 ?_
    refine lv_goto (tgt := 30) hx hb d_Mod_get_26 (by decide) ?_
    refine lv_istore_n (lv' := [(2, .int (nI (Cm (6247 * v + nx)))), (0, .ref mo), (1, .int (nI v))]) hx hb d_Mod_get_30 rfl hl (by decide) rfl (fun ls hl => ?_)
    refine lv_aload_n hx hb d_Mod_get_31 rfl (lv_at hl 1 rfl) ?_
    refine lv_dup hx hb d_Mod_get_32 rfl ?_
    refine va_get (D := D) (ci := 9) (v := .int (nI nx)) (C := "TileScreenModel") (T := F_Mod) (N := 27) hx hb htb i_Mod hown hG.1 hP 0 rfl rfl 25 (by decide) (htb _ k_660) (fun _ h9 => h9) rfl d_Mod_get_33 ?_
    refine lv_iconst (v := nI 1) hx hb d_Mod_get_36 (by decide) ?_
    refine nv_iadd hx hb d_Mod_get_37 ?_
    refine va_put (D := D) (ci := 9) (v := .int (nI (nx + 1))) (ty := .int) (C := "TileScreenModel") (T := F_Mod) (N := 27) hx hb htb i_Mod t_Mod t_Mod_ok n_Mod hown hG.1 hP hD hS 0 rfl rfl 25 (by decide) (htb _ k_660) (fun _ h9 => h9) rfl (by decide +kernel) rfl rfl (Nat.le_of_ble_eq_true rfl) d_Mod_get_38 (fun H locs hP hD hS => ?_)
    have hP : va_P D classes [(mo, .inr (9, [.int cd, .ref rpx, .int nb, .ref rca, .ref rpl, .ref rth, .ref rco, .ref rsh, .ref rsf, .ref rcr, .ref rep, .ref rby, .ref rli, .ref rls, .ref rla, .ref rcm, .ref rcs, .ref rpa, .ref rpm, .ref rpo, .ref rti, .ref rre, .ref rcl, .int (nI sz), .int (nI cs), .int (nI (nx + 1)), .int (nI la)])), (rcm, .inl (cI, 18741, .inl (nF Cm)))] H := hP
    have hD : va_D AA [(mo, .inr (9, [.int cd, .ref rpx, .int nb, .ref rca, .ref rpl, .ref rth, .ref rco, .ref rsh, .ref rsf, .ref rcr, .ref rep, .ref rby, .ref rli, .ref rls, .ref rla, .ref rcm, .ref rcs, .ref rpa, .ref rpm, .ref rpo, .ref rti, .ref rre, .ref rcl, .int (nI sz), .int (nI cs), .int (nI (nx + 1)), .int (nI la)])), (rcm, .inl (cI, 18741, .inl (nF Cm)))] := hD
    refine lv_iload_n hx hb d_Mod_get_41 rfl (lv_at hl 0 rfl) ?_
    exact hret _ (Cm (6247 * v + nx)) _ _ _ _ d_Mod_get_42 rfl (⟨rfl, bCm _⟩) hP hD hS
set_option maxHeartbeats 400000 in
set_option maxRecDepth 100000 in
theorem c_Mod_getTwo (mo : Nat) (cd : Int32) (rpx : Nat) (nb : Int32) (rca : Nat) (rpl : Nat) (rth : Nat) (rco : Nat) (rsh : Nat) (rsf : Nat) (rcr : Nat) (rep : Nat) (rby : Nat) (rli : Nat) (rls : Nat) (rla : Nat) (rcm : Nat) (rcs : Nat) (rpa : Nat) (rpm : Nat) (rpo : Nat) (rti : Nat) (rre : Nat) (rcl : Nat) (sz : Nat) (cs : Nat) (nx : Nat) (la : Nat) (Cm : Nat → Nat) (v : Nat) (hv : v < 3) (hla : la ≤ 6247) (hnx : nx + 1 < 2 ^ 30) (bCm : ∀ j, Cm j < 256) : CI (S := Nat) l classes NW D (TYS cI cZ cL cV) y_Mod_getTwo (.code y_Mod_getTwo b_Mod_getTwo 3 (some .int) :: TB) { frames := 1, cells := 0, slots := 0, locals := 22 } [.ref mo, .int (nI v)] [(mo, .inr (9, [.int cd, .ref rpx, .int nb, .ref rca, .ref rpl, .ref rth, .ref rco, .ref rsh, .ref rsf, .ref rcr, .ref rep, .ref rby, .ref rli, .ref rls, .ref rla, .ref rcm, .ref rcs, .ref rpa, .ref rpm, .ref rpo, .ref rti, .ref rre, .ref rcl, .int (nI sz), .int (nI cs), .int (nI nx), .int (nI la)])), (rcm, .inl (cI, 18741, .inl (nF Cm)))] (fun r u => r = nI u ∧ u < 65536) (fun u => [(mo, .inr (9, [.int cd, .ref rpx, .int nb, .ref rca, .ref rpl, .ref rth, .ref rco, .ref rsh, .ref rsf, .ref rcr, .ref rep, .ref rby, .ref rli, .ref rls, .ref rla, .ref rcm, .ref rcs, .ref rpa, .ref rpm, .ref rpo, .ref rti, .ref rre, .ref rcl, .int (nI sz), .int (nI cs), .int (nI (nx + 2)), .int (nI la)])), (rcm, .inl (cI, 18741, .inl (nF Cm)))]) := by
  refine CI.of (by decide) (Nat.le_of_ble_eq_true rfl) ?_
  intro pr ev sT mM aR bW mE cO AA QQ ls Bd hG hA hP hD hS hl hret
  have Bd : bd pr cO b_Mod_getTwo 3 sT aR TB "TileScreenModel" mM := Bd
  obtain ⟨hx, hb, hml, hown, htb⟩ := id Bd
  have hl : lv_has ls 3 [(0, .ref mo), (1, .int (nI v))] := hl
  refine lv_aload_n hx hb d_Mod_getTwo_0 rfl (lv_at hl 0 rfl) ?_
  refine lv_iload_n hx hb d_Mod_getTwo_1 rfl (lv_at hl 1 rfl) ?_
  refine kV_i (wc := [(mo, .inr (9, [.int cd, .ref rpx, .int nb, .ref rca, .ref rpl, .ref rth, .ref rco, .ref rsh, .ref rsf, .ref rcr, .ref rep, .ref rby, .ref rli, .ref rls, .ref rla, .ref rcm, .ref rcs, .ref rpa, .ref rpm, .ref rpo, .ref rti, .ref rre, .ref rcl, .int (nI sz), .int (nI cs), .int (nI nx), .int (nI la)])), (rcm, .inl (cI, 18741, .inl (nF Cm)))]) (wr := []) (w2 := fun u => [(mo, .inr (9, [.int cd, .ref rpx, .int nb, .ref rca, .ref rpl, .ref rth, .ref rco, .ref rsh, .ref rsf, .ref rcr, .ref rep, .ref rby, .ref rli, .ref rls, .ref rla, .ref rcm, .ref rcs, .ref rpa, .ref rpm, .ref rpo, .ref rti, .ref rre, .ref rcl, .int (nI sz), .int (nI cs), .int (nI (nx + 1)), .int (nI la)])), (rcm, .inl (cI, 18741, .inl (nF Cm)))]) [.int (nI v)] [] Bd ⟨gi_app (gi_c0 k_837 (gi_c0 k_839 (gi_c0 s_40 (gi_c0 k_10 gi_nil)))) (gi_tb0 k_840), rfl, by decide, by decide⟩ (show (parseMethodDescriptor "(I)I").map (fun d => d.parameters.length) = some 1 by decide +kernel) (c_Mod_get mo cd rpx nb rca rpl rth rco rsh rsf rcr rep rby rli rls rla rcm rcs rpa rpm rpo rti rre rcl sz cs nx la Cm v (by omega) (by omega) (by omega) (bCm)) (by decide +kernel) ⟨Nat.le_of_ble_eq_true rfl, Nat.le_of_ble_eq_true rfl⟩ hG hP hD hS hA [0, 1] [] [0, 1] (by decide) rfl rfl (fun _ => rfl) (q0 := 0) rfl rfl rfl hl.1 rfl (Nat.le_of_ble_eq_true rfl) d_Mod_getTwo_2 (fun r2 u4 H locs hp3 hP hD hS => ?_)
  obtain ⟨u1, rfl⟩ : ∃ z9, z9 = u4 := ⟨_, rfl⟩
  try dsimp only at hp3
  have hP : va_P D classes [(mo, .inr (9, [.int cd, .ref rpx, .int nb, .ref rca, .ref rpl, .ref rth, .ref rco, .ref rsh, .ref rsf, .ref rcr, .ref rep, .ref rby, .ref rli, .ref rls, .ref rla, .ref rcm, .ref rcs, .ref rpa, .ref rpm, .ref rpo, .ref rti, .ref rre, .ref rcl, .int (nI sz), .int (nI cs), .int (nI (nx + 1)), .int (nI la)])), (rcm, .inl (cI, 18741, .inl (nF Cm)))] H := hP
  have hD : va_D AA [(mo, .inr (9, [.int cd, .ref rpx, .int nb, .ref rca, .ref rpl, .ref rth, .ref rco, .ref rsh, .ref rsf, .ref rcr, .ref rep, .ref rby, .ref rli, .ref rls, .ref rla, .ref rcm, .ref rcs, .ref rpa, .ref rpm, .ref rpo, .ref rti, .ref rre, .ref rcl, .int (nI sz), .int (nI cs), .int (nI (nx + 1)), .int (nI la)])), (rcm, .inl (cI, 18741, .inl (nF Cm)))] := hD
  obtain ⟨rfl, hp5⟩ := hp3
  refine lv_istore_n (lv' := [(2, .int (nI u1)), (0, .ref mo), (1, .int (nI v))]) hx hb d_Mod_getTwo_5 rfl hl (by decide) rfl (fun ls hl => ?_)
  refine lv_sipush (v := nI 256) hx hb d_Mod_getTwo_6 (by decide) ?_
  refine lv_iload_n hx hb d_Mod_getTwo_9 rfl (lv_at hl 0 rfl) ?_
  refine nv_imul hx hb d_Mod_getTwo_10 ?_
  refine lv_aload_n hx hb d_Mod_getTwo_11 rfl (lv_at hl 1 rfl) ?_
  refine lv_iload_n hx hb d_Mod_getTwo_12 rfl (lv_at hl 2 rfl) ?_
  refine kV_i (wc := [(mo, .inr (9, [.int cd, .ref rpx, .int nb, .ref rca, .ref rpl, .ref rth, .ref rco, .ref rsh, .ref rsf, .ref rcr, .ref rep, .ref rby, .ref rli, .ref rls, .ref rla, .ref rcm, .ref rcs, .ref rpa, .ref rpm, .ref rpo, .ref rti, .ref rre, .ref rcl, .int (nI sz), .int (nI cs), .int (nI (nx + 1)), .int (nI la)])), (rcm, .inl (cI, 18741, .inl (nF Cm)))]) (wr := []) (w2 := fun u => [(mo, .inr (9, [.int cd, .ref rpx, .int nb, .ref rca, .ref rpl, .ref rth, .ref rco, .ref rsh, .ref rsf, .ref rcr, .ref rep, .ref rby, .ref rli, .ref rls, .ref rla, .ref rcm, .ref rcs, .ref rpa, .ref rpm, .ref rpo, .ref rti, .ref rre, .ref rcl, .int (nI sz), .int (nI cs), .int (nI ((nx + 1) + 1)), .int (nI la)])), (rcm, .inl (cI, 18741, .inl (nF Cm)))]) [.int (nI v)] [.int (nI (256 * u1))] Bd ⟨gi_app (gi_c0 k_837 (gi_c0 k_839 (gi_c0 s_40 (gi_c0 k_10 gi_nil)))) (gi_tb0 k_840), rfl, by decide, by decide⟩ (show (parseMethodDescriptor "(I)I").map (fun d => d.parameters.length) = some 1 by decide +kernel) (c_Mod_get mo cd rpx nb rca rpl rth rco rsh rsf rcr rep rby rli rls rla rcm rcs rpa rpm rpo rti rre rcl sz cs (nx + 1) la Cm v (by omega) (by omega) (by omega) (bCm)) (by decide +kernel) ⟨Nat.le_of_ble_eq_true rfl, Nat.le_of_ble_eq_true rfl⟩ hG hP hD hS hA [0, 1] [] [0, 1] (by decide) rfl rfl (fun _ => rfl) (q0 := 0) rfl rfl rfl hl.1 rfl (Nat.le_of_ble_eq_true rfl) d_Mod_getTwo_13 (fun r7 u9 H locs hp8 hP hD hS => ?_)
  obtain ⟨u6, rfl⟩ : ∃ z9, z9 = u9 := ⟨_, rfl⟩
  try dsimp only at hp8
  have hP : va_P D classes [(mo, .inr (9, [.int cd, .ref rpx, .int nb, .ref rca, .ref rpl, .ref rth, .ref rco, .ref rsh, .ref rsf, .ref rcr, .ref rep, .ref rby, .ref rli, .ref rls, .ref rla, .ref rcm, .ref rcs, .ref rpa, .ref rpm, .ref rpo, .ref rti, .ref rre, .ref rcl, .int (nI sz), .int (nI cs), .int (nI ((nx + 1) + 1)), .int (nI la)])), (rcm, .inl (cI, 18741, .inl (nF Cm)))] H := hP
  have hD : va_D AA [(mo, .inr (9, [.int cd, .ref rpx, .int nb, .ref rca, .ref rpl, .ref rth, .ref rco, .ref rsh, .ref rsf, .ref rcr, .ref rep, .ref rby, .ref rli, .ref rls, .ref rla, .ref rcm, .ref rcs, .ref rpa, .ref rpm, .ref rpo, .ref rti, .ref rre, .ref rcl, .int (nI sz), .int (nI cs), .int (nI ((nx + 1) + 1)), .int (nI la)])), (rcm, .inl (cI, 18741, .inl (nF Cm)))] := hD
  obtain ⟨rfl, hp10⟩ := hp8
  refine nv_iadd hx hb d_Mod_getTwo_16 ?_
  exact hret _ (256 * u1 + u6) _ _ _ _ d_Mod_getTwo_17 rfl (⟨rfl, by have h1 := hp5; have h2 := hp10; omega⟩) hP hD hS
end
