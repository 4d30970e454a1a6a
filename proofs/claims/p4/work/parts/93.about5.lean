section
variable {l : Launch} {D : va_G} {cI cZ cL cV : ClassId}
set_option maxHeartbeats 400000 in
set_option maxRecDepth 100000 in
theorem c_Mod_about5 (mo : Nat) (cd : Int32) (rpx : Nat) (nb : Int32) (rca : Nat) (rpl : Nat) (rth : Nat) (rco : Nat) (rsh : Nat) (rsf : Nat) (rcr : Nat) (rep : Nat) (rby : Nat) (rli : Nat) (rls : Nat) (rla : Nat) (rcm : Nat) (rcs : Nat) (rpa : Nat) (rpm : Nat) (rpo : Nat) (rti : Nat) (rre : Nat) (rcl : Nat) (sz : Nat) (cs : Nat) (nx : Nat) (la : Nat) (Px : Nat → Nat) (v : Nat) (hv : v < 3) (bPx : ∀ j, Px j < 65536) : CI (S := Unit) l classes NW D (TYS cI cZ cL cV) y_Mod_about (.code y_Mod_about b_Mod_about 5 (some .int) :: TB) { frames := 2, cells := 0, slots := 0, locals := 48 } [.ref mo, .int (nI v), .int (nI 5)] [(mo, .inr (9, [.int cd, .ref rpx, .int nb, .ref rca, .ref rpl, .ref rth, .ref rco, .ref rsh, .ref rsf, .ref rcr, .ref rep, .ref rby, .ref rli, .ref rls, .ref rla, .ref rcm, .ref rcs, .ref rpa, .ref rpm, .ref rpo, .ref rti, .ref rre, .ref rcl, .int (nI sz), .int (nI cs), .int (nI nx), .int (nI la)])), (rpx, .inl (cI, 30720, .inl (nF Px)))] (fun r u => True) (fun u => [(mo, .inr (9, [.int (nI 0), .ref rpx, .int nb, .ref rca, .ref rpl, .ref rth, .ref rco, .ref rsh, .ref rsf, .ref rcr, .ref rep, .ref rby, .ref rli, .ref rls, .ref rla, .ref rcm, .ref rcs, .ref rpa, .ref rpm, .ref rpo, .ref rti, .ref rre, .ref rcl, .int (nI sz), .int (nI cs), .int (nI nx), .int (nI la)])), (rpx, .inl (cI, 30720, .inl (nF Px)))]) := by
  refine CI.of (by decide) (Nat.le_of_ble_eq_true rfl) ?_
  intro pr ev sT mM aR bW mE cO AA QQ ls Bd hG hA hP hD hS hl hret
  have Bd : bd pr cO b_Mod_about 5 sT aR TB "TileScreenModel" mM := Bd
  obtain ⟨hx, hb, hml, hown, htb⟩ := id Bd
  have hl : lv_has ls 5 [(0, .ref mo), (1, .int (nI v)), (2, .int (nI 5))] := hl
  refine lv_aload_n hx hb d_Mod_about_0 rfl (lv_at hl 0 rfl) ?_
  refine lv_iconst (v := nI 0) hx hb d_Mod_about_1 (by decide) ?_
  refine va_put (D := D) (ci := 9) (v := .int (nI 0)) (ty := .int) (C := "TileScreenModel") (T := F_Mod) (N := 27) hx hb htb i_Mod t_Mod t_Mod_ok n_Mod hown hG.1 hP hD hS 0 rfl rfl 0 (by decide) (htb _ k_635) (fun _ h9 => h9) rfl (by decide +kernel) rfl rfl (Nat.le_of_ble_eq_true rfl) d_Mod_about_2 (fun H locs hP hD hS => ?_)
  have hP : va_P D classes [(mo, .inr (9, [.int (nI 0), .ref rpx, .int nb, .ref rca, .ref rpl, .ref rth, .ref rco, .ref rsh, .ref rsf, .ref rcr, .ref rep, .ref rby, .ref rli, .ref rls, .ref rla, .ref rcm, .ref rcs, .ref rpa, .ref rpm, .ref rpo, .ref rti, .ref rre, .ref rcl, .int (nI sz), .int (nI cs), .int (nI nx), .int (nI la)])), (rpx, .inl (cI, 30720, .inl (nF Px)))] H := hP
  have hD : va_D AA [(mo, .inr (9, [.int (nI 0), .ref rpx, .int nb, .ref rca, .ref rpl, .ref rth, .ref rco, .ref rsh, .ref rsf, .ref rcr, .ref rep, .ref rby, .ref rli, .ref rls, .ref rla, .ref rcm, .ref rcs, .ref rpa, .ref rpm, .ref rpo, .ref rti, .ref rre, .ref rcl, .int (nI sz), .int (nI cs), .int (nI nx), .int (nI la)])), (rpx, .inl (cI, 30720, .inl (nF Px)))] := hD
  refine lv_iload_n hx hb d_Mod_about_5 rfl (lv_at hl 1 rfl) ?_
  refine kS_i (wc := []) (wr := [(mo, .inr (9, [.int (nI 0), .ref rpx, .int nb, .ref rca, .ref rpl, .ref rth, .ref rco, .ref rsh, .ref rsf, .ref rcr, .ref rep, .ref rby, .ref rli, .ref rls, .ref rla, .ref rcm, .ref rcs, .ref rpa, .ref rpm, .ref rpo, .ref rti, .ref rre, .ref rcl, .int (nI sz), .int (nI cs), .int (nI nx), .int (nI la)])), (rpx, .inl (cI, 30720, .inl (nF Px)))]) (w2 := fun _ => [(mo, .inr (9, [.int (nI 0), .ref rpx, .int nb, .ref rca, .ref rpl, .ref rth, .ref rco, .ref rsh, .ref rsf, .ref rcr, .ref rep, .ref rby, .ref rli, .ref rls, .ref rla, .ref rcm, .ref rcs, .ref rpa, .ref rpm, .ref rpo, .ref rti, .ref rre, .ref rcl, .int (nI sz), .int (nI cs), .int (nI nx), .int (nI la)])), (rpx, .inl (cI, 30720, .inl (nF Px)))]) [.int (nI v)] [] Bd ⟨gi_app (gi_c0 k_753 (gi_c0 k_754 (gi_c0 k_10 gi_nil))) (gi_tb0 k_755), rfl, by decide, by decide⟩ (show (parseMethodDescriptor "(I)Z").map (fun d => d.parameters.length) = some 1 by decide +kernel) (c_Mod_isViewer (nI v) ) (by decide +kernel) ⟨Nat.le_of_ble_eq_true rfl, Nat.le_of_ble_eq_true rfl⟩ hG hP hD hS hA [] [0, 1] [0, 1] (by decide) rfl rfl (fun _ => rfl) hl.1 rfl (Nat.le_of_ble_eq_true rfl) d_Mod_about_6 (fun r1 u3 H locs hp2 hP hD hS => ?_)
  have hP : va_P D classes [(mo, .inr (9, [.int (nI 0), .ref rpx, .int nb, .ref rca, .ref rpl, .ref rth, .ref rco, .ref rsh, .ref rsf, .ref rcr, .ref rep, .ref rby, .ref rli, .ref rls, .ref rla, .ref rcm, .ref rcs, .ref rpa, .ref rpm, .ref rpo, .ref rti, .ref rre, .ref rcl, .int (nI sz), .int (nI cs), .int (nI nx), .int (nI la)])), (rpx, .inl (cI, 30720, .inl (nF Px)))] H := hP
  have hD : va_D AA [(mo, .inr (9, [.int (nI 0), .ref rpx, .int nb, .ref rca, .ref rpl, .ref rth, .ref rco, .ref rsh, .ref rsf, .ref rcr, .ref rep, .ref rby, .ref rli, .ref rls, .ref rla, .ref rcm, .ref rcs, .ref rpa, .ref rpm, .ref rpo, .ref rti, .ref rre, .ref rcl, .int (nI sz), .int (nI cs), .int (nI nx), .int (nI la)])), (rpx, .inl (cI, 30720, .inl (nF Px)))] := hD
  subst hp2
  refine nv_if_ne (tgt := 14) hx hb d_Mod_about_9 (by decide) (bt_lt _) (fun c_9 => ?_) (fun c_9 => ?_)
  · refine lv_iconst (v := nI 0) hx hb d_Mod_about_14 (by decide) ?_
    refine lv_istore_n (lv' := [(3, .int (nI 0)), (0, .ref mo), (1, .int (nI v)), (2, .int (nI 5))]) hx hb d_Mod_about_15 rfl hl (by decide) rfl (fun ls hl => ?_)
    refine lv_iconst (v := nI 0) hx hb d_Mod_about_16 (by decide) ?_
    refine lv_istore (lv' := [(4, .int (nI 0)), (3, .int (nI 0)), (0, .ref mo), (1, .int (nI v)), (2, .int (nI 5))]) hx hb d_Mod_about_17 hl (by decide) rfl (fun ls hl => ?_)
    have lp_19 : ∀ (nn : Nat) (k : Nat) (d : Nat) (hk : k ≤ 48), 48 - k < nn → ∀ (H : Heap) (locs : List Loc) (ls : Array Slot), va_P D classes [(mo, .inr (9, [.int (nI 0), .ref rpx, .int nb, .ref rca, .ref rpl, .ref rth, .ref rco, .ref rsh, .ref rsf, .ref rcr, .ref rep, .ref rby, .ref rli, .ref rls, .ref rla, .ref rcm, .ref rcs, .ref rpa, .ref rpm, .ref rpo, .ref rti, .ref rre, .ref rcl, .int (nI sz), .int (nI cs), .int (nI nx), .int (nI la)])), (rpx, .inl (cI, 30720, .inl (nF Px)))] H → va_D AA [(mo, .inr (9, [.int (nI 0), .ref rpx, .int nb, .ref rca, .ref rpl, .ref rth, .ref rco, .ref rsh, .ref rsf, .ref rcr, .ref rep, .ref rby, .ref rli, .ref rls, .ref rla, .ref rcm, .ref rcs, .ref rpa, .ref rpm, .ref rpo, .ref rti, .ref rre, .ref rcl, .int (nI sz), .int (nI cs), .int (nI nx), .int (nI la)])), (rpx, .inl (cI, 30720, .inl (nF Px)))] → va_S AA sT.heap H locs → lv_has ls 5 [(4, .int (nI k)), (3, .int (nI d)), (0, .ref mo), (1, .int (nI v)), (2, .int (nI 5))] → W pr l ev ({ frames := 2, cells := 0, slots := 0, locals := 48 } : Room) sT mM aR bW mE cO H locs 0 0 QQ (F0 mM 19 ls []) := by
      intro nn
      induction nn with
      | zero => intro k d hk hm; exact absurd hm (Nat.not_lt_zero _)
      | succ nn ih19 =>
        intro k d hk hm H locs ls hP hD hS hl
        refine lv_iload hx hb d_Mod_about_19 (lv_at hl 0 rfl) ?_
        refine lv_bipush (v := nI 48) hx hb d_Mod_about_21 (by decide) ?_
        refine nv_icmp_ge (tgt := 60) hx hb d_Mod_about_23 (by decide) (by omega) (by omega) (fun c_23 => ?_) (fun c_23 => ?_)
        · refine lv_iload_n hx hb d_Mod_about_60 rfl (lv_at hl 4 rfl) ?_
          refine lv_tableIn (off := 97) (tgt := 158) hx hb d_Mod_about_61 (by decide) (by decide) (by decide) (by decide) ?_
          refine lv_iload_n hx hb d_Mod_about_158 rfl (lv_at hl 1 rfl) ?_
          exact hret _ () _ _ _ _ d_Mod_about_159 rfl (trivial) hP hD hS
        · refine lv_iload_n hx hb d_Mod_about_26 rfl (lv_at hl 4 rfl) ?_
          refine lv_iconst (v := nI 5) hx hb d_Mod_about_27 (by decide) ?_
          refine nv_icmp_ne (tgt := 60) hx hb d_Mod_about_28 (by decide) (by omega) (by omega) (fun h9 => absurd h9 (by decide)) (fun _ => ?_)
          refine lv_iload_n hx hb d_Mod_about_31 rfl (lv_at hl 1 rfl) ?_
          refine lv_aload_n hx hb d_Mod_about_32 rfl (lv_at hl 2 rfl) ?_
          refine lv_iconst (v := nI 5) hx hb d_Mod_about_33 (by decide) ?_
          refine lv_iload_n hx hb d_Mod_about_34 rfl (lv_at hl 3 rfl) ?_
          refine nv_iadd hx hb d_Mod_about_35 ?_
          refine lv_iload hx hb d_Mod_about_36 (lv_at hl 0 rfl) ?_
          refine lv_iconst (v := nI 1) hx hb d_Mod_about_38 (by decide) ?_
          refine lv_iload hx hb d_Mod_about_39 (lv_at hl 0 rfl) ?_
          refine kV_i (wc := [(mo, .inr (9, [.int (nI 0), .ref rpx, .int nb, .ref rca, .ref rpl, .ref rth, .ref rco, .ref rsh, .ref rsf, .ref rcr, .ref rep, .ref rby, .ref rli, .ref rls, .ref rla, .ref rcm, .ref rcs, .ref rpa, .ref rpm, .ref rpo, .ref rti, .ref rre, .ref rcl, .int (nI sz), .int (nI cs), .int (nI nx), .int (nI la)])), (rpx, .inl (cI, 30720, .inl (nF Px)))]) (wr := []) (w2 := fun u => [(mo, .inr (9, [.int (nI 0), .ref rpx, .int nb, .ref rca, .ref rpl, .ref rth, .ref rco, .ref rsh, .ref rsf, .ref rcr, .ref rep, .ref rby, .ref rli, .ref rls, .ref rla, .ref rcm, .ref rcs, .ref rpa, .ref rpm, .ref rpo, .ref rti, .ref rre, .ref rcl, .int (nI sz), .int (nI cs), .int (nI nx), .int (nI la)])), (rpx, .inl (cI, 30720, .inl (nF Px)))]) [.int (nI (5 + v)), .int (nI k), .int (nI 1), .int (nI k)] [.int (nI d)] Bd ⟨gi_app (gi_c0 k_781 (gi_c0 k_783 (gi_c0 s_26 (gi_c0 k_10 gi_nil)))) (gi_tb0 k_784), rfl, by decide, by decide⟩ (show (parseMethodDescriptor "(IIII)Z").map (fun d => d.parameters.length) = some 4 by decide +kernel) (c_Mod_sameTile mo (nI 0) rpx nb rca rpl rth rco rsh rsf rcr rep rby rli rls rla rcm rcs rpa rpm rpo rti rre rcl sz cs nx la Px (5 + v) k 1 k (by omega) (by omega) (by omega) (by omega) (bPx)) (by decide +kernel) ⟨Nat.le_of_ble_eq_true rfl, Nat.le_of_ble_eq_true rfl⟩ hG hP hD hS hA [0, 1] [] [0, 1] (by decide) rfl rfl (fun _ => rfl) (q0 := 0) rfl rfl rfl hl.1 rfl (Nat.le_of_ble_eq_true rfl) d_Mod_about_41 (fun r6 u8 H locs hp7 hP hD hS => ?_)
          obtain ⟨u5, rfl⟩ : ∃ z9, z9 = u8 := ⟨_, rfl⟩
          try dsimp only at hp7
          have hP : va_P D classes [(mo, .inr (9, [.int (nI 0), .ref rpx, .int nb, .ref rca, .ref rpl, .ref rth, .ref rco, .ref rsh, .ref rsf, .ref rcr, .ref rep, .ref rby, .ref rli, .ref rls, .ref rla, .ref rcm, .ref rcs, .ref rpa, .ref rpm, .ref rpo, .ref rti, .ref rre, .ref rcl, .int (nI sz), .int (nI cs), .int (nI nx), .int (nI la)])), (rpx, .inl (cI, 30720, .inl (nF Px)))] H := hP
          have hD : va_D AA [(mo, .inr (9, [.int (nI 0), .ref rpx, .int nb, .ref rca, .ref rpl, .ref rth, .ref rco, .ref rsh, .ref rsf, .ref rcr, .ref rep, .ref rby, .ref rli, .ref rls, .ref rla, .ref rcm, .ref rcs, .ref rpa, .ref rpm, .ref rpo, .ref rti, .ref rre, .ref rcl, .int (nI sz), .int (nI cs), .int (nI nx), .int (nI la)])), (rpx, .inl (cI, 30720, .inl (nF Px)))] := hD
          obtain ⟨rfl, hp9⟩ := hp7
          refine nv_if_eq (tgt := 51) hx hb d_Mod_about_44 (by decide) (by omega) (fun c_44 => ?_) (fun c_44 => ?_)
          · refine lv_iconst (v := nI 1) hx hb d_Mod_about_51 (by decide) ?_
            refine nv_iadd hx hb d_Mod_about_52 ?_
            refine lv_istore_n (lv' := [(3, .int (nI (d + 1))), (4, .int (nI k)), (0, .ref mo), (1, .int (nI v)), (2, .int (nI 5))]) hx hb d_Mod_about_53 rfl hl (by decide) rfl (fun ls hl => ?_)
            refine lv_iinc (v := (nI (k + 1))) (lv' := [(4, .int (nI (k + 1))), (3, .int (nI (d + 1))), (0, .ref mo), (1, .int (nI v)), (2, .int (nI 5))]) hx hb d_Mod_about_54 hl (k := 1) rfl (nI_add k 1) (by decide) rfl (fun ls hl => ?_)
            refine lv_goto (tgt := 19) hx hb d_Mod_about_57 (by decide) ?_
            exact ih19 (k + 1) (d + 1) (by omega) (by omega) _ _ _ hP hD hS (lv_sub hl [0, 1, 2, 3, 4] rfl)
          · refine lv_iconst (v := nI 0) hx hb d_Mod_about_47 (by decide) ?_
            refine lv_goto (tgt := 52) hx hb d_Mod_about_48 (by decide) ?_
            refine nv_iadd hx hb d_Mod_about_52 ?_
            refine lv_istore_n (lv' := [(3, .int (nI (d + 0))), (4, .int (nI k)), (0, .ref mo), (1, .int (nI v)), (2, .int (nI 5))]) hx hb d_Mod_about_53 rfl hl (by decide) rfl (fun ls hl => ?_)
            refine lv_iinc (v := (nI (k + 1))) (lv' := [(4, .int (nI (k + 1))), (3, .int (nI (d + 0))), (0, .ref mo), (1, .int (nI v)), (2, .int (nI 5))]) hx hb d_Mod_about_54 hl (k := 1) rfl (nI_add k 1) (by decide) rfl (fun ls hl => ?_)
            refine lv_goto (tgt := 19) hx hb d_Mod_about_57 (by decide) ?_
            exact ih19 (k + 1) (d + 0) (by omega) (by omega) _ _ _ hP hD hS (lv_sub hl [0, 1, 2, 3, 4] rfl)
    exact lp_19 _ 0 0 (Nat.zero_le _) (Nat.lt_succ_self _) _ _ _ hP hD hS (lv_sub hl [0, 1, 2, 3, 4] rfl)
  · exact absurd (vwP_i hv) (cB_0 c_9)
end
