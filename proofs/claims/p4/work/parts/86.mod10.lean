section
variable {l : Launch} {D : va_G} {cI cZ cL cV : ClassId}
set_option maxHeartbeats 4000000 in
set_option maxRecDepth 100000 in
theorem c_Mod_read0 (mo : Nat) (cd : Int32) (rpx : Nat) (nb : Int32) (rca : Nat) (rpl : Nat) (rth : Nat) (rco : Nat) (rsh : Nat) (rsf : Nat) (rcr : Nat) (rep : Nat) (rby : Nat) (rli : Nat) (rls : Nat) (rla : Nat) (rcm : Nat) (rcs : Nat) (rpa : Nat) (rpm : Nat) (rpo : Nat) (rti : Nat) (rre : Nat) (rcl : Nat) (sz : Nat) (cs : Nat) (nx : Nat) (la : Nat) (Px : Nat → Nat) (Th : Nat → Nat) (Ca : Nat → Nat) (Ti : Nat → Nat) (Co : Nat → Nat) (Cm : Nat → Nat) (v : Nat) (hv : v < 3) (bPx : ∀ j, Px j < 65536) (bTh : ∀ j, Th j < 2) (bCa : ∀ j, Ca j < 65536) (bTi : ∀ j, Ti j < 65536) (bCo : ∀ j, Co j < 65536) (bCm : ∀ j, Cm j < 256) (hnx : nx ≤ 10000) (hla : la ≤ 6247) : CI (S := Nat × Nat × (Nat → Nat) × (Nat → Nat)) l classes NW D (TYS cI cZ cL cV) y_Mod_read (.code y_Mod_read b_Mod_read 8 (some .boolean) :: TB) { frames := 3, cells := 0, slots := 0, locals := 90 } [.ref mo, .int (nI v), .int (nI 0)] [(mo, .inr (9, [.int cd, .ref rpx, .int nb, .ref rca, .ref rpl, .ref rth, .ref rco, .ref rsh, .ref rsf, .ref rcr, .ref rep, .ref rby, .ref rli, .ref rls, .ref rla, .ref rcm, .ref rcs, .ref rpa, .ref rpm, .ref rpo, .ref rti, .ref rre, .ref rcl, .int (nI sz), .int (nI cs), .int (nI nx), .int (nI la)])), (rpx, .inl (cI, 30720, .inl (nF Px))), (rth, .inl (cZ, 96, .inl (nF Th))), (rca, .inl (cI, 6144, .inl (nF Ca))), (rti, .inl (cI, 64, .inl (nF Ti))), (rcl, .inl (cI, 64, .inl (nF Co))), (rcm, .inl (cI, 18741, .inl (nF Cm)))] (fun r u => r = nI u.1 ∧ u.1 ≤ 1 ∧ nx ≤ u.2.1 ∧ u.2.1 ≤ nx + 2100 ∧ (∀ j, u.2.2.1 j < 65536) ∧ (∀ j, u.2.2.2 j < 65536)) (fun u => [(mo, .inr (9, [.int cd, .ref rpx, .int nb, .ref rca, .ref rpl, .ref rth, .ref rco, .ref rsh, .ref rsf, .ref rcr, .ref rep, .ref rby, .ref rli, .ref rls, .ref rla, .ref rcm, .ref rcs, .ref rpa, .ref rpm, .ref rpo, .ref rti, .ref rre, .ref rcl, .int (nI sz), .int (nI cs), .int (nI u.2.1), .int (nI la)])), (rpx, .inl (cI, 30720, .inl (nF Px))), (rth, .inl (cZ, 96, .inl (nF Th))), (rca, .inl (cI, 6144, .inl (nF Ca))), (rti, .inl (cI, 64, .inl (nF u.2.2.1))), (rcl, .inl (cI, 64, .inl (nF u.2.2.2))), (rcm, .inl (cI, 18741, .inl (nF Cm)))]) := by
  refine CI.of (by decide) (Nat.le_of_ble_eq_true rfl) ?_
  intro pr ev sT mM aR bW mE cO AA QQ ls Bd hG hA hP hD hS hl hret
  have Bd : bd pr cO b_Mod_read 8 sT aR TB "TileScreenModel" mM := Bd
  obtain ⟨hx, hb, hml, hown, htb⟩ := id Bd
  have hl : lv_has ls 8 [(0, .ref mo), (1, .int (nI v)), (2, .int (nI 0))] := hl
  refine lv_iload_n hx hb d_Mod_read_0 rfl (lv_at hl 2 rfl) ?_
  refine lv_iconst (v := nI 4) hx hb d_Mod_read_1 (by decide) ?_
  refine nv_icmp_ne (tgt := 13) hx hb d_Mod_read_2 (by decide) (by omega) (by omega) (fun _ => ?_) (fun h9 => absurd h9 (by decide))
  refine lv_iload_n hx hb d_Mod_read_13 rfl (lv_at hl 2 rfl) ?_
  refine lv_iconst (v := nI 3) hx hb d_Mod_read_14 (by decide) ?_
  refine nv_icmp_ne (tgt := 22) hx hb d_Mod_read_15 (by decide) (by omega) (by omega) (fun _ => ?_) (fun h9 => absurd h9 (by decide))
  refine lv_iconst (v := nI 1) hx hb d_Mod_read_22 (by decide) ?_
  refine lv_istore_n (lv' := [(3, .int (nI 1)), (0, .ref mo), (1, .int (nI v)), (2, .int (nI 0))]) hx hb d_Mod_read_23 rfl hl (by decide) rfl (fun ls hl => ?_)
  refine lv_iload_n hx hb d_Mod_read_24 rfl (lv_at hl 3 rfl) ?_
  refine lv_iconst (v := nI 4) hx hb d_Mod_read_25 (by decide) ?_
  refine nv_icmp_ne (tgt := 41) hx hb d_Mod_read_26 (by decide) (by omega) (by omega) (fun _ => ?_) (fun h9 => absurd h9 (by decide))
  refine lv_iload_n hx hb d_Mod_read_41 rfl (lv_at hl 3 rfl) ?_
  refine nv_if_eq (tgt := 55) hx hb d_Mod_read_42 (by decide) (by decide) (fun _ => ?_) (fun h9 => absurd h9 (by decide))
  refine lv_iconst (v := nI 0) hx hb d_Mod_read_55 (by decide) ?_
  refine lv_istore (lv' := [(4, .int (nI 0)), (3, .int (nI 1)), (0, .ref mo), (1, .int (nI v)), (2, .int (nI 0))]) hx hb d_Mod_read_56 hl (by decide) rfl (fun ls hl => ?_)
  refine lv_iload hx hb d_Mod_read_58 (lv_at hl 0 rfl) ?_
  refine lv_iload_n hx hb d_Mod_read_60 rfl (lv_at hl 1 rfl) ?_
  refine nv_icmp_ge (tgt := 82) hx hb d_Mod_read_61 (by decide) (by omega) (by omega) (fun h9 => absurd h9 (by decide)) (fun _ => ?_)
  refine lv_aload_n hx hb d_Mod_read_64 rfl (lv_at hl 2 rfl) ?_
  refine va_get (D := D) (ci := 9) (v := .ref rcl) (C := "TileScreenModel") (T := F_Mod) (N := 27) hx hb htb i_Mod hown hG.1 hP 0 rfl rfl 22 (by decide) (htb _ k_657) (fun _ h9 => h9) rfl d_Mod_read_65 ?_
  refine lv_iload hx hb d_Mod_read_68 (lv_at hl 0 rfl) ?_
  refine lv_aload_n hx hb d_Mod_read_70 rfl (lv_at hl 2 rfl) ?_
  refine lv_iload_n hx hb d_Mod_read_71 rfl (lv_at hl 3 rfl) ?_
  refine kV_i (wc := [(mo, .inr (9, [.int cd, .ref rpx, .int nb, .ref rca, .ref rpl, .ref rth, .ref rco, .ref rsh, .ref rsf, .ref rcr, .ref rep, .ref rby, .ref rli, .ref rls, .ref rla, .ref rcm, .ref rcs, .ref rpa, .ref rpm, .ref rpo, .ref rti, .ref rre, .ref rcl, .int (nI sz), .int (nI cs), .int (nI nx), .int (nI la)])), (rcm, .inl (cI, 18741, .inl (nF Cm)))]) (wr := [(rpx, .inl (cI, 30720, .inl (nF Px))), (rth, .inl (cZ, 96, .inl (nF Th))), (rca, .inl (cI, 6144, .inl (nF Ca))), (rti, .inl (cI, 64, .inl (nF Ti))), (rcl, .inl (cI, 64, .inl (nF Co)))]) (w2 := fun u => [(mo, .inr (9, [.int cd, .ref rpx, .int nb, .ref rca, .ref rpl, .ref rth, .ref rco, .ref rsh, .ref rsf, .ref rcr, .ref rep, .ref rby, .ref rli, .ref rls, .ref rla, .ref rcm, .ref rcs, .ref rpa, .ref rpm, .ref rpo, .ref rti, .ref rre, .ref rcl, .int (nI sz), .int (nI cs), .int (nI (nx + 2)), .int (nI la)])), (rpx, .inl (cI, 30720, .inl (nF Px))), (rth, .inl (cZ, 96, .inl (nF Th))), (rca, .inl (cI, 6144, .inl (nF Ca))), (rti, .inl (cI, 64, .inl (nF Ti))), (rcl, .inl (cI, 64, .inl (nF Co))), (rcm, .inl (cI, 18741, .inl (nF Cm)))]) [.int (nI v)] [.int (nI 0), .ref rcl] Bd ⟨gi_app (gi_c0 k_833 (gi_c0 k_835 (gi_c0 s_39 (gi_c0 k_10 gi_nil)))) (gi_tb0 k_836), rfl, by decide, by decide⟩ (show (parseMethodDescriptor "(I)I").map (fun d => d.parameters.length) = some 1 by decide +kernel) (c_Mod_getTwo mo cd rpx nb rca rpl rth rco rsh rsf rcr rep rby rli rls rla rcm rcs rpa rpm rpo rti rre rcl sz cs nx la Cm v (hv) (hla) (by omega) (bCm)) (by decide +kernel) ⟨Nat.le_of_ble_eq_true rfl, Nat.le_of_ble_eq_true rfl⟩ hG hP hD hS hA [0, 6] [1, 2, 3, 4, 5] [5, 0, 1, 2, 3, 4, 6] (by decide) rfl rfl (fun _ => rfl) (q0 := 0) rfl rfl rfl hl.1 rfl (Nat.le_of_ble_eq_true rfl) d_Mod_read_72 (fun r2 u4 H locs hp3 hP hD hS => ?_)
  obtain ⟨u1, rfl⟩ : ∃ z9, z9 = u4 := ⟨_, rfl⟩
  try dsimp only at hp3
  have hP : va_P D classes [(mo, .inr (9, [.int cd, .ref rpx, .int nb, .ref rca, .ref rpl, .ref rth, .ref rco, .ref rsh, .ref rsf, .ref rcr, .ref rep, .ref rby, .ref rli, .ref rls, .ref rla, .ref rcm, .ref rcs, .ref rpa, .ref rpm, .ref rpo, .ref rti, .ref rre, .ref rcl, .int (nI sz), .int (nI cs), .int (nI (nx + 2)), .int (nI la)])), (rpx, .inl (cI, 30720, .inl (nF Px))), (rth, .inl (cZ, 96, .inl (nF Th))), (rca, .inl (cI, 6144, .inl (nF Ca))), (rti, .inl (cI, 64, .inl (nF Ti))), (rcl, .inl (cI, 64, .inl (nF Co))), (rcm, .inl (cI, 18741, .inl (nF Cm)))] H := hP
  have hD : va_D AA [(mo, .inr (9, [.int cd, .ref rpx, .int nb, .ref rca, .ref rpl, .ref rth, .ref rco, .ref rsh, .ref rsf, .ref rcr, .ref rep, .ref rby, .ref rli, .ref rls, .ref rla, .ref rcm, .ref rcs, .ref rpa, .ref rpm, .ref rpo, .ref rti, .ref rre, .ref rcl, .int (nI sz), .int (nI cs), .int (nI (nx + 2)), .int (nI la)])), (rpx, .inl (cI, 30720, .inl (nF Px))), (rth, .inl (cZ, 96, .inl (nF Th))), (rca, .inl (cI, 6144, .inl (nF Ca))), (rti, .inl (cI, 64, .inl (nF Ti))), (rcl, .inl (cI, 64, .inl (nF Co))), (rcm, .inl (cI, 18741, .inl (nF Cm)))] := hD
  obtain ⟨rfl, hp5⟩ := hp3
  refine nv_iast hx hb hG.1 hP hD hS 5 0 rfl rfl (by omega) (by omega) d_Mod_read_75 (fun H locs hP hD hS => ?_)
  have hP : va_P D classes [(mo, .inr (9, [.int cd, .ref rpx, .int nb, .ref rca, .ref rpl, .ref rth, .ref rco, .ref rsh, .ref rsf, .ref rcr, .ref rep, .ref rby, .ref rli, .ref rls, .ref rla, .ref rcm, .ref rcs, .ref rpa, .ref rpm, .ref rpo, .ref rti, .ref rre, .ref rcl, .int (nI sz), .int (nI cs), .int (nI (nx + 2)), .int (nI la)])), (rpx, .inl (cI, 30720, .inl (nF Px))), (rth, .inl (cZ, 96, .inl (nF Th))), (rca, .inl (cI, 6144, .inl (nF Ca))), (rti, .inl (cI, 64, .inl (nF Ti))), (rcl, .inl (cI, 64, .inl (nF (up Co 0 u1)))), (rcm, .inl (cI, 18741, .inl (nF Cm)))] H := hP
  have hD : va_D AA [(mo, .inr (9, [.int cd, .ref rpx, .int nb, .ref rca, .ref rpl, .ref rth, .ref rco, .ref rsh, .ref rsf, .ref rcr, .ref rep, .ref rby, .ref rli, .ref rls, .ref rla, .ref rcm, .ref rcs, .ref rpa, .ref rpm, .ref rpo, .ref rti, .ref rre, .ref rcl, .int (nI sz), .int (nI cs), .int (nI (nx + 2)), .int (nI la)])), (rpx, .inl (cI, 30720, .inl (nF Px))), (rth, .inl (cZ, 96, .inl (nF Th))), (rca, .inl (cI, 6144, .inl (nF Ca))), (rti, .inl (cI, 64, .inl (nF Ti))), (rcl, .inl (cI, 64, .inl (nF (up Co 0 u1)))), (rcm, .inl (cI, 18741, .inl (nF Cm)))] := hD
  refine lv_iinc (v := (nI 1)) (lv' := [(4, .int (nI 1)), (3, .int (nI 1)), (0, .ref mo), (1, .int (nI v)), (2, .int (nI 0))]) hx hb d_Mod_read_76 hl (k := 0) rfl (rfl) (by decide) rfl (fun ls hl => ?_)
  refine lv_goto (tgt := 58) hx hb d_Mod_read_79 (by decide) ?_
  refine lv_iload hx hb d_Mod_read_58 (lv_at hl 0 rfl) ?_
  refine lv_iload_n hx hb d_Mod_read_60 rfl (lv_at hl 1 rfl) ?_
  refine nv_icmp_ge (tgt := 82) hx hb d_Mod_read_61 (by decide) (by omega) (by omega) (fun _ => ?_) (fun h9 => absurd h9 (by decide))
  refine lv_iload_n hx hb d_Mod_read_82 rfl (lv_at hl 4 rfl) ?_
  refine lv_iconst (v := nI 1) hx hb d_Mod_read_83 (by decide) ?_
  refine nv_icmp_eq (tgt := 92) hx hb d_Mod_read_84 (by decide) (by omega) (by omega) (fun h9 => absurd h9 (by decide)) (fun _ => ?_)
  refine lv_iload_n hx hb d_Mod_read_87 rfl (lv_at hl 4 rfl) ?_
  refine lv_iconst (v := nI 2) hx hb d_Mod_read_88 (by decide) ?_
  refine nv_icmp_ne (tgt := 104) hx hb d_Mod_read_89 (by decide) (by omega) (by omega) (fun _ => ?_) (fun h9 => absurd h9 (by decide))
  refine lv_iload_n hx hb d_Mod_read_104 rfl (lv_at hl 4 rfl) ?_
  refine lv_iconst (v := nI 5) hx hb d_Mod_read_105 (by decide) ?_
  refine nv_icmp_ne (tgt := 115) hx hb d_Mod_read_106 (by decide) (by omega) (by omega) (fun _ => ?_) (fun h9 => absurd h9 (by decide))
  refine lv_iconst (v := nI 0) hx hb d_Mod_read_115 (by decide) ?_
  refine lv_istore (lv' := [(4, .int (nI 0)), (3, .int (nI 1)), (0, .ref mo), (1, .int (nI v)), (2, .int (nI 0))]) hx hb d_Mod_read_116 hl (by decide) rfl (fun ls hl => ?_)
  refine lv_iconst (v := nI 1) hx hb d_Mod_read_118 (by decide) ?_
  refine lv_istore (lv' := [(5, .int (nI 1)), (4, .int (nI 0)), (3, .int (nI 1)), (0, .ref mo), (1, .int (nI v)), (2, .int (nI 0))]) hx hb d_Mod_read_119 hl (by decide) rfl (fun ls hl => ?_)
  refine lv_iconst (v := nI 0) hx hb d_Mod_read_121 (by decide) ?_
  refine lv_istore (lv' := [(6, .int (nI 0)), (5, .int (nI 1)), (4, .int (nI 0)), (3, .int (nI 1)), (0, .ref mo), (1, .int (nI v)), (2, .int (nI 0))]) hx hb d_Mod_read_122 hl (by decide) rfl (fun ls hl => ?_)
  have lp_124 : ∀ (nn : Nat) (k : Nat) (b1 : Nat) (g1 : Nat) (nx1 : Nat) (Ti1 : Nat → Nat) (hk : k ≤ 64) (hb1 : b1 < 256) (hg1 : g1 ≤ 1) (hn1 : nx1 ≤ nx + 2 + 3 * k) (hn2 : nx + 2 ≤ nx1) (bT1 : ∀ j, Ti1 j < 65536), 64 - k < nn → ∀ (H : Heap) (locs : List Loc) (ls : Array Slot), va_P D classes [(mo, .inr (9, [.int cd, .ref rpx, .int nb, .ref rca, .ref rpl, .ref rth, .ref rco, .ref rsh, .ref rsf, .ref rcr, .ref rep, .ref rby, .ref rli, .ref rls, .ref rla, .ref rcm, .ref rcs, .ref rpa, .ref rpm, .ref rpo, .ref rti, .ref rre, .ref rcl, .int (nI sz), .int (nI cs), .int (nI nx1), .int (nI la)])), (rpx, .inl (cI, 30720, .inl (nF Px))), (rth, .inl (cZ, 96, .inl (nF Th))), (rca, .inl (cI, 6144, .inl (nF Ca))), (rti, .inl (cI, 64, .inl (nF Ti1))), (rcl, .inl (cI, 64, .inl (nF (up Co 0 u1)))), (rcm, .inl (cI, 18741, .inl (nF Cm)))] H → va_D AA [(mo, .inr (9, [.int cd, .ref rpx, .int nb, .ref rca, .ref rpl, .ref rth, .ref rco, .ref rsh, .ref rsf, .ref rcr, .ref rep, .ref rby, .ref rli, .ref rls, .ref rla, .ref rcm, .ref rcs, .ref rpa, .ref rpm, .ref rpo, .ref rti, .ref rre, .ref rcl, .int (nI sz), .int (nI cs), .int (nI nx1), .int (nI la)])), (rpx, .inl (cI, 30720, .inl (nF Px))), (rth, .inl (cZ, 96, .inl (nF Th))), (rca, .inl (cI, 6144, .inl (nF Ca))), (rti, .inl (cI, 64, .inl (nF Ti1))), (rcl, .inl (cI, 64, .inl (nF (up Co 0 u1)))), (rcm, .inl (cI, 18741, .inl (nF Cm)))] → va_S AA sT.heap H locs → lv_has ls 8 [(6, .int (nI k)), (5, .int (nI g1)), (4, .int (nI b1)), (3, .int (nI 1)), (0, .ref mo), (1, .int (nI v)), (2, .int (nI 0))] → W pr l ev ({ frames := 3, cells := 0, slots := 0, locals := 90 } : Room) sT mM aR bW mE cO H locs 0 0 QQ (F0 mM 124 ls []) := by
    intro nn
    induction nn with
    | zero => intro k b1 g1 nx1 Ti1 hk hb1 hg1 hn1 hn2 bT1 hm; exact absurd hm (Nat.not_lt_zero _)
    | succ nn ih124 =>
      intro k b1 g1 nx1 Ti1 hk hb1 hg1 hn1 hn2 bT1 hm H locs ls hP hD hS hl
      refine lv_iload hx hb d_Mod_read_124 (lv_at hl 0 rfl) ?_
      refine lv_bipush (v := nI 64) hx hb d_Mod_read_126 (by decide) ?_
      refine nv_icmp_ge (tgt := 261) hx hb d_Mod_read_128 (by decide) (by omega) (by omega) (fun c_128 => ?_) (fun c_128 => ?_)
      · refine lv_iload hx hb d_Mod_read_261 (lv_at hl 1 rfl) ?_
        refine nv_if_eq (tgt := 281) hx hb d_Mod_read_263 (by decide) (by omega) (fun c_263 => ?_) (fun c_263 => ?_)
        · refine lv_iconst (v := nI 0) hx hb d_Mod_read_281 (by decide) ?_
          have hR := hret ((nI 0)) (0, nx1, Ti1, up Co 0 u1) H locs 282 ls d_Mod_read_282 (by first | rfl | decide)
          try dsimp only at hR
          exact hR (⟨rfl, by decide, by omega, by omega, bT1, up_lt bCo hp5⟩) hP hD hS
        · refine lv_aload_n hx hb d_Mod_read_266 rfl (lv_at hl 4 rfl) ?_
          refine va_get (D := D) (ci := 9) (v := .int (nI nx1)) (C := "TileScreenModel") (T := F_Mod) (N := 27) hx hb htb i_Mod hown hG.1 hP 0 rfl rfl 25 (by decide) (htb _ k_660) (fun _ h9 => h9) rfl d_Mod_read_267 ?_
          refine lv_aload_n hx hb d_Mod_read_270 rfl (lv_at hl 4 rfl) ?_
          refine va_get (D := D) (ci := 9) (v := .int (nI la)) (C := "TileScreenModel") (T := F_Mod) (N := 27) hx hb htb i_Mod hown hG.1 hP 0 rfl rfl 26 (by decide) (htb _ k_661) (fun _ h9 => h9) rfl d_Mod_read_271 ?_
          refine nv_icmp_gt (tgt := 281) hx hb d_Mod_read_274 (by decide) (by omega) (by omega) (fun c_274 => ?_) (fun c_274 => ?_)
          · refine lv_iconst (v := nI 0) hx hb d_Mod_read_281 (by decide) ?_
            have hR := hret ((nI 0)) (0, nx1, Ti1, up Co 0 u1) H locs 282 ls d_Mod_read_282 (by first | rfl | decide)
            try dsimp only at hR
            exact hR (⟨rfl, by decide, by omega, by omega, bT1, up_lt bCo hp5⟩) hP hD hS
          · refine lv_iconst (v := nI 1) hx hb d_Mod_read_277 (by decide) ?_
            refine lv_goto (tgt := 282) hx hb d_Mod_read_278 (by decide) ?_
            have hR := hret ((nI 1)) (1, nx1, Ti1, up Co 0 u1) H locs 282 ls d_Mod_read_282 (by first | rfl | decide)
            try dsimp only at hR
            exact hR (⟨rfl, by decide, by omega, by omega, bT1, up_lt bCo hp5⟩) hP hD hS
      · refine lv_iload_n hx hb d_Mod_read_131 rfl (lv_at hl 6 rfl) ?_
        refine lv_iconst (v := nI 3) hx hb d_Mod_read_132 (by decide) ?_
        refine nv_icmp_ne (tgt := 144) hx hb d_Mod_read_133 (by decide) (by omega) (by omega) (fun _ => ?_) (fun h9 => absurd h9 (by decide))
        refine lv_iload_n hx hb d_Mod_read_144 rfl (lv_at hl 6 rfl) ?_
        refine lv_iconst (v := nI 4) hx hb d_Mod_read_145 (by decide) ?_
        refine nv_icmp_ne (tgt := 163) hx hb d_Mod_read_146 (by decide) (by omega) (by omega) (fun _ => ?_) (fun h9 => absurd h9 (by decide))
        refine lv_iload_n hx hb d_Mod_read_163 rfl (lv_at hl 6 rfl) ?_
        refine lv_iconst (v := nI 3) hx hb d_Mod_read_164 (by decide) ?_
        refine nv_icmp_ne (tgt := 184) hx hb d_Mod_read_165 (by decide) (by omega) (by omega) (fun _ => ?_) (fun h9 => absurd h9 (by decide))
        refine lv_iload_n hx hb d_Mod_read_184 rfl (lv_at hl 6 rfl) ?_
        refine lv_iconst (v := nI 4) hx hb d_Mod_read_185 (by decide) ?_
        refine nv_icmp_ne (tgt := 206) hx hb d_Mod_read_186 (by decide) (by omega) (by omega) (fun _ => ?_) (fun h9 => absurd h9 (by decide))
        refine lv_iconst (v := nI 0) hx hb d_Mod_read_206 (by decide) ?_
        refine lv_istore (lv' := [(7, .int (nI 0)), (6, .int (nI k)), (5, .int (nI g1)), (4, .int (nI b1)), (3, .int (nI 1)), (0, .ref mo), (1, .int (nI v)), (2, .int (nI 0))]) hx hb d_Mod_read_207 hl (by decide) rfl (fun ls hl => ?_)
        refine lv_iload hx hb d_Mod_read_209 (lv_at hl 2 rfl) ?_
        refine nv_if_eq (tgt := 224) hx hb d_Mod_read_211 (by decide) (by omega) (fun c_211 => ?_) (fun c_211 => ?_)
        · refine lv_iconst (v := nI 0) hx hb d_Mod_read_224 (by decide) ?_
          refine lv_istore (lv' := [(5, .int (nI 0)), (7, .int (nI 0)), (6, .int (nI k)), (4, .int (nI b1)), (3, .int (nI 1)), (0, .ref mo), (1, .int (nI v)), (2, .int (nI 0))]) hx hb d_Mod_read_225 hl (by decide) rfl (fun ls hl => ?_)
          refine lv_aload_n hx hb d_Mod_read_227 rfl (lv_at hl 5 rfl) ?_
          refine va_get (D := D) (ci := 9) (v := .ref rti) (C := "TileScreenModel") (T := F_Mod) (N := 27) hx hb htb i_Mod hown hG.1 hP 0 rfl rfl 20 (by decide) (htb _ k_655) (fun _ h9 => h9) rfl d_Mod_read_228 ?_
          refine lv_iload hx hb d_Mod_read_231 (lv_at hl 2 rfl) ?_
          refine lv_iload_n hx hb d_Mod_read_233 rfl (lv_at hl 7 rfl) ?_
          refine lv_bipush (v := nI 6) hx hb d_Mod_read_234 (by decide) ?_
          refine nv_icmp_ne (tgt := 247) hx hb d_Mod_read_236 (by decide) (by omega) (by omega) (fun _ => ?_) (fun h9 => absurd h9 (by decide))
          refine lv_aload_n hx hb d_Mod_read_247 rfl (lv_at hl 5 rfl) ?_
          refine va_get (D := D) (ci := 9) (v := .ref rcl) (C := "TileScreenModel") (T := F_Mod) (N := 27) hx hb htb i_Mod hown hG.1 hP 0 rfl rfl 22 (by decide) (htb _ k_657) (fun _ h9 => h9) rfl d_Mod_read_248 ?_
          refine lv_iload hx hb d_Mod_read_251 (lv_at hl 1 rfl) ?_
          refine nv_iald hx hb hG.1 hP 5 0 rfl rfl (by decide) (by omega) d_Mod_read_253 ?_
          refine nv_iast hx hb hG.1 hP hD hS 4 0 rfl rfl (by omega) (by omega) d_Mod_read_254 (fun H locs hP hD hS => ?_)
          have hP : va_P D classes [(mo, .inr (9, [.int cd, .ref rpx, .int nb, .ref rca, .ref rpl, .ref rth, .ref rco, .ref rsh, .ref rsf, .ref rcr, .ref rep, .ref rby, .ref rli, .ref rls, .ref rla, .ref rcm, .ref rcs, .ref rpa, .ref rpm, .ref rpo, .ref rti, .ref rre, .ref rcl, .int (nI sz), .int (nI cs), .int (nI nx1), .int (nI la)])), (rpx, .inl (cI, 30720, .inl (nF Px))), (rth, .inl (cZ, 96, .inl (nF Th))), (rca, .inl (cI, 6144, .inl (nF Ca))), (rti, .inl (cI, 64, .inl (nF (up Ti1 k ((up Co 0 u1) 0))))), (rcl, .inl (cI, 64, .inl (nF (up Co 0 u1)))), (rcm, .inl (cI, 18741, .inl (nF Cm)))] H := hP
          have hD : va_D AA [(mo, .inr (9, [.int cd, .ref rpx, .int nb, .ref rca, .ref rpl, .ref rth, .ref rco, .ref rsh, .ref rsf, .ref rcr, .ref rep, .ref rby, .ref rli, .ref rls, .ref rla, .ref rcm, .ref rcs, .ref rpa, .ref rpm, .ref rpo, .ref rti, .ref rre, .ref rcl, .int (nI sz), .int (nI cs), .int (nI nx1), .int (nI la)])), (rpx, .inl (cI, 30720, .inl (nF Px))), (rth, .inl (cZ, 96, .inl (nF Th))), (rca, .inl (cI, 6144, .inl (nF Ca))), (rti, .inl (cI, 64, .inl (nF (up Ti1 k ((up Co 0 u1) 0))))), (rcl, .inl (cI, 64, .inl (nF (up Co 0 u1)))), (rcm, .inl (cI, 18741, .inl (nF Cm)))] := hD
          refine lv_iinc (v := (nI (k + 1))) (lv' := [(6, .int (nI (k + 1))), (5, .int (nI 0)), (7, .int (nI 0)), (4, .int (nI b1)), (3, .int (nI 1)), (0, .ref mo), (1, .int (nI v)), (2, .int (nI 0))]) hx hb d_Mod_read_255 hl (k := 2) rfl (nI_add k 1) (by decide) rfl (fun ls hl => ?_)
          refine lv_goto (tgt := 124) hx hb d_Mod_read_258 (by decide) ?_
          exact ih124 (k + 1) b1 0 nx1 (up Ti1 k ((up Co 0 u1) 0)) (by omega) (hb1) (by decide) (by omega) (by omega) (up_lt bT1 ((up_lt bCo hp5) _)) (by omega) _ _ _ hP hD hS (lv_sub hl [0, 1, 3, 4, 5, 6, 7] rfl)
        · refine lv_iload hx hb d_Mod_read_214 (lv_at hl 0 rfl) ?_
          refine lv_iload_n hx hb d_Mod_read_216 rfl (lv_at hl 4 rfl) ?_
          refine nv_icmp_ge (tgt := 224) hx hb d_Mod_read_217 (by decide) (by decide) (by omega) (fun h9 => absurd h9 (by decide)) (fun _ => ?_)
          refine lv_iconst (v := nI 1) hx hb d_Mod_read_220 (by decide) ?_
          refine lv_goto (tgt := 225) hx hb d_Mod_read_221 (by decide) ?_
          refine lv_istore (lv' := [(5, .int (nI 1)), (7, .int (nI 0)), (6, .int (nI k)), (4, .int (nI b1)), (3, .int (nI 1)), (0, .ref mo), (1, .int (nI v)), (2, .int (nI 0))]) hx hb d_Mod_read_225 hl (by decide) rfl (fun ls hl => ?_)
          refine lv_aload_n hx hb d_Mod_read_227 rfl (lv_at hl 5 rfl) ?_
          refine va_get (D := D) (ci := 9) (v := .ref rti) (C := "TileScreenModel") (T := F_Mod) (N := 27) hx hb htb i_Mod hown hG.1 hP 0 rfl rfl 20 (by decide) (htb _ k_655) (fun _ h9 => h9) rfl d_Mod_read_228 ?_
          refine lv_iload hx hb d_Mod_read_231 (lv_at hl 2 rfl) ?_
          refine lv_iload_n hx hb d_Mod_read_233 rfl (lv_at hl 7 rfl) ?_
          refine lv_bipush (v := nI 6) hx hb d_Mod_read_234 (by decide) ?_
          refine nv_icmp_ne (tgt := 247) hx hb d_Mod_read_236 (by decide) (by omega) (by omega) (fun _ => ?_) (fun h9 => absurd h9 (by decide))
          refine lv_aload_n hx hb d_Mod_read_247 rfl (lv_at hl 5 rfl) ?_
          refine va_get (D := D) (ci := 9) (v := .ref rcl) (C := "TileScreenModel") (T := F_Mod) (N := 27) hx hb htb i_Mod hown hG.1 hP 0 rfl rfl 22 (by decide) (htb _ k_657) (fun _ h9 => h9) rfl d_Mod_read_248 ?_
          refine lv_iload hx hb d_Mod_read_251 (lv_at hl 1 rfl) ?_
          refine nv_iald hx hb hG.1 hP 5 0 rfl rfl (by decide) (by omega) d_Mod_read_253 ?_
          refine nv_iast hx hb hG.1 hP hD hS 4 0 rfl rfl (by omega) (by omega) d_Mod_read_254 (fun H locs hP hD hS => ?_)
          have hP : va_P D classes [(mo, .inr (9, [.int cd, .ref rpx, .int nb, .ref rca, .ref rpl, .ref rth, .ref rco, .ref rsh, .ref rsf, .ref rcr, .ref rep, .ref rby, .ref rli, .ref rls, .ref rla, .ref rcm, .ref rcs, .ref rpa, .ref rpm, .ref rpo, .ref rti, .ref rre, .ref rcl, .int (nI sz), .int (nI cs), .int (nI nx1), .int (nI la)])), (rpx, .inl (cI, 30720, .inl (nF Px))), (rth, .inl (cZ, 96, .inl (nF Th))), (rca, .inl (cI, 6144, .inl (nF Ca))), (rti, .inl (cI, 64, .inl (nF (up Ti1 k ((up Co 0 u1) 0))))), (rcl, .inl (cI, 64, .inl (nF (up Co 0 u1)))), (rcm, .inl (cI, 18741, .inl (nF Cm)))] H := hP
          have hD : va_D AA [(mo, .inr (9, [.int cd, .ref rpx, .int nb, .ref rca, .ref rpl, .ref rth, .ref rco, .ref rsh, .ref rsf, .ref rcr, .ref rep, .ref rby, .ref rli, .ref rls, .ref rla, .ref rcm, .ref rcs, .ref rpa, .ref rpm, .ref rpo, .ref rti, .ref rre, .ref rcl, .int (nI sz), .int (nI cs), .int (nI nx1), .int (nI la)])), (rpx, .inl (cI, 30720, .inl (nF Px))), (rth, .inl (cZ, 96, .inl (nF Th))), (rca, .inl (cI, 6144, .inl (nF Ca))), (rti, .inl (cI, 64, .inl (nF (up Ti1 k ((up Co 0 u1) 0))))), (rcl, .inl (cI, 64, .inl (nF (up Co 0 u1)))), (rcm, .inl (cI, 18741, .inl (nF Cm)))] := hD
          refine lv_iinc (v := (nI (k + 1))) (lv' := [(6, .int (nI (k + 1))), (5, .int (nI 1)), (7, .int (nI 0)), (4, .int (nI b1)), (3, .int (nI 1)), (0, .ref mo), (1, .int (nI v)), (2, .int (nI 0))]) hx hb d_Mod_read_255 hl (k := 2) rfl (nI_add k 1) (by decide) rfl (fun ls hl => ?_)
          refine lv_goto (tgt := 124) hx hb d_Mod_read_258 (by decide) ?_
          exact ih124 (k + 1) b1 1 nx1 (up Ti1 k ((up Co 0 u1) 0)) (by omega) (hb1) (by decide) (by omega) (by omega) (up_lt bT1 ((up_lt bCo hp5) _)) (by omega) _ _ _ hP hD hS (lv_sub hl [0, 1, 3, 4, 5, 6, 7] rfl)
  exact lp_124 _ 0 0 1 (nx + 2) Ti (Nat.zero_le _) (by decide) (by decide) (by omega) (by omega) (bTi) (Nat.lt_succ_self _) _ _ _ hP hD hS (lv_sub hl [0, 1, 2, 3, 4, 5, 6] rfl)
set_option maxHeartbeats 4000000 in
set_option maxRecDepth 100000 in
theorem c_Mod_read1 (mo : Nat) (cd : Int32) (rpx : Nat) (nb : Int32) (rca : Nat) (rpl : Nat) (rth : Nat) (rco : Nat) (rsh : Nat) (rsf : Nat) (rcr : Nat) (rep : Nat) (rby : Nat) (rli : Nat) (rls : Nat) (rla : Nat) (rcm : Nat) (rcs : Nat) (rpa : Nat) (rpm : Nat) (rpo : Nat) (rti : Nat) (rre : Nat) (rcl : Nat) (sz : Nat) (cs : Nat) (nx : Nat) (la : Nat) (Px : Nat → Nat) (Th : Nat → Nat) (Ca : Nat → Nat) (Ti : Nat → Nat) (Co : Nat → Nat) (Cm : Nat → Nat) (v : Nat) (hv : v < 3) (bPx : ∀ j, Px j < 65536) (bTh : ∀ j, Th j < 2) (bCa : ∀ j, Ca j < 65536) (bTi : ∀ j, Ti j < 65536) (bCo : ∀ j, Co j < 65536) (bCm : ∀ j, Cm j < 256) (hnx : nx ≤ 10000) (hla : la ≤ 6247) : CI (S := Nat × Nat × (Nat → Nat) × (Nat → Nat)) l classes NW D (TYS cI cZ cL cV) y_Mod_read (.code y_Mod_read b_Mod_read 8 (some .boolean) :: TB) { frames := 3, cells := 0, slots := 0, locals := 90 } [.ref mo, .int (nI v), .int (nI 1)] [(mo, .inr (9, [.int cd, .ref rpx, .int nb, .ref rca, .ref rpl, .ref rth, .ref rco, .ref rsh, .ref rsf, .ref rcr, .ref rep, .ref rby, .ref rli, .ref rls, .ref rla, .ref rcm, .ref rcs, .ref rpa, .ref rpm, .ref rpo, .ref rti, .ref rre, .ref rcl, .int (nI sz), .int (nI cs), .int (nI nx), .int (nI la)])), (rpx, .inl (cI, 30720, .inl (nF Px))), (rth, .inl (cZ, 96, .inl (nF Th))), (rca, .inl (cI, 6144, .inl (nF Ca))), (rti, .inl (cI, 64, .inl (nF Ti))), (rcl, .inl (cI, 64, .inl (nF Co))), (rcm, .inl (cI, 18741, .inl (nF Cm)))] (fun r u => r = nI u.1 ∧ u.1 ≤ 1 ∧ nx ≤ u.2.1 ∧ u.2.1 ≤ nx + 2100 ∧ (∀ j, u.2.2.1 j < 65536) ∧ (∀ j, u.2.2.2 j < 65536)) (fun u => [(mo, .inr (9, [.int cd, .ref rpx, .int nb, .ref rca, .ref rpl, .ref rth, .ref rco, .ref rsh, .ref rsf, .ref rcr, .ref rep, .ref rby, .ref rli, .ref rls, .ref rla, .ref rcm, .ref rcs, .ref rpa, .ref rpm, .ref rpo, .ref rti, .ref rre, .ref rcl, .int (nI sz), .int (nI cs), .int (nI u.2.1), .int (nI la)])), (rpx, .inl (cI, 30720, .inl (nF Px))), (rth, .inl (cZ, 96, .inl (nF Th))), (rca, .inl (cI, 6144, .inl (nF Ca))), (rti, .inl (cI, 64, .inl (nF u.2.2.1))), (rcl, .inl (cI, 64, .inl (nF u.2.2.2))), (rcm, .inl (cI, 18741, .inl (nF Cm)))]) := by
  refine CI.of (by decide) (Nat.le_of_ble_eq_true rfl) ?_
  intro pr ev sT mM aR bW mE cO AA QQ ls Bd hG hA hP hD hS hl hret
  have Bd : bd pr cO b_Mod_read 8 sT aR TB "TileScreenModel" mM := Bd
  obtain ⟨hx, hb, hml, hown, htb⟩ := id Bd
  have hl : lv_has ls 8 [(0, .ref mo), (1, .int (nI v)), (2, .int (nI 1))] := hl
  refine lv_iload_n hx hb d_Mod_read_0 rfl (lv_at hl 2 rfl) ?_
  refine lv_iconst (v := nI 4) hx hb d_Mod_read_1 (by decide) ?_
  refine nv_icmp_ne (tgt := 13) hx hb d_Mod_read_2 (by decide) (by omega) (by omega) (fun _ => ?_) (fun h9 => absurd h9 (by decide))
  refine lv_iload_n hx hb d_Mod_read_13 rfl (lv_at hl 2 rfl) ?_
  refine lv_iconst (v := nI 3) hx hb d_Mod_read_14 (by decide) ?_
  refine nv_icmp_ne (tgt := 22) hx hb d_Mod_read_15 (by decide) (by omega) (by omega) (fun _ => ?_) (fun h9 => absurd h9 (by decide))
  refine lv_iconst (v := nI 1) hx hb d_Mod_read_22 (by decide) ?_
  refine lv_istore_n (lv' := [(3, .int (nI 1)), (0, .ref mo), (1, .int (nI v)), (2, .int (nI 1))]) hx hb d_Mod_read_23 rfl hl (by decide) rfl (fun ls hl => ?_)
  refine lv_iload_n hx hb d_Mod_read_24 rfl (lv_at hl 3 rfl) ?_
  refine lv_iconst (v := nI 4) hx hb d_Mod_read_25 (by decide) ?_
  refine nv_icmp_ne (tgt := 41) hx hb d_Mod_read_26 (by decide) (by omega) (by omega) (fun _ => ?_) (fun h9 => absurd h9 (by decide))
  refine lv_iload_n hx hb d_Mod_read_41 rfl (lv_at hl 3 rfl) ?_
  refine nv_if_eq (tgt := 55) hx hb d_Mod_read_42 (by decide) (by decide) (fun h9 => absurd h9 (by decide)) (fun _ => ?_)
  refine lv_iload_n hx hb d_Mod_read_45 rfl (lv_at hl 3 rfl) ?_
  refine lv_iconst (v := nI 3) hx hb d_Mod_read_46 (by decide) ?_
  refine nv_icmp_eq (tgt := 55) hx hb d_Mod_read_47 (by decide) (by omega) (by omega) (fun h9 => absurd h9 (by decide)) (fun _ => ?_)
  refine lv_iload_n hx hb d_Mod_read_50 rfl (lv_at hl 3 rfl) ?_
  refine lv_iconst (v := nI 4) hx hb d_Mod_read_51 (by decide) ?_
  refine nv_icmp_ne (tgt := 82) hx hb d_Mod_read_52 (by decide) (by omega) (by omega) (fun _ => ?_) (fun h9 => absurd h9 (by decide))
  refine lv_iload_n hx hb d_Mod_read_82 rfl (lv_at hl 3 rfl) ?_
  refine lv_iconst (v := nI 1) hx hb d_Mod_read_83 (by decide) ?_
  refine nv_icmp_eq (tgt := 92) hx hb d_Mod_read_84 (by decide) (by omega) (by omega) (fun _ => ?_) (fun h9 => absurd h9 (by decide))
  refine lv_aload_n hx hb d_Mod_read_92 rfl (lv_at hl 1 rfl) ?_
  refine lv_iload_n hx hb d_Mod_read_93 rfl (lv_at hl 2 rfl) ?_
  refine lv_iload_n hx hb d_Mod_read_94 rfl (lv_at hl 3 rfl) ?_
  refine lv_aload_n hx hb d_Mod_read_95 rfl (lv_at hl 1 rfl) ?_
  refine lv_iload_n hx hb d_Mod_read_96 rfl (lv_at hl 2 rfl) ?_
  refine kV_i (wc := [(mo, .inr (9, [.int cd, .ref rpx, .int nb, .ref rca, .ref rpl, .ref rth, .ref rco, .ref rsh, .ref rsf, .ref rcr, .ref rep, .ref rby, .ref rli, .ref rls, .ref rla, .ref rcm, .ref rcs, .ref rpa, .ref rpm, .ref rpo, .ref rti, .ref rre, .ref rcl, .int (nI sz), .int (nI cs), .int (nI nx), .int (nI la)])), (rcm, .inl (cI, 18741, .inl (nF Cm)))]) (wr := [(rpx, .inl (cI, 30720, .inl (nF Px))), (rth, .inl (cZ, 96, .inl (nF Th))), (rca, .inl (cI, 6144, .inl (nF Ca))), (rti, .inl (cI, 64, .inl (nF Ti))), (rcl, .inl (cI, 64, .inl (nF Co)))]) (w2 := fun u => [(mo, .inr (9, [.int cd, .ref rpx, .int nb, .ref rca, .ref rpl, .ref rth, .ref rco, .ref rsh, .ref rsf, .ref rcr, .ref rep, .ref rby, .ref rli, .ref rls, .ref rla, .ref rcm, .ref rcs, .ref rpa, .ref rpm, .ref rpo, .ref rti, .ref rre, .ref rcl, .int (nI sz), .int (nI cs), .int (nI (nx + 1)), .int (nI la)])), (rpx, .inl (cI, 30720, .inl (nF Px))), (rth, .inl (cZ, 96, .inl (nF Th))), (rca, .inl (cI, 6144, .inl (nF Ca))), (rti, .inl (cI, 64, .inl (nF Ti))), (rcl, .inl (cI, 64, .inl (nF Co))), (rcm, .inl (cI, 18741, .inl (nF Cm)))]) [.int (nI v)] [.int (nI 1), .int (nI v), .ref mo] Bd ⟨gi_app (gi_c0 k_837 (gi_c0 k_839 (gi_c0 s_40 (gi_c0 k_10 gi_nil)))) (gi_tb0 k_840), rfl, by decide, by decide⟩ (show (parseMethodDescriptor "(I)I").map (fun d => d.parameters.length) = some 1 by decide +kernel) (c_Mod_get mo cd rpx nb rca rpl rth rco rsh rsf rcr rep rby rli rls rla rcm rcs rpa rpm rpo rti rre rcl sz cs nx la Cm v (hv) (hla) (by omega) (bCm)) (by decide +kernel) ⟨Nat.le_of_ble_eq_true rfl, Nat.le_of_ble_eq_true rfl⟩ hG hP hD hS hA [0, 6] [1, 2, 3, 4, 5] [5, 0, 1, 2, 3, 4, 6] (by decide) rfl rfl (fun _ => rfl) (q0 := 0) rfl rfl rfl hl.1 rfl (Nat.le_of_ble_eq_true rfl) d_Mod_read_97 (fun r2 u4 H locs hp3 hP hD hS => ?_)
  obtain ⟨u1, rfl⟩ : ∃ z9, z9 = u4 := ⟨_, rfl⟩
  try dsimp only at hp3
  have hP : va_P D classes [(mo, .inr (9, [.int cd, .ref rpx, .int nb, .ref rca, .ref rpl, .ref rth, .ref rco, .ref rsh, .ref rsf, .ref rcr, .ref rep, .ref rby, .ref rli, .ref rls, .ref rla, .ref rcm, .ref rcs, .ref rpa, .ref rpm, .ref rpo, .ref rti, .ref rre, .ref rcl, .int (nI sz), .int (nI cs), .int (nI (nx + 1)), .int (nI la)])), (rpx, .inl (cI, 30720, .inl (nF Px))), (rth, .inl (cZ, 96, .inl (nF Th))), (rca, .inl (cI, 6144, .inl (nF Ca))), (rti, .inl (cI, 64, .inl (nF Ti))), (rcl, .inl (cI, 64, .inl (nF Co))), (rcm, .inl (cI, 18741, .inl (nF Cm)))] H := hP
  have hD : va_D AA [(mo, .inr (9, [.int cd, .ref rpx, .int nb, .ref rca, .ref rpl, .ref rth, .ref rco, .ref rsh, .ref rsf, .ref rcr, .ref rep, .ref rby, .ref rli, .ref rls, .ref rla, .ref rcm, .ref rcs, .ref rpa, .ref rpm, .ref rpo, .ref rti, .ref rre, .ref rcl, .int (nI sz), .int (nI cs), .int (nI (nx + 1)), .int (nI la)])), (rpx, .inl (cI, 30720, .inl (nF Px))), (rth, .inl (cZ, 96, .inl (nF Th))), (rca, .inl (cI, 6144, .inl (nF Ca))), (rti, .inl (cI, 64, .inl (nF Ti))), (rcl, .inl (cI, 64, .inl (nF Co))), (rcm, .inl (cI, 18741, .inl (nF Cm)))] := hD
  obtain ⟨rfl, hp5⟩ := hp3
  refine kV_i (wc := [(mo, .inr (9, [.int cd, .ref rpx, .int nb, .ref rca, .ref rpl, .ref rth, .ref rco, .ref rsh, .ref rsf, .ref rcr, .ref rep, .ref rby, .ref rli, .ref rls, .ref rla, .ref rcm, .ref rcs, .ref rpa, .ref rpm, .ref rpo, .ref rti, .ref rre, .ref rcl, .int (nI sz), .int (nI cs), .int (nI (nx + 1)), .int (nI la)])), (rpx, .inl (cI, 30720, .inl (nF Px))), (rth, .inl (cZ, 96, .inl (nF Th))), (rca, .inl (cI, 6144, .inl (nF Ca))), (rti, .inl (cI, 64, .inl (nF Ti)))]) (wr := [(rcl, .inl (cI, 64, .inl (nF Co))), (rcm, .inl (cI, 18741, .inl (nF Cm)))]) (w2 := fun u => [(mo, .inr (9, [.int cd, .ref rpx, .int nb, .ref rca, .ref rpl, .ref rth, .ref rco, .ref rsh, .ref rsf, .ref rcr, .ref rep, .ref rby, .ref rli, .ref rls, .ref rla, .ref rcm, .ref rcs, .ref rpa, .ref rpm, .ref rpo, .ref rti, .ref rre, .ref rcl, .int (nI sz), .int (nI cs), .int (nI (nx + 1)), .int (nI la)])), (rpx, .inl (cI, 30720, .inl (nF Px))), (rth, .inl (cZ, 96, .inl (nF Th))), (rca, .inl (cI, 6144, .inl (nF Ca))), (rti, .inl (cI, 64, .inl (nF u.2))), (rcl, .inl (cI, 64, .inl (nF Co))), (rcm, .inl (cI, 18741, .inl (nF Cm)))]) [.int (nI v), .int (nI 1), .int (nI u1)] [] Bd ⟨gi_app (gi_c0 k_845 (gi_c0 k_847 (gi_c0 s_42 (gi_c0 k_10 gi_nil)))) (gi_tb0 k_848), rfl, by decide, by decide⟩ (show (parseMethodDescriptor "(III)Z").map (fun d => d.parameters.length) = some 3 by decide +kernel) (c_Mod_readLike1 mo cd rpx nb rca rpl rth rco rsh rsf rcr rep rby rli rls rla rcm rcs rpa rpm rpo rti rre rcl sz cs (nx + 1) la Px Th Ca Ti v u1 (by omega) (bPx) (bTh) (bCa) (bTi) (hp5) (by omega) (by omega)) (by decide +kernel) ⟨Nat.le_of_ble_eq_true rfl, Nat.le_of_ble_eq_true rfl⟩ hG hP hD hS hA [0, 1, 2, 3, 4] [5, 6] [2, 3, 4, 5, 6, 0, 1] (by decide) rfl rfl (fun _ => rfl) (q0 := 0) rfl rfl rfl hl.1 rfl (Nat.le_of_ble_eq_true rfl) d_Mod_read_100 (fun r8 u10 H locs hp9 hP hD hS => ?_)
  obtain ⟨u6, u7⟩ := u10
  try dsimp only at hp9
  have hP : va_P D classes [(mo, .inr (9, [.int cd, .ref rpx, .int nb, .ref rca, .ref rpl, .ref rth, .ref rco, .ref rsh, .ref rsf, .ref rcr, .ref rep, .ref rby, .ref rli, .ref rls, .ref rla, .ref rcm, .ref rcs, .ref rpa, .ref rpm, .ref rpo, .ref rti, .ref rre, .ref rcl, .int (nI sz), .int (nI cs), .int (nI (nx + 1)), .int (nI la)])), (rpx, .inl (cI, 30720, .inl (nF Px))), (rth, .inl (cZ, 96, .inl (nF Th))), (rca, .inl (cI, 6144, .inl (nF Ca))), (rti, .inl (cI, 64, .inl (nF u7))), (rcl, .inl (cI, 64, .inl (nF Co))), (rcm, .inl (cI, 18741, .inl (nF Cm)))] H := hP
  have hD : va_D AA [(mo, .inr (9, [.int cd, .ref rpx, .int nb, .ref rca, .ref rpl, .ref rth, .ref rco, .ref rsh, .ref rsf, .ref rcr, .ref rep, .ref rby, .ref rli, .ref rls, .ref rla, .ref rcm, .ref rcs, .ref rpa, .ref rpm, .ref rpo, .ref rti, .ref rre, .ref rcl, .int (nI sz), .int (nI cs), .int (nI (nx + 1)), .int (nI la)])), (rpx, .inl (cI, 30720, .inl (nF Px))), (rth, .inl (cZ, 96, .inl (nF Th))), (rca, .inl (cI, 6144, .inl (nF Ca))), (rti, .inl (cI, 64, .inl (nF u7))), (rcl, .inl (cI, 64, .inl (nF Co))), (rcm, .inl (cI, 18741, .inl (nF Cm)))] := hD
  obtain ⟨rfl, hp11⟩ := hp9
  obtain ⟨h12, h13⟩ := hp11
  have hR := hret ((nI u6)) (u6, (nx + 1), u7, Co) H locs 103 ls d_Mod_read_103 (nar_b1 h12)
  try dsimp only at hR
  exact hR (⟨rfl, h12, by omega, by omega, h13, bCo⟩) hP hD hS
set_option maxHeartbeats 4000000 in
set_option maxRecDepth 100000 in
theorem c_Mod_read2 (mo : Nat) (cd : Int32) (rpx : Nat) (nb : Int32) (rca : Nat) (rpl : Nat) (rth : Nat) (rco : Nat) (rsh : Nat) (rsf : Nat) (rcr : Nat) (rep : Nat) (rby : Nat) (rli : Nat) (rls : Nat) (rla : Nat) (rcm : Nat) (rcs : Nat) (rpa : Nat) (rpm : Nat) (rpo : Nat) (rti : Nat) (rre : Nat) (rcl : Nat) (sz : Nat) (cs : Nat) (nx : Nat) (la : Nat) (Px : Nat → Nat) (Th : Nat → Nat) (Ca : Nat → Nat) (Ti : Nat → Nat) (Co : Nat → Nat) (Cm : Nat → Nat) (v : Nat) (hv : v < 3) (bPx : ∀ j, Px j < 65536) (bTh : ∀ j, Th j < 2) (bCa : ∀ j, Ca j < 65536) (bTi : ∀ j, Ti j < 65536) (bCo : ∀ j, Co j < 65536) (bCm : ∀ j, Cm j < 256) (hnx : nx ≤ 10000) (hla : la ≤ 6247) : CI (S := Nat × Nat × (Nat → Nat) × (Nat → Nat)) l classes NW D (TYS cI cZ cL cV) y_Mod_read (.code y_Mod_read b_Mod_read 8 (some .boolean) :: TB) { frames := 3, cells := 0, slots := 0, locals := 90 } [.ref mo, .int (nI v), .int (nI 2)] [(mo, .inr (9, [.int cd, .ref rpx, .int nb, .ref rca, .ref rpl, .ref rth, .ref rco, .ref rsh, .ref rsf, .ref rcr, .ref rep, .ref rby, .ref rli, .ref rls, .ref rla, .ref rcm, .ref rcs, .ref rpa, .ref rpm, .ref rpo, .ref rti, .ref rre, .ref rcl, .int (nI sz), .int (nI cs), .int (nI nx), .int (nI la)])), (rpx, .inl (cI, 30720, .inl (nF Px))), (rth, .inl (cZ, 96, .inl (nF Th))), (rca, .inl (cI, 6144, .inl (nF Ca))), (rti, .inl (cI, 64, .inl (nF Ti))), (rcl, .inl (cI, 64, .inl (nF Co))), (rcm, .inl (cI, 18741, .inl (nF Cm)))] (fun r u => r = nI u.1 ∧ u.1 ≤ 1 ∧ nx ≤ u.2.1 ∧ u.2.1 ≤ nx + 2100 ∧ (∀ j, u.2.2.1 j < 65536) ∧ (∀ j, u.2.2.2 j < 65536)) (fun u => [(mo, .inr (9, [.int cd, .ref rpx, .int nb, .ref rca, .ref rpl, .ref rth, .ref rco, .ref rsh, .ref rsf, .ref rcr, .ref rep, .ref rby, .ref rli, .ref rls, .ref rla, .ref rcm, .ref rcs, .ref rpa, .ref rpm, .ref rpo, .ref rti, .ref rre, .ref rcl, .int (nI sz), .int (nI cs), .int (nI u.2.1), .int (nI la)])), (rpx, .inl (cI, 30720, .inl (nF Px))), (rth, .inl (cZ, 96, .inl (nF Th))), (rca, .inl (cI, 6144, .inl (nF Ca))), (rti, .inl (cI, 64, .inl (nF u.2.2.1))), (rcl, .inl (cI, 64, .inl (nF u.2.2.2))), (rcm, .inl (cI, 18741, .inl (nF Cm)))]) := by
  refine CI.of (by decide) (Nat.le_of_ble_eq_true rfl) ?_
  intro pr ev sT mM aR bW mE cO AA QQ ls Bd hG hA hP hD hS hl hret
  have Bd : bd pr cO b_Mod_read 8 sT aR TB "TileScreenModel" mM := Bd
  obtain ⟨hx, hb, hml, hown, htb⟩ := id Bd
  have hl : lv_has ls 8 [(0, .ref mo), (1, .int (nI v)), (2, .int (nI 2))] := hl
  refine lv_iload_n hx hb d_Mod_read_0 rfl (lv_at hl 2 rfl) ?_
  refine lv_iconst (v := nI 4) hx hb d_Mod_read_1 (by decide) ?_
  refine nv_icmp_ne (tgt := 13) hx hb d_Mod_read_2 (by decide) (by omega) (by omega) (fun _ => ?_) (fun h9 => absurd h9 (by decide))
  refine lv_iload_n hx hb d_Mod_read_13 rfl (lv_at hl 2 rfl) ?_
  refine lv_iconst (v := nI 3) hx hb d_Mod_read_14 (by decide) ?_
  refine nv_icmp_ne (tgt := 22) hx hb d_Mod_read_15 (by decide) (by omega) (by omega) (fun _ => ?_) (fun h9 => absurd h9 (by decide))
  refine lv_iconst (v := nI 1) hx hb d_Mod_read_22 (by decide) ?_
  refine lv_istore_n (lv' := [(3, .int (nI 1)), (0, .ref mo), (1, .int (nI v)), (2, .int (nI 2))]) hx hb d_Mod_read_23 rfl hl (by decide) rfl (fun ls hl => ?_)
  refine lv_iload_n hx hb d_Mod_read_24 rfl (lv_at hl 3 rfl) ?_
  refine lv_iconst (v := nI 4) hx hb d_Mod_read_25 (by decide) ?_
  refine nv_icmp_ne (tgt := 41) hx hb d_Mod_read_26 (by decide) (by omega) (by omega) (fun _ => ?_) (fun h9 => absurd h9 (by decide))
  refine lv_iload_n hx hb d_Mod_read_41 rfl (lv_at hl 3 rfl) ?_
  refine nv_if_eq (tgt := 55) hx hb d_Mod_read_42 (by decide) (by decide) (fun h9 => absurd h9 (by decide)) (fun _ => ?_)
  refine lv_iload_n hx hb d_Mod_read_45 rfl (lv_at hl 3 rfl) ?_
  refine lv_iconst (v := nI 3) hx hb d_Mod_read_46 (by decide) ?_
  refine nv_icmp_eq (tgt := 55) hx hb d_Mod_read_47 (by decide) (by omega) (by omega) (fun h9 => absurd h9 (by decide)) (fun _ => ?_)
  refine lv_iload_n hx hb d_Mod_read_50 rfl (lv_at hl 3 rfl) ?_
  refine lv_iconst (v := nI 4) hx hb d_Mod_read_51 (by decide) ?_
  refine nv_icmp_ne (tgt := 82) hx hb d_Mod_read_52 (by decide) (by omega) (by omega) (fun _ => ?_) (fun h9 => absurd h9 (by decide))
  refine lv_iload_n hx hb d_Mod_read_82 rfl (lv_at hl 3 rfl) ?_
  refine lv_iconst (v := nI 1) hx hb d_Mod_read_83 (by decide) ?_
  refine nv_icmp_eq (tgt := 92) hx hb d_Mod_read_84 (by decide) (by omega) (by omega) (fun h9 => absurd h9 (by decide)) (fun _ => ?_)
  refine lv_iload_n hx hb d_Mod_read_87 rfl (lv_at hl 3 rfl) ?_
  refine lv_iconst (v := nI 2) hx hb d_Mod_read_88 (by decide) ?_
  refine nv_icmp_ne (tgt := 104) hx hb d_Mod_read_89 (by decide) (by omega) (by omega) (fun h9 => absurd h9 (by decide)) (fun _ => ?_)
  refine lv_aload_n hx hb d_Mod_read_92 rfl (lv_at hl 1 rfl) ?_
  refine lv_iload_n hx hb d_Mod_read_93 rfl (lv_at hl 2 rfl) ?_
  refine lv_iload_n hx hb d_Mod_read_94 rfl (lv_at hl 3 rfl) ?_
  refine lv_aload_n hx hb d_Mod_read_95 rfl (lv_at hl 1 rfl) ?_
  refine lv_iload_n hx hb d_Mod_read_96 rfl (lv_at hl 2 rfl) ?_
  refine kV_i (wc := [(mo, .inr (9, [.int cd, .ref rpx, .int nb, .ref rca, .ref rpl, .ref rth, .ref rco, .ref rsh, .ref rsf, .ref rcr, .ref rep, .ref rby, .ref rli, .ref rls, .ref rla, .ref rcm, .ref rcs, .ref rpa, .ref rpm, .ref rpo, .ref rti, .ref rre, .ref rcl, .int (nI sz), .int (nI cs), .int (nI nx), .int (nI la)])), (rcm, .inl (cI, 18741, .inl (nF Cm)))]) (wr := [(rpx, .inl (cI, 30720, .inl (nF Px))), (rth, .inl (cZ, 96, .inl (nF Th))), (rca, .inl (cI, 6144, .inl (nF Ca))), (rti, .inl (cI, 64, .inl (nF Ti))), (rcl, .inl (cI, 64, .inl (nF Co)))]) (w2 := fun u => [(mo, .inr (9, [.int cd, .ref rpx, .int nb, .ref rca, .ref rpl, .ref rth, .ref rco, .ref rsh, .ref rsf, .ref rcr, .ref rep, .ref rby, .ref rli, .ref rls, .ref rla, .ref rcm, .ref rcs, .ref rpa, .ref rpm, .ref rpo, .ref rti, .ref rre, .ref rcl, .int (nI sz), .int (nI cs), .int (nI (nx + 1)), .int (nI la)])), (rpx, .inl (cI, 30720, .inl (nF Px))), (rth, .inl (cZ, 96, .inl (nF Th))), (rca, .inl (cI, 6144, .inl (nF Ca))), (rti, .inl (cI, 64, .inl (nF Ti))), (rcl, .inl (cI, 64, .inl (nF Co))), (rcm, .inl (cI, 18741, .inl (nF Cm)))]) [.int (nI v)] [.int (nI 2), .int (nI v), .ref mo] Bd ⟨gi_app (gi_c0 k_837 (gi_c0 k_839 (gi_c0 s_40 (gi_c0 k_10 gi_nil)))) (gi_tb0 k_840), rfl, by decide, by decide⟩ (show (parseMethodDescriptor "(I)I").map (fun d => d.parameters.length) = some 1 by decide +kernel) (c_Mod_get mo cd rpx nb rca rpl rth rco rsh rsf rcr rep rby rli rls rla rcm rcs rpa rpm rpo rti rre rcl sz cs nx la Cm v (hv) (hla) (by omega) (bCm)) (by decide +kernel) ⟨Nat.le_of_ble_eq_true rfl, Nat.le_of_ble_eq_true rfl⟩ hG hP hD hS hA [0, 6] [1, 2, 3, 4, 5] [5, 0, 1, 2, 3, 4, 6] (by decide) rfl rfl (fun _ => rfl) (q0 := 0) rfl rfl rfl hl.1 rfl (Nat.le_of_ble_eq_true rfl) d_Mod_read_97 (fun r2 u4 H locs hp3 hP hD hS => ?_)
  obtain ⟨u1, rfl⟩ : ∃ z9, z9 = u4 := ⟨_, rfl⟩
  try dsimp only at hp3
  have hP : va_P D classes [(mo, .inr (9, [.int cd, .ref rpx, .int nb, .ref rca, .ref rpl, .ref rth, .ref rco, .ref rsh, .ref rsf, .ref rcr, .ref rep, .ref rby, .ref rli, .ref rls, .ref rla, .ref rcm, .ref rcs, .ref rpa, .ref rpm, .ref rpo, .ref rti, .ref rre, .ref rcl, .int (nI sz), .int (nI cs), .int (nI (nx + 1)), .int (nI la)])), (rpx, .inl (cI, 30720, .inl (nF Px))), (rth, .inl (cZ, 96, .inl (nF Th))), (rca, .inl (cI, 6144, .inl (nF Ca))), (rti, .inl (cI, 64, .inl (nF Ti))), (rcl, .inl (cI, 64, .inl (nF Co))), (rcm, .inl (cI, 18741, .inl (nF Cm)))] H := hP
  have hD : va_D AA [(mo, .inr (9, [.int cd, .ref rpx, .int nb, .ref rca, .ref rpl, .ref rth, .ref rco, .ref rsh, .ref rsf, .ref rcr, .ref rep, .ref rby, .ref rli, .ref rls, .ref rla, .ref rcm, .ref rcs, .ref rpa, .ref rpm, .ref rpo, .ref rti, .ref rre, .ref rcl, .int (nI sz), .int (nI cs), .int (nI (nx + 1)), .int (nI la)])), (rpx, .inl (cI, 30720, .inl (nF Px))), (rth, .inl (cZ, 96, .inl (nF Th))), (rca, .inl (cI, 6144, .inl (nF Ca))), (rti, .inl (cI, 64, .inl (nF Ti))), (rcl, .inl (cI, 64, .inl (nF Co))), (rcm, .inl (cI, 18741, .inl (nF Cm)))] := hD
  obtain ⟨rfl, hp5⟩ := hp3
  refine kV_i (wc := [(mo, .inr (9, [.int cd, .ref rpx, .int nb, .ref rca, .ref rpl, .ref rth, .ref rco, .ref rsh, .ref rsf, .ref rcr, .ref rep, .ref rby, .ref rli, .ref rls, .ref rla, .ref rcm, .ref rcs, .ref rpa, .ref rpm, .ref rpo, .ref rti, .ref rre, .ref rcl, .int (nI sz), .int (nI cs), .int (nI (nx + 1)), .int (nI la)])), (rpx, .inl (cI, 30720, .inl (nF Px))), (rth, .inl (cZ, 96, .inl (nF Th))), (rca, .inl (cI, 6144, .inl (nF Ca))), (rti, .inl (cI, 64, .inl (nF Ti)))]) (wr := [(rcl, .inl (cI, 64, .inl (nF Co))), (rcm, .inl (cI, 18741, .inl (nF Cm)))]) (w2 := fun u => [(mo, .inr (9, [.int cd, .ref rpx, .int nb, .ref rca, .ref rpl, .ref rth, .ref rco, .ref rsh, .ref rsf, .ref rcr, .ref rep, .ref rby, .ref rli, .ref rls, .ref rla, .ref rcm, .ref rcs, .ref rpa, .ref rpm, .ref rpo, .ref rti, .ref rre, .ref rcl, .int (nI sz), .int (nI cs), .int (nI (nx + 1)), .int (nI la)])), (rpx, .inl (cI, 30720, .inl (nF Px))), (rth, .inl (cZ, 96, .inl (nF Th))), (rca, .inl (cI, 6144, .inl (nF Ca))), (rti, .inl (cI, 64, .inl (nF u.2))), (rcl, .inl (cI, 64, .inl (nF Co))), (rcm, .inl (cI, 18741, .inl (nF Cm)))]) [.int (nI v), .int (nI 2), .int (nI u1)] [] Bd ⟨gi_app (gi_c0 k_845 (gi_c0 k_847 (gi_c0 s_42 (gi_c0 k_10 gi_nil)))) (gi_tb0 k_848), rfl, by decide, by decide⟩ (show (parseMethodDescriptor "(III)Z").map (fun d => d.parameters.length) = some 3 by decide +kernel) (c_Mod_readLike2 mo cd rpx nb rca rpl rth rco rsh rsf rcr rep rby rli rls rla rcm rcs rpa rpm rpo rti rre rcl sz cs (nx + 1) la Px Th Ca Ti v u1 (by omega) (bPx) (bTh) (bCa) (bTi) (hp5) (by omega) (by omega)) (by decide +kernel) ⟨Nat.le_of_ble_eq_true rfl, Nat.le_of_ble_eq_true rfl⟩ hG hP hD hS hA [0, 1, 2, 3, 4] [5, 6] [2, 3, 4, 5, 6, 0, 1] (by decide) rfl rfl (fun _ => rfl) (q0 := 0) rfl rfl rfl hl.1 rfl (Nat.le_of_ble_eq_true rfl) d_Mod_read_100 (fun r8 u10 H locs hp9 hP hD hS => ?_)
  obtain ⟨u6, u7⟩ := u10
  try dsimp only at hp9
  have hP : va_P D classes [(mo, .inr (9, [.int cd, .ref rpx, .int nb, .ref rca, .ref rpl, .ref rth, .ref rco, .ref rsh, .ref rsf, .ref rcr, .ref rep, .ref rby, .ref rli, .ref rls, .ref rla, .ref rcm, .ref rcs, .ref rpa, .ref rpm, .ref rpo, .ref rti, .ref rre, .ref rcl, .int (nI sz), .int (nI cs), .int (nI (nx + 1)), .int (nI la)])), (rpx, .inl (cI, 30720, .inl (nF Px))), (rth, .inl (cZ, 96, .inl (nF Th))), (rca, .inl (cI, 6144, .inl (nF Ca))), (rti, .inl (cI, 64, .inl (nF u7))), (rcl, .inl (cI, 64, .inl (nF Co))), (rcm, .inl (cI, 18741, .inl (nF Cm)))] H := hP
  have hD : va_D AA [(mo, .inr (9, [.int cd, .ref rpx, .int nb, .ref rca, .ref rpl, .ref rth, .ref rco, .ref rsh, .ref rsf, .ref rcr, .ref rep, .ref rby, .ref rli, .ref rls, .ref rla, .ref rcm, .ref rcs, .ref rpa, .ref rpm, .ref rpo, .ref rti, .ref rre, .ref rcl, .int (nI sz), .int (nI cs), .int (nI (nx + 1)), .int (nI la)])), (rpx, .inl (cI, 30720, .inl (nF Px))), (rth, .inl (cZ, 96, .inl (nF Th))), (rca, .inl (cI, 6144, .inl (nF Ca))), (rti, .inl (cI, 64, .inl (nF u7))), (rcl, .inl (cI, 64, .inl (nF Co))), (rcm, .inl (cI, 18741, .inl (nF Cm)))] := hD
  obtain ⟨rfl, hp11⟩ := hp9
  obtain ⟨h12, h13⟩ := hp11
  have hR := hret ((nI u6)) (u6, (nx + 1), u7, Co) H locs 103 ls d_Mod_read_103 (nar_b1 h12)
  try dsimp only at hR
  exact hR (⟨rfl, h12, by omega, by omega, h13, bCo⟩) hP hD hS
set_option maxHeartbeats 4000000 in
set_option maxRecDepth 100000 in
theorem c_Mod_read3 (mo : Nat) (cd : Int32) (rpx : Nat) (nb : Int32) (rca : Nat) (rpl : Nat) (rth : Nat) (rco : Nat) (rsh : Nat) (rsf : Nat) (rcr : Nat) (rep : Nat) (rby : Nat) (rli : Nat) (rls : Nat) (rla : Nat) (rcm : Nat) (rcs : Nat) (rpa : Nat) (rpm : Nat) (rpo : Nat) (rti : Nat) (rre : Nat) (rcl : Nat) (sz : Nat) (cs : Nat) (nx : Nat) (la : Nat) (Px : Nat → Nat) (Th : Nat → Nat) (Ca : Nat → Nat) (Ti : Nat → Nat) (Co : Nat → Nat) (Cm : Nat → Nat) (v : Nat) (hv : v < 3) (bPx : ∀ j, Px j < 65536) (bTh : ∀ j, Th j < 2) (bCa : ∀ j, Ca j < 65536) (bTi : ∀ j, Ti j < 65536) (bCo : ∀ j, Co j < 65536) (bCm : ∀ j, Cm j < 256) (hnx : nx ≤ 10000) (hla : la ≤ 6247) : CI (S := Nat × Nat × (Nat → Nat) × (Nat → Nat)) l classes NW D (TYS cI cZ cL cV) y_Mod_read (.code y_Mod_read b_Mod_read 8 (some .boolean) :: TB) { frames := 3, cells := 0, slots := 0, locals := 90 } [.ref mo, .int (nI v), .int (nI 3)] [(mo, .inr (9, [.int cd, .ref rpx, .int nb, .ref rca, .ref rpl, .ref rth, .ref rco, .ref rsh, .ref rsf, .ref rcr, .ref rep, .ref rby, .ref rli, .ref rls, .ref rla, .ref rcm, .ref rcs, .ref rpa, .ref rpm, .ref rpo, .ref rti, .ref rre, .ref rcl, .int (nI sz), .int (nI cs), .int (nI nx), .int (nI la)])), (rpx, .inl (cI, 30720, .inl (nF Px))), (rth, .inl (cZ, 96, .inl (nF Th))), (rca, .inl (cI, 6144, .inl (nF Ca))), (rti, .inl (cI, 64, .inl (nF Ti))), (rcl, .inl (cI, 64, .inl (nF Co))), (rcm, .inl (cI, 18741, .inl (nF Cm)))] (fun r u => r = nI u.1 ∧ u.1 ≤ 1 ∧ nx ≤ u.2.1 ∧ u.2.1 ≤ nx + 2100 ∧ (∀ j, u.2.2.1 j < 65536) ∧ (∀ j, u.2.2.2 j < 65536)) (fun u => [(mo, .inr (9, [.int cd, .ref rpx, .int nb, .ref rca, .ref rpl, .ref rth, .ref rco, .ref rsh, .ref rsf, .ref rcr, .ref rep, .ref rby, .ref rli, .ref rls, .ref rla, .ref rcm, .ref rcs, .ref rpa, .ref rpm, .ref rpo, .ref rti, .ref rre, .ref rcl, .int (nI sz), .int (nI cs), .int (nI u.2.1), .int (nI la)])), (rpx, .inl (cI, 30720, .inl (nF Px))), (rth, .inl (cZ, 96, .inl (nF Th))), (rca, .inl (cI, 6144, .inl (nF Ca))), (rti, .inl (cI, 64, .inl (nF u.2.2.1))), (rcl, .inl (cI, 64, .inl (nF u.2.2.2))), (rcm, .inl (cI, 18741, .inl (nF Cm)))]) := by
  refine CI.of (by decide) (Nat.le_of_ble_eq_true rfl) ?_
  intro pr ev sT mM aR bW mE cO AA QQ ls Bd hG hA hP hD hS hl hret
  have Bd : bd pr cO b_Mod_read 8 sT aR TB "TileScreenModel" mM := Bd
  obtain ⟨hx, hb, hml, hown, htb⟩ := id Bd
  have hl : lv_has ls 8 [(0, .ref mo), (1, .int (nI v)), (2, .int (nI 3))] := hl
  refine lv_iload_n hx hb d_Mod_read_0 rfl (lv_at hl 2 rfl) ?_
  refine lv_iconst (v := nI 4) hx hb d_Mod_read_1 (by decide) ?_
  refine nv_icmp_ne (tgt := 13) hx hb d_Mod_read_2 (by decide) (by omega) (by omega) (fun _ => ?_) (fun h9 => absurd h9 (by decide))
  refine lv_iload_n hx hb d_Mod_read_13 rfl (lv_at hl 2 rfl) ?_
  refine lv_iconst (v := nI 3) hx hb d_Mod_read_14 (by decide) ?_
  refine nv_icmp_ne (tgt := 22) hx hb d_Mod_read_15 (by decide) (by omega) (by omega) (fun h9 => absurd h9 (by decide)) (fun _ => ?_)
  refine lv_iconst (v := nI 2) hx hb d_Mod_read_18 (by decide) ?_
  refine lv_goto (tgt := 23) hx hb d_Mod_read_19 (by decide) ?_
  refine lv_istore_n (lv' := [(3, .int (nI 2)), (0, .ref mo), (1, .int (nI v)), (2, .int (nI 3))]) hx hb d_Mod_read_23 rfl hl (by decide) rfl (fun ls hl => ?_)
  refine lv_iload_n hx hb d_Mod_read_24 rfl (lv_at hl 3 rfl) ?_
  refine lv_iconst (v := nI 4) hx hb d_Mod_read_25 (by decide) ?_
  refine nv_icmp_ne (tgt := 41) hx hb d_Mod_read_26 (by decide) (by omega) (by omega) (fun _ => ?_) (fun h9 => absurd h9 (by decide))
  refine lv_iload_n hx hb d_Mod_read_41 rfl (lv_at hl 3 rfl) ?_
  refine nv_if_eq (tgt := 55) hx hb d_Mod_read_42 (by decide) (by decide) (fun h9 => absurd h9 (by decide)) (fun _ => ?_)
  refine lv_iload_n hx hb d_Mod_read_45 rfl (lv_at hl 3 rfl) ?_
  refine lv_iconst (v := nI 3) hx hb d_Mod_read_46 (by decide) ?_
  refine nv_icmp_eq (tgt := 55) hx hb d_Mod_read_47 (by decide) (by omega) (by omega) (fun _ => ?_) (fun h9 => absurd h9 (by decide))
  refine lv_iconst (v := nI 0) hx hb d_Mod_read_55 (by decide) ?_
  refine lv_istore (lv' := [(4, .int (nI 0)), (3, .int (nI 2)), (0, .ref mo), (1, .int (nI v)), (2, .int (nI 3))]) hx hb d_Mod_read_56 hl (by decide) rfl (fun ls hl => ?_)
  refine lv_iload hx hb d_Mod_read_58 (lv_at hl 0 rfl) ?_
  refine lv_iload_n hx hb d_Mod_read_60 rfl (lv_at hl 1 rfl) ?_
  refine nv_icmp_ge (tgt := 82) hx hb d_Mod_read_61 (by decide) (by omega) (by omega) (fun h9 => absurd h9 (by decide)) (fun _ => ?_)
  refine lv_aload_n hx hb d_Mod_read_64 rfl (lv_at hl 2 rfl) ?_
  refine va_get (D := D) (ci := 9) (v := .ref rcl) (C := "TileScreenModel") (T := F_Mod) (N := 27) hx hb htb i_Mod hown hG.1 hP 0 rfl rfl 22 (by decide) (htb _ k_657) (fun _ h9 => h9) rfl d_Mod_read_65 ?_
  refine lv_iload hx hb d_Mod_read_68 (lv_at hl 0 rfl) ?_
  refine lv_aload_n hx hb d_Mod_read_70 rfl (lv_at hl 2 rfl) ?_
  refine lv_iload_n hx hb d_Mod_read_71 rfl (lv_at hl 3 rfl) ?_
  refine kV_i (wc := [(mo, .inr (9, [.int cd, .ref rpx, .int nb, .ref rca, .ref rpl, .ref rth, .ref rco, .ref rsh, .ref rsf, .ref rcr, .ref rep, .ref rby, .ref rli, .ref rls, .ref rla, .ref rcm, .ref rcs, .ref rpa, .ref rpm, .ref rpo, .ref rti, .ref rre, .ref rcl, .int (nI sz), .int (nI cs), .int (nI nx), .int (nI la)])), (rcm, .inl (cI, 18741, .inl (nF Cm)))]) (wr := [(rpx, .inl (cI, 30720, .inl (nF Px))), (rth, .inl (cZ, 96, .inl (nF Th))), (rca, .inl (cI, 6144, .inl (nF Ca))), (rti, .inl (cI, 64, .inl (nF Ti))), (rcl, .inl (cI, 64, .inl (nF Co)))]) (w2 := fun u => [(mo, .inr (9, [.int cd, .ref rpx, .int nb, .ref rca, .ref rpl, .ref rth, .ref rco, .ref rsh, .ref rsf, .ref rcr, .ref rep, .ref rby, .ref rli, .ref rls, .ref rla, .ref rcm, .ref rcs, .ref rpa, .ref rpm, .ref rpo, .ref rti, .ref rre, .ref rcl, .int (nI sz), .int (nI cs), .int (nI (nx + 2)), .int (nI la)])), (rpx, .inl (cI, 30720, .inl (nF Px))), (rth, .inl (cZ, 96, .inl (nF Th))), (rca, .inl (cI, 6144, .inl (nF Ca))), (rti, .inl (cI, 64, .inl (nF Ti))), (rcl, .inl (cI, 64, .inl (nF Co))), (rcm, .inl (cI, 18741, .inl (nF Cm)))]) [.int (nI v)] [.int (nI 0), .ref rcl] Bd ⟨gi_app (gi_c0 k_833 (gi_c0 k_835 (gi_c0 s_39 (gi_c0 k_10 gi_nil)))) (gi_tb0 k_836), rfl, by decide, by decide⟩ (show (parseMethodDescriptor "(I)I").map (fun d => d.parameters.length) = some 1 by decide +kernel) (c_Mod_getTwo mo cd rpx nb rca rpl rth rco rsh rsf rcr rep rby rli rls rla rcm rcs rpa rpm rpo rti rre rcl sz cs nx la Cm v (hv) (hla) (by omega) (bCm)) (by decide +kernel) ⟨Nat.le_of_ble_eq_true rfl, Nat.le_of_ble_eq_true rfl⟩ hG hP hD hS hA [0, 6] [1, 2, 3, 4, 5] [5, 0, 1, 2, 3, 4, 6] (by decide) rfl rfl (fun _ => rfl) (q0 := 0) rfl rfl rfl hl.1 rfl (Nat.le_of_ble_eq_true rfl) d_Mod_read_72 (fun r2 u4 H locs hp3 hP hD hS => ?_)
  obtain ⟨u1, rfl⟩ : ∃ z9, z9 = u4 := ⟨_, rfl⟩
  try dsimp only at hp3
  have hP : va_P D classes [(mo, .inr (9, [.int cd, .ref rpx, .int nb, .ref rca, .ref rpl, .ref rth, .ref rco, .ref rsh, .ref rsf, .ref rcr, .ref rep, .ref rby, .ref rli, .ref rls, .ref rla, .ref rcm, .ref rcs, .ref rpa, .ref rpm, .ref rpo, .ref rti, .ref rre, .ref rcl, .int (nI sz), .int (nI cs), .int (nI (nx + 2)), .int (nI la)])), (rpx, .inl (cI, 30720, .inl (nF Px))), (rth, .inl (cZ, 96, .inl (nF Th))), (rca, .inl (cI, 6144, .inl (nF Ca))), (rti, .inl (cI, 64, .inl (nF Ti))), (rcl, .inl (cI, 64, .inl (nF Co))), (rcm, .inl (cI, 18741, .inl (nF Cm)))] H := hP
  have hD : va_D AA [(mo, .inr (9, [.int cd, .ref rpx, .int nb, .ref rca, .ref rpl, .ref rth, .ref rco, .ref rsh, .ref rsf, .ref rcr, .ref rep, .ref rby, .ref rli, .ref rls, .ref rla, .ref rcm, .ref rcs, .ref rpa, .ref rpm, .ref rpo, .ref rti, .ref rre, .ref rcl, .int (nI sz), .int (nI cs), .int (nI (nx + 2)), .int (nI la)])), (rpx, .inl (cI, 30720, .inl (nF Px))), (rth, .inl (cZ, 96, .inl (nF Th))), (rca, .inl (cI, 6144, .inl (nF Ca))), (rti, .inl (cI, 64, .inl (nF Ti))), (rcl, .inl (cI, 64, .inl (nF Co))), (rcm, .inl (cI, 18741, .inl (nF Cm)))] := hD
  obtain ⟨rfl, hp5⟩ := hp3
  refine nv_iast hx hb hG.1 hP hD hS 5 0 rfl rfl (by omega) (by omega) d_Mod_read_75 (fun H locs hP hD hS => ?_)
  have hP : va_P D classes [(mo, .inr (9, [.int cd, .ref rpx, .int nb, .ref rca, .ref rpl, .ref rth, .ref rco, .ref rsh, .ref rsf, .ref rcr, .ref rep, .ref rby, .ref rli, .ref rls, .ref rla, .ref rcm, .ref rcs, .ref rpa, .ref rpm, .ref rpo, .ref rti, .ref rre, .ref rcl, .int (nI sz), .int (nI cs), .int (nI (nx + 2)), .int (nI la)])), (rpx, .inl (cI, 30720, .inl (nF Px))), (rth, .inl (cZ, 96, .inl (nF Th))), (rca, .inl (cI, 6144, .inl (nF Ca))), (rti, .inl (cI, 64, .inl (nF Ti))), (rcl, .inl (cI, 64, .inl (nF (up Co 0 u1)))), (rcm, .inl (cI, 18741, .inl (nF Cm)))] H := hP
  have hD : va_D AA [(mo, .inr (9, [.int cd, .ref rpx, .int nb, .ref rca, .ref rpl, .ref rth, .ref rco, .ref rsh, .ref rsf, .ref rcr, .ref rep, .ref rby, .ref rli, .ref rls, .ref rla, .ref rcm, .ref rcs, .ref rpa, .ref rpm, .ref rpo, .ref rti, .ref rre, .ref rcl, .int (nI sz), .int (nI cs), .int (nI (nx + 2)), .int (nI la)])), (rpx, .inl (cI, 30720, .inl (nF Px))), (rth, .inl (cZ, 96, .inl (nF Th))), (rca, .inl (cI, 6144, .inl (nF Ca))), (rti, .inl (cI, 64, .inl (nF Ti))), (rcl, .inl (cI, 64, .inl (nF (up Co 0 u1)))), (rcm, .inl (cI, 18741, .inl (nF Cm)))] := hD
  refine lv_iinc (v := (nI 1)) (lv' := [(4, .int (nI 1)), (3, .int (nI 2)), (0, .ref mo), (1, .int (nI v)), (2, .int (nI 3))]) hx hb d_Mod_read_76 hl (k := 0) rfl (rfl) (by decide) rfl (fun ls hl => ?_)
  refine lv_goto (tgt := 58) hx hb d_Mod_read_79 (by decide) ?_
  refine lv_iload hx hb d_Mod_read_58 (lv_at hl 0 rfl) ?_
  refine lv_iload_n hx hb d_Mod_read_60 rfl (lv_at hl 1 rfl) ?_
  refine nv_icmp_ge (tgt := 82) hx hb d_Mod_read_61 (by decide) (by omega) (by omega) (fun h9 => absurd h9 (by decide)) (fun _ => ?_)
  refine lv_aload_n hx hb d_Mod_read_64 rfl (lv_at hl 2 rfl) ?_
  refine va_get (D := D) (ci := 9) (v := .ref rcl) (C := "TileScreenModel") (T := F_Mod) (N := 27) hx hb htb i_Mod hown hG.1 hP 0 rfl rfl 22 (by decide) (htb _ k_657) (fun _ h9 => h9) rfl d_Mod_read_65 ?_
  refine lv_iload hx hb d_Mod_read_68 (lv_at hl 0 rfl) ?_
  refine lv_aload_n hx hb d_Mod_read_70 rfl (lv_at hl 2 rfl) ?_
  refine lv_iload_n hx hb d_Mod_read_71 rfl (lv_at hl 3 rfl) ?_
  refine kV_i (wc := [(mo, .inr (9, [.int cd, .ref rpx, .int nb, .ref rca, .ref rpl, .ref rth, .ref rco, .ref rsh, .ref rsf, .ref rcr, .ref rep, .ref rby, .ref rli, .ref rls, .ref rla, .ref rcm, .ref rcs, .ref rpa, .ref rpm, .ref rpo, .ref rti, .ref rre, .ref rcl, .int (nI sz), .int (nI cs), .int (nI (nx + 2)), .int (nI la)])), (rcm, .inl (cI, 18741, .inl (nF Cm)))]) (wr := [(rpx, .inl (cI, 30720, .inl (nF Px))), (rth, .inl (cZ, 96, .inl (nF Th))), (rca, .inl (cI, 6144, .inl (nF Ca))), (rti, .inl (cI, 64, .inl (nF Ti))), (rcl, .inl (cI, 64, .inl (nF (up Co 0 u1))))]) (w2 := fun u => [(mo, .inr (9, [.int cd, .ref rpx, .int nb, .ref rca, .ref rpl, .ref rth, .ref rco, .ref rsh, .ref rsf, .ref rcr, .ref rep, .ref rby, .ref rli, .ref rls, .ref rla, .ref rcm, .ref rcs, .ref rpa, .ref rpm, .ref rpo, .ref rti, .ref rre, .ref rcl, .int (nI sz), .int (nI cs), .int (nI ((nx + 2) + 2)), .int (nI la)])), (rpx, .inl (cI, 30720, .inl (nF Px))), (rth, .inl (cZ, 96, .inl (nF Th))), (rca, .inl (cI, 6144, .inl (nF Ca))), (rti, .inl (cI, 64, .inl (nF Ti))), (rcl, .inl (cI, 64, .inl (nF (up Co 0 u1)))), (rcm, .inl (cI, 18741, .inl (nF Cm)))]) [.int (nI v)] [.int (nI 1), .ref rcl] Bd ⟨gi_app (gi_c0 k_833 (gi_c0 k_835 (gi_c0 s_39 (gi_c0 k_10 gi_nil)))) (gi_tb0 k_836), rfl, by decide, by decide⟩ (show (parseMethodDescriptor "(I)I").map (fun d => d.parameters.length) = some 1 by decide +kernel) (c_Mod_getTwo mo cd rpx nb rca rpl rth rco rsh rsf rcr rep rby rli rls rla rcm rcs rpa rpm rpo rti rre rcl sz cs (nx + 2) la Cm v (hv) (hla) (by omega) (bCm)) (by decide +kernel) ⟨Nat.le_of_ble_eq_true rfl, Nat.le_of_ble_eq_true rfl⟩ hG hP hD hS hA [0, 6] [1, 2, 3, 4, 5] [5, 0, 1, 2, 3, 4, 6] (by decide) rfl rfl (fun _ => rfl) (q0 := 0) rfl rfl rfl hl.1 rfl (Nat.le_of_ble_eq_true rfl) d_Mod_read_72 (fun r7 u9 H locs hp8 hP hD hS => ?_)
  obtain ⟨u6, rfl⟩ : ∃ z9, z9 = u9 := ⟨_, rfl⟩
  try dsimp only at hp8
  have hP : va_P D classes [(mo, .inr (9, [.int cd, .ref rpx, .int nb, .ref rca, .ref rpl, .ref rth, .ref rco, .ref rsh, .ref rsf, .ref rcr, .ref rep, .ref rby, .ref rli, .ref rls, .ref rla, .ref rcm, .ref rcs, .ref rpa, .ref rpm, .ref rpo, .ref rti, .ref rre, .ref rcl, .int (nI sz), .int (nI cs), .int (nI ((nx + 2) + 2)), .int (nI la)])), (rpx, .inl (cI, 30720, .inl (nF Px))), (rth, .inl (cZ, 96, .inl (nF Th))), (rca, .inl (cI, 6144, .inl (nF Ca))), (rti, .inl (cI, 64, .inl (nF Ti))), (rcl, .inl (cI, 64, .inl (nF (up Co 0 u1)))), (rcm, .inl (cI, 18741, .inl (nF Cm)))] H := hP
  have hD : va_D AA [(mo, .inr (9, [.int cd, .ref rpx, .int nb, .ref rca, .ref rpl, .ref rth, .ref rco, .ref rsh, .ref rsf, .ref rcr, .ref rep, .ref rby, .ref rli, .ref rls, .ref rla, .ref rcm, .ref rcs, .ref rpa, .ref rpm, .ref rpo, .ref rti, .ref rre, .ref rcl, .int (nI sz), .int (nI cs), .int (nI ((nx + 2) + 2)), .int (nI la)])), (rpx, .inl (cI, 30720, .inl (nF Px))), (rth, .inl (cZ, 96, .inl (nF Th))), (rca, .inl (cI, 6144, .inl (nF Ca))), (rti, .inl (cI, 64, .inl (nF Ti))), (rcl, .inl (cI, 64, .inl (nF (up Co 0 u1)))), (rcm, .inl (cI, 18741, .inl (nF Cm)))] := hD
  obtain ⟨rfl, hp10⟩ := hp8
  refine nv_iast hx hb hG.1 hP hD hS 5 0 rfl rfl (by omega) (by omega) d_Mod_read_75 (fun H locs hP hD hS => ?_)
  have hP : va_P D classes [(mo, .inr (9, [.int cd, .ref rpx, .int nb, .ref rca, .ref rpl, .ref rth, .ref rco, .ref rsh, .ref rsf, .ref rcr, .ref rep, .ref rby, .ref rli, .ref rls, .ref rla, .ref rcm, .ref rcs, .ref rpa, .ref rpm, .ref rpo, .ref rti, .ref rre, .ref rcl, .int (nI sz), .int (nI cs), .int (nI ((nx + 2) + 2)), .int (nI la)])), (rpx, .inl (cI, 30720, .inl (nF Px))), (rth, .inl (cZ, 96, .inl (nF Th))), (rca, .inl (cI, 6144, .inl (nF Ca))), (rti, .inl (cI, 64, .inl (nF Ti))), (rcl, .inl (cI, 64, .inl (nF (up (up Co 0 u1) 1 u6)))), (rcm, .inl (cI, 18741, .inl (nF Cm)))] H := hP
  have hD : va_D AA [(mo, .inr (9, [.int cd, .ref rpx, .int nb, .ref rca, .ref rpl, .ref rth, .ref rco, .ref rsh, .ref rsf, .ref rcr, .ref rep, .ref rby, .ref rli, .ref rls, .ref rla, .ref rcm, .ref rcs, .ref rpa, .ref rpm, .ref rpo, .ref rti, .ref rre, .ref rcl, .int (nI sz), .int (nI cs), .int (nI ((nx + 2) + 2)), .int (nI la)])), (rpx, .inl (cI, 30720, .inl (nF Px))), (rth, .inl (cZ, 96, .inl (nF Th))), (rca, .inl (cI, 6144, .inl (nF Ca))), (rti, .inl (cI, 64, .inl (nF Ti))), (rcl, .inl (cI, 64, .inl (nF (up (up Co 0 u1) 1 u6)))), (rcm, .inl (cI, 18741, .inl (nF Cm)))] := hD
  refine lv_iinc (v := (nI 2)) (lv' := [(4, .int (nI 2)), (3, .int (nI 2)), (0, .ref mo), (1, .int (nI v)), (2, .int (nI 3))]) hx hb d_Mod_read_76 hl (k := 0) rfl (rfl) (by decide) rfl (fun ls hl => ?_)
  refine lv_goto (tgt := 58) hx hb d_Mod_read_79 (by decide) ?_
  refine lv_iload hx hb d_Mod_read_58 (lv_at hl 0 rfl) ?_
  refine lv_iload_n hx hb d_Mod_read_60 rfl (lv_at hl 1 rfl) ?_
  refine nv_icmp_ge (tgt := 82) hx hb d_Mod_read_61 (by decide) (by omega) (by omega) (fun _ => ?_) (fun h9 => absurd h9 (by decide))
  refine lv_iload_n hx hb d_Mod_read_82 rfl (lv_at hl 4 rfl) ?_
  refine lv_iconst (v := nI 1) hx hb d_Mod_read_83 (by decide) ?_
  refine nv_icmp_eq (tgt := 92) hx hb d_Mod_read_84 (by decide) (by omega) (by omega) (fun h9 => absurd h9 (by decide)) (fun _ => ?_)
  refine lv_iload_n hx hb d_Mod_read_87 rfl (lv_at hl 4 rfl) ?_
  refine lv_iconst (v := nI 2) hx hb d_Mod_read_88 (by decide) ?_
  refine nv_icmp_ne (tgt := 104) hx hb d_Mod_read_89 (by decide) (by omega) (by omega) (fun _ => ?_) (fun h9 => absurd h9 (by decide))
  refine lv_iload_n hx hb d_Mod_read_104 rfl (lv_at hl 4 rfl) ?_
  refine lv_iconst (v := nI 5) hx hb d_Mod_read_105 (by decide) ?_
  refine nv_icmp_ne (tgt := 115) hx hb d_Mod_read_106 (by decide) (by omega) (by omega) (fun _ => ?_) (fun h9 => absurd h9 (by decide))
  refine lv_iconst (v := nI 0) hx hb d_Mod_read_115 (by decide) ?_
  refine lv_istore (lv' := [(4, .int (nI 0)), (3, .int (nI 2)), (0, .ref mo), (1, .int (nI v)), (2, .int (nI 3))]) hx hb d_Mod_read_116 hl (by decide) rfl (fun ls hl => ?_)
  refine lv_iconst (v := nI 1) hx hb d_Mod_read_118 (by decide) ?_
  refine lv_istore (lv' := [(5, .int (nI 1)), (4, .int (nI 0)), (3, .int (nI 2)), (0, .ref mo), (1, .int (nI v)), (2, .int (nI 3))]) hx hb d_Mod_read_119 hl (by decide) rfl (fun ls hl => ?_)
  refine lv_iconst (v := nI 0) hx hb d_Mod_read_121 (by decide) ?_
  refine lv_istore (lv' := [(6, .int (nI 0)), (5, .int (nI 1)), (4, .int (nI 0)), (3, .int (nI 2)), (0, .ref mo), (1, .int (nI v)), (2, .int (nI 3))]) hx hb d_Mod_read_122 hl (by decide) rfl (fun ls hl => ?_)
  have lp_124 : ∀ (nn : Nat) (k : Nat) (b1 : Nat) (g1 : Nat) (nx1 : Nat) (Ti1 : Nat → Nat) (hk : k ≤ 64) (hb1 : b1 < 256) (hg1 : g1 ≤ 1) (hn1 : nx1 ≤ (nx + 2) + 2 + 3 * k) (hn2 : (nx + 2) + 2 ≤ nx1) (bT1 : ∀ j, Ti1 j < 65536), 64 - k < nn → ∀ (H : Heap) (locs : List Loc) (ls : Array Slot), va_P D classes [(mo, .inr (9, [.int cd, .ref rpx, .int nb, .ref rca, .ref rpl, .ref rth, .ref rco, .ref rsh, .ref rsf, .ref rcr, .ref rep, .ref rby, .ref rli, .ref rls, .ref rla, .ref rcm, .ref rcs, .ref rpa, .ref rpm, .ref rpo, .ref rti, .ref rre, .ref rcl, .int (nI sz), .int (nI cs), .int (nI nx1), .int (nI la)])), (rpx, .inl (cI, 30720, .inl (nF Px))), (rth, .inl (cZ, 96, .inl (nF Th))), (rca, .inl (cI, 6144, .inl (nF Ca))), (rti, .inl (cI, 64, .inl (nF Ti1))), (rcl, .inl (cI, 64, .inl (nF (up (up Co 0 u1) 1 u6)))), (rcm, .inl (cI, 18741, .inl (nF Cm)))] H → va_D AA [(mo, .inr (9, [.int cd, .ref rpx, .int nb, .ref rca, .ref rpl, .ref rth, .ref rco, .ref rsh, .ref rsf, .ref rcr, .ref rep, .ref rby, .ref rli, .ref rls, .ref rla, .ref rcm, .ref rcs, .ref rpa, .ref rpm, .ref rpo, .ref rti, .ref rre, .ref rcl, .int (nI sz), .int (nI cs), .int (nI nx1), .int (nI la)])), (rpx, .inl (cI, 30720, .inl (nF Px))), (rth, .inl (cZ, 96, .inl (nF Th))), (rca, .inl (cI, 6144, .inl (nF Ca))), (rti, .inl (cI, 64, .inl (nF Ti1))), (rcl, .inl (cI, 64, .inl (nF (up (up Co 0 u1) 1 u6)))), (rcm, .inl (cI, 18741, .inl (nF Cm)))] → va_S AA sT.heap H locs → lv_has ls 8 [(6, .int (nI k)), (5, .int (nI g1)), (4, .int (nI b1)), (3, .int (nI 2)), (0, .ref mo), (1, .int (nI v)), (2, .int (nI 3))] → W pr l ev ({ frames := 3, cells := 0, slots := 0, locals := 90 } : Room) sT mM aR bW mE cO H locs 0 0 QQ (F0 mM 124 ls []) := by
    intro nn
    induction nn with
    | zero => intro k b1 g1 nx1 Ti1 hk hb1 hg1 hn1 hn2 bT1 hm; exact absurd hm (Nat.not_lt_zero _)
    | succ nn ih124 =>
      intro k b1 g1 nx1 Ti1 hk hb1 hg1 hn1 hn2 bT1 hm H locs ls hP hD hS hl
      refine lv_iload hx hb d_Mod_read_124 (lv_at hl 0 rfl) ?_
      refine lv_bipush (v := nI 64) hx hb d_Mod_read_126 (by decide) ?_
      refine nv_icmp_ge (tgt := 261) hx hb d_Mod_read_128 (by decide) (by omega) (by omega) (fun c_128 => ?_) (fun c_128 => ?_)
      · refine lv_iload hx hb d_Mod_read_261 (lv_at hl 1 rfl) ?_
        refine nv_if_eq (tgt := 281) hx hb d_Mod_read_263 (by decide) (by omega) (fun c_263 => ?_) (fun c_263 => ?_)
        · refine lv_iconst (v := nI 0) hx hb d_Mod_read_281 (by decide) ?_
          have hR := hret ((nI 0)) (0, nx1, Ti1, up (up Co 0 u1) 1 u6) H locs 282 ls d_Mod_read_282 (by first | rfl | decide)
          try dsimp only at hR
          exact hR (⟨rfl, by decide, by omega, by omega, bT1, up_lt (up_lt bCo hp5) hp10⟩) hP hD hS
        · refine lv_aload_n hx hb d_Mod_read_266 rfl (lv_at hl 4 rfl) ?_
          refine va_get (D := D) (ci := 9) (v := .int (nI nx1)) (C := "TileScreenModel") (T := F_Mod) (N := 27) hx hb htb i_Mod hown hG.1 hP 0 rfl rfl 25 (by decide) (htb _ k_660) (fun _ h9 => h9) rfl d_Mod_read_267 ?_
          refine lv_aload_n hx hb d_Mod_read_270 rfl (lv_at hl 4 rfl) ?_
          refine va_get (D := D) (ci := 9) (v := .int (nI la)) (C := "TileScreenModel") (T := F_Mod) (N := 27) hx hb htb i_Mod hown hG.1 hP 0 rfl rfl 26 (by decide) (htb _ k_661) (fun _ h9 => h9) rfl d_Mod_read_271 ?_
          refine nv_icmp_gt (tgt := 281) hx hb d_Mod_read_274 (by decide) (by omega) (by omega) (fun c_274 => ?_) (fun c_274 => ?_)
          · refine lv_iconst (v := nI 0) hx hb d_Mod_read_281 (by decide) ?_
            have hR := hret ((nI 0)) (0, nx1, Ti1, up (up Co 0 u1) 1 u6) H locs 282 ls d_Mod_read_282 (by first | rfl | decide)
            try dsimp only at hR
            exact hR (⟨rfl, by decide, by omega, by omega, bT1, up_lt (up_lt bCo hp5) hp10⟩) hP hD hS
          · refine lv_iconst (v := nI 1) hx hb d_Mod_read_277 (by decide) ?_
            refine lv_goto (tgt := 282) hx hb d_Mod_read_278 (by decide) ?_
            have hR := hret ((nI 1)) (1, nx1, Ti1, up (up Co 0 u1) 1 u6) H locs 282 ls d_Mod_read_282 (by first | rfl | decide)
            try dsimp only at hR
            exact hR (⟨rfl, by decide, by omega, by omega, bT1, up_lt (up_lt bCo hp5) hp10⟩) hP hD hS
      · refine lv_iload_n hx hb d_Mod_read_131 rfl (lv_at hl 6 rfl) ?_
        refine lv_iconst (v := nI 3) hx hb d_Mod_read_132 (by decide) ?_
        refine nv_icmp_ne (tgt := 144) hx hb d_Mod_read_133 (by decide) (by omega) (by omega) (fun h9 => absurd h9 (by decide)) (fun _ => ?_)
        refine lv_iload hx hb d_Mod_read_136 (lv_at hl 0 rfl) ?_
        refine lv_bipush (v := nI 8) hx hb d_Mod_read_138 (by decide) ?_
        refine nv_irem hx hb (by omega) (by omega) (by omega) d_Mod_read_140 ?_
        refine nv_if_eq (tgt := 156) hx hb d_Mod_read_141 (by decide) (by omega) (fun c_141 => ?_) (fun c_141 => ?_)
        · refine lv_aload_n hx hb d_Mod_read_156 rfl (lv_at hl 4 rfl) ?_
          refine lv_iload_n hx hb d_Mod_read_157 rfl (lv_at hl 5 rfl) ?_
          refine kV_i (wc := [(mo, .inr (9, [.int cd, .ref rpx, .int nb, .ref rca, .ref rpl, .ref rth, .ref rco, .ref rsh, .ref rsf, .ref rcr, .ref rep, .ref rby, .ref rli, .ref rls, .ref rla, .ref rcm, .ref rcs, .ref rpa, .ref rpm, .ref rpo, .ref rti, .ref rre, .ref rcl, .int (nI sz), .int (nI cs), .int (nI nx1), .int (nI la)])), (rcm, .inl (cI, 18741, .inl (nF Cm)))]) (wr := [(rpx, .inl (cI, 30720, .inl (nF Px))), (rth, .inl (cZ, 96, .inl (nF Th))), (rca, .inl (cI, 6144, .inl (nF Ca))), (rti, .inl (cI, 64, .inl (nF Ti1))), (rcl, .inl (cI, 64, .inl (nF (up (up Co 0 u1) 1 u6))))]) (w2 := fun u => [(mo, .inr (9, [.int cd, .ref rpx, .int nb, .ref rca, .ref rpl, .ref rth, .ref rco, .ref rsh, .ref rsf, .ref rcr, .ref rep, .ref rby, .ref rli, .ref rls, .ref rla, .ref rcm, .ref rcs, .ref rpa, .ref rpm, .ref rpo, .ref rti, .ref rre, .ref rcl, .int (nI sz), .int (nI cs), .int (nI (nx1 + 1)), .int (nI la)])), (rpx, .inl (cI, 30720, .inl (nF Px))), (rth, .inl (cZ, 96, .inl (nF Th))), (rca, .inl (cI, 6144, .inl (nF Ca))), (rti, .inl (cI, 64, .inl (nF Ti1))), (rcl, .inl (cI, 64, .inl (nF (up (up Co 0 u1) 1 u6)))), (rcm, .inl (cI, 18741, .inl (nF Cm)))]) [.int (nI v)] [] Bd ⟨gi_app (gi_c0 k_837 (gi_c0 k_839 (gi_c0 s_40 (gi_c0 k_10 gi_nil)))) (gi_tb0 k_840), rfl, by decide, by decide⟩ (show (parseMethodDescriptor "(I)I").map (fun d => d.parameters.length) = some 1 by decide +kernel) (c_Mod_get mo cd rpx nb rca rpl rth rco rsh rsf rcr rep rby rli rls rla rcm rcs rpa rpm rpo rti rre rcl sz cs nx1 la Cm v (hv) (hla) (by omega) (bCm)) (by decide +kernel) ⟨Nat.le_of_ble_eq_true rfl, Nat.le_of_ble_eq_true rfl⟩ hG hP hD hS hA [0, 6] [1, 2, 3, 4, 5] [5, 0, 1, 2, 3, 4, 6] (by decide) rfl rfl (fun _ => rfl) (q0 := 0) rfl rfl rfl hl.1 rfl (Nat.le_of_ble_eq_true rfl) d_Mod_read_158 (fun r13 u15 H locs hp14 hP hD hS => ?_)
          obtain ⟨u12, rfl⟩ : ∃ z9, z9 = u15 := ⟨_, rfl⟩
          try dsimp only at hp14
          have hP : va_P D classes [(mo, .inr (9, [.int cd, .ref rpx, .int nb, .ref rca, .ref rpl, .ref rth, .ref rco, .ref rsh, .ref rsf, .ref rcr, .ref rep, .ref rby, .ref rli, .ref rls, .ref rla, .ref rcm, .ref rcs, .ref rpa, .ref rpm, .ref rpo, .ref rti, .ref rre, .ref rcl, .int (nI sz), .int (nI cs), .int (nI (nx1 + 1)), .int (nI la)])), (rpx, .inl (cI, 30720, .inl (nF Px))), (rth, .inl (cZ, 96, .inl (nF Th))), (rca, .inl (cI, 6144, .inl (nF Ca))), (rti, .inl (cI, 64, .inl (nF Ti1))), (rcl, .inl (cI, 64, .inl (nF (up (up Co 0 u1) 1 u6)))), (rcm, .inl (cI, 18741, .inl (nF Cm)))] H := hP
          have hD : va_D AA [(mo, .inr (9, [.int cd, .ref rpx, .int nb, .ref rca, .ref rpl, .ref rth, .ref rco, .ref rsh, .ref rsf, .ref rcr, .ref rep, .ref rby, .ref rli, .ref rls, .ref rla, .ref rcm, .ref rcs, .ref rpa, .ref rpm, .ref rpo, .ref rti, .ref rre, .ref rcl, .int (nI sz), .int (nI cs), .int (nI (nx1 + 1)), .int (nI la)])), (rpx, .inl (cI, 30720, .inl (nF Px))), (rth, .inl (cZ, 96, .inl (nF Th))), (rca, .inl (cI, 6144, .inl (nF Ca))), (rti, .inl (cI, 64, .inl (nF Ti1))), (rcl, .inl (cI, 64, .inl (nF (up (up Co 0 u1) 1 u6)))), (rcm, .inl (cI, 18741, .inl (nF Cm)))] := hD
          obtain ⟨rfl, hp16⟩ := hp14
          refine lv_istore (lv' := [(4, .int (nI u12)), (6, .int (nI k)), (5, .int (nI g1)), (3, .int (nI 2)), (0, .ref mo), (1, .int (nI v)), (2, .int (nI 3))]) hx hb d_Mod_read_161 hl (by decide) rfl (fun ls hl => ?_)
          refine lv_iload_n hx hb d_Mod_read_163 rfl (lv_at hl 6 rfl) ?_
          refine lv_iconst (v := nI 3) hx hb d_Mod_read_164 (by decide) ?_
          refine nv_icmp_ne (tgt := 184) hx hb d_Mod_read_165 (by decide) (by omega) (by omega) (fun h9 => absurd h9 (by decide)) (fun _ => ?_)
          refine lv_iload hx hb d_Mod_read_168 (lv_at hl 0 rfl) ?_
          refine lv_bipush (v := nI 7) hx hb d_Mod_read_170 (by decide) ?_
          refine lv_iload hx hb d_Mod_read_172 (lv_at hl 1 rfl) ?_
          refine lv_bipush (v := nI 8) hx hb d_Mod_read_174 (by decide) ?_
          refine nv_irem hx hb (by omega) (by omega) (by omega) d_Mod_read_176 ?_
          refine nv_isub hx hb (by omega) d_Mod_read_177 ?_
          refine nv_ishr hx hb (by omega) (by omega) d_Mod_read_178 ?_
          refine lv_iconst (v := nI 1) hx hb d_Mod_read_179 (by decide) ?_
          refine nv_iandm hx hb 1 rfl d_Mod_read_180 ?_
          refine lv_goto (tgt := 207) hx hb d_Mod_read_181 (by decide) ?_
          refine lv_istore (lv' := [(7, .int (nI ((u12 / 2 ^ (7 - (k % 8))) % 2))), (4, .int (nI u12)), (6, .int (nI k)), (5, .int (nI g1)), (3, .int (nI 2)), (0, .ref mo), (1, .int (nI v)), (2, .int (nI 3))]) hx hb d_Mod_read_207 hl (by decide) rfl (fun ls hl => ?_)
          refine lv_iload hx hb d_Mod_read_209 (lv_at hl 3 rfl) ?_
          refine nv_if_eq (tgt := 224) hx hb d_Mod_read_211 (by decide) (by omega) (fun c_211 => ?_) (fun c_211 => ?_)
          · refine lv_iconst (v := nI 0) hx hb d_Mod_read_224 (by decide) ?_
            refine lv_istore (lv' := [(5, .int (nI 0)), (7, .int (nI ((u12 / 2 ^ (7 - (k % 8))) % 2))), (4, .int (nI u12)), (6, .int (nI k)), (3, .int (nI 2)), (0, .ref mo), (1, .int (nI v)), (2, .int (nI 3))]) hx hb d_Mod_read_225 hl (by decide) rfl (fun ls hl => ?_)
            refine lv_aload_n hx hb d_Mod_read_227 rfl (lv_at hl 5 rfl) ?_
            refine va_get (D := D) (ci := 9) (v := .ref rti) (C := "TileScreenModel") (T := F_Mod) (N := 27) hx hb htb i_Mod hown hG.1 hP 0 rfl rfl 20 (by decide) (htb _ k_655) (fun _ h9 => h9) rfl d_Mod_read_228 ?_
            refine lv_iload hx hb d_Mod_read_231 (lv_at hl 3 rfl) ?_
            refine lv_iload_n hx hb d_Mod_read_233 rfl (lv_at hl 7 rfl) ?_
            refine lv_bipush (v := nI 6) hx hb d_Mod_read_234 (by decide) ?_
            refine nv_icmp_ne (tgt := 247) hx hb d_Mod_read_236 (by decide) (by omega) (by omega) (fun _ => ?_) (fun h9 => absurd h9 (by decide))
            refine lv_aload_n hx hb d_Mod_read_247 rfl (lv_at hl 5 rfl) ?_
            refine va_get (D := D) (ci := 9) (v := .ref rcl) (C := "TileScreenModel") (T := F_Mod) (N := 27) hx hb htb i_Mod hown hG.1 hP 0 rfl rfl 22 (by decide) (htb _ k_657) (fun _ h9 => h9) rfl d_Mod_read_248 ?_
            refine lv_iload hx hb d_Mod_read_251 (lv_at hl 1 rfl) ?_
            refine nv_iald hx hb hG.1 hP 5 0 rfl rfl (m_lt (show 2 ≤ 64 by decide) (by decide)) (by omega) d_Mod_read_253 ?_
            refine nv_iast hx hb hG.1 hP hD hS 4 0 rfl rfl (by omega) (by omega) d_Mod_read_254 (fun H locs hP hD hS => ?_)
            have hP : va_P D classes [(mo, .inr (9, [.int cd, .ref rpx, .int nb, .ref rca, .ref rpl, .ref rth, .ref rco, .ref rsh, .ref rsf, .ref rcr, .ref rep, .ref rby, .ref rli, .ref rls, .ref rla, .ref rcm, .ref rcs, .ref rpa, .ref rpm, .ref rpo, .ref rti, .ref rre, .ref rcl, .int (nI sz), .int (nI cs), .int (nI (nx1 + 1)), .int (nI la)])), (rpx, .inl (cI, 30720, .inl (nF Px))), (rth, .inl (cZ, 96, .inl (nF Th))), (rca, .inl (cI, 6144, .inl (nF Ca))), (rti, .inl (cI, 64, .inl (nF (up Ti1 k ((up (up Co 0 u1) 1 u6) ((u12 / 2 ^ (7 - (k % 8))) % 2)))))), (rcl, .inl (cI, 64, .inl (nF (up (up Co 0 u1) 1 u6)))), (rcm, .inl (cI, 18741, .inl (nF Cm)))] H := hP
            have hD : va_D AA [(mo, .inr (9, [.int cd, .ref rpx, .int nb, .ref rca, .ref rpl, .ref rth, .ref rco, .ref rsh, .ref rsf, .ref rcr, .ref rep, .ref rby, .ref rli, .ref rls, .ref rla, .ref rcm, .ref rcs, .ref rpa, .ref rpm, .ref rpo, .ref rti, .ref rre, .ref rcl, .int (nI sz), .int (nI cs), .int (nI (nx1 + 1)), .int (nI la)])), (rpx, .inl (cI, 30720, .inl (nF Px))), (rth, .inl (cZ, 96, .inl (nF Th))), (rca, .inl (cI, 6144, .inl (nF Ca))), (rti, .inl (cI, 64, .inl (nF (up Ti1 k ((up (up Co 0 u1) 1 u6) ((u12 / 2 ^ (7 - (k % 8))) % 2)))))), (rcl, .inl (cI, 64, .inl (nF (up (up Co 0 u1) 1 u6)))), (rcm, .inl (cI, 18741, .inl (nF Cm)))] := hD
            refine lv_iinc (v := (nI (k + 1))) (lv' := [(6, .int (nI (k + 1))), (5, .int (nI 0)), (7, .int (nI ((u12 / 2 ^ (7 - (k % 8))) % 2))), (4, .int (nI u12)), (3, .int (nI 2)), (0, .ref mo), (1, .int (nI v)), (2, .int (nI 3))]) hx hb d_Mod_read_255 hl (k := 3) rfl (nI_add k 1) (by decide) rfl (fun ls hl => ?_)
            refine lv_goto (tgt := 124) hx hb d_Mod_read_258 (by decide) ?_
            exact ih124 (k + 1) u12 0 (nx1 + 1) (up Ti1 k ((up (up Co 0 u1) 1 u6) ((u12 / 2 ^ (7 - (k % 8))) % 2))) (by omega) (hp16) (by decide) (by omega) (by omega) (up_lt bT1 ((up_lt (up_lt bCo hp5) hp10) _)) (by omega) _ _ _ hP hD hS (lv_sub hl [0, 1, 3, 4, 5, 6, 7] rfl)
          · refine lv_iload hx hb d_Mod_read_214 (lv_at hl 0 rfl) ?_
            refine lv_iload_n hx hb d_Mod_read_216 rfl (lv_at hl 4 rfl) ?_
            refine nv_icmp_ge (tgt := 224) hx hb d_Mod_read_217 (by decide) (m_lt (show 2 ≤ 2 ^ 31 by decide) (by decide)) (by omega) (fun c_217 => ?_) (fun c_217 => ?_)
            · refine lv_iconst (v := nI 0) hx hb d_Mod_read_224 (by decide) ?_
              refine lv_istore (lv' := [(5, .int (nI 0)), (7, .int (nI ((u12 / 2 ^ (7 - (k % 8))) % 2))), (4, .int (nI u12)), (6, .int (nI k)), (3, .int (nI 2)), (0, .ref mo), (1, .int (nI v)), (2, .int (nI 3))]) hx hb d_Mod_read_225 hl (by decide) rfl (fun ls hl => ?_)
              refine lv_aload_n hx hb d_Mod_read_227 rfl (lv_at hl 5 rfl) ?_
              refine va_get (D := D) (ci := 9) (v := .ref rti) (C := "TileScreenModel") (T := F_Mod) (N := 27) hx hb htb i_Mod hown hG.1 hP 0 rfl rfl 20 (by decide) (htb _ k_655) (fun _ h9 => h9) rfl d_Mod_read_228 ?_
              refine lv_iload hx hb d_Mod_read_231 (lv_at hl 3 rfl) ?_
              refine lv_iload_n hx hb d_Mod_read_233 rfl (lv_at hl 7 rfl) ?_
              refine lv_bipush (v := nI 6) hx hb d_Mod_read_234 (by decide) ?_
              refine nv_icmp_ne (tgt := 247) hx hb d_Mod_read_236 (by decide) (by omega) (by omega) (fun _ => ?_) (fun h9 => absurd h9 (by decide))
              refine lv_aload_n hx hb d_Mod_read_247 rfl (lv_at hl 5 rfl) ?_
              refine va_get (D := D) (ci := 9) (v := .ref rcl) (C := "TileScreenModel") (T := F_Mod) (N := 27) hx hb htb i_Mod hown hG.1 hP 0 rfl rfl 22 (by decide) (htb _ k_657) (fun _ h9 => h9) rfl d_Mod_read_248 ?_
              refine lv_iload hx hb d_Mod_read_251 (lv_at hl 1 rfl) ?_
              refine nv_iald hx hb hG.1 hP 5 0 rfl rfl (m_lt (show 2 ≤ 64 by decide) (by decide)) (by omega) d_Mod_read_253 ?_
              refine nv_iast hx hb hG.1 hP hD hS 4 0 rfl rfl (by omega) (by omega) d_Mod_read_254 (fun H locs hP hD hS => ?_)
              have hP : va_P D classes [(mo, .inr (9, [.int cd, .ref rpx, .int nb, .ref rca, .ref rpl, .ref rth, .ref rco, .ref rsh, .ref rsf, .ref rcr, .ref rep, .ref rby, .ref rli, .ref rls, .ref rla, .ref rcm, .ref rcs, .ref rpa, .ref rpm, .ref rpo, .ref rti, .ref rre, .ref rcl, .int (nI sz), .int (nI cs), .int (nI (nx1 + 1)), .int (nI la)])), (rpx, .inl (cI, 30720, .inl (nF Px))), (rth, .inl (cZ, 96, .inl (nF Th))), (rca, .inl (cI, 6144, .inl (nF Ca))), (rti, .inl (cI, 64, .inl (nF (up Ti1 k ((up (up Co 0 u1) 1 u6) ((u12 / 2 ^ (7 - (k % 8))) % 2)))))), (rcl, .inl (cI, 64, .inl (nF (up (up Co 0 u1) 1 u6)))), (rcm, .inl (cI, 18741, .inl (nF Cm)))] H := hP
              have hD : va_D AA [(mo, .inr (9, [.int cd, .ref rpx, .int nb, .ref rca, .ref rpl, .ref rth, .ref rco, .ref rsh, .ref rsf, .ref rcr, .ref rep, .ref rby, .ref rli, .ref rls, .ref rla, .ref rcm, .ref rcs, .ref rpa, .ref rpm, .ref rpo, .ref rti, .ref rre, .ref rcl, .int (nI sz), .int (nI cs), .int (nI (nx1 + 1)), .int (nI la)])), (rpx, .inl (cI, 30720, .inl (nF Px))), (rth, .inl (cZ, 96, .inl (nF Th))), (rca, .inl (cI, 6144, .inl (nF Ca))), (rti, .inl (cI, 64, .inl (nF (up Ti1 k ((up (up Co 0 u1) 1 u6) ((u12 / 2 ^ (7 - (k % 8))) % 2)))))), (rcl, .inl (cI, 64, .inl (nF (up (up Co 0 u1) 1 u6)))), (rcm, .inl (cI, 18741, .inl (nF Cm)))] := hD
              refine lv_iinc (v := (nI (k + 1))) (lv' := [(6, .int (nI (k + 1))), (5, .int (nI 0)), (7, .int (nI ((u12 / 2 ^ (7 - (k % 8))) % 2))), (4, .int (nI u12)), (3, .int (nI 2)), (0, .ref mo), (1, .int (nI v)), (2, .int (nI 3))]) hx hb d_Mod_read_255 hl (k := 3) rfl (nI_add k 1) (by decide) rfl (fun ls hl => ?_)
              refine lv_goto (tgt := 124) hx hb d_Mod_read_258 (by decide) ?_
              exact ih124 (k + 1) u12 0 (nx1 + 1) (up Ti1 k ((up (up Co 0 u1) 1 u6) ((u12 / 2 ^ (7 - (k % 8))) % 2))) (by omega) (hp16) (by decide) (by omega) (by omega) (up_lt bT1 ((up_lt (up_lt bCo hp5) hp10) _)) (by omega) _ _ _ hP hD hS (lv_sub hl [0, 1, 3, 4, 5, 6, 7] rfl)
            · refine lv_iconst (v := nI 1) hx hb d_Mod_read_220 (by decide) ?_
              refine lv_goto (tgt := 225) hx hb d_Mod_read_221 (by decide) ?_
              refine lv_istore (lv' := [(5, .int (nI 1)), (7, .int (nI ((u12 / 2 ^ (7 - (k % 8))) % 2))), (4, .int (nI u12)), (6, .int (nI k)), (3, .int (nI 2)), (0, .ref mo), (1, .int (nI v)), (2, .int (nI 3))]) hx hb d_Mod_read_225 hl (by decide) rfl (fun ls hl => ?_)
              refine lv_aload_n hx hb d_Mod_read_227 rfl (lv_at hl 5 rfl) ?_
              refine va_get (D := D) (ci := 9) (v := .ref rti) (C := "TileScreenModel") (T := F_Mod) (N := 27) hx hb htb i_Mod hown hG.1 hP 0 rfl rfl 20 (by decide) (htb _ k_655) (fun _ h9 => h9) rfl d_Mod_read_228 ?_
              refine lv_iload hx hb d_Mod_read_231 (lv_at hl 3 rfl) ?_
              refine lv_iload_n hx hb d_Mod_read_233 rfl (lv_at hl 7 rfl) ?_
              refine lv_bipush (v := nI 6) hx hb d_Mod_read_234 (by decide) ?_
              refine nv_icmp_ne (tgt := 247) hx hb d_Mod_read_236 (by decide) (by omega) (by omega) (fun _ => ?_) (fun h9 => absurd h9 (by decide))
              refine lv_aload_n hx hb d_Mod_read_247 rfl (lv_at hl 5 rfl) ?_
              refine va_get (D := D) (ci := 9) (v := .ref rcl) (C := "TileScreenModel") (T := F_Mod) (N := 27) hx hb htb i_Mod hown hG.1 hP 0 rfl rfl 22 (by decide) (htb _ k_657) (fun _ h9 => h9) rfl d_Mod_read_248 ?_
              refine lv_iload hx hb d_Mod_read_251 (lv_at hl 1 rfl) ?_
              refine nv_iald hx hb hG.1 hP 5 0 rfl rfl (m_lt (show 2 ≤ 64 by decide) (by decide)) (by omega) d_Mod_read_253 ?_
              refine nv_iast hx hb hG.1 hP hD hS 4 0 rfl rfl (by omega) (by omega) d_Mod_read_254 (fun H locs hP hD hS => ?_)
              have hP : va_P D classes [(mo, .inr (9, [.int cd, .ref rpx, .int nb, .ref rca, .ref rpl, .ref rth, .ref rco, .ref rsh, .ref rsf, .ref rcr, .ref rep, .ref rby, .ref rli, .ref rls, .ref rla, .ref rcm, .ref rcs, .ref rpa, .ref rpm, .ref rpo, .ref rti, .ref rre, .ref rcl, .int (nI sz), .int (nI cs), .int (nI (nx1 + 1)), .int (nI la)])), (rpx, .inl (cI, 30720, .inl (nF Px))), (rth, .inl (cZ, 96, .inl (nF Th))), (rca, .inl (cI, 6144, .inl (nF Ca))), (rti, .inl (cI, 64, .inl (nF (up Ti1 k ((up (up Co 0 u1) 1 u6) ((u12 / 2 ^ (7 - (k % 8))) % 2)))))), (rcl, .inl (cI, 64, .inl (nF (up (up Co 0 u1) 1 u6)))), (rcm, .inl (cI, 18741, .inl (nF Cm)))] H := hP
              have hD : va_D AA [(mo, .inr (9, [.int cd, .ref rpx, .int nb, .ref rca, .ref rpl, .ref rth, .ref rco, .ref rsh, .ref rsf, .ref rcr, .ref rep, .ref rby, .ref rli, .ref rls, .ref rla, .ref rcm, .ref rcs, .ref rpa, .ref rpm, .ref rpo, .ref rti, .ref rre, .ref rcl, .int (nI sz), .int (nI cs), .int (nI (nx1 + 1)), .int (nI la)])), (rpx, .inl (cI, 30720, .inl (nF Px))), (rth, .inl (cZ, 96, .inl (nF Th))), (rca, .inl (cI, 6144, .inl (nF Ca))), (rti, .inl (cI, 64, .inl (nF (up Ti1 k ((up (up Co 0 u1) 1 u6) ((u12 / 2 ^ (7 - (k % 8))) % 2)))))), (rcl, .inl (cI, 64, .inl (nF (up (up Co 0 u1) 1 u6)))), (rcm, .inl (cI, 18741, .inl (nF Cm)))] := hD
              refine lv_iinc (v := (nI (k + 1))) (lv' := [(6, .int (nI (k + 1))), (5, .int (nI 1)), (7, .int (nI ((u12 / 2 ^ (7 - (k % 8))) % 2))), (4, .int (nI u12)), (3, .int (nI 2)), (0, .ref mo), (1, .int (nI v)), (2, .int (nI 3))]) hx hb d_Mod_read_255 hl (k := 3) rfl (nI_add k 1) (by decide) rfl (fun ls hl => ?_)
              refine lv_goto (tgt := 124) hx hb d_Mod_read_258 (by decide) ?_
              exact ih124 (k + 1) u12 1 (nx1 + 1) (up Ti1 k ((up (up Co 0 u1) 1 u6) ((u12 / 2 ^ (7 - (k % 8))) % 2))) (by omega) (hp16) (by decide) (by omega) (by omega) (up_lt bT1 ((up_lt (up_lt bCo hp5) hp10) _)) (by omega) _ _ _ hP hD hS (lv_sub hl [0, 1, 3, 4, 5, 6, 7] rfl)
        · refine lv_iload_n hx hb d_Mod_read_144 rfl (lv_at hl 6 rfl) ?_
          refine lv_iconst (v := nI 4) hx hb d_Mod_read_145 (by decide) ?_
          refine nv_icmp_ne (tgt := 163) hx hb d_Mod_read_146 (by decide) (by omega) (by omega) (fun _ => ?_) (fun h9 => absurd h9 (by decide))
          refine lv_iload_n hx hb d_Mod_read_163 rfl (lv_at hl 6 rfl) ?_
          refine lv_iconst (v := nI 3) hx hb d_Mod_read_164 (by decide) ?_
          refine nv_icmp_ne (tgt := 184) hx hb d_Mod_read_165 (by decide) (by omega) (by omega) (fun h9 => absurd h9 (by decide)) (fun _ => ?_)
          refine lv_iload hx hb d_Mod_read_168 (lv_at hl 2 rfl) ?_
          refine lv_bipush (v := nI 7) hx hb d_Mod_read_170 (by decide) ?_
          refine lv_iload hx hb d_Mod_read_172 (lv_at hl 0 rfl) ?_
          refine lv_bipush (v := nI 8) hx hb d_Mod_read_174 (by decide) ?_
          refine nv_irem hx hb (by omega) (by omega) (by omega) d_Mod_read_176 ?_
          refine nv_isub hx hb (by omega) d_Mod_read_177 ?_
          refine nv_ishr hx hb (by omega) (by omega) d_Mod_read_178 ?_
          refine lv_iconst (v := nI 1) hx hb d_Mod_read_179 (by decide) ?_
          refine nv_iandm hx hb 1 rfl d_Mod_read_180 ?_
          refine lv_goto (tgt := 207) hx hb d_Mod_read_181 (by decide) ?_
          refine lv_istore (lv' := [(7, .int (nI ((b1 / 2 ^ (7 - (k % 8))) % 2))), (6, .int (nI k)), (5, .int (nI g1)), (4, .int (nI b1)), (3, .int (nI 2)), (0, .ref mo), (1, .int (nI v)), (2, .int (nI 3))]) hx hb d_Mod_read_207 hl (by decide) rfl (fun ls hl => ?_)
          refine lv_iload hx hb d_Mod_read_209 (lv_at hl 2 rfl) ?_
          refine nv_if_eq (tgt := 224) hx hb d_Mod_read_211 (by decide) (by omega) (fun c_211 => ?_) (fun c_211 => ?_)
          · refine lv_iconst (v := nI 0) hx hb d_Mod_read_224 (by decide) ?_
            refine lv_istore (lv' := [(5, .int (nI 0)), (7, .int (nI ((b1 / 2 ^ (7 - (k % 8))) % 2))), (6, .int (nI k)), (4, .int (nI b1)), (3, .int (nI 2)), (0, .ref mo), (1, .int (nI v)), (2, .int (nI 3))]) hx hb d_Mod_read_225 hl (by decide) rfl (fun ls hl => ?_)
            refine lv_aload_n hx hb d_Mod_read_227 rfl (lv_at hl 5 rfl) ?_
            refine va_get (D := D) (ci := 9) (v := .ref rti) (C := "TileScreenModel") (T := F_Mod) (N := 27) hx hb htb i_Mod hown hG.1 hP 0 rfl rfl 20 (by decide) (htb _ k_655) (fun _ h9 => h9) rfl d_Mod_read_228 ?_
            refine lv_iload hx hb d_Mod_read_231 (lv_at hl 2 rfl) ?_
            refine lv_iload_n hx hb d_Mod_read_233 rfl (lv_at hl 7 rfl) ?_
            refine lv_bipush (v := nI 6) hx hb d_Mod_read_234 (by decide) ?_
            refine nv_icmp_ne (tgt := 247) hx hb d_Mod_read_236 (by decide) (by omega) (by omega) (fun _ => ?_) (fun h9 => absurd h9 (by decide))
            refine lv_aload_n hx hb d_Mod_read_247 rfl (lv_at hl 5 rfl) ?_
            refine va_get (D := D) (ci := 9) (v := .ref rcl) (C := "TileScreenModel") (T := F_Mod) (N := 27) hx hb htb i_Mod hown hG.1 hP 0 rfl rfl 22 (by decide) (htb _ k_657) (fun _ h9 => h9) rfl d_Mod_read_248 ?_
            refine lv_iload hx hb d_Mod_read_251 (lv_at hl 1 rfl) ?_
            refine nv_iald hx hb hG.1 hP 5 0 rfl rfl (m_lt (show 2 ≤ 64 by decide) (by decide)) (by omega) d_Mod_read_253 ?_
            refine nv_iast hx hb hG.1 hP hD hS 4 0 rfl rfl (by omega) (by omega) d_Mod_read_254 (fun H locs hP hD hS => ?_)
            have hP : va_P D classes [(mo, .inr (9, [.int cd, .ref rpx, .int nb, .ref rca, .ref rpl, .ref rth, .ref rco, .ref rsh, .ref rsf, .ref rcr, .ref rep, .ref rby, .ref rli, .ref rls, .ref rla, .ref rcm, .ref rcs, .ref rpa, .ref rpm, .ref rpo, .ref rti, .ref rre, .ref rcl, .int (nI sz), .int (nI cs), .int (nI nx1), .int (nI la)])), (rpx, .inl (cI, 30720, .inl (nF Px))), (rth, .inl (cZ, 96, .inl (nF Th))), (rca, .inl (cI, 6144, .inl (nF Ca))), (rti, .inl (cI, 64, .inl (nF (up Ti1 k ((up (up Co 0 u1) 1 u6) ((b1 / 2 ^ (7 - (k % 8))) % 2)))))), (rcl, .inl (cI, 64, .inl (nF (up (up Co 0 u1) 1 u6)))), (rcm, .inl (cI, 18741, .inl (nF Cm)))] H := hP
            have hD : va_D AA [(mo, .inr (9, [.int cd, .ref rpx, .int nb, .ref rca, .ref rpl, .ref rth, .ref rco, .ref rsh, .ref rsf, .ref rcr, .ref rep, .ref rby, .ref rli, .ref rls, .ref rla, .ref rcm, .ref rcs, .ref rpa, .ref rpm, .ref rpo, .ref rti, .ref rre, .ref rcl, .int (nI sz), .int (nI cs), .int (nI nx1), .int (nI la)])), (rpx, .inl (cI, 30720, .inl (nF Px))), (rth, .inl (cZ, 96, .inl (nF Th))), (rca, .inl (cI, 6144, .inl (nF Ca))), (rti, .inl (cI, 64, .inl (nF (up Ti1 k ((up (up Co 0 u1) 1 u6) ((b1 / 2 ^ (7 - (k % 8))) % 2)))))), (rcl, .inl (cI, 64, .inl (nF (up (up Co 0 u1) 1 u6)))), (rcm, .inl (cI, 18741, .inl (nF Cm)))] := hD
            refine lv_iinc (v := (nI (k + 1))) (lv' := [(6, .int (nI (k + 1))), (5, .int (nI 0)), (7, .int (nI ((b1 / 2 ^ (7 - (k % 8))) % 2))), (4, .int (nI b1)), (3, .int (nI 2)), (0, .ref mo), (1, .int (nI v)), (2, .int (nI 3))]) hx hb d_Mod_read_255 hl (k := 2) rfl (nI_add k 1) (by decide) rfl (fun ls hl => ?_)
            refine lv_goto (tgt := 124) hx hb d_Mod_read_258 (by decide) ?_
            exact ih124 (k + 1) b1 0 nx1 (up Ti1 k ((up (up Co 0 u1) 1 u6) ((b1 / 2 ^ (7 - (k % 8))) % 2))) (by omega) (hb1) (by decide) (by omega) (by omega) (up_lt bT1 ((up_lt (up_lt bCo hp5) hp10) _)) (by omega) _ _ _ hP hD hS (lv_sub hl [0, 1, 3, 4, 5, 6, 7] rfl)
          · refine lv_iload hx hb d_Mod_read_214 (lv_at hl 0 rfl) ?_
            refine lv_iload_n hx hb d_Mod_read_216 rfl (lv_at hl 4 rfl) ?_
            refine nv_icmp_ge (tgt := 224) hx hb d_Mod_read_217 (by decide) (m_lt (show 2 ≤ 2 ^ 31 by decide) (by decide)) (by omega) (fun c_217 => ?_) (fun c_217 => ?_)
            · refine lv_iconst (v := nI 0) hx hb d_Mod_read_224 (by decide) ?_
              refine lv_istore (lv' := [(5, .int (nI 0)), (7, .int (nI ((b1 / 2 ^ (7 - (k % 8))) % 2))), (6, .int (nI k)), (4, .int (nI b1)), (3, .int (nI 2)), (0, .ref mo), (1, .int (nI v)), (2, .int (nI 3))]) hx hb d_Mod_read_225 hl (by decide) rfl (fun ls hl => ?_)
              refine lv_aload_n hx hb d_Mod_read_227 rfl (lv_at hl 5 rfl) ?_
              refine va_get (D := D) (ci := 9) (v := .ref rti) (C := "TileScreenModel") (T := F_Mod) (N := 27) hx hb htb i_Mod hown hG.1 hP 0 rfl rfl 20 (by decide) (htb _ k_655) (fun _ h9 => h9) rfl d_Mod_read_228 ?_
              refine lv_iload hx hb d_Mod_read_231 (lv_at hl 2 rfl) ?_
              refine lv_iload_n hx hb d_Mod_read_233 rfl (lv_at hl 7 rfl) ?_
              refine lv_bipush (v := nI 6) hx hb d_Mod_read_234 (by decide) ?_
              refine nv_icmp_ne (tgt := 247) hx hb d_Mod_read_236 (by decide) (by omega) (by omega) (fun _ => ?_) (fun h9 => absurd h9 (by decide))
              refine lv_aload_n hx hb d_Mod_read_247 rfl (lv_at hl 5 rfl) ?_
              refine va_get (D := D) (ci := 9) (v := .ref rcl) (C := "TileScreenModel") (T := F_Mod) (N := 27) hx hb htb i_Mod hown hG.1 hP 0 rfl rfl 22 (by decide) (htb _ k_657) (fun _ h9 => h9) rfl d_Mod_read_248 ?_
              refine lv_iload hx hb d_Mod_read_251 (lv_at hl 1 rfl) ?_
              refine nv_iald hx hb hG.1 hP 5 0 rfl rfl (m_lt (show 2 ≤ 64 by decide) (by decide)) (by omega) d_Mod_read_253 ?_
              refine nv_iast hx hb hG.1 hP hD hS 4 0 rfl rfl (by omega) (by omega) d_Mod_read_254 (fun H locs hP hD hS => ?_)
              have hP : va_P D classes [(mo, .inr (9, [.int cd, .ref rpx, .int nb, .ref rca, .ref rpl, .ref rth, .ref rco, .ref rsh, .ref rsf, .ref rcr, .ref rep, .ref rby, .ref rli, .ref rls, .ref rla, .ref rcm, .ref rcs, .ref rpa, .ref rpm, .ref rpo, .ref rti, .ref rre, .ref rcl, .int (nI sz), .int (nI cs), .int (nI nx1), .int (nI la)])), (rpx, .inl (cI, 30720, .inl (nF Px))), (rth, .inl (cZ, 96, .inl (nF Th))), (rca, .inl (cI, 6144, .inl (nF Ca))), (rti, .inl (cI, 64, .inl (nF (up Ti1 k ((up (up Co 0 u1) 1 u6) ((b1 / 2 ^ (7 - (k % 8))) % 2)))))), (rcl, .inl (cI, 64, .inl (nF (up (up Co 0 u1) 1 u6)))), (rcm, .inl (cI, 18741, .inl (nF Cm)))] H := hP
              have hD : va_D AA [(mo, .inr (9, [.int cd, .ref rpx, .int nb, .ref rca, .ref rpl, .ref rth, .ref rco, .ref rsh, .ref rsf, .ref rcr, .ref rep, .ref rby, .ref rli, .ref rls, .ref rla, .ref rcm, .ref rcs, .ref rpa, .ref rpm, .ref rpo, .ref rti, .ref rre, .ref rcl, .int (nI sz), .int (nI cs), .int (nI nx1), .int (nI la)])), (rpx, .inl (cI, 30720, .inl (nF Px))), (rth, .inl (cZ, 96, .inl (nF Th))), (rca, .inl (cI, 6144, .inl (nF Ca))), (rti, .inl (cI, 64, .inl (nF (up Ti1 k ((up (up Co 0 u1) 1 u6) ((b1 / 2 ^ (7 - (k % 8))) % 2)))))), (rcl, .inl (cI, 64, .inl (nF (up (up Co 0 u1) 1 u6)))), (rcm, .inl (cI, 18741, .inl (nF Cm)))] := hD
              refine lv_iinc (v := (nI (k + 1))) (lv' := [(6, .int (nI (k + 1))), (5, .int (nI 0)), (7, .int (nI ((b1 / 2 ^ (7 - (k % 8))) % 2))), (4, .int (nI b1)), (3, .int (nI 2)), (0, .ref mo), (1, .int (nI v)), (2, .int (nI 3))]) hx hb d_Mod_read_255 hl (k := 2) rfl (nI_add k 1) (by decide) rfl (fun ls hl => ?_)
              refine lv_goto (tgt := 124) hx hb d_Mod_read_258 (by decide) ?_
              exact ih124 (k + 1) b1 0 nx1 (up Ti1 k ((up (up Co 0 u1) 1 u6) ((b1 / 2 ^ (7 - (k % 8))) % 2))) (by omega) (hb1) (by decide) (by omega) (by omega) (up_lt bT1 ((up_lt (up_lt bCo hp5) hp10) _)) (by omega) _ _ _ hP hD hS (lv_sub hl [0, 1, 3, 4, 5, 6, 7] rfl)
            · refine lv_iconst (v := nI 1) hx hb d_Mod_read_220 (by decide) ?_
              refine lv_goto (tgt := 225) hx hb d_Mod_read_221 (by decide) ?_
              refine lv_istore (lv' := [(5, .int (nI 1)), (7, .int (nI ((b1 / 2 ^ (7 - (k % 8))) % 2))), (6, .int (nI k)), (4, .int (nI b1)), (3, .int (nI 2)), (0, .ref mo), (1, .int (nI v)), (2, .int (nI 3))]) hx hb d_Mod_read_225 hl (by decide) rfl (fun ls hl => ?_)
              refine lv_aload_n hx hb d_Mod_read_227 rfl (lv_at hl 5 rfl) ?_
              refine va_get (D := D) (ci := 9) (v := .ref rti) (C := "TileScreenModel") (T := F_Mod) (N := 27) hx hb htb i_Mod hown hG.1 hP 0 rfl rfl 20 (by decide) (htb _ k_655) (fun _ h9 => h9) rfl d_Mod_read_228 ?_
              refine lv_iload hx hb d_Mod_read_231 (lv_at hl 2 rfl) ?_
              refine lv_iload_n hx hb d_Mod_read_233 rfl (lv_at hl 7 rfl) ?_
              refine lv_bipush (v := nI 6) hx hb d_Mod_read_234 (by decide) ?_
              refine nv_icmp_ne (tgt := 247) hx hb d_Mod_read_236 (by decide) (by omega) (by omega) (fun _ => ?_) (fun h9 => absurd h9 (by decide))
              refine lv_aload_n hx hb d_Mod_read_247 rfl (lv_at hl 5 rfl) ?_
              refine va_get (D := D) (ci := 9) (v := .ref rcl) (C := "TileScreenModel") (T := F_Mod) (N := 27) hx hb htb i_Mod hown hG.1 hP 0 rfl rfl 22 (by decide) (htb _ k_657) (fun _ h9 => h9) rfl d_Mod_read_248 ?_
              refine lv_iload hx hb d_Mod_read_251 (lv_at hl 1 rfl) ?_
              refine nv_iald hx hb hG.1 hP 5 0 rfl rfl (m_lt (show 2 ≤ 64 by decide) (by decide)) (by omega) d_Mod_read_253 ?_
              refine nv_iast hx hb hG.1 hP hD hS 4 0 rfl rfl (by omega) (by omega) d_Mod_read_254 (fun H locs hP hD hS => ?_)
              have hP : va_P D classes [(mo, .inr (9, [.int cd, .ref rpx, .int nb, .ref rca, .ref rpl, .ref rth, .ref rco, .ref rsh, .ref rsf, .ref rcr, .ref rep, .ref rby, .ref rli, .ref rls, .ref rla, .ref rcm, .ref rcs, .ref rpa, .ref rpm, .ref rpo, .ref rti, .ref rre, .ref rcl, .int (nI sz), .int (nI cs), .int (nI nx1), .int (nI la)])), (rpx, .inl (cI, 30720, .inl (nF Px))), (rth, .inl (cZ, 96, .inl (nF Th))), (rca, .inl (cI, 6144, .inl (nF Ca))), (rti, .inl (cI, 64, .inl (nF (up Ti1 k ((up (up Co 0 u1) 1 u6) ((b1 / 2 ^ (7 - (k % 8))) % 2)))))), (rcl, .inl (cI, 64, .inl (nF (up (up Co 0 u1) 1 u6)))), (rcm, .inl (cI, 18741, .inl (nF Cm)))] H := hP
              have hD : va_D AA [(mo, .inr (9, [.int cd, .ref rpx, .int nb, .ref rca, .ref rpl, .ref rth, .ref rco, .ref rsh, .ref rsf, .ref rcr, .ref rep, .ref rby, .ref rli, .ref rls, .ref rla, .ref rcm, .ref rcs, .ref rpa, .ref rpm, .ref rpo, .ref rti, .ref rre, .ref rcl, .int (nI sz), .int (nI cs), .int (nI nx1), .int (nI la)])), (rpx, .inl (cI, 30720, .inl (nF Px))), (rth, .inl (cZ, 96, .inl (nF Th))), (rca, .inl (cI, 6144, .inl (nF Ca))), (rti, .inl (cI, 64, .inl (nF (up Ti1 k ((up (up Co 0 u1) 1 u6) ((b1 / 2 ^ (7 - (k % 8))) % 2)))))), (rcl, .inl (cI, 64, .inl (nF (up (up Co 0 u1) 1 u6)))), (rcm, .inl (cI, 18741, .inl (nF Cm)))] := hD
              refine lv_iinc (v := (nI (k + 1))) (lv' := [(6, .int (nI (k + 1))), (5, .int (nI 1)), (7, .int (nI ((b1 / 2 ^ (7 - (k % 8))) % 2))), (4, .int (nI b1)), (3, .int (nI 2)), (0, .ref mo), (1, .int (nI v)), (2, .int (nI 3))]) hx hb d_Mod_read_255 hl (k := 2) rfl (nI_add k 1) (by decide) rfl (fun ls hl => ?_)
              refine lv_goto (tgt := 124) hx hb d_Mod_read_258 (by decide) ?_
              exact ih124 (k + 1) b1 1 nx1 (up Ti1 k ((up (up Co 0 u1) 1 u6) ((b1 / 2 ^ (7 - (k % 8))) % 2))) (by omega) (hb1) (by decide) (by omega) (by omega) (up_lt bT1 ((up_lt (up_lt bCo hp5) hp10) _)) (by omega) _ _ _ hP hD hS (lv_sub hl [0, 1, 3, 4, 5, 6, 7] rfl)
  exact lp_124 _ 0 0 1 ((nx + 2) + 2) Ti (Nat.zero_le _) (by decide) (by decide) (by omega) (by omega) (bTi) (Nat.lt_succ_self _) _ _ _ hP hD hS (lv_sub hl [0, 1, 2, 3, 4, 5, 6] rfl)
set_option maxHeartbeats 4000000 in
set_option maxRecDepth 100000 in
theorem c_Mod_read4 (mo : Nat) (cd : Int32) (rpx : Nat) (nb : Int32) (rca : Nat) (rpl : Nat) (rth : Nat) (rco : Nat) (rsh : Nat) (rsf : Nat) (rcr : Nat) (rep : Nat) (rby : Nat) (rli : Nat) (rls : Nat) (rla : Nat) (rcm : Nat) (rcs : Nat) (rpa : Nat) (rpm : Nat) (rpo : Nat) (rti : Nat) (rre : Nat) (rcl : Nat) (sz : Nat) (cs : Nat) (nx : Nat) (la : Nat) (Px : Nat → Nat) (Th : Nat → Nat) (Ca : Nat → Nat) (Ti : Nat → Nat) (Co : Nat → Nat) (Cm : Nat → Nat) (v : Nat) (hv : v < 3) (bPx : ∀ j, Px j < 65536) (bTh : ∀ j, Th j < 2) (bCa : ∀ j, Ca j < 65536) (bTi : ∀ j, Ti j < 65536) (bCo : ∀ j, Co j < 65536) (bCm : ∀ j, Cm j < 256) (hnx : nx ≤ 10000) (hla : la ≤ 6247) : CI (S := Nat × Nat × (Nat → Nat) × (Nat → Nat)) l classes NW D (TYS cI cZ cL cV) y_Mod_read (.code y_Mod_read b_Mod_read 8 (some .boolean) :: TB) { frames := 3, cells := 0, slots := 0, locals := 90 } [.ref mo, .int (nI v), .int (nI 4)] [(mo, .inr (9, [.int cd, .ref rpx, .int nb, .ref rca, .ref rpl, .ref rth, .ref rco, .ref rsh, .ref rsf, .ref rcr, .ref rep, .ref rby, .ref rli, .ref rls, .ref rla, .ref rcm, .ref rcs, .ref rpa, .ref rpm, .ref rpo, .ref rti, .ref rre, .ref rcl, .int (nI sz), .int (nI cs), .int (nI nx), .int (nI la)])), (rpx, .inl (cI, 30720, .inl (nF Px))), (rth, .inl (cZ, 96, .inl (nF Th))), (rca, .inl (cI, 6144, .inl (nF Ca))), (rti, .inl (cI, 64, .inl (nF Ti))), (rcl, .inl (cI, 64, .inl (nF Co))), (rcm, .inl (cI, 18741, .inl (nF Cm)))] (fun r u => r = nI u.1 ∧ u.1 ≤ 1 ∧ nx ≤ u.2.1 ∧ u.2.1 ≤ nx + 2100 ∧ (∀ j, u.2.2.1 j < 65536) ∧ (∀ j, u.2.2.2 j < 65536)) (fun u => [(mo, .inr (9, [.int cd, .ref rpx, .int nb, .ref rca, .ref rpl, .ref rth, .ref rco, .ref rsh, .ref rsf, .ref rcr, .ref rep, .ref rby, .ref rli, .ref rls, .ref rla, .ref rcm, .ref rcs, .ref rpa, .ref rpm, .ref rpo, .ref rti, .ref rre, .ref rcl, .int (nI sz), .int (nI cs), .int (nI u.2.1), .int (nI la)])), (rpx, .inl (cI, 30720, .inl (nF Px))), (rth, .inl (cZ, 96, .inl (nF Th))), (rca, .inl (cI, 6144, .inl (nF Ca))), (rti, .inl (cI, 64, .inl (nF u.2.2.1))), (rcl, .inl (cI, 64, .inl (nF u.2.2.2))), (rcm, .inl (cI, 18741, .inl (nF Cm)))]) := by
  refine CI.of (by decide) (Nat.le_of_ble_eq_true rfl) ?_
  intro pr ev sT mM aR bW mE cO AA QQ ls Bd hG hA hP hD hS hl hret
  have Bd : bd pr cO b_Mod_read 8 sT aR TB "TileScreenModel" mM := Bd
  obtain ⟨hx, hb, hml, hown, htb⟩ := id Bd
  have hl : lv_has ls 8 [(0, .ref mo), (1, .int (nI v)), (2, .int (nI 4))] := hl
  refine lv_iload_n hx hb d_Mod_read_0 rfl (lv_at hl 2 rfl) ?_
  refine lv_iconst (v := nI 4) hx hb d_Mod_read_1 (by decide) ?_
  refine nv_icmp_ne (tgt := 13) hx hb d_Mod_read_2 (by decide) (by omega) (by omega) (fun h9 => absurd h9 (by decide)) (fun _ => ?_)
  refine lv_aload_n hx hb d_Mod_read_5 rfl (lv_at hl 0 rfl) ?_
  refine lv_iload_n hx hb d_Mod_read_6 rfl (lv_at hl 1 rfl) ?_
  refine kV_i (wc := [(mo, .inr (9, [.int cd, .ref rpx, .int nb, .ref rca, .ref rpl, .ref rth, .ref rco, .ref rsh, .ref rsf, .ref rcr, .ref rep, .ref rby, .ref rli, .ref rls, .ref rla, .ref rcm, .ref rcs, .ref rpa, .ref rpm, .ref rpo, .ref rti, .ref rre, .ref rcl, .int (nI sz), .int (nI cs), .int (nI nx), .int (nI la)])), (rcm, .inl (cI, 18741, .inl (nF Cm)))]) (wr := [(rpx, .inl (cI, 30720, .inl (nF Px))), (rth, .inl (cZ, 96, .inl (nF Th))), (rca, .inl (cI, 6144, .inl (nF Ca))), (rti, .inl (cI, 64, .inl (nF Ti))), (rcl, .inl (cI, 64, .inl (nF Co)))]) (w2 := fun u => [(mo, .inr (9, [.int cd, .ref rpx, .int nb, .ref rca, .ref rpl, .ref rth, .ref rco, .ref rsh, .ref rsf, .ref rcr, .ref rep, .ref rby, .ref rli, .ref rls, .ref rla, .ref rcm, .ref rcs, .ref rpa, .ref rpm, .ref rpo, .ref rti, .ref rre, .ref rcl, .int (nI sz), .int (nI cs), .int (nI (nx + 1)), .int (nI la)])), (rpx, .inl (cI, 30720, .inl (nF Px))), (rth, .inl (cZ, 96, .inl (nF Th))), (rca, .inl (cI, 6144, .inl (nF Ca))), (rti, .inl (cI, 64, .inl (nF Ti))), (rcl, .inl (cI, 64, .inl (nF Co))), (rcm, .inl (cI, 18741, .inl (nF Cm)))]) [.int (nI v)] [] Bd ⟨gi_app (gi_c0 k_837 (gi_c0 k_839 (gi_c0 s_40 (gi_c0 k_10 gi_nil)))) (gi_tb0 k_840), rfl, by decide, by decide⟩ (show (parseMethodDescriptor "(I)I").map (fun d => d.parameters.length) = some 1 by decide +kernel) (c_Mod_get mo cd rpx nb rca rpl rth rco rsh rsf rcr rep rby rli rls rla rcm rcs rpa rpm rpo rti rre rcl sz cs nx la Cm v (hv) (hla) (by omega) (bCm)) (by decide +kernel) ⟨Nat.le_of_ble_eq_true rfl, Nat.le_of_ble_eq_true rfl⟩ hG hP hD hS hA [0, 6] [1, 2, 3, 4, 5] [5, 0, 1, 2, 3, 4, 6] (by decide) rfl rfl (fun _ => rfl) (q0 := 0) rfl rfl rfl hl.1 rfl (Nat.le_of_ble_eq_true rfl) d_Mod_read_7 (fun r2 u4 H locs hp3 hP hD hS => ?_)
  obtain ⟨u1, rfl⟩ : ∃ z9, z9 = u4 := ⟨_, rfl⟩
  try dsimp only at hp3
  have hP : va_P D classes [(mo, .inr (9, [.int cd, .ref rpx, .int nb, .ref rca, .ref rpl, .ref rth, .ref rco, .ref rsh, .ref rsf, .ref rcr, .ref rep, .ref rby, .ref rli, .ref rls, .ref rla, .ref rcm, .ref rcs, .ref rpa, .ref rpm, .ref rpo, .ref rti, .ref rre, .ref rcl, .int (nI sz), .int (nI cs), .int (nI (nx + 1)), .int (nI la)])), (rpx, .inl (cI, 30720, .inl (nF Px))), (rth, .inl (cZ, 96, .inl (nF Th))), (rca, .inl (cI, 6144, .inl (nF Ca))), (rti, .inl (cI, 64, .inl (nF Ti))), (rcl, .inl (cI, 64, .inl (nF Co))), (rcm, .inl (cI, 18741, .inl (nF Cm)))] H := hP
  have hD : va_D AA [(mo, .inr (9, [.int cd, .ref rpx, .int nb, .ref rca, .ref rpl, .ref rth, .ref rco, .ref rsh, .ref rsf, .ref rcr, .ref rep, .ref rby, .ref rli, .ref rls, .ref rla, .ref rcm, .ref rcs, .ref rpa, .ref rpm, .ref rpo, .ref rti, .ref rre, .ref rcl, .int (nI sz), .int (nI cs), .int (nI (nx + 1)), .int (nI la)])), (rpx, .inl (cI, 30720, .inl (nF Px))), (rth, .inl (cZ, 96, .inl (nF Th))), (rca, .inl (cI, 6144, .inl (nF Ca))), (rti, .inl (cI, 64, .inl (nF Ti))), (rcl, .inl (cI, 64, .inl (nF Co))), (rcm, .inl (cI, 18741, .inl (nF Cm)))] := hD
  obtain ⟨rfl, hp5⟩ := hp3
  refine lv_goto (tgt := 23) hx hb d_Mod_read_10 (by decide) ?_
  refine lv_istore_n (lv' := [(3, .int (nI u1)), (0, .ref mo), (1, .int (nI v)), (2, .int (nI 4))]) hx hb d_Mod_read_23 rfl hl (by decide) rfl (fun ls hl => ?_)
  refine lv_iload_n hx hb d_Mod_read_24 rfl (lv_at hl 3 rfl) ?_
  refine lv_iconst (v := nI 4) hx hb d_Mod_read_25 (by decide) ?_
  refine nv_icmp_ne (tgt := 41) hx hb d_Mod_read_26 (by decide) (by omega) (by omega) (fun h9 => absurd h9 (by decide)) (fun _ => ?_)
  refine lv_iload_n hx hb d_Mod_read_29 rfl (lv_at hl 0 rfl) ?_
  refine lv_iconst (v := nI 3) hx hb d_Mod_read_30 (by decide) ?_
  refine nv_icmp_eq (tgt := 41) hx hb d_Mod_read_31 (by decide) (by omega) (by omega) (fun c_31 => ?_) (fun c_31 => ?_)
  · subst c_31
    refine lv_iload_n hx hb d_Mod_read_41 rfl (lv_at hl 3 rfl) ?_
    refine nv_if_eq (tgt := 55) hx hb d_Mod_read_42 (by decide) (by decide) (fun h9 => absurd h9 (by decide)) (fun _ => ?_)
    refine lv_iload_n hx hb d_Mod_read_45 rfl (lv_at hl 3 rfl) ?_
    refine lv_iconst (v := nI 3) hx hb d_Mod_read_46 (by decide) ?_
    refine nv_icmp_eq (tgt := 55) hx hb d_Mod_read_47 (by decide) (by omega) (by omega) (fun h9 => absurd h9 (by decide)) (fun _ => ?_)
    refine lv_iload_n hx hb d_Mod_read_50 rfl (lv_at hl 3 rfl) ?_
    refine lv_iconst (v := nI 4) hx hb d_Mod_read_51 (by decide) ?_
    refine nv_icmp_ne (tgt := 82) hx hb d_Mod_read_52 (by decide) (by omega) (by omega) (fun h9 => absurd h9 (by decide)) (fun _ => ?_)
    refine lv_iconst (v := nI 0) hx hb d_Mod_read_55 (by decide) ?_
    refine lv_istore (lv' := [(4, .int (nI 0)), (3, .int (nI 3)), (0, .ref mo), (1, .int (nI v)), (2, .int (nI 4))]) hx hb d_Mod_read_56 hl (by decide) rfl (fun ls hl => ?_)
    refine lv_iload hx hb d_Mod_read_58 (lv_at hl 0 rfl) ?_
    refine lv_iload_n hx hb d_Mod_read_60 rfl (lv_at hl 1 rfl) ?_
    refine nv_icmp_ge (tgt := 82) hx hb d_Mod_read_61 (by decide) (by omega) (by omega) (fun h9 => absurd h9 (by decide)) (fun _ => ?_)
    refine lv_aload_n hx hb d_Mod_read_64 rfl (lv_at hl 2 rfl) ?_
    refine va_get (D := D) (ci := 9) (v := .ref rcl) (C := "TileScreenModel") (T := F_Mod) (N := 27) hx hb htb i_Mod hown hG.1 hP 0 rfl rfl 22 (by decide) (htb _ k_657) (fun _ h9 => h9) rfl d_Mod_read_65 ?_
    refine lv_iload hx hb d_Mod_read_68 (lv_at hl 0 rfl) ?_
    refine lv_aload_n hx hb d_Mod_read_70 rfl (lv_at hl 2 rfl) ?_
    refine lv_iload_n hx hb d_Mod_read_71 rfl (lv_at hl 3 rfl) ?_
    refine kV_i (wc := [(mo, .inr (9, [.int cd, .ref rpx, .int nb, .ref rca, .ref rpl, .ref rth, .ref rco, .ref rsh, .ref rsf, .ref rcr, .ref rep, .ref rby, .ref rli, .ref rls, .ref rla, .ref rcm, .ref rcs, .ref rpa, .ref rpm, .ref rpo, .ref rti, .ref rre, .ref rcl, .int (nI sz), .int (nI cs), .int (nI (nx + 1)), .int (nI la)])), (rcm, .inl (cI, 18741, .inl (nF Cm)))]) (wr := [(rpx, .inl (cI, 30720, .inl (nF Px))), (rth, .inl (cZ, 96, .inl (nF Th))), (rca, .inl (cI, 6144, .inl (nF Ca))), (rti, .inl (cI, 64, .inl (nF Ti))), (rcl, .inl (cI, 64, .inl (nF Co)))]) (w2 := fun u => [(mo, .inr (9, [.int cd, .ref rpx, .int nb, .ref rca, .ref rpl, .ref rth, .ref rco, .ref rsh, .ref rsf, .ref rcr, .ref rep, .ref rby, .ref rli, .ref rls, .ref rla, .ref rcm, .ref rcs, .ref rpa, .ref rpm, .ref rpo, .ref rti, .ref rre, .ref rcl, .int (nI sz), .int (nI cs), .int (nI ((nx + 1) + 2)), .int (nI la)])), (rpx, .inl (cI, 30720, .inl (nF Px))), (rth, .inl (cZ, 96, .inl (nF Th))), (rca, .inl (cI, 6144, .inl (nF Ca))), (rti, .inl (cI, 64, .inl (nF Ti))), (rcl, .inl (cI, 64, .inl (nF Co))), (rcm, .inl (cI, 18741, .inl (nF Cm)))]) [.int (nI v)] [.int (nI 0), .ref rcl] Bd ⟨gi_app (gi_c0 k_833 (gi_c0 k_835 (gi_c0 s_39 (gi_c0 k_10 gi_nil)))) (gi_tb0 k_836), rfl, by decide, by decide⟩ (show (parseMethodDescriptor "(I)I").map (fun d => d.parameters.length) = some 1 by decide +kernel) (c_Mod_getTwo mo cd rpx nb rca rpl rth rco rsh rsf rcr rep rby rli rls rla rcm rcs rpa rpm rpo rti rre rcl sz cs (nx + 1) la Cm v (hv) (hla) (by omega) (bCm)) (by decide +kernel) ⟨Nat.le_of_ble_eq_true rfl, Nat.le_of_ble_eq_true rfl⟩ hG hP hD hS hA [0, 6] [1, 2, 3, 4, 5] [5, 0, 1, 2, 3, 4, 6] (by decide) rfl rfl (fun _ => rfl) (q0 := 0) rfl rfl rfl hl.1 rfl (Nat.le_of_ble_eq_true rfl) d_Mod_read_72 (fun r7 u9 H locs hp8 hP hD hS => ?_)
    obtain ⟨u6, rfl⟩ : ∃ z9, z9 = u9 := ⟨_, rfl⟩
    try dsimp only at hp8
    have hP : va_P D classes [(mo, .inr (9, [.int cd, .ref rpx, .int nb, .ref rca, .ref rpl, .ref rth, .ref rco, .ref rsh, .ref rsf, .ref rcr, .ref rep, .ref rby, .ref rli, .ref rls, .ref rla, .ref rcm, .ref rcs, .ref rpa, .ref rpm, .ref rpo, .ref rti, .ref rre, .ref rcl, .int (nI sz), .int (nI cs), .int (nI ((nx + 1) + 2)), .int (nI la)])), (rpx, .inl (cI, 30720, .inl (nF Px))), (rth, .inl (cZ, 96, .inl (nF Th))), (rca, .inl (cI, 6144, .inl (nF Ca))), (rti, .inl (cI, 64, .inl (nF Ti))), (rcl, .inl (cI, 64, .inl (nF Co))), (rcm, .inl (cI, 18741, .inl (nF Cm)))] H := hP
    have hD : va_D AA [(mo, .inr (9, [.int cd, .ref rpx, .int nb, .ref rca, .ref rpl, .ref rth, .ref rco, .ref rsh, .ref rsf, .ref rcr, .ref rep, .ref rby, .ref rli, .ref rls, .ref rla, .ref rcm, .ref rcs, .ref rpa, .ref rpm, .ref rpo, .ref rti, .ref rre, .ref rcl, .int (nI sz), .int (nI cs), .int (nI ((nx + 1) + 2)), .int (nI la)])), (rpx, .inl (cI, 30720, .inl (nF Px))), (rth, .inl (cZ, 96, .inl (nF Th))), (rca, .inl (cI, 6144, .inl (nF Ca))), (rti, .inl (cI, 64, .inl (nF Ti))), (rcl, .inl (cI, 64, .inl (nF Co))), (rcm, .inl (cI, 18741, .inl (nF Cm)))] := hD
    obtain ⟨rfl, hp10⟩ := hp8
    refine nv_iast hx hb hG.1 hP hD hS 5 0 rfl rfl (by omega) (by omega) d_Mod_read_75 (fun H locs hP hD hS => ?_)
    have hP : va_P D classes [(mo, .inr (9, [.int cd, .ref rpx, .int nb, .ref rca, .ref rpl, .ref rth, .ref rco, .ref rsh, .ref rsf, .ref rcr, .ref rep, .ref rby, .ref rli, .ref rls, .ref rla, .ref rcm, .ref rcs, .ref rpa, .ref rpm, .ref rpo, .ref rti, .ref rre, .ref rcl, .int (nI sz), .int (nI cs), .int (nI ((nx + 1) + 2)), .int (nI la)])), (rpx, .inl (cI, 30720, .inl (nF Px))), (rth, .inl (cZ, 96, .inl (nF Th))), (rca, .inl (cI, 6144, .inl (nF Ca))), (rti, .inl (cI, 64, .inl (nF Ti))), (rcl, .inl (cI, 64, .inl (nF (up Co 0 u6)))), (rcm, .inl (cI, 18741, .inl (nF Cm)))] H := hP
    have hD : va_D AA [(mo, .inr (9, [.int cd, .ref rpx, .int nb, .ref rca, .ref rpl, .ref rth, .ref rco, .ref rsh, .ref rsf, .ref rcr, .ref rep, .ref rby, .ref rli, .ref rls, .ref rla, .ref rcm, .ref rcs, .ref rpa, .ref rpm, .ref rpo, .ref rti, .ref rre, .ref rcl, .int (nI sz), .int (nI cs), .int (nI ((nx + 1) + 2)), .int (nI la)])), (rpx, .inl (cI, 30720, .inl (nF Px))), (rth, .inl (cZ, 96, .inl (nF Th))), (rca, .inl (cI, 6144, .inl (nF Ca))), (rti, .inl (cI, 64, .inl (nF Ti))), (rcl, .inl (cI, 64, .inl (nF (up Co 0 u6)))), (rcm, .inl (cI, 18741, .inl (nF Cm)))] := hD
    refine lv_iinc (v := (nI 1)) (lv' := [(4, .int (nI 1)), (3, .int (nI 3)), (0, .ref mo), (1, .int (nI v)), (2, .int (nI 4))]) hx hb d_Mod_read_76 hl (k := 0) rfl (rfl) (by decide) rfl (fun ls hl => ?_)
    refine lv_goto (tgt := 58) hx hb d_Mod_read_79 (by decide) ?_
    refine lv_iload hx hb d_Mod_read_58 (lv_at hl 0 rfl) ?_
    refine lv_iload_n hx hb d_Mod_read_60 rfl (lv_at hl 1 rfl) ?_
    refine nv_icmp_ge (tgt := 82) hx hb d_Mod_read_61 (by decide) (by omega) (by omega) (fun h9 => absurd h9 (by decide)) (fun _ => ?_)
    refine lv_aload_n hx hb d_Mod_read_64 rfl (lv_at hl 2 rfl) ?_
    refine va_get (D := D) (ci := 9) (v := .ref rcl) (C := "TileScreenModel") (T := F_Mod) (N := 27) hx hb htb i_Mod hown hG.1 hP 0 rfl rfl 22 (by decide) (htb _ k_657) (fun _ h9 => h9) rfl d_Mod_read_65 ?_
    refine lv_iload hx hb d_Mod_read_68 (lv_at hl 0 rfl) ?_
    refine lv_aload_n hx hb d_Mod_read_70 rfl (lv_at hl 2 rfl) ?_
    refine lv_iload_n hx hb d_Mod_read_71 rfl (lv_at hl 3 rfl) ?_
    refine kV_i (wc := [(mo, .inr (9, [.int cd, .ref rpx, .int nb, .ref rca, .ref rpl, .ref rth, .ref rco, .ref rsh, .ref rsf, .ref rcr, .ref rep, .ref rby, .ref rli, .ref rls, .ref rla, .ref rcm, .ref rcs, .ref rpa, .ref rpm, .ref rpo, .ref rti, .ref rre, .ref rcl, .int (nI sz), .int (nI cs), .int (nI ((nx + 1) + 2)), .int (nI la)])), (rcm, .inl (cI, 18741, .inl (nF Cm)))]) (wr := [(rpx, .inl (cI, 30720, .inl (nF Px))), (rth, .inl (cZ, 96, .inl (nF Th))), (rca, .inl (cI, 6144, .inl (nF Ca))), (rti, .inl (cI, 64, .inl (nF Ti))), (rcl, .inl (cI, 64, .inl (nF (up Co 0 u6))))]) (w2 := fun u => [(mo, .inr (9, [.int cd, .ref rpx, .int nb, .ref rca, .ref rpl, .ref rth, .ref rco, .ref rsh, .ref rsf, .ref rcr, .ref rep, .ref rby, .ref rli, .ref rls, .ref rla, .ref rcm, .ref rcs, .ref rpa, .ref rpm, .ref rpo, .ref rti, .ref rre, .ref rcl, .int (nI sz), .int (nI cs), .int (nI (((nx + 1) + 2) + 2)), .int (nI la)])), (rpx, .inl (cI, 30720, .inl (nF Px))), (rth, .inl (cZ, 96, .inl (nF Th))), (rca, .inl (cI, 6144, .inl (nF Ca))), (rti, .inl (cI, 64, .inl (nF Ti))), (rcl, .inl (cI, 64, .inl (nF (up Co 0 u6)))), (rcm, .inl (cI, 18741, .inl (nF Cm)))]) [.int (nI v)] [.int (nI 1), .ref rcl] Bd ⟨gi_app (gi_c0 k_833 (gi_c0 k_835 (gi_c0 s_39 (gi_c0 k_10 gi_nil)))) (gi_tb0 k_836), rfl, by decide, by decide⟩ (show (parseMethodDescriptor "(I)I").map (fun d => d.parameters.length) = some 1 by decide +kernel) (c_Mod_getTwo mo cd rpx nb rca rpl rth rco rsh rsf rcr rep rby rli rls rla rcm rcs rpa rpm rpo rti rre rcl sz cs ((nx + 1) + 2) la Cm v (hv) (hla) (by omega) (bCm)) (by decide +kernel) ⟨Nat.le_of_ble_eq_true rfl, Nat.le_of_ble_eq_true rfl⟩ hG hP hD hS hA [0, 6] [1, 2, 3, 4, 5] [5, 0, 1, 2, 3, 4, 6] (by decide) rfl rfl (fun _ => rfl) (q0 := 0) rfl rfl rfl hl.1 rfl (Nat.le_of_ble_eq_true rfl) d_Mod_read_72 (fun r12 u14 H locs hp13 hP hD hS => ?_)
    obtain ⟨u11, rfl⟩ : ∃ z9, z9 = u14 := ⟨_, rfl⟩
    try dsimp only at hp13
    have hP : va_P D classes [(mo, .inr (9, [.int cd, .ref rpx, .int nb, .ref rca, .ref rpl, .ref rth, .ref rco, .ref rsh, .ref rsf, .ref rcr, .ref rep, .ref rby, .ref rli, .ref rls, .ref rla, .ref rcm, .ref rcs, .ref rpa, .ref rpm, .ref rpo, .ref rti, .ref rre, .ref rcl, .int (nI sz), .int (nI cs), .int (nI (((nx + 1) + 2) + 2)), .int (nI la)])), (rpx, .inl (cI, 30720, .inl (nF Px))), (rth, .inl (cZ, 96, .inl (nF Th))), (rca, .inl (cI, 6144, .inl (nF Ca))), (rti, .inl (cI, 64, .inl (nF Ti))), (rcl, .inl (cI, 64, .inl (nF (up Co 0 u6)))), (rcm, .inl (cI, 18741, .inl (nF Cm)))] H := hP
    have hD : va_D AA [(mo, .inr (9, [.int cd, .ref rpx, .int nb, .ref rca, .ref rpl, .ref rth, .ref rco, .ref rsh, .ref rsf, .ref rcr, .ref rep, .ref rby, .ref rli, .ref rls, .ref rla, .ref rcm, .ref rcs, .ref rpa, .ref rpm, .ref rpo, .ref rti, .ref rre, .ref rcl, .int (nI sz), .int (nI cs), .int (nI (((nx + 1) + 2) + 2)), .int (nI la)])), (rpx, .inl (cI, 30720, .inl (nF Px))), (rth, .inl (cZ, 96, .inl (nF Th))), (rca, .inl (cI, 6144, .inl (nF Ca))), (rti, .inl (cI, 64, .inl (nF Ti))), (rcl, .inl (cI, 64, .inl (nF (up Co 0 u6)))), (rcm, .inl (cI, 18741, .inl (nF Cm)))] := hD
    obtain ⟨rfl, hp15⟩ := hp13
    refine nv_iast hx hb hG.1 hP hD hS 5 0 rfl rfl (by omega) (by omega) d_Mod_read_75 (fun H locs hP hD hS => ?_)
    have hP : va_P D classes [(mo, .inr (9, [.int cd, .ref rpx, .int nb, .ref rca, .ref rpl, .ref rth, .ref rco, .ref rsh, .ref rsf, .ref rcr, .ref rep, .ref rby, .ref rli, .ref rls, .ref rla, .ref rcm, .ref rcs, .ref rpa, .ref rpm, .ref rpo, .ref rti, .ref rre, .ref rcl, .int (nI sz), .int (nI cs), .int (nI (((nx + 1) + 2) + 2)), .int (nI la)])), (rpx, .inl (cI, 30720, .inl (nF Px))), (rth, .inl (cZ, 96, .inl (nF Th))), (rca, .inl (cI, 6144, .inl (nF Ca))), (rti, .inl (cI, 64, .inl (nF Ti))), (rcl, .inl (cI, 64, .inl (nF (up (up Co 0 u6) 1 u11)))), (rcm, .inl (cI, 18741, .inl (nF Cm)))] H := hP
    have hD : va_D AA [(mo, .inr (9, [.int cd, .ref rpx, .int nb, .ref rca, .ref rpl, .ref rth, .ref rco, .ref rsh, .ref rsf, .ref rcr, .ref rep, .ref rby, .ref rli, .ref rls, .ref rla, .ref rcm, .ref rcs, .ref rpa, .ref rpm, .ref rpo, .ref rti, .ref rre, .ref rcl, .int (nI sz), .int (nI cs), .int (nI (((nx + 1) + 2) + 2)), .int (nI la)])), (rpx, .inl (cI, 30720, .inl (nF Px))), (rth, .inl (cZ, 96, .inl (nF Th))), (rca, .inl (cI, 6144, .inl (nF Ca))), (rti, .inl (cI, 64, .inl (nF Ti))), (rcl, .inl (cI, 64, .inl (nF (up (up Co 0 u6) 1 u11)))), (rcm, .inl (cI, 18741, .inl (nF Cm)))] := hD
    refine lv_iinc (v := (nI 2)) (lv' := [(4, .int (nI 2)), (3, .int (nI 3)), (0, .ref mo), (1, .int (nI v)), (2, .int (nI 4))]) hx hb d_Mod_read_76 hl (k := 0) rfl (rfl) (by decide) rfl (fun ls hl => ?_)
    refine lv_goto (tgt := 58) hx hb d_Mod_read_79 (by decide) ?_
    refine lv_iload hx hb d_Mod_read_58 (lv_at hl 0 rfl) ?_
    refine lv_iload_n hx hb d_Mod_read_60 rfl (lv_at hl 1 rfl) ?_
    refine nv_icmp_ge (tgt := 82) hx hb d_Mod_read_61 (by decide) (by omega) (by omega) (fun h9 => absurd h9 (by decide)) (fun _ => ?_)
    refine lv_aload_n hx hb d_Mod_read_64 rfl (lv_at hl 2 rfl) ?_
    refine va_get (D := D) (ci := 9) (v := .ref rcl) (C := "TileScreenModel") (T := F_Mod) (N := 27) hx hb htb i_Mod hown hG.1 hP 0 rfl rfl 22 (by decide) (htb _ k_657) (fun _ h9 => h9) rfl d_Mod_read_65 ?_
    refine lv_iload hx hb d_Mod_read_68 (lv_at hl 0 rfl) ?_
    refine lv_aload_n hx hb d_Mod_read_70 rfl (lv_at hl 2 rfl) ?_
    refine lv_iload_n hx hb d_Mod_read_71 rfl (lv_at hl 3 rfl) ?_
    refine kV_i (wc := [(mo, .inr (9, [.int cd, .ref rpx, .int nb, .ref rca, .ref rpl, .ref rth, .ref rco, .ref rsh, .ref rsf, .ref rcr, .ref rep, .ref rby, .ref rli, .ref rls, .ref rla, .ref rcm, .ref rcs, .ref rpa, .ref rpm, .ref rpo, .ref rti, .ref rre, .ref rcl, .int (nI sz), .int (nI cs), .int (nI (((nx + 1) + 2) + 2)), .int (nI la)])), (rcm, .inl (cI, 18741, .inl (nF Cm)))]) (wr := [(rpx, .inl (cI, 30720, .inl (nF Px))), (rth, .inl (cZ, 96, .inl (nF Th))), (rca, .inl (cI, 6144, .inl (nF Ca))), (rti, .inl (cI, 64, .inl (nF Ti))), (rcl, .inl (cI, 64, .inl (nF (up (up Co 0 u6) 1 u11))))]) (w2 := fun u => [(mo, .inr (9, [.int cd, .ref rpx, .int nb, .ref rca, .ref rpl, .ref rth, .ref rco, .ref rsh, .ref rsf, .ref rcr, .ref rep, .ref rby, .ref rli, .ref rls, .ref rla, .ref rcm, .ref rcs, .ref rpa, .ref rpm, .ref rpo, .ref rti, .ref rre, .ref rcl, .int (nI sz), .int (nI cs), .int (nI ((((nx + 1) + 2) + 2) + 2)), .int (nI la)])), (rpx, .inl (cI, 30720, .inl (nF Px))), (rth, .inl (cZ, 96, .inl (nF Th))), (rca, .inl (cI, 6144, .inl (nF Ca))), (rti, .inl (cI, 64, .inl (nF Ti))), (rcl, .inl (cI, 64, .inl (nF (up (up Co 0 u6) 1 u11)))), (rcm, .inl (cI, 18741, .inl (nF Cm)))]) [.int (nI v)] [.int (nI 2), .ref rcl] Bd ⟨gi_app (gi_c0 k_833 (gi_c0 k_835 (gi_c0 s_39 (gi_c0 k_10 gi_nil)))) (gi_tb0 k_836), rfl, by decide, by decide⟩ (show (parseMethodDescriptor "(I)I").map (fun d => d.parameters.length) = some 1 by decide +kernel) (c_Mod_getTwo mo cd rpx nb rca rpl rth rco rsh rsf rcr rep rby rli rls rla rcm rcs rpa rpm rpo rti rre rcl sz cs (((nx + 1) + 2) + 2) la Cm v (hv) (hla) (by omega) (bCm)) (by decide +kernel) ⟨Nat.le_of_ble_eq_true rfl, Nat.le_of_ble_eq_true rfl⟩ hG hP hD hS hA [0, 6] [1, 2, 3, 4, 5] [5, 0, 1, 2, 3, 4, 6] (by decide) rfl rfl (fun _ => rfl) (q0 := 0) rfl rfl rfl hl.1 rfl (Nat.le_of_ble_eq_true rfl) d_Mod_read_72 (fun r17 u19 H locs hp18 hP hD hS => ?_)
    obtain ⟨u16, rfl⟩ : ∃ z9, z9 = u19 := ⟨_, rfl⟩
    try dsimp only at hp18
    have hP : va_P D classes [(mo, .inr (9, [.int cd, .ref rpx, .int nb, .ref rca, .ref rpl, .ref rth, .ref rco, .ref rsh, .ref rsf, .ref rcr, .ref rep, .ref rby, .ref rli, .ref rls, .ref rla, .ref rcm, .ref rcs, .ref rpa, .ref rpm, .ref rpo, .ref rti, .ref rre, .ref rcl, .int (nI sz), .int (nI cs), .int (nI ((((nx + 1) + 2) + 2) + 2)), .int (nI la)])), (rpx, .inl (cI, 30720, .inl (nF Px))), (rth, .inl (cZ, 96, .inl (nF Th))), (rca, .inl (cI, 6144, .inl (nF Ca))), (rti, .inl (cI, 64, .inl (nF Ti))), (rcl, .inl (cI, 64, .inl (nF (up (up Co 0 u6) 1 u11)))), (rcm, .inl (cI, 18741, .inl (nF Cm)))] H := hP
    have hD : va_D AA [(mo, .inr (9, [.int cd, .ref rpx, .int nb, .ref rca, .ref rpl, .ref rth, .ref rco, .ref rsh, .ref rsf, .ref rcr, .ref rep, .ref rby, .ref rli, .ref rls, .ref rla, .ref rcm, .ref rcs, .ref rpa, .ref rpm, .ref rpo, .ref rti, .ref rre, .ref rcl, .int (nI sz), .int (nI cs), .int (nI ((((nx + 1) + 2) + 2) + 2)), .int (nI la)])), (rpx, .inl (cI, 30720, .inl (nF Px))), (rth, .inl (cZ, 96, .inl (nF Th))), (rca, .inl (cI, 6144, .inl (nF Ca))), (rti, .inl (cI, 64, .inl (nF Ti))), (rcl, .inl (cI, 64, .inl (nF (up (up Co 0 u6) 1 u11)))), (rcm, .inl (cI, 18741, .inl (nF Cm)))] := hD
    obtain ⟨rfl, hp20⟩ := hp18
    refine nv_iast hx hb hG.1 hP hD hS 5 0 rfl rfl (by omega) (by omega) d_Mod_read_75 (fun H locs hP hD hS => ?_)
    have hP : va_P D classes [(mo, .inr (9, [.int cd, .ref rpx, .int nb, .ref rca, .ref rpl, .ref rth, .ref rco, .ref rsh, .ref rsf, .ref rcr, .ref rep, .ref rby, .ref rli, .ref rls, .ref rla, .ref rcm, .ref rcs, .ref rpa, .ref rpm, .ref rpo, .ref rti, .ref rre, .ref rcl, .int (nI sz), .int (nI cs), .int (nI ((((nx + 1) + 2) + 2) + 2)), .int (nI la)])), (rpx, .inl (cI, 30720, .inl (nF Px))), (rth, .inl (cZ, 96, .inl (nF Th))), (rca, .inl (cI, 6144, .inl (nF Ca))), (rti, .inl (cI, 64, .inl (nF Ti))), (rcl, .inl (cI, 64, .inl (nF (up (up (up Co 0 u6) 1 u11) 2 u16)))), (rcm, .inl (cI, 18741, .inl (nF Cm)))] H := hP
    have hD : va_D AA [(mo, .inr (9, [.int cd, .ref rpx, .int nb, .ref rca, .ref rpl, .ref rth, .ref rco, .ref rsh, .ref rsf, .ref rcr, .ref rep, .ref rby, .ref rli, .ref rls, .ref rla, .ref rcm, .ref rcs, .ref rpa, .ref rpm, .ref rpo, .ref rti, .ref rre, .ref rcl, .int (nI sz), .int (nI cs), .int (nI ((((nx + 1) + 2) + 2) + 2)), .int (nI la)])), (rpx, .inl (cI, 30720, .inl (nF Px))), (rth, .inl (cZ, 96, .inl (nF Th))), (rca, .inl (cI, 6144, .inl (nF Ca))), (rti, .inl (cI, 64, .inl (nF Ti))), (rcl, .inl (cI, 64, .inl (nF (up (up (up Co 0 u6) 1 u11) 2 u16)))), (rcm, .inl (cI, 18741, .inl (nF Cm)))] := hD
    refine lv_iinc (v := (nI 3)) (lv' := [(4, .int (nI 3)), (3, .int (nI 3)), (0, .ref mo), (1, .int (nI v)), (2, .int (nI 4))]) hx hb d_Mod_read_76 hl (k := 0) rfl (rfl) (by decide) rfl (fun ls hl => ?_)
    refine lv_goto (tgt := 58) hx hb d_Mod_read_79 (by decide) ?_
    refine lv_iload hx hb d_Mod_read_58 (lv_at hl 0 rfl) ?_
    refine lv_iload_n hx hb d_Mod_read_60 rfl (lv_at hl 1 rfl) ?_
    refine nv_icmp_ge (tgt := 82) hx hb d_Mod_read_61 (by decide) (by omega) (by omega) (fun _ => ?_) (fun h9 => absurd h9 (by decide))
    refine lv_iload_n hx hb d_Mod_read_82 rfl (lv_at hl 4 rfl) ?_
    refine lv_iconst (v := nI 1) hx hb d_Mod_read_83 (by decide) ?_
    refine nv_icmp_eq (tgt := 92) hx hb d_Mod_read_84 (by decide) (by omega) (by omega) (fun h9 => absurd h9 (by decide)) (fun _ => ?_)
    refine lv_iload_n hx hb d_Mod_read_87 rfl (lv_at hl 4 rfl) ?_
    refine lv_iconst (v := nI 2) hx hb d_Mod_read_88 (by decide) ?_
    refine nv_icmp_ne (tgt := 104) hx hb d_Mod_read_89 (by decide) (by omega) (by omega) (fun _ => ?_) (fun h9 => absurd h9 (by decide))
    refine lv_iload_n hx hb d_Mod_read_104 rfl (lv_at hl 4 rfl) ?_
    refine lv_iconst (v := nI 5) hx hb d_Mod_read_105 (by decide) ?_
    refine nv_icmp_ne (tgt := 115) hx hb d_Mod_read_106 (by decide) (by omega) (by omega) (fun _ => ?_) (fun h9 => absurd h9 (by decide))
    refine lv_iconst (v := nI 0) hx hb d_Mod_read_115 (by decide) ?_
    refine lv_istore (lv' := [(4, .int (nI 0)), (3, .int (nI 3)), (0, .ref mo), (1, .int (nI v)), (2, .int (nI 4))]) hx hb d_Mod_read_116 hl (by decide) rfl (fun ls hl => ?_)
    refine lv_iconst (v := nI 1) hx hb d_Mod_read_118 (by decide) ?_
    refine lv_istore (lv' := [(5, .int (nI 1)), (4, .int (nI 0)), (3, .int (nI 3)), (0, .ref mo), (1, .int (nI v)), (2, .int (nI 4))]) hx hb d_Mod_read_119 hl (by decide) rfl (fun ls hl => ?_)
    refine lv_iconst (v := nI 0) hx hb d_Mod_read_121 (by decide) ?_
    refine lv_istore (lv' := [(6, .int (nI 0)), (5, .int (nI 1)), (4, .int (nI 0)), (3, .int (nI 3)), (0, .ref mo), (1, .int (nI v)), (2, .int (nI 4))]) hx hb d_Mod_read_122 hl (by decide) rfl (fun ls hl => ?_)
    have lp_124 : ∀ (nn : Nat) (k : Nat) (b1 : Nat) (g1 : Nat) (nx1 : Nat) (Ti1 : Nat → Nat) (hk : k ≤ 64) (hb1 : b1 < 256) (hg1 : g1 ≤ 1) (hn1 : nx1 ≤ (((nx + 1) + 2) + 2) + 2 + 3 * k) (hn2 : (((nx + 1) + 2) + 2) + 2 ≤ nx1) (bT1 : ∀ j, Ti1 j < 65536), 64 - k < nn → ∀ (H : Heap) (locs : List Loc) (ls : Array Slot), va_P D classes [(mo, .inr (9, [.int cd, .ref rpx, .int nb, .ref rca, .ref rpl, .ref rth, .ref rco, .ref rsh, .ref rsf, .ref rcr, .ref rep, .ref rby, .ref rli, .ref rls, .ref rla, .ref rcm, .ref rcs, .ref rpa, .ref rpm, .ref rpo, .ref rti, .ref rre, .ref rcl, .int (nI sz), .int (nI cs), .int (nI nx1), .int (nI la)])), (rpx, .inl (cI, 30720, .inl (nF Px))), (rth, .inl (cZ, 96, .inl (nF Th))), (rca, .inl (cI, 6144, .inl (nF Ca))), (rti, .inl (cI, 64, .inl (nF Ti1))), (rcl, .inl (cI, 64, .inl (nF (up (up (up Co 0 u6) 1 u11) 2 u16)))), (rcm, .inl (cI, 18741, .inl (nF Cm)))] H → va_D AA [(mo, .inr (9, [.int cd, .ref rpx, .int nb, .ref rca, .ref rpl, .ref rth, .ref rco, .ref rsh, .ref rsf, .ref rcr, .ref rep, .ref rby, .ref rli, .ref rls, .ref rla, .ref rcm, .ref rcs, .ref rpa, .ref rpm, .ref rpo, .ref rti, .ref rre, .ref rcl, .int (nI sz), .int (nI cs), .int (nI nx1), .int (nI la)])), (rpx, .inl (cI, 30720, .inl (nF Px))), (rth, .inl (cZ, 96, .inl (nF Th))), (rca, .inl (cI, 6144, .inl (nF Ca))), (rti, .inl (cI, 64, .inl (nF Ti1))), (rcl, .inl (cI, 64, .inl (nF (up (up (up Co 0 u6) 1 u11) 2 u16)))), (rcm, .inl (cI, 18741, .inl (nF Cm)))] → va_S AA sT.heap H locs → lv_has ls 8 [(6, .int (nI k)), (5, .int (nI g1)), (4, .int (nI b1)), (3, .int (nI 3)), (0, .ref mo), (1, .int (nI v)), (2, .int (nI 4))] → W pr l ev ({ frames := 3, cells := 0, slots := 0, locals := 90 } : Room) sT mM aR bW mE cO H locs 0 0 QQ (F0 mM 124 ls []) := by
      intro nn
      induction nn with
      | zero => intro k b1 g1 nx1 Ti1 hk hb1 hg1 hn1 hn2 bT1 hm; exact absurd hm (Nat.not_lt_zero _)
      | succ nn ih124 =>
        intro k b1 g1 nx1 Ti1 hk hb1 hg1 hn1 hn2 bT1 hm H locs ls hP hD hS hl
        refine lv_iload hx hb d_Mod_read_124 (lv_at hl 0 rfl) ?_
        refine lv_bipush (v := nI 64) hx hb d_Mod_read_126 (by decide) ?_
        refine nv_icmp_ge (tgt := 261) hx hb d_Mod_read_128 (by decide) (by omega) (by omega) (fun c_128 => ?_) (fun c_128 => ?_)
        · refine lv_iload hx hb d_Mod_read_261 (lv_at hl 1 rfl) ?_
          refine nv_if_eq (tgt := 281) hx hb d_Mod_read_263 (by decide) (by omega) (fun c_263 => ?_) (fun c_263 => ?_)
          · refine lv_iconst (v := nI 0) hx hb d_Mod_read_281 (by decide) ?_
            have hR := hret ((nI 0)) (0, nx1, Ti1, up (up (up Co 0 u6) 1 u11) 2 u16) H locs 282 ls d_Mod_read_282 (by first | rfl | decide)
            try dsimp only at hR
            exact hR (⟨rfl, by decide, by omega, by omega, bT1, up_lt (up_lt (up_lt bCo hp10) hp15) hp20⟩) hP hD hS
          · refine lv_aload_n hx hb d_Mod_read_266 rfl (lv_at hl 4 rfl) ?_
            refine va_get (D := D) (ci := 9) (v := .int (nI nx1)) (C := "TileScreenModel") (T := F_Mod) (N := 27) hx hb htb i_Mod hown hG.1 hP 0 rfl rfl 25 (by decide) (htb _ k_660) (fun _ h9 => h9) rfl d_Mod_read_267 ?_
            refine lv_aload_n hx hb d_Mod_read_270 rfl (lv_at hl 4 rfl) ?_
            refine va_get (D := D) (ci := 9) (v := .int (nI la)) (C := "TileScreenModel") (T := F_Mod) (N := 27) hx hb htb i_Mod hown hG.1 hP 0 rfl rfl 26 (by decide) (htb _ k_661) (fun _ h9 => h9) rfl d_Mod_read_271 ?_
            refine nv_icmp_gt (tgt := 281) hx hb d_Mod_read_274 (by decide) (by omega) (by omega) (fun c_274 => ?_) (fun c_274 => ?_)
            · refine lv_iconst (v := nI 0) hx hb d_Mod_read_281 (by decide) ?_
              have hR := hret ((nI 0)) (0, nx1, Ti1, up (up (up Co 0 u6) 1 u11) 2 u16) H locs 282 ls d_Mod_read_282 (by first | rfl | decide)
              try dsimp only at hR
              exact hR (⟨rfl, by decide, by omega, by omega, bT1, up_lt (up_lt (up_lt bCo hp10) hp15) hp20⟩) hP hD hS
            · refine lv_iconst (v := nI 1) hx hb d_Mod_read_277 (by decide) ?_
              refine lv_goto (tgt := 282) hx hb d_Mod_read_278 (by decide) ?_
              have hR := hret ((nI 1)) (1, nx1, Ti1, up (up (up Co 0 u6) 1 u11) 2 u16) H locs 282 ls d_Mod_read_282 (by first | rfl | decide)
              try dsimp only at hR
              exact hR (⟨rfl, by decide, by omega, by omega, bT1, up_lt (up_lt (up_lt bCo hp10) hp15) hp20⟩) hP hD hS
        · refine lv_iload_n hx hb d_Mod_read_131 rfl (lv_at hl 6 rfl) ?_
          refine lv_iconst (v := nI 3) hx hb d_Mod_read_132 (by decide) ?_
          refine nv_icmp_ne (tgt := 144) hx hb d_Mod_read_133 (by decide) (by omega) (by omega) (fun _ => ?_) (fun h9 => absurd h9 (by decide))
          refine lv_iload_n hx hb d_Mod_read_144 rfl (lv_at hl 6 rfl) ?_
          refine lv_iconst (v := nI 4) hx hb d_Mod_read_145 (by decide) ?_
          refine nv_icmp_ne (tgt := 163) hx hb d_Mod_read_146 (by decide) (by omega) (by omega) (fun h9 => absurd h9 (by decide)) (fun _ => ?_)
          refine lv_iload hx hb d_Mod_read_149 (lv_at hl 0 rfl) ?_
          refine lv_iconst (v := nI 4) hx hb d_Mod_read_151 (by decide) ?_
          refine nv_irem hx hb (by omega) (by omega) (by omega) d_Mod_read_152 ?_
          refine nv_if_ne (tgt := 163) hx hb d_Mod_read_153 (by decide) (by omega) (fun c_153 => ?_) (fun c_153 => ?_)
          · refine lv_iload_n hx hb d_Mod_read_163 rfl (lv_at hl 6 rfl) ?_
            refine lv_iconst (v := nI 3) hx hb d_Mod_read_164 (by decide) ?_
            refine nv_icmp_ne (tgt := 184) hx hb d_Mod_read_165 (by decide) (by omega) (by omega) (fun _ => ?_) (fun h9 => absurd h9 (by decide))
            refine lv_iload_n hx hb d_Mod_read_184 rfl (lv_at hl 6 rfl) ?_
            refine lv_iconst (v := nI 4) hx hb d_Mod_read_185 (by decide) ?_
            refine nv_icmp_ne (tgt := 206) hx hb d_Mod_read_186 (by decide) (by omega) (by omega) (fun h9 => absurd h9 (by decide)) (fun _ => ?_)
            refine lv_iload hx hb d_Mod_read_189 (lv_at hl 2 rfl) ?_
            refine lv_bipush (v := nI 6) hx hb d_Mod_read_191 (by decide) ?_
            refine lv_iconst (v := nI 2) hx hb d_Mod_read_193 (by decide) ?_
            refine lv_iload hx hb d_Mod_read_194 (lv_at hl 0 rfl) ?_
            refine lv_iconst (v := nI 4) hx hb d_Mod_read_196 (by decide) ?_
            refine nv_irem hx hb (by omega) (by omega) (by omega) d_Mod_read_197 ?_
            refine nv_imul hx hb d_Mod_read_198 ?_
            refine nv_isub hx hb (by omega) d_Mod_read_199 ?_
            refine nv_ishr hx hb (by omega) (by omega) d_Mod_read_200 ?_
            refine lv_iconst (v := nI 3) hx hb d_Mod_read_201 (by decide) ?_
            refine nv_iandm hx hb 2 rfl d_Mod_read_202 ?_
            refine lv_goto (tgt := 207) hx hb d_Mod_read_203 (by decide) ?_
            refine lv_istore (lv' := [(7, .int (nI ((b1 / 2 ^ (6 - (2 * (k % 4)))) % 4))), (6, .int (nI k)), (5, .int (nI g1)), (4, .int (nI b1)), (3, .int (nI 3)), (0, .ref mo), (1, .int (nI v)), (2, .int (nI 4))]) hx hb d_Mod_read_207 hl (by decide) rfl (fun ls hl => ?_)
            refine lv_iload hx hb d_Mod_read_209 (lv_at hl 2 rfl) ?_
            refine nv_if_eq (tgt := 224) hx hb d_Mod_read_211 (by decide) (by omega) (fun c_211 => ?_) (fun c_211 => ?_)
            · refine lv_iconst (v := nI 0) hx hb d_Mod_read_224 (by decide) ?_
              refine lv_istore (lv' := [(5, .int (nI 0)), (7, .int (nI ((b1 / 2 ^ (6 - (2 * (k % 4)))) % 4))), (6, .int (nI k)), (4, .int (nI b1)), (3, .int (nI 3)), (0, .ref mo), (1, .int (nI v)), (2, .int (nI 4))]) hx hb d_Mod_read_225 hl (by decide) rfl (fun ls hl => ?_)
              refine lv_aload_n hx hb d_Mod_read_227 rfl (lv_at hl 5 rfl) ?_
              refine va_get (D := D) (ci := 9) (v := .ref rti) (C := "TileScreenModel") (T := F_Mod) (N := 27) hx hb htb i_Mod hown hG.1 hP 0 rfl rfl 20 (by decide) (htb _ k_655) (fun _ h9 => h9) rfl d_Mod_read_228 ?_
              refine lv_iload hx hb d_Mod_read_231 (lv_at hl 2 rfl) ?_
              refine lv_iload_n hx hb d_Mod_read_233 rfl (lv_at hl 7 rfl) ?_
              refine lv_bipush (v := nI 6) hx hb d_Mod_read_234 (by decide) ?_
              refine nv_icmp_ne (tgt := 247) hx hb d_Mod_read_236 (by decide) (by omega) (by omega) (fun _ => ?_) (fun h9 => absurd h9 (by decide))
              refine lv_aload_n hx hb d_Mod_read_247 rfl (lv_at hl 5 rfl) ?_
              refine va_get (D := D) (ci := 9) (v := .ref rcl) (C := "TileScreenModel") (T := F_Mod) (N := 27) hx hb htb i_Mod hown hG.1 hP 0 rfl rfl 22 (by decide) (htb _ k_657) (fun _ h9 => h9) rfl d_Mod_read_248 ?_
              refine lv_iload hx hb d_Mod_read_251 (lv_at hl 1 rfl) ?_
              refine nv_iald hx hb hG.1 hP 5 0 rfl rfl (m_lt (show 4 ≤ 64 by decide) (by decide)) (by omega) d_Mod_read_253 ?_
              refine nv_iast hx hb hG.1 hP hD hS 4 0 rfl rfl (by omega) (by omega) d_Mod_read_254 (fun H locs hP hD hS => ?_)
              have hP : va_P D classes [(mo, .inr (9, [.int cd, .ref rpx, .int nb, .ref rca, .ref rpl, .ref rth, .ref rco, .ref rsh, .ref rsf, .ref rcr, .ref rep, .ref rby, .ref rli, .ref rls, .ref rla, .ref rcm, .ref rcs, .ref rpa, .ref rpm, .ref rpo, .ref rti, .ref rre, .ref rcl, .int (nI sz), .int (nI cs), .int (nI nx1), .int (nI la)])), (rpx, .inl (cI, 30720, .inl (nF Px))), (rth, .inl (cZ, 96, .inl (nF Th))), (rca, .inl (cI, 6144, .inl (nF Ca))), (rti, .inl (cI, 64, .inl (nF (up Ti1 k ((up (up (up Co 0 u6) 1 u11) 2 u16) ((b1 / 2 ^ (6 - (2 * (k % 4)))) % 4)))))), (rcl, .inl (cI, 64, .inl (nF (up (up (up Co 0 u6) 1 u11) 2 u16)))), (rcm, .inl (cI, 18741, .inl (nF Cm)))] H := hP
              have hD : va_D AA [(mo, .inr (9, [.int cd, .ref rpx, .int nb, .ref rca, .ref rpl, .ref rth, .ref rco, .ref rsh, .ref rsf, .ref rcr, .ref rep, .ref rby, .ref rli, .ref rls, .ref rla, .ref rcm, .ref rcs, .ref rpa, .ref rpm, .ref rpo, .ref rti, .ref rre, .ref rcl, .int (nI sz), .int (nI cs), .int (nI nx1), .int (nI la)])), (rpx, .inl (cI, 30720, .inl (nF Px))), (rth, .inl (cZ, 96, .inl (nF Th))), (rca, .inl (cI, 6144, .inl (nF Ca))), (rti, .inl (cI, 64, .inl (nF (up Ti1 k ((up (up (up Co 0 u6) 1 u11) 2 u16) ((b1 / 2 ^ (6 - (2 * (k % 4)))) % 4)))))), (rcl, .inl (cI, 64, .inl (nF (up (up (up Co 0 u6) 1 u11) 2 u16)))), (rcm, .inl (cI, 18741, .inl (nF Cm)))] := hD
              refine lv_iinc (v := (nI (k + 1))) (lv' := [(6, .int (nI (k + 1))), (5, .int (nI 0)), (7, .int (nI ((b1 / 2 ^ (6 - (2 * (k % 4)))) % 4))), (4, .int (nI b1)), (3, .int (nI 3)), (0, .ref mo), (1, .int (nI v)), (2, .int (nI 4))]) hx hb d_Mod_read_255 hl (k := 2) rfl (nI_add k 1) (by decide) rfl (fun ls hl => ?_)
              refine lv_goto (tgt := 124) hx hb d_Mod_read_258 (by decide) ?_
              exact ih124 (k + 1) b1 0 nx1 (up Ti1 k ((up (up (up Co 0 u6) 1 u11) 2 u16) ((b1 / 2 ^ (6 - (2 * (k % 4)))) % 4))) (by omega) (hb1) (by decide) (by omega) (by omega) (up_lt bT1 ((up_lt (up_lt (up_lt bCo hp10) hp15) hp20) _)) (by omega) _ _ _ hP hD hS (lv_sub hl [0, 1, 3, 4, 5, 6, 7] rfl)
            · refine lv_iload hx hb d_Mod_read_214 (lv_at hl 0 rfl) ?_
              refine lv_iload_n hx hb d_Mod_read_216 rfl (lv_at hl 4 rfl) ?_
              refine nv_icmp_ge (tgt := 224) hx hb d_Mod_read_217 (by decide) (m_lt (show 4 ≤ 2 ^ 31 by decide) (by decide)) (by omega) (fun c_217 => ?_) (fun c_217 => ?_)
              · refine lv_iconst (v := nI 0) hx hb d_Mod_read_224 (by decide) ?_
                refine lv_istore (lv' := [(5, .int (nI 0)), (7, .int (nI ((b1 / 2 ^ (6 - (2 * (k % 4)))) % 4))), (6, .int (nI k)), (4, .int (nI b1)), (3, .int (nI 3)), (0, .ref mo), (1, .int (nI v)), (2, .int (nI 4))]) hx hb d_Mod_read_225 hl (by decide) rfl (fun ls hl => ?_)
                refine lv_aload_n hx hb d_Mod_read_227 rfl (lv_at hl 5 rfl) ?_
                refine va_get (D := D) (ci := 9) (v := .ref rti) (C := "TileScreenModel") (T := F_Mod) (N := 27) hx hb htb i_Mod hown hG.1 hP 0 rfl rfl 20 (by decide) (htb _ k_655) (fun _ h9 => h9) rfl d_Mod_read_228 ?_
                refine lv_iload hx hb d_Mod_read_231 (lv_at hl 2 rfl) ?_
                refine lv_iload_n hx hb d_Mod_read_233 rfl (lv_at hl 7 rfl) ?_
                refine lv_bipush (v := nI 6) hx hb d_Mod_read_234 (by decide) ?_
                refine nv_icmp_ne (tgt := 247) hx hb d_Mod_read_236 (by decide) (by omega) (by omega) (fun _ => ?_) (fun h9 => absurd h9 (by decide))
                refine lv_aload_n hx hb d_Mod_read_247 rfl (lv_at hl 5 rfl) ?_
                refine va_get (D := D) (ci := 9) (v := .ref rcl) (C := "TileScreenModel") (T := F_Mod) (N := 27) hx hb htb i_Mod hown hG.1 hP 0 rfl rfl 22 (by decide) (htb _ k_657) (fun _ h9 => h9) rfl d_Mod_read_248 ?_
                refine lv_iload hx hb d_Mod_read_251 (lv_at hl 1 rfl) ?_
                refine nv_iald hx hb hG.1 hP 5 0 rfl rfl (m_lt (show 4 ≤ 64 by decide) (by decide)) (by omega) d_Mod_read_253 ?_
                refine nv_iast hx hb hG.1 hP hD hS 4 0 rfl rfl (by omega) (by omega) d_Mod_read_254 (fun H locs hP hD hS => ?_)
                have hP : va_P D classes [(mo, .inr (9, [.int cd, .ref rpx, .int nb, .ref rca, .ref rpl, .ref rth, .ref rco, .ref rsh, .ref rsf, .ref rcr, .ref rep, .ref rby, .ref rli, .ref rls, .ref rla, .ref rcm, .ref rcs, .ref rpa, .ref rpm, .ref rpo, .ref rti, .ref rre, .ref rcl, .int (nI sz), .int (nI cs), .int (nI nx1), .int (nI la)])), (rpx, .inl (cI, 30720, .inl (nF Px))), (rth, .inl (cZ, 96, .inl (nF Th))), (rca, .inl (cI, 6144, .inl (nF Ca))), (rti, .inl (cI, 64, .inl (nF (up Ti1 k ((up (up (up Co 0 u6) 1 u11) 2 u16) ((b1 / 2 ^ (6 - (2 * (k % 4)))) % 4)))))), (rcl, .inl (cI, 64, .inl (nF (up (up (up Co 0 u6) 1 u11) 2 u16)))), (rcm, .inl (cI, 18741, .inl (nF Cm)))] H := hP
                have hD : va_D AA [(mo, .inr (9, [.int cd, .ref rpx, .int nb, .ref rca, .ref rpl, .ref rth, .ref rco, .ref rsh, .ref rsf, .ref rcr, .ref rep, .ref rby, .ref rli, .ref rls, .ref rla, .ref rcm, .ref rcs, .ref rpa, .ref rpm, .ref rpo, .ref rti, .ref rre, .ref rcl, .int (nI sz), .int (nI cs), .int (nI nx1), .int (nI la)])), (rpx, .inl (cI, 30720, .inl (nF Px))), (rth, .inl (cZ, 96, .inl (nF Th))), (rca, .inl (cI, 6144, .inl (nF Ca))), (rti, .inl (cI, 64, .inl (nF (up Ti1 k ((up (up (up Co 0 u6) 1 u11) 2 u16) ((b1 / 2 ^ (6 - (2 * (k % 4)))) % 4)))))), (rcl, .inl (cI, 64, .inl (nF (up (up (up Co 0 u6) 1 u11) 2 u16)))), (rcm, .inl (cI, 18741, .inl (nF Cm)))] := hD
                refine lv_iinc (v := (nI (k + 1))) (lv' := [(6, .int (nI (k + 1))), (5, .int (nI 0)), (7, .int (nI ((b1 / 2 ^ (6 - (2 * (k % 4)))) % 4))), (4, .int (nI b1)), (3, .int (nI 3)), (0, .ref mo), (1, .int (nI v)), (2, .int (nI 4))]) hx hb d_Mod_read_255 hl (k := 2) rfl (nI_add k 1) (by decide) rfl (fun ls hl => ?_)
                refine lv_goto (tgt := 124) hx hb d_Mod_read_258 (by decide) ?_
                exact ih124 (k + 1) b1 0 nx1 (up Ti1 k ((up (up (up Co 0 u6) 1 u11) 2 u16) ((b1 / 2 ^ (6 - (2 * (k % 4)))) % 4))) (by omega) (hb1) (by decide) (by omega) (by omega) (up_lt bT1 ((up_lt (up_lt (up_lt bCo hp10) hp15) hp20) _)) (by omega) _ _ _ hP hD hS (lv_sub hl [0, 1, 3, 4, 5, 6, 7] rfl)
              · refine lv_iconst (v := nI 1) hx hb d_Mod_read_220 (by decide) ?_
                refine lv_goto (tgt := 225) hx hb d_Mod_read_221 (by decide) ?_
                refine lv_istore (lv' := [(5, .int (nI 1)), (7, .int (nI ((b1 / 2 ^ (6 - (2 * (k % 4)))) % 4))), (6, .int (nI k)), (4, .int (nI b1)), (3, .int (nI 3)), (0, .ref mo), (1, .int (nI v)), (2, .int (nI 4))]) hx hb d_Mod_read_225 hl (by decide) rfl (fun ls hl => ?_)
                refine lv_aload_n hx hb d_Mod_read_227 rfl (lv_at hl 5 rfl) ?_
                refine va_get (D := D) (ci := 9) (v := .ref rti) (C := "TileScreenModel") (T := F_Mod) (N := 27) hx hb htb i_Mod hown hG.1 hP 0 rfl rfl 20 (by decide) (htb _ k_655) (fun _ h9 => h9) rfl d_Mod_read_228 ?_
                refine lv_iload hx hb d_Mod_read_231 (lv_at hl 2 rfl) ?_
                refine lv_iload_n hx hb d_Mod_read_233 rfl (lv_at hl 7 rfl) ?_
                refine lv_bipush (v := nI 6) hx hb d_Mod_read_234 (by decide) ?_
                refine nv_icmp_ne (tgt := 247) hx hb d_Mod_read_236 (by decide) (by omega) (by omega) (fun _ => ?_) (fun h9 => absurd h9 (by decide))
                refine lv_aload_n hx hb d_Mod_read_247 rfl (lv_at hl 5 rfl) ?_
                refine va_get (D := D) (ci := 9) (v := .ref rcl) (C := "TileScreenModel") (T := F_Mod) (N := 27) hx hb htb i_Mod hown hG.1 hP 0 rfl rfl 22 (by decide) (htb _ k_657) (fun _ h9 => h9) rfl d_Mod_read_248 ?_
                refine lv_iload hx hb d_Mod_read_251 (lv_at hl 1 rfl) ?_
                refine nv_iald hx hb hG.1 hP 5 0 rfl rfl (m_lt (show 4 ≤ 64 by decide) (by decide)) (by omega) d_Mod_read_253 ?_
                refine nv_iast hx hb hG.1 hP hD hS 4 0 rfl rfl (by omega) (by omega) d_Mod_read_254 (fun H locs hP hD hS => ?_)
                have hP : va_P D classes [(mo, .inr (9, [.int cd, .ref rpx, .int nb, .ref rca, .ref rpl, .ref rth, .ref rco, .ref rsh, .ref rsf, .ref rcr, .ref rep, .ref rby, .ref rli, .ref rls, .ref rla, .ref rcm, .ref rcs, .ref rpa, .ref rpm, .ref rpo, .ref rti, .ref rre, .ref rcl, .int (nI sz), .int (nI cs), .int (nI nx1), .int (nI la)])), (rpx, .inl (cI, 30720, .inl (nF Px))), (rth, .inl (cZ, 96, .inl (nF Th))), (rca, .inl (cI, 6144, .inl (nF Ca))), (rti, .inl (cI, 64, .inl (nF (up Ti1 k ((up (up (up Co 0 u6) 1 u11) 2 u16) ((b1 / 2 ^ (6 - (2 * (k % 4)))) % 4)))))), (rcl, .inl (cI, 64, .inl (nF (up (up (up Co 0 u6) 1 u11) 2 u16)))), (rcm, .inl (cI, 18741, .inl (nF Cm)))] H := hP
                have hD : va_D AA [(mo, .inr (9, [.int cd, .ref rpx, .int nb, .ref rca, .ref rpl, .ref rth, .ref rco, .ref rsh, .ref rsf, .ref rcr, .ref rep, .ref rby, .ref rli, .ref rls, .ref rla, .ref rcm, .ref rcs, .ref rpa, .ref rpm, .ref rpo, .ref rti, .ref rre, .ref rcl, .int (nI sz), .int (nI cs), .int (nI nx1), .int (nI la)])), (rpx, .inl (cI, 30720, .inl (nF Px))), (rth, .inl (cZ, 96, .inl (nF Th))), (rca, .inl (cI, 6144, .inl (nF Ca))), (rti, .inl (cI, 64, .inl (nF (up Ti1 k ((up (up (up Co 0 u6) 1 u11) 2 u16) ((b1 / 2 ^ (6 - (2 * (k % 4)))) % 4)))))), (rcl, .inl (cI, 64, .inl (nF (up (up (up Co 0 u6) 1 u11) 2 u16)))), (rcm, .inl (cI, 18741, .inl (nF Cm)))] := hD
                refine lv_iinc (v := (nI (k + 1))) (lv' := [(6, .int (nI (k + 1))), (5, .int (nI 1)), (7, .int (nI ((b1 / 2 ^ (6 - (2 * (k % 4)))) % 4))), (4, .int (nI b1)), (3, .int (nI 3)), (0, .ref mo), (1, .int (nI v)), (2, .int (nI 4))]) hx hb d_Mod_read_255 hl (k := 2) rfl (nI_add k 1) (by decide) rfl (fun ls hl => ?_)
                refine lv_goto (tgt := 124) hx hb d_Mod_read_258 (by decide) ?_
                exact ih124 (k + 1) b1 1 nx1 (up Ti1 k ((up (up (up Co 0 u6) 1 u11) 2 u16) ((b1 / 2 ^ (6 - (2 * (k % 4)))) % 4))) (by omega) (hb1) (by decide) (by omega) (by omega) (up_lt bT1 ((up_lt (up_lt (up_lt bCo hp10) hp15) hp20) _)) (by omega) _ _ _ hP hD hS (lv_sub hl [0, 1, 3, 4, 5, 6, 7] rfl)
          · refine lv_aload_n hx hb d_Mod_read_156 rfl (lv_at hl 4 rfl) ?_
            refine lv_iload_n hx hb d_Mod_read_157 rfl (lv_at hl 5 rfl) ?_
            refine kV_i (wc := [(mo, .inr (9, [.int cd, .ref rpx, .int nb, .ref rca, .ref rpl, .ref rth, .ref rco, .ref rsh, .ref rsf, .ref rcr, .ref rep, .ref rby, .ref rli, .ref rls, .ref rla, .ref rcm, .ref rcs, .ref rpa, .ref rpm, .ref rpo, .ref rti, .ref rre, .ref rcl, .int (nI sz), .int (nI cs), .int (nI nx1), .int (nI la)])), (rcm, .inl (cI, 18741, .inl (nF Cm)))]) (wr := [(rpx, .inl (cI, 30720, .inl (nF Px))), (rth, .inl (cZ, 96, .inl (nF Th))), (rca, .inl (cI, 6144, .inl (nF Ca))), (rti, .inl (cI, 64, .inl (nF Ti1))), (rcl, .inl (cI, 64, .inl (nF (up (up (up Co 0 u6) 1 u11) 2 u16))))]) (w2 := fun u => [(mo, .inr (9, [.int cd, .ref rpx, .int nb, .ref rca, .ref rpl, .ref rth, .ref rco, .ref rsh, .ref rsf, .ref rcr, .ref rep, .ref rby, .ref rli, .ref rls, .ref rla, .ref rcm, .ref rcs, .ref rpa, .ref rpm, .ref rpo, .ref rti, .ref rre, .ref rcl, .int (nI sz), .int (nI cs), .int (nI (nx1 + 1)), .int (nI la)])), (rpx, .inl (cI, 30720, .inl (nF Px))), (rth, .inl (cZ, 96, .inl (nF Th))), (rca, .inl (cI, 6144, .inl (nF Ca))), (rti, .inl (cI, 64, .inl (nF Ti1))), (rcl, .inl (cI, 64, .inl (nF (up (up (up Co 0 u6) 1 u11) 2 u16)))), (rcm, .inl (cI, 18741, .inl (nF Cm)))]) [.int (nI v)] [] Bd ⟨gi_app (gi_c0 k_837 (gi_c0 k_839 (gi_c0 s_40 (gi_c0 k_10 gi_nil)))) (gi_tb0 k_840), rfl, by decide, by decide⟩ (show (parseMethodDescriptor "(I)I").map (fun d => d.parameters.length) = some 1 by decide +kernel) (c_Mod_get mo cd rpx nb rca rpl rth rco rsh rsf rcr rep rby rli rls rla rcm rcs rpa rpm rpo rti rre rcl sz cs nx1 la Cm v (hv) (hla) (by omega) (bCm)) (by decide +kernel) ⟨Nat.le_of_ble_eq_true rfl, Nat.le_of_ble_eq_true rfl⟩ hG hP hD hS hA [0, 6] [1, 2, 3, 4, 5] [5, 0, 1, 2, 3, 4, 6] (by decide) rfl rfl (fun _ => rfl) (q0 := 0) rfl rfl rfl hl.1 rfl (Nat.le_of_ble_eq_true rfl) d_Mod_read_158 (fun r23 u25 H locs hp24 hP hD hS => ?_)
            obtain ⟨u22, rfl⟩ : ∃ z9, z9 = u25 := ⟨_, rfl⟩
            try dsimp only at hp24
            have hP : va_P D classes [(mo, .inr (9, [.int cd, .ref rpx, .int nb, .ref rca, .ref rpl, .ref rth, .ref rco, .ref rsh, .ref rsf, .ref rcr, .ref rep, .ref rby, .ref rli, .ref rls, .ref rla, .ref rcm, .ref rcs, .ref rpa, .ref rpm, .ref rpo, .ref rti, .ref rre, .ref rcl, .int (nI sz), .int (nI cs), .int (nI (nx1 + 1)), .int (nI la)])), (rpx, .inl (cI, 30720, .inl (nF Px))), (rth, .inl (cZ, 96, .inl (nF Th))), (rca, .inl (cI, 6144, .inl (nF Ca))), (rti, .inl (cI, 64, .inl (nF Ti1))), (rcl, .inl (cI, 64, .inl (nF (up (up (up Co 0 u6) 1 u11) 2 u16)))), (rcm, .inl (cI, 18741, .inl (nF Cm)))] H := hP
            have hD : va_D AA [(mo, .inr (9, [.int cd, .ref rpx, .int nb, .ref rca, .ref rpl, .ref rth, .ref rco, .ref rsh, .ref rsf, .ref rcr, .ref rep, .ref rby, .ref rli, .ref rls, .ref rla, .ref rcm, .ref rcs, .ref rpa, .ref rpm, .ref rpo, .ref rti, .ref rre, .ref rcl, .int (nI sz), .int (nI cs), .int (nI (nx1 + 1)), .int (nI la)])), (rpx, .inl (cI, 30720, .inl (nF Px))), (rth, .inl (cZ, 96, .inl (nF Th))), (rca, .inl (cI, 6144, .inl (nF Ca))), (rti, .inl (cI, 64, .inl (nF Ti1))), (rcl, .inl (cI, 64, .inl (nF (up (up (up Co 0 u6) 1 u11) 2 u16)))), (rcm, .inl (cI, 18741, .inl (nF Cm)))] := hD
            obtain ⟨rfl, hp26⟩ := hp24
            refine lv_istore (lv' := [(4, .int (nI u22)), (6, .int (nI k)), (5, .int (nI g1)), (3, .int (nI 3)), (0, .ref mo), (1, .int (nI v)), (2, .int (nI 4))]) hx hb d_Mod_read_161 hl (by decide) rfl (fun ls hl => ?_)
            refine lv_iload_n hx hb d_Mod_read_163 rfl (lv_at hl 6 rfl) ?_
            refine lv_iconst (v := nI 3) hx hb d_Mod_read_164 (by decide) ?_
            refine nv_icmp_ne (tgt := 184) hx hb d_Mod_read_165 (by decide) (by omega) (by omega) (fun _ => ?_) (fun h9 => absurd h9 (by decide))
            refine lv_iload_n hx hb d_Mod_read_184 rfl (lv_at hl 6 rfl) ?_
            refine lv_iconst (v := nI 4) hx hb d_Mod_read_185 (by decide) ?_
            refine nv_icmp_ne (tgt := 206) hx hb d_Mod_read_186 (by decide) (by omega) (by omega) (fun h9 => absurd h9 (by decide)) (fun _ => ?_)
            refine lv_iload hx hb d_Mod_read_189 (lv_at hl 0 rfl) ?_
            refine lv_bipush (v := nI 6) hx hb d_Mod_read_191 (by decide) ?_
            refine lv_iconst (v := nI 2) hx hb d_Mod_read_193 (by decide) ?_
            refine lv_iload hx hb d_Mod_read_194 (lv_at hl 1 rfl) ?_
            refine lv_iconst (v := nI 4) hx hb d_Mod_read_196 (by decide) ?_
            refine nv_irem hx hb (by omega) (by omega) (by omega) d_Mod_read_197 ?_
            refine nv_imul hx hb d_Mod_read_198 ?_
            refine nv_isub hx hb (by omega) d_Mod_read_199 ?_
            refine nv_ishr hx hb (by omega) (by omega) d_Mod_read_200 ?_
            refine lv_iconst (v := nI 3) hx hb d_Mod_read_201 (by decide) ?_
            refine nv_iandm hx hb 2 rfl d_Mod_read_202 ?_
            refine lv_goto (tgt := 207) hx hb d_Mod_read_203 (by decide) ?_
            refine lv_istore (lv' := [(7, .int (nI ((u22 / 2 ^ (6 - (2 * (k % 4)))) % 4))), (4, .int (nI u22)), (6, .int (nI k)), (5, .int (nI g1)), (3, .int (nI 3)), (0, .ref mo), (1, .int (nI v)), (2, .int (nI 4))]) hx hb d_Mod_read_207 hl (by decide) rfl (fun ls hl => ?_)
            refine lv_iload hx hb d_Mod_read_209 (lv_at hl 3 rfl) ?_
            refine nv_if_eq (tgt := 224) hx hb d_Mod_read_211 (by decide) (by omega) (fun c_211 => ?_) (fun c_211 => ?_)
            · refine lv_iconst (v := nI 0) hx hb d_Mod_read_224 (by decide) ?_
              refine lv_istore (lv' := [(5, .int (nI 0)), (7, .int (nI ((u22 / 2 ^ (6 - (2 * (k % 4)))) % 4))), (4, .int (nI u22)), (6, .int (nI k)), (3, .int (nI 3)), (0, .ref mo), (1, .int (nI v)), (2, .int (nI 4))]) hx hb d_Mod_read_225 hl (by decide) rfl (fun ls hl => ?_)
              refine lv_aload_n hx hb d_Mod_read_227 rfl (lv_at hl 5 rfl) ?_
              refine va_get (D := D) (ci := 9) (v := .ref rti) (C := "TileScreenModel") (T := F_Mod) (N := 27) hx hb htb i_Mod hown hG.1 hP 0 rfl rfl 20 (by decide) (htb _ k_655) (fun _ h9 => h9) rfl d_Mod_read_228 ?_
              refine lv_iload hx hb d_Mod_read_231 (lv_at hl 3 rfl) ?_
              refine lv_iload_n hx hb d_Mod_read_233 rfl (lv_at hl 7 rfl) ?_
              refine lv_bipush (v := nI 6) hx hb d_Mod_read_234 (by decide) ?_
              refine nv_icmp_ne (tgt := 247) hx hb d_Mod_read_236 (by decide) (by omega) (by omega) (fun _ => ?_) (fun h9 => absurd h9 (by decide))
              refine lv_aload_n hx hb d_Mod_read_247 rfl (lv_at hl 5 rfl) ?_
              refine va_get (D := D) (ci := 9) (v := .ref rcl) (C := "TileScreenModel") (T := F_Mod) (N := 27) hx hb htb i_Mod hown hG.1 hP 0 rfl rfl 22 (by decide) (htb _ k_657) (fun _ h9 => h9) rfl d_Mod_read_248 ?_
              refine lv_iload hx hb d_Mod_read_251 (lv_at hl 1 rfl) ?_
              refine nv_iald hx hb hG.1 hP 5 0 rfl rfl (m_lt (show 4 ≤ 64 by decide) (by decide)) (by omega) d_Mod_read_253 ?_
              refine nv_iast hx hb hG.1 hP hD hS 4 0 rfl rfl (by omega) (by omega) d_Mod_read_254 (fun H locs hP hD hS => ?_)
              have hP : va_P D classes [(mo, .inr (9, [.int cd, .ref rpx, .int nb, .ref rca, .ref rpl, .ref rth, .ref rco, .ref rsh, .ref rsf, .ref rcr, .ref rep, .ref rby, .ref rli, .ref rls, .ref rla, .ref rcm, .ref rcs, .ref rpa, .ref rpm, .ref rpo, .ref rti, .ref rre, .ref rcl, .int (nI sz), .int (nI cs), .int (nI (nx1 + 1)), .int (nI la)])), (rpx, .inl (cI, 30720, .inl (nF Px))), (rth, .inl (cZ, 96, .inl (nF Th))), (rca, .inl (cI, 6144, .inl (nF Ca))), (rti, .inl (cI, 64, .inl (nF (up Ti1 k ((up (up (up Co 0 u6) 1 u11) 2 u16) ((u22 / 2 ^ (6 - (2 * (k % 4)))) % 4)))))), (rcl, .inl (cI, 64, .inl (nF (up (up (up Co 0 u6) 1 u11) 2 u16)))), (rcm, .inl (cI, 18741, .inl (nF Cm)))] H := hP
              have hD : va_D AA [(mo, .inr (9, [.int cd, .ref rpx, .int nb, .ref rca, .ref rpl, .ref rth, .ref rco, .ref rsh, .ref rsf, .ref rcr, .ref rep, .ref rby, .ref rli, .ref rls, .ref rla, .ref rcm, .ref rcs, .ref rpa, .ref rpm, .ref rpo, .ref rti, .ref rre, .ref rcl, .int (nI sz), .int (nI cs), .int (nI (nx1 + 1)), .int (nI la)])), (rpx, .inl (cI, 30720, .inl (nF Px))), (rth, .inl (cZ, 96, .inl (nF Th))), (rca, .inl (cI, 6144, .inl (nF Ca))), (rti, .inl (cI, 64, .inl (nF (up Ti1 k ((up (up (up Co 0 u6) 1 u11) 2 u16) ((u22 / 2 ^ (6 - (2 * (k % 4)))) % 4)))))), (rcl, .inl (cI, 64, .inl (nF (up (up (up Co 0 u6) 1 u11) 2 u16)))), (rcm, .inl (cI, 18741, .inl (nF Cm)))] := hD
              refine lv_iinc (v := (nI (k + 1))) (lv' := [(6, .int (nI (k + 1))), (5, .int (nI 0)), (7, .int (nI ((u22 / 2 ^ (6 - (2 * (k % 4)))) % 4))), (4, .int (nI u22)), (3, .int (nI 3)), (0, .ref mo), (1, .int (nI v)), (2, .int (nI 4))]) hx hb d_Mod_read_255 hl (k := 3) rfl (nI_add k 1) (by decide) rfl (fun ls hl => ?_)
              refine lv_goto (tgt := 124) hx hb d_Mod_read_258 (by decide) ?_
              exact ih124 (k + 1) u22 0 (nx1 + 1) (up Ti1 k ((up (up (up Co 0 u6) 1 u11) 2 u16) ((u22 / 2 ^ (6 - (2 * (k % 4)))) % 4))) (by omega) (hp26) (by decide) (by omega) (by omega) (up_lt bT1 ((up_lt (up_lt (up_lt bCo hp10) hp15) hp20) _)) (by omega) _ _ _ hP hD hS (lv_sub hl [0, 1, 3, 4, 5, 6, 7] rfl)
            · refine lv_iload hx hb d_Mod_read_214 (lv_at hl 0 rfl) ?_
              refine lv_iload_n hx hb d_Mod_read_216 rfl (lv_at hl 4 rfl) ?_
              refine nv_icmp_ge (tgt := 224) hx hb d_Mod_read_217 (by decide) (m_lt (show 4 ≤ 2 ^ 31 by decide) (by decide)) (by omega) (fun c_217 => ?_) (fun c_217 => ?_)
              · refine lv_iconst (v := nI 0) hx hb d_Mod_read_224 (by decide) ?_
                refine lv_istore (lv' := [(5, .int (nI 0)), (7, .int (nI ((u22 / 2 ^ (6 - (2 * (k % 4)))) % 4))), (4, .int (nI u22)), (6, .int (nI k)), (3, .int (nI 3)), (0, .ref mo), (1, .int (nI v)), (2, .int (nI 4))]) hx hb d_Mod_read_225 hl (by decide) rfl (fun ls hl => ?_)
                refine lv_aload_n hx hb d_Mod_read_227 rfl (lv_at hl 5 rfl) ?_
                refine va_get (D := D) (ci := 9) (v := .ref rti) (C := "TileScreenModel") (T := F_Mod) (N := 27) hx hb htb i_Mod hown hG.1 hP 0 rfl rfl 20 (by decide) (htb _ k_655) (fun _ h9 => h9) rfl d_Mod_read_228 ?_
                refine lv_iload hx hb d_Mod_read_231 (lv_at hl 3 rfl) ?_
                refine lv_iload_n hx hb d_Mod_read_233 rfl (lv_at hl 7 rfl) ?_
                refine lv_bipush (v := nI 6) hx hb d_Mod_read_234 (by decide) ?_
                refine nv_icmp_ne (tgt := 247) hx hb d_Mod_read_236 (by decide) (by omega) (by omega) (fun _ => ?_) (fun h9 => absurd h9 (by decide))
                refine lv_aload_n hx hb d_Mod_read_247 rfl (lv_at hl 5 rfl) ?_
                refine va_get (D := D) (ci := 9) (v := .ref rcl) (C := "TileScreenModel") (T := F_Mod) (N := 27) hx hb htb i_Mod hown hG.1 hP 0 rfl rfl 22 (by decide) (htb _ k_657) (fun _ h9 => h9) rfl d_Mod_read_248 ?_
                refine lv_iload hx hb d_Mod_read_251 (lv_at hl 1 rfl) ?_
                refine nv_iald hx hb hG.1 hP 5 0 rfl rfl (m_lt (show 4 ≤ 64 by decide) (by decide)) (by omega) d_Mod_read_253 ?_
                refine nv_iast hx hb hG.1 hP hD hS 4 0 rfl rfl (by omega) (by omega) d_Mod_read_254 (fun H locs hP hD hS => ?_)
                have hP : va_P D classes [(mo, .inr (9, [.int cd, .ref rpx, .int nb, .ref rca, .ref rpl, .ref rth, .ref rco, .ref rsh, .ref rsf, .ref rcr, .ref rep, .ref rby, .ref rli, .ref rls, .ref rla, .ref rcm, .ref rcs, .ref rpa, .ref rpm, .ref rpo, .ref rti, .ref rre, .ref rcl, .int (nI sz), .int (nI cs), .int (nI (nx1 + 1)), .int (nI la)])), (rpx, .inl (cI, 30720, .inl (nF Px))), (rth, .inl (cZ, 96, .inl (nF Th))), (rca, .inl (cI, 6144, .inl (nF Ca))), (rti, .inl (cI, 64, .inl (nF (up Ti1 k ((up (up (up Co 0 u6) 1 u11) 2 u16) ((u22 / 2 ^ (6 - (2 * (k % 4)))) % 4)))))), (rcl, .inl (cI, 64, .inl (nF (up (up (up Co 0 u6) 1 u11) 2 u16)))), (rcm, .inl (cI, 18741, .inl (nF Cm)))] H := hP
                have hD : va_D AA [(mo, .inr (9, [.int cd, .ref rpx, .int nb, .ref rca, .ref rpl, .ref rth, .ref rco, .ref rsh, .ref rsf, .ref rcr, .ref rep, .ref rby, .ref rli, .ref rls, .ref rla, .ref rcm, .ref rcs, .ref rpa, .ref rpm, .ref rpo, .ref rti, .ref rre, .ref rcl, .int (nI sz), .int (nI cs), .int (nI (nx1 + 1)), .int (nI la)])), (rpx, .inl (cI, 30720, .inl (nF Px))), (rth, .inl (cZ, 96, .inl (nF Th))), (rca, .inl (cI, 6144, .inl (nF Ca))), (rti, .inl (cI, 64, .inl (nF (up Ti1 k ((up (up (up Co 0 u6) 1 u11) 2 u16) ((u22 / 2 ^ (6 - (2 * (k % 4)))) % 4)))))), (rcl, .inl (cI, 64, .inl (nF (up (up (up Co 0 u6) 1 u11) 2 u16)))), (rcm, .inl (cI, 18741, .inl (nF Cm)))] := hD
                refine lv_iinc (v := (nI (k + 1))) (lv' := [(6, .int (nI (k + 1))), (5, .int (nI 0)), (7, .int (nI ((u22 / 2 ^ (6 - (2 * (k % 4)))) % 4))), (4, .int (nI u22)), (3, .int (nI 3)), (0, .ref mo), (1, .int (nI v)), (2, .int (nI 4))]) hx hb d_Mod_read_255 hl (k := 3) rfl (nI_add k 1) (by decide) rfl (fun ls hl => ?_)
                refine lv_goto (tgt := 124) hx hb d_Mod_read_258 (by decide) ?_
                exact ih124 (k + 1) u22 0 (nx1 + 1) (up Ti1 k ((up (up (up Co 0 u6) 1 u11) 2 u16) ((u22 / 2 ^ (6 - (2 * (k % 4)))) % 4))) (by omega) (hp26) (by decide) (by omega) (by omega) (up_lt bT1 ((up_lt (up_lt (up_lt bCo hp10) hp15) hp20) _)) (by omega) _ _ _ hP hD hS (lv_sub hl [0, 1, 3, 4, 5, 6, 7] rfl)
              · refine lv_iconst (v := nI 1) hx hb d_Mod_read_220 (by decide) ?_
                refine lv_goto (tgt := 225) hx hb d_Mod_read_221 (by decide) ?_
                refine lv_istore (lv' := [(5, .int (nI 1)), (7, .int (nI ((u22 / 2 ^ (6 - (2 * (k % 4)))) % 4))), (4, .int (nI u22)), (6, .int (nI k)), (3, .int (nI 3)), (0, .ref mo), (1, .int (nI v)), (2, .int (nI 4))]) hx hb d_Mod_read_225 hl (by decide) rfl (fun ls hl => ?_)
                refine lv_aload_n hx hb d_Mod_read_227 rfl (lv_at hl 5 rfl) ?_
                refine va_get (D := D) (ci := 9) (v := .ref rti) (C := "TileScreenModel") (T := F_Mod) (N := 27) hx hb htb i_Mod hown hG.1 hP 0 rfl rfl 20 (by decide) (htb _ k_655) (fun _ h9 => h9) rfl d_Mod_read_228 ?_
                refine lv_iload hx hb d_Mod_read_231 (lv_at hl 3 rfl) ?_
                refine lv_iload_n hx hb d_Mod_read_233 rfl (lv_at hl 7 rfl) ?_
                refine lv_bipush (v := nI 6) hx hb d_Mod_read_234 (by decide) ?_
                refine nv_icmp_ne (tgt := 247) hx hb d_Mod_read_236 (by decide) (by omega) (by omega) (fun _ => ?_) (fun h9 => absurd h9 (by decide))
                refine lv_aload_n hx hb d_Mod_read_247 rfl (lv_at hl 5 rfl) ?_
                refine va_get (D := D) (ci := 9) (v := .ref rcl) (C := "TileScreenModel") (T := F_Mod) (N := 27) hx hb htb i_Mod hown hG.1 hP 0 rfl rfl 22 (by decide) (htb _ k_657) (fun _ h9 => h9) rfl d_Mod_read_248 ?_
                refine lv_iload hx hb d_Mod_read_251 (lv_at hl 1 rfl) ?_
                refine nv_iald hx hb hG.1 hP 5 0 rfl rfl (m_lt (show 4 ≤ 64 by decide) (by decide)) (by omega) d_Mod_read_253 ?_
                refine nv_iast hx hb hG.1 hP hD hS 4 0 rfl rfl (by omega) (by omega) d_Mod_read_254 (fun H locs hP hD hS => ?_)
                have hP : va_P D classes [(mo, .inr (9, [.int cd, .ref rpx, .int nb, .ref rca, .ref rpl, .ref rth, .ref rco, .ref rsh, .ref rsf, .ref rcr, .ref rep, .ref rby, .ref rli, .ref rls, .ref rla, .ref rcm, .ref rcs, .ref rpa, .ref rpm, .ref rpo, .ref rti, .ref rre, .ref rcl, .int (nI sz), .int (nI cs), .int (nI (nx1 + 1)), .int (nI la)])), (rpx, .inl (cI, 30720, .inl (nF Px))), (rth, .inl (cZ, 96, .inl (nF Th))), (rca, .inl (cI, 6144, .inl (nF Ca))), (rti, .inl (cI, 64, .inl (nF (up Ti1 k ((up (up (up Co 0 u6) 1 u11) 2 u16) ((u22 / 2 ^ (6 - (2 * (k % 4)))) % 4)))))), (rcl, .inl (cI, 64, .inl (nF (up (up (up Co 0 u6) 1 u11) 2 u16)))), (rcm, .inl (cI, 18741, .inl (nF Cm)))] H := hP
                have hD : va_D AA [(mo, .inr (9, [.int cd, .ref rpx, .int nb, .ref rca, .ref rpl, .ref rth, .ref rco, .ref rsh, .ref rsf, .ref rcr, .ref rep, .ref rby, .ref rli, .ref rls, .ref rla, .ref rcm, .ref rcs, .ref rpa, .ref rpm, .ref rpo, .ref rti, .ref rre, .ref rcl, .int (nI sz), .int (nI cs), .int (nI (nx1 + 1)), .int (nI la)])), (rpx, .inl (cI, 30720, .inl (nF Px))), (rth, .inl (cZ, 96, .inl (nF Th))), (rca, .inl (cI, 6144, .inl (nF Ca))), (rti, .inl (cI, 64, .inl (nF (up Ti1 k ((up (up (up Co 0 u6) 1 u11) 2 u16) ((u22 / 2 ^ (6 - (2 * (k % 4)))) % 4)))))), (rcl, .inl (cI, 64, .inl (nF (up (up (up Co 0 u6) 1 u11) 2 u16)))), (rcm, .inl (cI, 18741, .inl (nF Cm)))] := hD
                refine lv_iinc (v := (nI (k + 1))) (lv' := [(6, .int (nI (k + 1))), (5, .int (nI 1)), (7, .int (nI ((u22 / 2 ^ (6 - (2 * (k % 4)))) % 4))), (4, .int (nI u22)), (3, .int (nI 3)), (0, .ref mo), (1, .int (nI v)), (2, .int (nI 4))]) hx hb d_Mod_read_255 hl (k := 3) rfl (nI_add k 1) (by decide) rfl (fun ls hl => ?_)
                refine lv_goto (tgt := 124) hx hb d_Mod_read_258 (by decide) ?_
                exact ih124 (k + 1) u22 1 (nx1 + 1) (up Ti1 k ((up (up (up Co 0 u6) 1 u11) 2 u16) ((u22 / 2 ^ (6 - (2 * (k % 4)))) % 4))) (by omega) (hp26) (by decide) (by omega) (by omega) (up_lt bT1 ((up_lt (up_lt (up_lt bCo hp10) hp15) hp20) _)) (by omega) _ _ _ hP hD hS (lv_sub hl [0, 1, 3, 4, 5, 6, 7] rfl)
    exact lp_124 _ 0 0 1 ((((nx + 1) + 2) + 2) + 2) Ti (Nat.zero_le _) (by decide) (by decide) (by omega) (by omega) (bTi) (Nat.lt_succ_self _) _ _ _ hP hD hS (lv_sub hl [0, 1, 2, 3, 4, 5, 6] rfl)
  · refine lv_iload_n hx hb d_Mod_read_34 rfl (lv_at hl 0 rfl) ?_
    refine lv_iconst (v := nI 4) hx hb d_Mod_read_35 (by decide) ?_
    refine nv_icmp_eq (tgt := 41) hx hb d_Mod_read_36 (by decide) (by omega) (by omega) (fun c_36 => ?_) (fun c_36 => ?_)
    · subst c_36
      refine lv_iload_n hx hb d_Mod_read_41 rfl (lv_at hl 3 rfl) ?_
      refine nv_if_eq (tgt := 55) hx hb d_Mod_read_42 (by decide) (by decide) (fun h9 => absurd h9 (by decide)) (fun _ => ?_)
      refine lv_iload_n hx hb d_Mod_read_45 rfl (lv_at hl 3 rfl) ?_
      refine lv_iconst (v := nI 3) hx hb d_Mod_read_46 (by decide) ?_
      refine nv_icmp_eq (tgt := 55) hx hb d_Mod_read_47 (by decide) (by omega) (by omega) (fun h9 => absurd h9 (by decide)) (fun _ => ?_)
      refine lv_iload_n hx hb d_Mod_read_50 rfl (lv_at hl 3 rfl) ?_
      refine lv_iconst (v := nI 4) hx hb d_Mod_read_51 (by decide) ?_
      refine nv_icmp_ne (tgt := 82) hx hb d_Mod_read_52 (by decide) (by omega) (by omega) (fun h9 => absurd h9 (by decide)) (fun _ => ?_)
      refine lv_iconst (v := nI 0) hx hb d_Mod_read_55 (by decide) ?_
      refine lv_istore (lv' := [(4, .int (nI 0)), (3, .int (nI 4)), (0, .ref mo), (1, .int (nI v)), (2, .int (nI 4))]) hx hb d_Mod_read_56 hl (by decide) rfl (fun ls hl => ?_)
      refine lv_iload hx hb d_Mod_read_58 (lv_at hl 0 rfl) ?_
      refine lv_iload_n hx hb d_Mod_read_60 rfl (lv_at hl 1 rfl) ?_
      refine nv_icmp_ge (tgt := 82) hx hb d_Mod_read_61 (by decide) (by omega) (by omega) (fun h9 => absurd h9 (by decide)) (fun _ => ?_)
      refine lv_aload_n hx hb d_Mod_read_64 rfl (lv_at hl 2 rfl) ?_
      refine va_get (D := D) (ci := 9) (v := .ref rcl) (C := "TileScreenModel") (T := F_Mod) (N := 27) hx hb htb i_Mod hown hG.1 hP 0 rfl rfl 22 (by decide) (htb _ k_657) (fun _ h9 => h9) rfl d_Mod_read_65 ?_
      refine lv_iload hx hb d_Mod_read_68 (lv_at hl 0 rfl) ?_
      refine lv_aload_n hx hb d_Mod_read_70 rfl (lv_at hl 2 rfl) ?_
      refine lv_iload_n hx hb d_Mod_read_71 rfl (lv_at hl 3 rfl) ?_
      refine kV_i (wc := [(mo, .inr (9, [.int cd, .ref rpx, .int nb, .ref rca, .ref rpl, .ref rth, .ref rco, .ref rsh, .ref rsf, .ref rcr, .ref rep, .ref rby, .ref rli, .ref rls, .ref rla, .ref rcm, .ref rcs, .ref rpa, .ref rpm, .ref rpo, .ref rti, .ref rre, .ref rcl, .int (nI sz), .int (nI cs), .int (nI (nx + 1)), .int (nI la)])), (rcm, .inl (cI, 18741, .inl (nF Cm)))]) (wr := [(rpx, .inl (cI, 30720, .inl (nF Px))), (rth, .inl (cZ, 96, .inl (nF Th))), (rca, .inl (cI, 6144, .inl (nF Ca))), (rti, .inl (cI, 64, .inl (nF Ti))), (rcl, .inl (cI, 64, .inl (nF Co)))]) (w2 := fun u => [(mo, .inr (9, [.int cd, .ref rpx, .int nb, .ref rca, .ref rpl, .ref rth, .ref rco, .ref rsh, .ref rsf, .ref rcr, .ref rep, .ref rby, .ref rli, .ref rls, .ref rla, .ref rcm, .ref rcs, .ref rpa, .ref rpm, .ref rpo, .ref rti, .ref rre, .ref rcl, .int (nI sz), .int (nI cs), .int (nI ((nx + 1) + 2)), .int (nI la)])), (rpx, .inl (cI, 30720, .inl (nF Px))), (rth, .inl (cZ, 96, .inl (nF Th))), (rca, .inl (cI, 6144, .inl (nF Ca))), (rti, .inl (cI, 64, .inl (nF Ti))), (rcl, .inl (cI, 64, .inl (nF Co))), (rcm, .inl (cI, 18741, .inl (nF Cm)))]) [.int (nI v)] [.int (nI 0), .ref rcl] Bd ⟨gi_app (gi_c0 k_833 (gi_c0 k_835 (gi_c0 s_39 (gi_c0 k_10 gi_nil)))) (gi_tb0 k_836), rfl, by decide, by decide⟩ (show (parseMethodDescriptor "(I)I").map (fun d => d.parameters.length) = some 1 by decide +kernel) (c_Mod_getTwo mo cd rpx nb rca rpl rth rco rsh rsf rcr rep rby rli rls rla rcm rcs rpa rpm rpo rti rre rcl sz cs (nx + 1) la Cm v (hv) (hla) (by omega) (bCm)) (by decide +kernel) ⟨Nat.le_of_ble_eq_true rfl, Nat.le_of_ble_eq_true rfl⟩ hG hP hD hS hA [0, 6] [1, 2, 3, 4, 5] [5, 0, 1, 2, 3, 4, 6] (by decide) rfl rfl (fun _ => rfl) (q0 := 0) rfl rfl rfl hl.1 rfl (Nat.le_of_ble_eq_true rfl) d_Mod_read_72 (fun r28 u30 H locs hp29 hP hD hS => ?_)
      obtain ⟨u27, rfl⟩ : ∃ z9, z9 = u30 := ⟨_, rfl⟩
      try dsimp only at hp29
      have hP : va_P D classes [(mo, .inr (9, [.int cd, .ref rpx, .int nb, .ref rca, .ref rpl, .ref rth, .ref rco, .ref rsh, .ref rsf, .ref rcr, .ref rep, .ref rby, .ref rli, .ref rls, .ref rla, .ref rcm, .ref rcs, .ref rpa, .ref rpm, .ref rpo, .ref rti, .ref rre, .ref rcl, .int (nI sz), .int (nI cs), .int (nI ((nx + 1) + 2)), .int (nI la)])), (rpx, .inl (cI, 30720, .inl (nF Px))), (rth, .inl (cZ, 96, .inl (nF Th))), (rca, .inl (cI, 6144, .inl (nF Ca))), (rti, .inl (cI, 64, .inl (nF Ti))), (rcl, .inl (cI, 64, .inl (nF Co))), (rcm, .inl (cI, 18741, .inl (nF Cm)))] H := hP
      have hD : va_D AA [(mo, .inr (9, [.int cd, .ref rpx, .int nb, .ref rca, .ref rpl, .ref rth, .ref rco, .ref rsh, .ref rsf, .ref rcr, .ref rep, .ref rby, .ref rli, .ref rls, .ref rla, .ref rcm, .ref rcs, .ref rpa, .ref rpm, .ref rpo, .ref rti, .ref rre, .ref rcl, .int (nI sz), .int (nI cs), .int (nI ((nx + 1) + 2)), .int (nI la)])), (rpx, .inl (cI, 30720, .inl (nF Px))), (rth, .inl (cZ, 96, .inl (nF Th))), (rca, .inl (cI, 6144, .inl (nF Ca))), (rti, .inl (cI, 64, .inl (nF Ti))), (rcl, .inl (cI, 64, .inl (nF Co))), (rcm, .inl (cI, 18741, .inl (nF Cm)))] := hD
      obtain ⟨rfl, hp31⟩ := hp29
      refine nv_iast hx hb hG.1 hP hD hS 5 0 rfl rfl (by omega) (by omega) d_Mod_read_75 (fun H locs hP hD hS => ?_)
      have hP : va_P D classes [(mo, .inr (9, [.int cd, .ref rpx, .int nb, .ref rca, .ref rpl, .ref rth, .ref rco, .ref rsh, .ref rsf, .ref rcr, .ref rep, .ref rby, .ref rli, .ref rls, .ref rla, .ref rcm, .ref rcs, .ref rpa, .ref rpm, .ref rpo, .ref rti, .ref rre, .ref rcl, .int (nI sz), .int (nI cs), .int (nI ((nx + 1) + 2)), .int (nI la)])), (rpx, .inl (cI, 30720, .inl (nF Px))), (rth, .inl (cZ, 96, .inl (nF Th))), (rca, .inl (cI, 6144, .inl (nF Ca))), (rti, .inl (cI, 64, .inl (nF Ti))), (rcl, .inl (cI, 64, .inl (nF (up Co 0 u27)))), (rcm, .inl (cI, 18741, .inl (nF Cm)))] H := hP
      have hD : va_D AA [(mo, .inr (9, [.int cd, .ref rpx, .int nb, .ref rca, .ref rpl, .ref rth, .ref rco, .ref rsh, .ref rsf, .ref rcr, .ref rep, .ref rby, .ref rli, .ref rls, .ref rla, .ref rcm, .ref rcs, .ref rpa, .ref rpm, .ref rpo, .ref rti, .ref rre, .ref rcl, .int (nI sz), .int (nI cs), .int (nI ((nx + 1) + 2)), .int (nI la)])), (rpx, .inl (cI, 30720, .inl (nF Px))), (rth, .inl (cZ, 96, .inl (nF Th))), (rca, .inl (cI, 6144, .inl (nF Ca))), (rti, .inl (cI, 64, .inl (nF Ti))), (rcl, .inl (cI, 64, .inl (nF (up Co 0 u27)))), (rcm, .inl (cI, 18741, .inl (nF Cm)))] := hD
      refine lv_iinc (v := (nI 1)) (lv' := [(4, .int (nI 1)), (3, .int (nI 4)), (0, .ref mo), (1, .int (nI v)), (2, .int (nI 4))]) hx hb d_Mod_read_76 hl (k := 0) rfl (rfl) (by decide) rfl (fun ls hl => ?_)
      refine lv_goto (tgt := 58) hx hb d_Mod_read_79 (by decide) ?_
      refine lv_iload hx hb d_Mod_read_58 (lv_at hl 0 rfl) ?_
      refine lv_iload_n hx hb d_Mod_read_60 rfl (lv_at hl 1 rfl) ?_
      refine nv_icmp_ge (tgt := 82) hx hb d_Mod_read_61 (by decide) (by omega) (by omega) (fun h9 => absurd h9 (by decide)) (fun _ => ?_)
      refine lv_aload_n hx hb d_Mod_read_64 rfl (lv_at hl 2 rfl) ?_
      refine va_get (D := D) (ci := 9) (v := .ref rcl) (C := "TileScreenModel") (T := F_Mod) (N := 27) hx hb htb i_Mod hown hG.1 hP 0 rfl rfl 22 (by decide) (htb _ k_657) (fun _ h9 => h9) rfl d_Mod_read_65 ?_
      refine lv_iload hx hb d_Mod_read_68 (lv_at hl 0 rfl) ?_
      refine lv_aload_n hx hb d_Mod_read_70 rfl (lv_at hl 2 rfl) ?_
      refine lv_iload_n hx hb d_Mod_read_71 rfl (lv_at hl 3 rfl) ?_
      refine kV_i (wc := [(mo, .inr (9, [.int cd, .ref rpx, .int nb, .ref rca, .ref rpl, .ref rth, .ref rco, .ref rsh, .ref rsf, .ref rcr, .ref rep, .ref rby, .ref rli, .ref rls, .ref rla, .ref rcm, .ref rcs, .ref rpa, .ref rpm, .ref rpo, .ref rti, .ref rre, .ref rcl, .int (nI sz), .int (nI cs), .int (nI ((nx + 1) + 2)), .int (nI la)])), (rcm, .inl (cI, 18741, .inl (nF Cm)))]) (wr := [(rpx, .inl (cI, 30720, .inl (nF Px))), (rth, .inl (cZ, 96, .inl (nF Th))), (rca, .inl (cI, 6144, .inl (nF Ca))), (rti, .inl (cI, 64, .inl (nF Ti))), (rcl, .inl (cI, 64, .inl (nF (up Co 0 u27))))]) (w2 := fun u => [(mo, .inr (9, [.int cd, .ref rpx, .int nb, .ref rca, .ref rpl, .ref rth, .ref rco, .ref rsh, .ref rsf, .ref rcr, .ref rep, .ref rby, .ref rli, .ref rls, .ref rla, .ref rcm, .ref rcs, .ref rpa, .ref rpm, .ref rpo, .ref rti, .ref rre, .ref rcl, .int (nI sz), .int (nI cs), .int (nI (((nx + 1) + 2) + 2)), .int (nI la)])), (rpx, .inl (cI, 30720, .inl (nF Px))), (rth, .inl (cZ, 96, .inl (nF Th))), (rca, .inl (cI, 6144, .inl (nF Ca))), (rti, .inl (cI, 64, .inl (nF Ti))), (rcl, .inl (cI, 64, .inl (nF (up Co 0 u27)))), (rcm, .inl (cI, 18741, .inl (nF Cm)))]) [.int (nI v)] [.int (nI 1), .ref rcl] Bd ⟨gi_app (gi_c0 k_833 (gi_c0 k_835 (gi_c0 s_39 (gi_c0 k_10 gi_nil)))) (gi_tb0 k_836), rfl, by decide, by decide⟩ (show (parseMethodDescriptor "(I)I").map (fun d => d.parameters.length) = some 1 by decide +kernel) (c_Mod_getTwo mo cd rpx nb rca rpl rth rco rsh rsf rcr rep rby rli rls rla rcm rcs rpa rpm rpo rti rre rcl sz cs ((nx + 1) + 2) la Cm v (hv) (hla) (by omega) (bCm)) (by decide +kernel) ⟨Nat.le_of_ble_eq_true rfl, Nat.le_of_ble_eq_true rfl⟩ hG hP hD hS hA [0, 6] [1, 2, 3, 4, 5] [5, 0, 1, 2, 3, 4, 6] (by decide) rfl rfl (fun _ => rfl) (q0 := 0) rfl rfl rfl hl.1 rfl (Nat.le_of_ble_eq_true rfl) d_Mod_read_72 (fun r33 u35 H locs hp34 hP hD hS => ?_)
      obtain ⟨u32, rfl⟩ : ∃ z9, z9 = u35 := ⟨_, rfl⟩
      try dsimp only at hp34
      have hP : va_P D classes [(mo, .inr (9, [.int cd, .ref rpx, .int nb, .ref rca, .ref rpl, .ref rth, .ref rco, .ref rsh, .ref rsf, .ref rcr, .ref rep, .ref rby, .ref rli, .ref rls, .ref rla, .ref rcm, .ref rcs, .ref rpa, .ref rpm, .ref rpo, .ref rti, .ref rre, .ref rcl, .int (nI sz), .int (nI cs), .int (nI (((nx + 1) + 2) + 2)), .int (nI la)])), (rpx, .inl (cI, 30720, .inl (nF Px))), (rth, .inl (cZ, 96, .inl (nF Th))), (rca, .inl (cI, 6144, .inl (nF Ca))), (rti, .inl (cI, 64, .inl (nF Ti))), (rcl, .inl (cI, 64, .inl (nF (up Co 0 u27)))), (rcm, .inl (cI, 18741, .inl (nF Cm)))] H := hP
      have hD : va_D AA [(mo, .inr (9, [.int cd, .ref rpx, .int nb, .ref rca, .ref rpl, .ref rth, .ref rco, .ref rsh, .ref rsf, .ref rcr, .ref rep, .ref rby, .ref rli, .ref rls, .ref rla, .ref rcm, .ref rcs, .ref rpa, .ref rpm, .ref rpo, .ref rti, .ref rre, .ref rcl, .int (nI sz), .int (nI cs), .int (nI (((nx + 1) + 2) + 2)), .int (nI la)])), (rpx, .inl (cI, 30720, .inl (nF Px))), (rth, .inl (cZ, 96, .inl (nF Th))), (rca, .inl (cI, 6144, .inl (nF Ca))), (rti, .inl (cI, 64, .inl (nF Ti))), (rcl, .inl (cI, 64, .inl (nF (up Co 0 u27)))), (rcm, .inl (cI, 18741, .inl (nF Cm)))] := hD
      obtain ⟨rfl, hp36⟩ := hp34
      refine nv_iast hx hb hG.1 hP hD hS 5 0 rfl rfl (by omega) (by omega) d_Mod_read_75 (fun H locs hP hD hS => ?_)
      have hP : va_P D classes [(mo, .inr (9, [.int cd, .ref rpx, .int nb, .ref rca, .ref rpl, .ref rth, .ref rco, .ref rsh, .ref rsf, .ref rcr, .ref rep, .ref rby, .ref rli, .ref rls, .ref rla, .ref rcm, .ref rcs, .ref rpa, .ref rpm, .ref rpo, .ref rti, .ref rre, .ref rcl, .int (nI sz), .int (nI cs), .int (nI (((nx + 1) + 2) + 2)), .int (nI la)])), (rpx, .inl (cI, 30720, .inl (nF Px))), (rth, .inl (cZ, 96, .inl (nF Th))), (rca, .inl (cI, 6144, .inl (nF Ca))), (rti, .inl (cI, 64, .inl (nF Ti))), (rcl, .inl (cI, 64, .inl (nF (up (up Co 0 u27) 1 u32)))), (rcm, .inl (cI, 18741, .inl (nF Cm)))] H := hP
      have hD : va_D AA [(mo, .inr (9, [.int cd, .ref rpx, .int nb, .ref rca, .ref rpl, .ref rth, .ref rco, .ref rsh, .ref rsf, .ref rcr, .ref rep, .ref rby, .ref rli, .ref rls, .ref rla, .ref rcm, .ref rcs, .ref rpa, .ref rpm, .ref rpo, .ref rti, .ref rre, .ref rcl, .int (nI sz), .int (nI cs), .int (nI (((nx + 1) + 2) + 2)), .int (nI la)])), (rpx, .inl (cI, 30720, .inl (nF Px))), (rth, .inl (cZ, 96, .inl (nF Th))), (rca, .inl (cI, 6144, .inl (nF Ca))), (rti, .inl (cI, 64, .inl (nF Ti))), (rcl, .inl (cI, 64, .inl (nF (up (up Co 0 u27) 1 u32)))), (rcm, .inl (cI, 18741, .inl (nF Cm)))] := hD
      refine lv_iinc (v := (nI 2)) (lv' := [(4, .int (nI 2)), (3, .int (nI 4)), (0, .ref mo), (1, .int (nI v)), (2, .int (nI 4))]) hx hb d_Mod_read_76 hl (k := 0) rfl (rfl) (by decide) rfl (fun ls hl => ?_)
      refine lv_goto (tgt := 58) hx hb d_Mod_read_79 (by decide) ?_
      refine lv_iload hx hb d_Mod_read_58 (lv_at hl 0 rfl) ?_
      refine lv_iload_n hx hb d_Mod_read_60 rfl (lv_at hl 1 rfl) ?_
      refine nv_icmp_ge (tgt := 82) hx hb d_Mod_read_61 (by decide) (by omega) (by omega) (fun h9 => absurd h9 (by decide)) (fun _ => ?_)
      refine lv_aload_n hx hb d_Mod_read_64 rfl (lv_at hl 2 rfl) ?_
      refine va_get (D := D) (ci := 9) (v := .ref rcl) (C := "TileScreenModel") (T := F_Mod) (N := 27) hx hb htb i_Mod hown hG.1 hP 0 rfl rfl 22 (by decide) (htb _ k_657) (fun _ h9 => h9) rfl d_Mod_read_65 ?_
      refine lv_iload hx hb d_Mod_read_68 (lv_at hl 0 rfl) ?_
      refine lv_aload_n hx hb d_Mod_read_70 rfl (lv_at hl 2 rfl) ?_
      refine lv_iload_n hx hb d_Mod_read_71 rfl (lv_at hl 3 rfl) ?_
      refine kV_i (wc := [(mo, .inr (9, [.int cd, .ref rpx, .int nb, .ref rca, .ref rpl, .ref rth, .ref rco, .ref rsh, .ref rsf, .ref rcr, .ref rep, .ref rby, .ref rli, .ref rls, .ref rla, .ref rcm, .ref rcs, .ref rpa, .ref rpm, .ref rpo, .ref rti, .ref rre, .ref rcl, .int (nI sz), .int (nI cs), .int (nI (((nx + 1) + 2) + 2)), .int (nI la)])), (rcm, .inl (cI, 18741, .inl (nF Cm)))]) (wr := [(rpx, .inl (cI, 30720, .inl (nF Px))), (rth, .inl (cZ, 96, .inl (nF Th))), (rca, .inl (cI, 6144, .inl (nF Ca))), (rti, .inl (cI, 64, .inl (nF Ti))), (rcl, .inl (cI, 64, .inl (nF (up (up Co 0 u27) 1 u32))))]) (w2 := fun u => [(mo, .inr (9, [.int cd, .ref rpx, .int nb, .ref rca, .ref rpl, .ref rth, .ref rco, .ref rsh, .ref rsf, .ref rcr, .ref rep, .ref rby, .ref rli, .ref rls, .ref rla, .ref rcm, .ref rcs, .ref rpa, .ref rpm, .ref rpo, .ref rti, .ref rre, .ref rcl, .int (nI sz), .int (nI cs), .int (nI ((((nx + 1) + 2) + 2) + 2)), .int (nI la)])), (rpx, .inl (cI, 30720, .inl (nF Px))), (rth, .inl (cZ, 96, .inl (nF Th))), (rca, .inl (cI, 6144, .inl (nF Ca))), (rti, .inl (cI, 64, .inl (nF Ti))), (rcl, .inl (cI, 64, .inl (nF (up (up Co 0 u27) 1 u32)))), (rcm, .inl (cI, 18741, .inl (nF Cm)))]) [.int (nI v)] [.int (nI 2), .ref rcl] Bd ⟨gi_app (gi_c0 k_833 (gi_c0 k_835 (gi_c0 s_39 (gi_c0 k_10 gi_nil)))) (gi_tb0 k_836), rfl, by decide, by decide⟩ (show (parseMethodDescriptor "(I)I").map (fun d => d.parameters.length) = some 1 by decide +kernel) (c_Mod_getTwo mo cd rpx nb rca rpl rth rco rsh rsf rcr rep rby rli rls rla rcm rcs rpa rpm rpo rti rre rcl sz cs (((nx + 1) + 2) + 2) la Cm v (hv) (hla) (by omega) (bCm)) (by decide +kernel) ⟨Nat.le_of_ble_eq_true rfl, Nat.le_of_ble_eq_true rfl⟩ hG hP hD hS hA [0, 6] [1, 2, 3, 4, 5] [5, 0, 1, 2, 3, 4, 6] (by decide) rfl rfl (fun _ => rfl) (q0 := 0) rfl rfl rfl hl.1 rfl (Nat.le_of_ble_eq_true rfl) d_Mod_read_72 (fun r38 u40 H locs hp39 hP hD hS => ?_)
      obtain ⟨u37, rfl⟩ : ∃ z9, z9 = u40 := ⟨_, rfl⟩
      try dsimp only at hp39
      have hP : va_P D classes [(mo, .inr (9, [.int cd, .ref rpx, .int nb, .ref rca, .ref rpl, .ref rth, .ref rco, .ref rsh, .ref rsf, .ref rcr, .ref rep, .ref rby, .ref rli, .ref rls, .ref rla, .ref rcm, .ref rcs, .ref rpa, .ref rpm, .ref rpo, .ref rti, .ref rre, .ref rcl, .int (nI sz), .int (nI cs), .int (nI ((((nx + 1) + 2) + 2) + 2)), .int (nI la)])), (rpx, .inl (cI, 30720, .inl (nF Px))), (rth, .inl (cZ, 96, .inl (nF Th))), (rca, .inl (cI, 6144, .inl (nF Ca))), (rti, .inl (cI, 64, .inl (nF Ti))), (rcl, .inl (cI, 64, .inl (nF (up (up Co 0 u27) 1 u32)))), (rcm, .inl (cI, 18741, .inl (nF Cm)))] H := hP
      have hD : va_D AA [(mo, .inr (9, [.int cd, .ref rpx, .int nb, .ref rca, .ref rpl, .ref rth, .ref rco, .ref rsh, .ref rsf, .ref rcr, .ref rep, .ref rby, .ref rli, .ref rls, .ref rla, .ref rcm, .ref rcs, .ref rpa, .ref rpm, .ref rpo, .ref rti, .ref rre, .ref rcl, .int (nI sz), .int (nI cs), .int (nI ((((nx + 1) + 2) + 2) + 2)), .int (nI la)])), (rpx, .inl (cI, 30720, .inl (nF Px))), (rth, .inl (cZ, 96, .inl (nF Th))), (rca, .inl (cI, 6144, .inl (nF Ca))), (rti, .inl (cI, 64, .inl (nF Ti))), (rcl, .inl (cI, 64, .inl (nF (up (up Co 0 u27) 1 u32)))), (rcm, .inl (cI, 18741, .inl (nF Cm)))] := hD
      obtain ⟨rfl, hp41⟩ := hp39
      refine nv_iast hx hb hG.1 hP hD hS 5 0 rfl rfl (by omega) (by omega) d_Mod_read_75 (fun H locs hP hD hS => ?_)
      have hP : va_P D classes [(mo, .inr (9, [.int cd, .ref rpx, .int nb, .ref rca, .ref rpl, .ref rth, .ref rco, .ref rsh, .ref rsf, .ref rcr, .ref rep, .ref rby, .ref rli, .ref rls, .ref rla, .ref rcm, .ref rcs, .ref rpa, .ref rpm, .ref rpo, .ref rti, .ref rre, .ref rcl, .int (nI sz), .int (nI cs), .int (nI ((((nx + 1) + 2) + 2) + 2)), .int (nI la)])), (rpx, .inl (cI, 30720, .inl (nF Px))), (rth, .inl (cZ, 96, .inl (nF Th))), (rca, .inl (cI, 6144, .inl (nF Ca))), (rti, .inl (cI, 64, .inl (nF Ti))), (rcl, .inl (cI, 64, .inl (nF (up (up (up Co 0 u27) 1 u32) 2 u37)))), (rcm, .inl (cI, 18741, .inl (nF Cm)))] H := hP
      have hD : va_D AA [(mo, .inr (9, [.int cd, .ref rpx, .int nb, .ref rca, .ref rpl, .ref rth, .ref rco, .ref rsh, .ref rsf, .ref rcr, .ref rep, .ref rby, .ref rli, .ref rls, .ref rla, .ref rcm, .ref rcs, .ref rpa, .ref rpm, .ref rpo, .ref rti, .ref rre, .ref rcl, .int (nI sz), .int (nI cs), .int (nI ((((nx + 1) + 2) + 2) + 2)), .int (nI la)])), (rpx, .inl (cI, 30720, .inl (nF Px))), (rth, .inl (cZ, 96, .inl (nF Th))), (rca, .inl (cI, 6144, .inl (nF Ca))), (rti, .inl (cI, 64, .inl (nF Ti))), (rcl, .inl (cI, 64, .inl (nF (up (up (up Co 0 u27) 1 u32) 2 u37)))), (rcm, .inl (cI, 18741, .inl (nF Cm)))] := hD
      refine lv_iinc (v := (nI 3)) (lv' := [(4, .int (nI 3)), (3, .int (nI 4)), (0, .ref mo), (1, .int (nI v)), (2, .int (nI 4))]) hx hb d_Mod_read_76 hl (k := 0) rfl (rfl) (by decide) rfl (fun ls hl => ?_)
      refine lv_goto (tgt := 58) hx hb d_Mod_read_79 (by decide) ?_
      refine lv_iload hx hb d_Mod_read_58 (lv_at hl 0 rfl) ?_
      refine lv_iload_n hx hb d_Mod_read_60 rfl (lv_at hl 1 rfl) ?_
      refine nv_icmp_ge (tgt := 82) hx hb d_Mod_read_61 (by decide) (by omega) (by omega) (fun h9 => absurd h9 (by decide)) (fun _ => ?_)
      refine lv_aload_n hx hb d_Mod_read_64 rfl (lv_at hl 2 rfl) ?_
      refine va_get (D := D) (ci := 9) (v := .ref rcl) (C := "TileScreenModel") (T := F_Mod) (N := 27) hx hb htb i_Mod hown hG.1 hP 0 rfl rfl 22 (by decide) (htb _ k_657) (fun _ h9 => h9) rfl d_Mod_read_65 ?_
      refine lv_iload hx hb d_Mod_read_68 (lv_at hl 0 rfl) ?_
      refine lv_aload_n hx hb d_Mod_read_70 rfl (lv_at hl 2 rfl) ?_
      refine lv_iload_n hx hb d_Mod_read_71 rfl (lv_at hl 3 rfl) ?_
      refine kV_i (wc := [(mo, .inr (9, [.int cd, .ref rpx, .int nb, .ref rca, .ref rpl, .ref rth, .ref rco, .ref rsh, .ref rsf, .ref rcr, .ref rep, .ref rby, .ref rli, .ref rls, .ref rla, .ref rcm, .ref rcs, .ref rpa, .ref rpm, .ref rpo, .ref rti, .ref rre, .ref rcl, .int (nI sz), .int (nI cs), .int (nI ((((nx + 1) + 2) + 2) + 2)), .int (nI la)])), (rcm, .inl (cI, 18741, .inl (nF Cm)))]) (wr := [(rpx, .inl (cI, 30720, .inl (nF Px))), (rth, .inl (cZ, 96, .inl (nF Th))), (rca, .inl (cI, 6144, .inl (nF Ca))), (rti, .inl (cI, 64, .inl (nF Ti))), (rcl, .inl (cI, 64, .inl (nF (up (up (up Co 0 u27) 1 u32) 2 u37))))]) (w2 := fun u => [(mo, .inr (9, [.int cd, .ref rpx, .int nb, .ref rca, .ref rpl, .ref rth, .ref rco, .ref rsh, .ref rsf, .ref rcr, .ref rep, .ref rby, .ref rli, .ref rls, .ref rla, .ref rcm, .ref rcs, .ref rpa, .ref rpm, .ref rpo, .ref rti, .ref rre, .ref rcl, .int (nI sz), .int (nI cs), .int (nI (((((nx + 1) + 2) + 2) + 2) + 2)), .int (nI la)])), (rpx, .inl (cI, 30720, .inl (nF Px))), (rth, .inl (cZ, 96, .inl (nF Th))), (rca, .inl (cI, 6144, .inl (nF Ca))), (rti, .inl (cI, 64, .inl (nF Ti))), (rcl, .inl (cI, 64, .inl (nF (up (up (up Co 0 u27) 1 u32) 2 u37)))), (rcm, .inl (cI, 18741, .inl (nF Cm)))]) [.int (nI v)] [.int (nI 3), .ref rcl] Bd ⟨gi_app (gi_c0 k_833 (gi_c0 k_835 (gi_c0 s_39 (gi_c0 k_10 gi_nil)))) (gi_tb0 k_836), rfl, by decide, by decide⟩ (show (parseMethodDescriptor "(I)I").map (fun d => d.parameters.length) = some 1 by decide +kernel) (c_Mod_getTwo mo cd rpx nb rca rpl rth rco rsh rsf rcr rep rby rli rls rla rcm rcs rpa rpm rpo rti rre rcl sz cs ((((nx + 1) + 2) + 2) + 2) la Cm v (hv) (hla) (by omega) (bCm)) (by decide +kernel) ⟨Nat.le_of_ble_eq_true rfl, Nat.le_of_ble_eq_true rfl⟩ hG hP hD hS hA [0, 6] [1, 2, 3, 4, 5] [5, 0, 1, 2, 3, 4, 6] (by decide) rfl rfl (fun _ => rfl) (q0 := 0) rfl rfl rfl hl.1 rfl (Nat.le_of_ble_eq_true rfl) d_Mod_read_72 (fun r43 u45 H locs hp44 hP hD hS => ?_)
      obtain ⟨u42, rfl⟩ : ∃ z9, z9 = u45 := ⟨_, rfl⟩
      try dsimp only at hp44
      have hP : va_P D classes [(mo, .inr (9, [.int cd, .ref rpx, .int nb, .ref rca, .ref rpl, .ref rth, .ref rco, .ref rsh, .ref rsf, .ref rcr, .ref rep, .ref rby, .ref rli, .ref rls, .ref rla, .ref rcm, .ref rcs, .ref rpa, .ref rpm, .ref rpo, .ref rti, .ref rre, .ref rcl, .int (nI sz), .int (nI cs), .int (nI (((((nx + 1) + 2) + 2) + 2) + 2)), .int (nI la)])), (rpx, .inl (cI, 30720, .inl (nF Px))), (rth, .inl (cZ, 96, .inl (nF Th))), (rca, .inl (cI, 6144, .inl (nF Ca))), (rti, .inl (cI, 64, .inl (nF Ti))), (rcl, .inl (cI, 64, .inl (nF (up (up (up Co 0 u27) 1 u32) 2 u37)))), (rcm, .inl (cI, 18741, .inl (nF Cm)))] H := hP
      have hD : va_D AA [(mo, .inr (9, [.int cd, .ref rpx, .int nb, .ref rca, .ref rpl, .ref rth, .ref rco, .ref rsh, .ref rsf, .ref rcr, .ref rep, .ref rby, .ref rli, .ref rls, .ref rla, .ref rcm, .ref rcs, .ref rpa, .ref rpm, .ref rpo, .ref rti, .ref rre, .ref rcl, .int (nI sz), .int (nI cs), .int (nI (((((nx + 1) + 2) + 2) + 2) + 2)), .int (nI la)])), (rpx, .inl (cI, 30720, .inl (nF Px))), (rth, .inl (cZ, 96, .inl (nF Th))), (rca, .inl (cI, 6144, .inl (nF Ca))), (rti, .inl (cI, 64, .inl (nF Ti))), (rcl, .inl (cI, 64, .inl (nF (up (up (up Co 0 u27) 1 u32) 2 u37)))), (rcm, .inl (cI, 18741, .inl (nF Cm)))] := hD
      obtain ⟨rfl, hp46⟩ := hp44
      refine nv_iast hx hb hG.1 hP hD hS 5 0 rfl rfl (by omega) (by omega) d_Mod_read_75 (fun H locs hP hD hS => ?_)
      have hP : va_P D classes [(mo, .inr (9, [.int cd, .ref rpx, .int nb, .ref rca, .ref rpl, .ref rth, .ref rco, .ref rsh, .ref rsf, .ref rcr, .ref rep, .ref rby, .ref rli, .ref rls, .ref rla, .ref rcm, .ref rcs, .ref rpa, .ref rpm, .ref rpo, .ref rti, .ref rre, .ref rcl, .int (nI sz), .int (nI cs), .int (nI (((((nx + 1) + 2) + 2) + 2) + 2)), .int (nI la)])), (rpx, .inl (cI, 30720, .inl (nF Px))), (rth, .inl (cZ, 96, .inl (nF Th))), (rca, .inl (cI, 6144, .inl (nF Ca))), (rti, .inl (cI, 64, .inl (nF Ti))), (rcl, .inl (cI, 64, .inl (nF (up (up (up (up Co 0 u27) 1 u32) 2 u37) 3 u42)))), (rcm, .inl (cI, 18741, .inl (nF Cm)))] H := hP
      have hD : va_D AA [(mo, .inr (9, [.int cd, .ref rpx, .int nb, .ref rca, .ref rpl, .ref rth, .ref rco, .ref rsh, .ref rsf, .ref rcr, .ref rep, .ref rby, .ref rli, .ref rls, .ref rla, .ref rcm, .ref rcs, .ref rpa, .ref rpm, .ref rpo, .ref rti, .ref rre, .ref rcl, .int (nI sz), .int (nI cs), .int (nI (((((nx + 1) + 2) + 2) + 2) + 2)), .int (nI la)])), (rpx, .inl (cI, 30720, .inl (nF Px))), (rth, .inl (cZ, 96, .inl (nF Th))), (rca, .inl (cI, 6144, .inl (nF Ca))), (rti, .inl (cI, 64, .inl (nF Ti))), (rcl, .inl (cI, 64, .inl (nF (up (up (up (up Co 0 u27) 1 u32) 2 u37) 3 u42)))), (rcm, .inl (cI, 18741, .inl (nF Cm)))] := hD
      refine lv_iinc (v := (nI 4)) (lv' := [(4, .int (nI 4)), (3, .int (nI 4)), (0, .ref mo), (1, .int (nI v)), (2, .int (nI 4))]) hx hb d_Mod_read_76 hl (k := 0) rfl (rfl) (by decide) rfl (fun ls hl => ?_)
      refine lv_goto (tgt := 58) hx hb d_Mod_read_79 (by decide) ?_
      refine lv_iload hx hb d_Mod_read_58 (lv_at hl 0 rfl) ?_
      refine lv_iload_n hx hb d_Mod_read_60 rfl (lv_at hl 1 rfl) ?_
      refine nv_icmp_ge (tgt := 82) hx hb d_Mod_read_61 (by decide) (by omega) (by omega) (fun _ => ?_) (fun h9 => absurd h9 (by decide))
      refine lv_iload_n hx hb d_Mod_read_82 rfl (lv_at hl 4 rfl) ?_
      refine lv_iconst (v := nI 1) hx hb d_Mod_read_83 (by decide) ?_
      refine nv_icmp_eq (tgt := 92) hx hb d_Mod_read_84 (by decide) (by omega) (by omega) (fun h9 => absurd h9 (by decide)) (fun _ => ?_)
      refine lv_iload_n hx hb d_Mod_read_87 rfl (lv_at hl 4 rfl) ?_
      refine lv_iconst (v := nI 2) hx hb d_Mod_read_88 (by decide) ?_
      refine nv_icmp_ne (tgt := 104) hx hb d_Mod_read_89 (by decide) (by omega) (by omega) (fun _ => ?_) (fun h9 => absurd h9 (by decide))
      refine lv_iload_n hx hb d_Mod_read_104 rfl (lv_at hl 4 rfl) ?_
      refine lv_iconst (v := nI 5) hx hb d_Mod_read_105 (by decide) ?_
      refine nv_icmp_ne (tgt := 115) hx hb d_Mod_read_106 (by decide) (by omega) (by omega) (fun _ => ?_) (fun h9 => absurd h9 (by decide))
      refine lv_iconst (v := nI 0) hx hb d_Mod_read_115 (by decide) ?_
      refine lv_istore (lv' := [(4, .int (nI 0)), (3, .int (nI 4)), (0, .ref mo), (1, .int (nI v)), (2, .int (nI 4))]) hx hb d_Mod_read_116 hl (by decide) rfl (fun ls hl => ?_)
      refine lv_iconst (v := nI 1) hx hb d_Mod_read_118 (by decide) ?_
      refine lv_istore (lv' := [(5, .int (nI 1)), (4, .int (nI 0)), (3, .int (nI 4)), (0, .ref mo), (1, .int (nI v)), (2, .int (nI 4))]) hx hb d_Mod_read_119 hl (by decide) rfl (fun ls hl => ?_)
      refine lv_iconst (v := nI 0) hx hb d_Mod_read_121 (by decide) ?_
      refine lv_istore (lv' := [(6, .int (nI 0)), (5, .int (nI 1)), (4, .int (nI 0)), (3, .int (nI 4)), (0, .ref mo), (1, .int (nI v)), (2, .int (nI 4))]) hx hb d_Mod_read_122 hl (by decide) rfl (fun ls hl => ?_)
      have lp_124 : ∀ (nn : Nat) (k : Nat) (b1 : Nat) (g1 : Nat) (nx1 : Nat) (Ti1 : Nat → Nat) (hk : k ≤ 64) (hb1 : b1 < 256) (hg1 : g1 ≤ 1) (hn1 : nx1 ≤ ((((nx + 1) + 2) + 2) + 2) + 2 + 3 * k) (hn2 : ((((nx + 1) + 2) + 2) + 2) + 2 ≤ nx1) (bT1 : ∀ j, Ti1 j < 65536), 64 - k < nn → ∀ (H : Heap) (locs : List Loc) (ls : Array Slot), va_P D classes [(mo, .inr (9, [.int cd, .ref rpx, .int nb, .ref rca, .ref rpl, .ref rth, .ref rco, .ref rsh, .ref rsf, .ref rcr, .ref rep, .ref rby, .ref rli, .ref rls, .ref rla, .ref rcm, .ref rcs, .ref rpa, .ref rpm, .ref rpo, .ref rti, .ref rre, .ref rcl, .int (nI sz), .int (nI cs), .int (nI nx1), .int (nI la)])), (rpx, .inl (cI, 30720, .inl (nF Px))), (rth, .inl (cZ, 96, .inl (nF Th))), (rca, .inl (cI, 6144, .inl (nF Ca))), (rti, .inl (cI, 64, .inl (nF Ti1))), (rcl, .inl (cI, 64, .inl (nF (up (up (up (up Co 0 u27) 1 u32) 2 u37) 3 u42)))), (rcm, .inl (cI, 18741, .inl (nF Cm)))] H → va_D AA [(mo, .inr (9, [.int cd, .ref rpx, .int nb, .ref rca, .ref rpl, .ref rth, .ref rco, .ref rsh, .ref rsf, .ref rcr, .ref rep, .ref rby, .ref rli, .ref rls, .ref rla, .ref rcm, .ref rcs, .ref rpa, .ref rpm, .ref rpo, .ref rti, .ref rre, .ref rcl, .int (nI sz), .int (nI cs), .int (nI nx1), .int (nI la)])), (rpx, .inl (cI, 30720, .inl (nF Px))), (rth, .inl (cZ, 96, .inl (nF Th))), (rca, .inl (cI, 6144, .inl (nF Ca))), (rti, .inl (cI, 64, .inl (nF Ti1))), (rcl, .inl (cI, 64, .inl (nF (up (up (up (up Co 0 u27) 1 u32) 2 u37) 3 u42)))), (rcm, .inl (cI, 18741, .inl (nF Cm)))] → va_S AA sT.heap H locs → lv_has ls 8 [(6, .int (nI k)), (5, .int (nI g1)), (4, .int (nI b1)), (3, .int (nI 4)), (0, .ref mo), (1, .int (nI v)), (2, .int (nI 4))] → W pr l ev ({ frames := 3, cells := 0, slots := 0, locals := 90 } : Room) sT mM aR bW mE cO H locs 0 0 QQ (F0 mM 124 ls []) := by
        intro nn
        induction nn with
        | zero => intro k b1 g1 nx1 Ti1 hk hb1 hg1 hn1 hn2 bT1 hm; exact absurd hm (Nat.not_lt_zero _)
        | succ nn ih124 =>
          intro k b1 g1 nx1 Ti1 hk hb1 hg1 hn1 hn2 bT1 hm H locs ls hP hD hS hl
          refine lv_iload hx hb d_Mod_read_124 (lv_at hl 0 rfl) ?_
          refine lv_bipush (v := nI 64) hx hb d_Mod_read_126 (by decide) ?_
          refine nv_icmp_ge (tgt := 261) hx hb d_Mod_read_128 (by decide) (by omega) (by omega) (fun c_128 => ?_) (fun c_128 => ?_)
          · refine lv_iload hx hb d_Mod_read_261 (lv_at hl 1 rfl) ?_
            refine nv_if_eq (tgt := 281) hx hb d_Mod_read_263 (by decide) (by omega) (fun c_263 => ?_) (fun c_263 => ?_)
            · refine lv_iconst (v := nI 0) hx hb d_Mod_read_281 (by decide) ?_
              have hR := hret ((nI 0)) (0, nx1, Ti1, up (up (up (up Co 0 u27) 1 u32) 2 u37) 3 u42) H locs 282 ls d_Mod_read_282 (by first | rfl | decide)
              try dsimp only at hR
              exact hR (⟨rfl, by decide, by omega, by omega, bT1, up_lt (up_lt (up_lt (up_lt bCo hp31) hp36) hp41) hp46⟩) hP hD hS
            · refine lv_aload_n hx hb d_Mod_read_266 rfl (lv_at hl 4 rfl) ?_
              refine va_get (D := D) (ci := 9) (v := .int (nI nx1)) (C := "TileScreenModel") (T := F_Mod) (N := 27) hx hb htb i_Mod hown hG.1 hP 0 rfl rfl 25 (by decide) (htb _ k_660) (fun _ h9 => h9) rfl d_Mod_read_267 ?_
              refine lv_aload_n hx hb d_Mod_read_270 rfl (lv_at hl 4 rfl) ?_
              refine va_get (D := D) (ci := 9) (v := .int (nI la)) (C := "TileScreenModel") (T := F_Mod) (N := 27) hx hb htb i_Mod hown hG.1 hP 0 rfl rfl 26 (by decide) (htb _ k_661) (fun _ h9 => h9) rfl d_Mod_read_271 ?_
              refine nv_icmp_gt (tgt := 281) hx hb d_Mod_read_274 (by decide) (by omega) (by omega) (fun c_274 => ?_) (fun c_274 => ?_)
              · refine lv_iconst (v := nI 0) hx hb d_Mod_read_281 (by decide) ?_
                have hR := hret ((nI 0)) (0, nx1, Ti1, up (up (up (up Co 0 u27) 1 u32) 2 u37) 3 u42) H locs 282 ls d_Mod_read_282 (by first | rfl | decide)
                try dsimp only at hR
                exact hR (⟨rfl, by decide, by omega, by omega, bT1, up_lt (up_lt (up_lt (up_lt bCo hp31) hp36) hp41) hp46⟩) hP hD hS
              · refine lv_iconst (v := nI 1) hx hb d_Mod_read_277 (by decide) ?_
                refine lv_goto (tgt := 282) hx hb d_Mod_read_278 (by decide) ?_
                have hR := hret ((nI 1)) (1, nx1, Ti1, up (up (up (up Co 0 u27) 1 u32) 2 u37) 3 u42) H locs 282 ls d_Mod_read_282 (by first | rfl | decide)
                try dsimp only at hR
                exact hR (⟨rfl, by decide, by omega, by omega, bT1, up_lt (up_lt (up_lt (up_lt bCo hp31) hp36) hp41) hp46⟩) hP hD hS
          · refine lv_iload_n hx hb d_Mod_read_131 rfl (lv_at hl 6 rfl) ?_
            refine lv_iconst (v := nI 3) hx hb d_Mod_read_132 (by decide) ?_
            refine nv_icmp_ne (tgt := 144) hx hb d_Mod_read_133 (by decide) (by omega) (by omega) (fun _ => ?_) (fun h9 => absurd h9 (by decide))
            refine lv_iload_n hx hb d_Mod_read_144 rfl (lv_at hl 6 rfl) ?_
            refine lv_iconst (v := nI 4) hx hb d_Mod_read_145 (by decide) ?_
            refine nv_icmp_ne (tgt := 163) hx hb d_Mod_read_146 (by decide) (by omega) (by omega) (fun h9 => absurd h9 (by decide)) (fun _ => ?_)
            refine lv_iload hx hb d_Mod_read_149 (lv_at hl 0 rfl) ?_
            refine lv_iconst (v := nI 4) hx hb d_Mod_read_151 (by decide) ?_
            refine nv_irem hx hb (by omega) (by omega) (by omega) d_Mod_read_152 ?_
            refine nv_if_ne (tgt := 163) hx hb d_Mod_read_153 (by decide) (by omega) (fun c_153 => ?_) (fun c_153 => ?_)
            · refine lv_iload_n hx hb d_Mod_read_163 rfl (lv_at hl 6 rfl) ?_
              refine lv_iconst (v := nI 3) hx hb d_Mod_read_164 (by decide) ?_
              refine nv_icmp_ne (tgt := 184) hx hb d_Mod_read_165 (by decide) (by omega) (by omega) (fun _ => ?_) (fun h9 => absurd h9 (by decide))
              refine lv_iload_n hx hb d_Mod_read_184 rfl (lv_at hl 6 rfl) ?_
              refine lv_iconst (v := nI 4) hx hb d_Mod_read_185 (by decide) ?_
              refine nv_icmp_ne (tgt := 206) hx hb d_Mod_read_186 (by decide) (by omega) (by omega) (fun h9 => absurd h9 (by decide)) (fun _ => ?_)
              refine lv_iload hx hb d_Mod_read_189 (lv_at hl 2 rfl) ?_
              refine lv_bipush (v := nI 6) hx hb d_Mod_read_191 (by decide) ?_
              refine lv_iconst (v := nI 2) hx hb d_Mod_read_193 (by decide) ?_
              refine lv_iload hx hb d_Mod_read_194 (lv_at hl 0 rfl) ?_
              refine lv_iconst (v := nI 4) hx hb d_Mod_read_196 (by decide) ?_
              refine nv_irem hx hb (by omega) (by omega) (by omega) d_Mod_read_197 ?_
              refine nv_imul hx hb d_Mod_read_198 ?_
              refine nv_isub hx hb (by omega) d_Mod_read_199 ?_
              refine nv_ishr hx hb (by omega) (by omega) d_Mod_read_200 ?_
              refine lv_iconst (v := nI 3) hx hb d_Mod_read_201 (by decide) ?_
              refine nv_iandm hx hb 2 rfl d_Mod_read_202 ?_
              refine lv_goto (tgt := 207) hx hb d_Mod_read_203 (by decide) ?_
              refine lv_istore (lv' := [(7, .int (nI ((b1 / 2 ^ (6 - (2 * (k % 4)))) % 4))), (6, .int (nI k)), (5, .int (nI g1)), (4, .int (nI b1)), (3, .int (nI 4)), (0, .ref mo), (1, .int (nI v)), (2, .int (nI 4))]) hx hb d_Mod_read_207 hl (by decide) rfl (fun ls hl => ?_)
              refine lv_iload hx hb d_Mod_read_209 (lv_at hl 2 rfl) ?_
              refine nv_if_eq (tgt := 224) hx hb d_Mod_read_211 (by decide) (by omega) (fun c_211 => ?_) (fun c_211 => ?_)
              · refine lv_iconst (v := nI 0) hx hb d_Mod_read_224 (by decide) ?_
                refine lv_istore (lv' := [(5, .int (nI 0)), (7, .int (nI ((b1 / 2 ^ (6 - (2 * (k % 4)))) % 4))), (6, .int (nI k)), (4, .int (nI b1)), (3, .int (nI 4)), (0, .ref mo), (1, .int (nI v)), (2, .int (nI 4))]) hx hb d_Mod_read_225 hl (by decide) rfl (fun ls hl => ?_)
                refine lv_aload_n hx hb d_Mod_read_227 rfl (lv_at hl 5 rfl) ?_
                refine va_get (D := D) (ci := 9) (v := .ref rti) (C := "TileScreenModel") (T := F_Mod) (N := 27) hx hb htb i_Mod hown hG.1 hP 0 rfl rfl 20 (by decide) (htb _ k_655) (fun _ h9 => h9) rfl d_Mod_read_228 ?_
                refine lv_iload hx hb d_Mod_read_231 (lv_at hl 2 rfl) ?_
                refine lv_iload_n hx hb d_Mod_read_233 rfl (lv_at hl 7 rfl) ?_
                refine lv_bipush (v := nI 6) hx hb d_Mod_read_234 (by decide) ?_
                refine nv_icmp_ne (tgt := 247) hx hb d_Mod_read_236 (by decide) (by omega) (by omega) (fun _ => ?_) (fun h9 => absurd h9 (by decide))
                refine lv_aload_n hx hb d_Mod_read_247 rfl (lv_at hl 5 rfl) ?_
                refine va_get (D := D) (ci := 9) (v := .ref rcl) (C := "TileScreenModel") (T := F_Mod) (N := 27) hx hb htb i_Mod hown hG.1 hP 0 rfl rfl 22 (by decide) (htb _ k_657) (fun _ h9 => h9) rfl d_Mod_read_248 ?_
                refine lv_iload hx hb d_Mod_read_251 (lv_at hl 1 rfl) ?_
                refine nv_iald hx hb hG.1 hP 5 0 rfl rfl (m_lt (show 4 ≤ 64 by decide) (by decide)) (by omega) d_Mod_read_253 ?_
                refine nv_iast hx hb hG.1 hP hD hS 4 0 rfl rfl (by omega) (by omega) d_Mod_read_254 (fun H locs hP hD hS => ?_)
                have hP : va_P D classes [(mo, .inr (9, [.int cd, .ref rpx, .int nb, .ref rca, .ref rpl, .ref rth, .ref rco, .ref rsh, .ref rsf, .ref rcr, .ref rep, .ref rby, .ref rli, .ref rls, .ref rla, .ref rcm, .ref rcs, .ref rpa, .ref rpm, .ref rpo, .ref rti, .ref rre, .ref rcl, .int (nI sz), .int (nI cs), .int (nI nx1), .int (nI la)])), (rpx, .inl (cI, 30720, .inl (nF Px))), (rth, .inl (cZ, 96, .inl (nF Th))), (rca, .inl (cI, 6144, .inl (nF Ca))), (rti, .inl (cI, 64, .inl (nF (up Ti1 k ((up (up (up (up Co 0 u27) 1 u32) 2 u37) 3 u42) ((b1 / 2 ^ (6 - (2 * (k % 4)))) % 4)))))), (rcl, .inl (cI, 64, .inl (nF (up (up (up (up Co 0 u27) 1 u32) 2 u37) 3 u42)))), (rcm, .inl (cI, 18741, .inl (nF Cm)))] H := hP
                have hD : va_D AA [(mo, .inr (9, [.int cd, .ref rpx, .int nb, .ref rca, .ref rpl, .ref rth, .ref rco, .ref rsh, .ref rsf, .ref rcr, .ref rep, .ref rby, .ref rli, .ref rls, .ref rla, .ref rcm, .ref rcs, .ref rpa, .ref rpm, .ref rpo, .ref rti, .ref rre, .ref rcl, .int (nI sz), .int (nI cs), .int (nI nx1), .int (nI la)])), (rpx, .inl (cI, 30720, .inl (nF Px))), (rth, .inl (cZ, 96, .inl (nF Th))), (rca, .inl (cI, 6144, .inl (nF Ca))), (rti, .inl (cI, 64, .inl (nF (up Ti1 k ((up (up (up (up Co 0 u27) 1 u32) 2 u37) 3 u42) ((b1 / 2 ^ (6 - (2 * (k % 4)))) % 4)))))), (rcl, .inl (cI, 64, .inl (nF (up (up (up (up Co 0 u27) 1 u32) 2 u37) 3 u42)))), (rcm, .inl (cI, 18741, .inl (nF Cm)))] := hD
                refine lv_iinc (v := (nI (k + 1))) (lv' := [(6, .int (nI (k + 1))), (5, .int (nI 0)), (7, .int (nI ((b1 / 2 ^ (6 - (2 * (k % 4)))) % 4))), (4, .int (nI b1)), (3, .int (nI 4)), (0, .ref mo), (1, .int (nI v)), (2, .int (nI 4))]) hx hb d_Mod_read_255 hl (k := 2) rfl (nI_add k 1) (by decide) rfl (fun ls hl => ?_)
                refine lv_goto (tgt := 124) hx hb d_Mod_read_258 (by decide) ?_
                exact ih124 (k + 1) b1 0 nx1 (up Ti1 k ((up (up (up (up Co 0 u27) 1 u32) 2 u37) 3 u42) ((b1 / 2 ^ (6 - (2 * (k % 4)))) % 4))) (by omega) (hb1) (by decide) (by omega) (by omega) (up_lt bT1 ((up_lt (up_lt (up_lt (up_lt bCo hp31) hp36) hp41) hp46) _)) (by omega) _ _ _ hP hD hS (lv_sub hl [0, 1, 3, 4, 5, 6, 7] rfl)
              · refine lv_iload hx hb d_Mod_read_214 (lv_at hl 0 rfl) ?_
                refine lv_iload_n hx hb d_Mod_read_216 rfl (lv_at hl 4 rfl) ?_
                refine nv_icmp_ge (tgt := 224) hx hb d_Mod_read_217 (by decide) (m_lt (show 4 ≤ 2 ^ 31 by decide) (by decide)) (by omega) (fun c_217 => ?_) (fun c_217 => ?_)
                · refine lv_iconst (v := nI 0) hx hb d_Mod_read_224 (by decide) ?_
                  refine lv_istore (lv' := [(5, .int (nI 0)), (7, .int (nI ((b1 / 2 ^ (6 - (2 * (k % 4)))) % 4))), (6, .int (nI k)), (4, .int (nI b1)), (3, .int (nI 4)), (0, .ref mo), (1, .int (nI v)), (2, .int (nI 4))]) hx hb d_Mod_read_225 hl (by decide) rfl (fun ls hl => ?_)
                  refine lv_aload_n hx hb d_Mod_read_227 rfl (lv_at hl 5 rfl) ?_
                  refine va_get (D := D) (ci := 9) (v := .ref rti) (C := "TileScreenModel") (T := F_Mod) (N := 27) hx hb htb i_Mod hown hG.1 hP 0 rfl rfl 20 (by decide) (htb _ k_655) (fun _ h9 => h9) rfl d_Mod_read_228 ?_
                  refine lv_iload hx hb d_Mod_read_231 (lv_at hl 2 rfl) ?_
                  refine lv_iload_n hx hb d_Mod_read_233 rfl (lv_at hl 7 rfl) ?_
                  refine lv_bipush (v := nI 6) hx hb d_Mod_read_234 (by decide) ?_
                  refine nv_icmp_ne (tgt := 247) hx hb d_Mod_read_236 (by decide) (by omega) (by omega) (fun _ => ?_) (fun h9 => absurd h9 (by decide))
                  refine lv_aload_n hx hb d_Mod_read_247 rfl (lv_at hl 5 rfl) ?_
                  refine va_get (D := D) (ci := 9) (v := .ref rcl) (C := "TileScreenModel") (T := F_Mod) (N := 27) hx hb htb i_Mod hown hG.1 hP 0 rfl rfl 22 (by decide) (htb _ k_657) (fun _ h9 => h9) rfl d_Mod_read_248 ?_
                  refine lv_iload hx hb d_Mod_read_251 (lv_at hl 1 rfl) ?_
                  refine nv_iald hx hb hG.1 hP 5 0 rfl rfl (m_lt (show 4 ≤ 64 by decide) (by decide)) (by omega) d_Mod_read_253 ?_
                  refine nv_iast hx hb hG.1 hP hD hS 4 0 rfl rfl (by omega) (by omega) d_Mod_read_254 (fun H locs hP hD hS => ?_)
                  have hP : va_P D classes [(mo, .inr (9, [.int cd, .ref rpx, .int nb, .ref rca, .ref rpl, .ref rth, .ref rco, .ref rsh, .ref rsf, .ref rcr, .ref rep, .ref rby, .ref rli, .ref rls, .ref rla, .ref rcm, .ref rcs, .ref rpa, .ref rpm, .ref rpo, .ref rti, .ref rre, .ref rcl, .int (nI sz), .int (nI cs), .int (nI nx1), .int (nI la)])), (rpx, .inl (cI, 30720, .inl (nF Px))), (rth, .inl (cZ, 96, .inl (nF Th))), (rca, .inl (cI, 6144, .inl (nF Ca))), (rti, .inl (cI, 64, .inl (nF (up Ti1 k ((up (up (up (up Co 0 u27) 1 u32) 2 u37) 3 u42) ((b1 / 2 ^ (6 - (2 * (k % 4)))) % 4)))))), (rcl, .inl (cI, 64, .inl (nF (up (up (up (up Co 0 u27) 1 u32) 2 u37) 3 u42)))), (rcm, .inl (cI, 18741, .inl (nF Cm)))] H := hP
                  have hD : va_D AA [(mo, .inr (9, [.int cd, .ref rpx, .int nb, .ref rca, .ref rpl, .ref rth, .ref rco, .ref rsh, .ref rsf, .ref rcr, .ref rep, .ref rby, .ref rli, .ref rls, .ref rla, .ref rcm, .ref rcs, .ref rpa, .ref rpm, .ref rpo, .ref rti, .ref rre, .ref rcl, .int (nI sz), .int (nI cs), .int (nI nx1), .int (nI la)])), (rpx, .inl (cI, 30720, .inl (nF Px))), (rth, .inl (cZ, 96, .inl (nF Th))), (rca, .inl (cI, 6144, .inl (nF Ca))), (rti, .inl (cI, 64, .inl (nF (up Ti1 k ((up (up (up (up Co 0 u27) 1 u32) 2 u37) 3 u42) ((b1 / 2 ^ (6 - (2 * (k % 4)))) % 4)))))), (rcl, .inl (cI, 64, .inl (nF (up (up (up (up Co 0 u27) 1 u32) 2 u37) 3 u42)))), (rcm, .inl (cI, 18741, .inl (nF Cm)))] := hD
                  refine lv_iinc (v := (nI (k + 1))) (lv' := [(6, .int (nI (k + 1))), (5, .int (nI 0)), (7, .int (nI ((b1 / 2 ^ (6 - (2 * (k % 4)))) % 4))), (4, .int (nI b1)), (3, .int (nI 4)), (0, .ref mo), (1, .int (nI v)), (2, .int (nI 4))]) hx hb d_Mod_read_255 hl (k := 2) rfl (nI_add k 1) (by decide) rfl (fun ls hl => ?_)
                  refine lv_goto (tgt := 124) hx hb d_Mod_read_258 (by decide) ?_
                  exact ih124 (k + 1) b1 0 nx1 (up Ti1 k ((up (up (up (up Co 0 u27) 1 u32) 2 u37) 3 u42) ((b1 / 2 ^ (6 - (2 * (k % 4)))) % 4))) (by omega) (hb1) (by decide) (by omega) (by omega) (up_lt bT1 ((up_lt (up_lt (up_lt (up_lt bCo hp31) hp36) hp41) hp46) _)) (by omega) _ _ _ hP hD hS (lv_sub hl [0, 1, 3, 4, 5, 6, 7] rfl)
                · refine lv_iconst (v := nI 1) hx hb d_Mod_read_220 (by decide) ?_
                  refine lv_goto (tgt := 225) hx hb d_Mod_read_221 (by decide) ?_
                  refine lv_istore (lv' := [(5, .int (nI 1)), (7, .int (nI ((b1 / 2 ^ (6 - (2 * (k % 4)))) % 4))), (6, .int (nI k)), (4, .int (nI b1)), (3, .int (nI 4)), (0, .ref mo), (1, .int (nI v)), (2, .int (nI 4))]) hx hb d_Mod_read_225 hl (by decide) rfl (fun ls hl => ?_)
                  refine lv_aload_n hx hb d_Mod_read_227 rfl (lv_at hl 5 rfl) ?_
                  refine va_get (D := D) (ci := 9) (v := .ref rti) (C := "TileScreenModel") (T := F_Mod) (N := 27) hx hb htb i_Mod hown hG.1 hP 0 rfl rfl 20 (by decide) (htb _ k_655) (fun _ h9 => h9) rfl d_Mod_read_228 ?_
                  refine lv_iload hx hb d_Mod_read_231 (lv_at hl 2 rfl) ?_
                  refine lv_iload_n hx hb d_Mod_read_233 rfl (lv_at hl 7 rfl) ?_
                  refine lv_bipush (v := nI 6) hx hb d_Mod_read_234 (by decide) ?_
                  refine nv_icmp_ne (tgt := 247) hx hb d_Mod_read_236 (by decide) (by omega) (by omega) (fun _ => ?_) (fun h9 => absurd h9 (by decide))
                  refine lv_aload_n hx hb d_Mod_read_247 rfl (lv_at hl 5 rfl) ?_
                  refine va_get (D := D) (ci := 9) (v := .ref rcl) (C := "TileScreenModel") (T := F_Mod) (N := 27) hx hb htb i_Mod hown hG.1 hP 0 rfl rfl 22 (by decide) (htb _ k_657) (fun _ h9 => h9) rfl d_Mod_read_248 ?_
                  refine lv_iload hx hb d_Mod_read_251 (lv_at hl 1 rfl) ?_
                  refine nv_iald hx hb hG.1 hP 5 0 rfl rfl (m_lt (show 4 ≤ 64 by decide) (by decide)) (by omega) d_Mod_read_253 ?_
                  refine nv_iast hx hb hG.1 hP hD hS 4 0 rfl rfl (by omega) (by omega) d_Mod_read_254 (fun H locs hP hD hS => ?_)
                  have hP : va_P D classes [(mo, .inr (9, [.int cd, .ref rpx, .int nb, .ref rca, .ref rpl, .ref rth, .ref rco, .ref rsh, .ref rsf, .ref rcr, .ref rep, .ref rby, .ref rli, .ref rls, .ref rla, .ref rcm, .ref rcs, .ref rpa, .ref rpm, .ref rpo, .ref rti, .ref rre, .ref rcl, .int (nI sz), .int (nI cs), .int (nI nx1), .int (nI la)])), (rpx, .inl (cI, 30720, .inl (nF Px))), (rth, .inl (cZ, 96, .inl (nF Th))), (rca, .inl (cI, 6144, .inl (nF Ca))), (rti, .inl (cI, 64, .inl (nF (up Ti1 k ((up (up (up (up Co 0 u27) 1 u32) 2 u37) 3 u42) ((b1 / 2 ^ (6 - (2 * (k % 4)))) % 4)))))), (rcl, .inl (cI, 64, .inl (nF (up (up (up (up Co 0 u27) 1 u32) 2 u37) 3 u42)))), (rcm, .inl (cI, 18741, .inl (nF Cm)))] H := hP
                  have hD : va_D AA [(mo, .inr (9, [.int cd, .ref rpx, .int nb, .ref rca, .ref rpl, .ref rth, .ref rco, .ref rsh, .ref rsf, .ref rcr, .ref rep, .ref rby, .ref rli, .ref rls, .ref rla, .ref rcm, .ref rcs, .ref rpa, .ref rpm, .ref rpo, .ref rti, .ref rre, .ref rcl, .int (nI sz), .int (nI cs), .int (nI nx1), .int (nI la)])), (rpx, .inl (cI, 30720, .inl (nF Px))), (rth, .inl (cZ, 96, .inl (nF Th))), (rca, .inl (cI, 6144, .inl (nF Ca))), (rti, .inl (cI, 64, .inl (nF (up Ti1 k ((up (up (up (up Co 0 u27) 1 u32) 2 u37) 3 u42) ((b1 / 2 ^ (6 - (2 * (k % 4)))) % 4)))))), (rcl, .inl (cI, 64, .inl (nF (up (up (up (up Co 0 u27) 1 u32) 2 u37) 3 u42)))), (rcm, .inl (cI, 18741, .inl (nF Cm)))] := hD
                  refine lv_iinc (v := (nI (k + 1))) (lv' := [(6, .int (nI (k + 1))), (5, .int (nI 1)), (7, .int (nI ((b1 / 2 ^ (6 - (2 * (k % 4)))) % 4))), (4, .int (nI b1)), (3, .int (nI 4)), (0, .ref mo), (1, .int (nI v)), (2, .int (nI 4))]) hx hb d_Mod_read_255 hl (k := 2) rfl (nI_add k 1) (by decide) rfl (fun ls hl => ?_)
                  refine lv_goto (tgt := 124) hx hb d_Mod_read_258 (by decide) ?_
                  exact ih124 (k + 1) b1 1 nx1 (up Ti1 k ((up (up (up (up Co 0 u27) 1 u32) 2 u37) 3 u42) ((b1 / 2 ^ (6 - (2 * (k % 4)))) % 4))) (by omega) (hb1) (by decide) (by omega) (by omega) (up_lt bT1 ((up_lt (up_lt (up_lt (up_lt bCo hp31) hp36) hp41) hp46) _)) (by omega) _ _ _ hP hD hS (lv_sub hl [0, 1, 3, 4, 5, 6, 7] rfl)
            · refine lv_aload_n hx hb d_Mod_read_156 rfl (lv_at hl 4 rfl) ?_
              refine lv_iload_n hx hb d_Mod_read_157 rfl (lv_at hl 5 rfl) ?_
              refine kV_i (wc := [(mo, .inr (9, [.int cd, .ref rpx, .int nb, .ref rca, .ref rpl, .ref rth, .ref rco, .ref rsh, .ref rsf, .ref rcr, .ref rep, .ref rby, .ref rli, .ref rls, .ref rla, .ref rcm, .ref rcs, .ref rpa, .ref rpm, .ref rpo, .ref rti, .ref rre, .ref rcl, .int (nI sz), .int (nI cs), .int (nI nx1), .int (nI la)])), (rcm, .inl (cI, 18741, .inl (nF Cm)))]) (wr := [(rpx, .inl (cI, 30720, .inl (nF Px))), (rth, .inl (cZ, 96, .inl (nF Th))), (rca, .inl (cI, 6144, .inl (nF Ca))), (rti, .inl (cI, 64, .inl (nF Ti1))), (rcl, .inl (cI, 64, .inl (nF (up (up (up (up Co 0 u27) 1 u32) 2 u37) 3 u42))))]) (w2 := fun u => [(mo, .inr (9, [.int cd, .ref rpx, .int nb, .ref rca, .ref rpl, .ref rth, .ref rco, .ref rsh, .ref rsf, .ref rcr, .ref rep, .ref rby, .ref rli, .ref rls, .ref rla, .ref rcm, .ref rcs, .ref rpa, .ref rpm, .ref rpo, .ref rti, .ref rre, .ref rcl, .int (nI sz), .int (nI cs), .int (nI (nx1 + 1)), .int (nI la)])), (rpx, .inl (cI, 30720, .inl (nF Px))), (rth, .inl (cZ, 96, .inl (nF Th))), (rca, .inl (cI, 6144, .inl (nF Ca))), (rti, .inl (cI, 64, .inl (nF Ti1))), (rcl, .inl (cI, 64, .inl (nF (up (up (up (up Co 0 u27) 1 u32) 2 u37) 3 u42)))), (rcm, .inl (cI, 18741, .inl (nF Cm)))]) [.int (nI v)] [] Bd ⟨gi_app (gi_c0 k_837 (gi_c0 k_839 (gi_c0 s_40 (gi_c0 k_10 gi_nil)))) (gi_tb0 k_840), rfl, by decide, by decide⟩ (show (parseMethodDescriptor "(I)I").map (fun d => d.parameters.length) = some 1 by decide +kernel) (c_Mod_get mo cd rpx nb rca rpl rth rco rsh rsf rcr rep rby rli rls rla rcm rcs rpa rpm rpo rti rre rcl sz cs nx1 la Cm v (hv) (hla) (by omega) (bCm)) (by decide +kernel) ⟨Nat.le_of_ble_eq_true rfl, Nat.le_of_ble_eq_true rfl⟩ hG hP hD hS hA [0, 6] [1, 2, 3, 4, 5] [5, 0, 1, 2, 3, 4, 6] (by decide) rfl rfl (fun _ => rfl) (q0 := 0) rfl rfl rfl hl.1 rfl (Nat.le_of_ble_eq_true rfl) d_Mod_read_158 (fun r49 u51 H locs hp50 hP hD hS => ?_)
              obtain ⟨u48, rfl⟩ : ∃ z9, z9 = u51 := ⟨_, rfl⟩
              try dsimp only at hp50
              have hP : va_P D classes [(mo, .inr (9, [.int cd, .ref rpx, .int nb, .ref rca, .ref rpl, .ref rth, .ref rco, .ref rsh, .ref rsf, .ref rcr, .ref rep, .ref rby, .ref rli, .ref rls, .ref rla, .ref rcm, .ref rcs, .ref rpa, .ref rpm, .ref rpo, .ref rti, .ref rre, .ref rcl, .int (nI sz), .int (nI cs), .int (nI (nx1 + 1)), .int (nI la)])), (rpx, .inl (cI, 30720, .inl (nF Px))), (rth, .inl (cZ, 96, .inl (nF Th))), (rca, .inl (cI, 6144, .inl (nF Ca))), (rti, .inl (cI, 64, .inl (nF Ti1))), (rcl, .inl (cI, 64, .inl (nF (up (up (up (up Co 0 u27) 1 u32) 2 u37) 3 u42)))), (rcm, .inl (cI, 18741, .inl (nF Cm)))] H := hP
              have hD : va_D AA [(mo, .inr (9, [.int cd, .ref rpx, .int nb, .ref rca, .ref rpl, .ref rth, .ref rco, .ref rsh, .ref rsf, .ref rcr, .ref rep, .ref rby, .ref rli, .ref rls, .ref rla, .ref rcm, .ref rcs, .ref rpa, .ref rpm, .ref rpo, .ref rti, .ref rre, .ref rcl, .int (nI sz), .int (nI cs), .int (nI (nx1 + 1)), .int (nI la)])), (rpx, .inl (cI, 30720, .inl (nF Px))), (rth, .inl (cZ, 96, .inl (nF Th))), (rca, .inl (cI, 6144, .inl (nF Ca))), (rti, .inl (cI, 64, .inl (nF Ti1))), (rcl, .inl (cI, 64, .inl (nF (up (up (up (up Co 0 u27) 1 u32) 2 u37) 3 u42)))), (rcm, .inl (cI, 18741, .inl (nF Cm)))] := hD
              obtain ⟨rfl, hp52⟩ := hp50
              refine lv_istore (lv' := [(4, .int (nI u48)), (6, .int (nI k)), (5, .int (nI g1)), (3, .int (nI 4)), (0, .ref mo), (1, .int (nI v)), (2, .int (nI 4))]) hx hb d_Mod_read_161 hl (by decide) rfl (fun ls hl => ?_)
              refine lv_iload_n hx hb d_Mod_read_163 rfl (lv_at hl 6 rfl) ?_
              refine lv_iconst (v := nI 3) hx hb d_Mod_read_164 (by decide) ?_
              refine nv_icmp_ne (tgt := 184) hx hb d_Mod_read_165 (by decide) (by omega) (by omega) (fun _ => ?_) (fun h9 => absurd h9 (by decide))
              refine lv_iload_n hx hb d_Mod_read_184 rfl (lv_at hl 6 rfl) ?_
              refine lv_iconst (v := nI 4) hx hb d_Mod_read_185 (by decide) ?_
              refine nv_icmp_ne (tgt := 206) hx hb d_Mod_read_186 (by decide) (by omega) (by omega) (fun h9 => absurd h9 (by decide)) (fun _ => ?_)
              refine lv_iload hx hb d_Mod_read_189 (lv_at hl 0 rfl) ?_
              refine lv_bipush (v := nI 6) hx hb d_Mod_read_191 (by decide) ?_
              refine lv_iconst (v := nI 2) hx hb d_Mod_read_193 (by decide) ?_
              refine lv_iload hx hb d_Mod_read_194 (lv_at hl 1 rfl) ?_
              refine lv_iconst (v := nI 4) hx hb d_Mod_read_196 (by decide) ?_
              refine nv_irem hx hb (by omega) (by omega) (by omega) d_Mod_read_197 ?_
              refine nv_imul hx hb d_Mod_read_198 ?_
              refine nv_isub hx hb (by omega) d_Mod_read_199 ?_
              refine nv_ishr hx hb (by omega) (by omega) d_Mod_read_200 ?_
              refine lv_iconst (v := nI 3) hx hb d_Mod_read_201 (by decide) ?_
              refine nv_iandm hx hb 2 rfl d_Mod_read_202 ?_
              refine lv_goto (tgt := 207) hx hb d_Mod_read_203 (by decide) ?_
              refine lv_istore (lv' := [(7, .int (nI ((u48 / 2 ^ (6 - (2 * (k % 4)))) % 4))), (4, .int (nI u48)), (6, .int (nI k)), (5, .int (nI g1)), (3, .int (nI 4)), (0, .ref mo), (1, .int (nI v)), (2, .int (nI 4))]) hx hb d_Mod_read_207 hl (by decide) rfl (fun ls hl => ?_)
              refine lv_iload hx hb d_Mod_read_209 (lv_at hl 3 rfl) ?_
              refine nv_if_eq (tgt := 224) hx hb d_Mod_read_211 (by decide) (by omega) (fun c_211 => ?_) (fun c_211 => ?_)
              · refine lv_iconst (v := nI 0) hx hb d_Mod_read_224 (by decide) ?_
                refine lv_istore (lv' := [(5, .int (nI 0)), (7, .int (nI ((u48 / 2 ^ (6 - (2 * (k % 4)))) % 4))), (4, .int (nI u48)), (6, .int (nI k)), (3, .int (nI 4)), (0, .ref mo), (1, .int (nI v)), (2, .int (nI 4))]) hx hb d_Mod_read_225 hl (by decide) rfl (fun ls hl => ?_)
                refine lv_aload_n hx hb d_Mod_read_227 rfl (lv_at hl 5 rfl) ?_
                refine va_get (D := D) (ci := 9) (v := .ref rti) (C := "TileScreenModel") (T := F_Mod) (N := 27) hx hb htb i_Mod hown hG.1 hP 0 rfl rfl 20 (by decide) (htb _ k_655) (fun _ h9 => h9) rfl d_Mod_read_228 ?_
                refine lv_iload hx hb d_Mod_read_231 (lv_at hl 3 rfl) ?_
                refine lv_iload_n hx hb d_Mod_read_233 rfl (lv_at hl 7 rfl) ?_
                refine lv_bipush (v := nI 6) hx hb d_Mod_read_234 (by decide) ?_
                refine nv_icmp_ne (tgt := 247) hx hb d_Mod_read_236 (by decide) (by omega) (by omega) (fun _ => ?_) (fun h9 => absurd h9 (by decide))
                refine lv_aload_n hx hb d_Mod_read_247 rfl (lv_at hl 5 rfl) ?_
                refine va_get (D := D) (ci := 9) (v := .ref rcl) (C := "TileScreenModel") (T := F_Mod) (N := 27) hx hb htb i_Mod hown hG.1 hP 0 rfl rfl 22 (by decide) (htb _ k_657) (fun _ h9 => h9) rfl d_Mod_read_248 ?_
                refine lv_iload hx hb d_Mod_read_251 (lv_at hl 1 rfl) ?_
                refine nv_iald hx hb hG.1 hP 5 0 rfl rfl (m_lt (show 4 ≤ 64 by decide) (by decide)) (by omega) d_Mod_read_253 ?_
                refine nv_iast hx hb hG.1 hP hD hS 4 0 rfl rfl (by omega) (by omega) d_Mod_read_254 (fun H locs hP hD hS => ?_)
                have hP : va_P D classes [(mo, .inr (9, [.int cd, .ref rpx, .int nb, .ref rca, .ref rpl, .ref rth, .ref rco, .ref rsh, .ref rsf, .ref rcr, .ref rep, .ref rby, .ref rli, .ref rls, .ref rla, .ref rcm, .ref rcs, .ref rpa, .ref rpm, .ref rpo, .ref rti, .ref rre, .ref rcl, .int (nI sz), .int (nI cs), .int (nI (nx1 + 1)), .int (nI la)])), (rpx, .inl (cI, 30720, .inl (nF Px))), (rth, .inl (cZ, 96, .inl (nF Th))), (rca, .inl (cI, 6144, .inl (nF Ca))), (rti, .inl (cI, 64, .inl (nF (up Ti1 k ((up (up (up (up Co 0 u27) 1 u32) 2 u37) 3 u42) ((u48 / 2 ^ (6 - (2 * (k % 4)))) % 4)))))), (rcl, .inl (cI, 64, .inl (nF (up (up (up (up Co 0 u27) 1 u32) 2 u37) 3 u42)))), (rcm, .inl (cI, 18741, .inl (nF Cm)))] H := hP
                have hD : va_D AA [(mo, .inr (9, [.int cd, .ref rpx, .int nb, .ref rca, .ref rpl, .ref rth, .ref rco, .ref rsh, .ref rsf, .ref rcr, .ref rep, .ref rby, .ref rli, .ref rls, .ref rla, .ref rcm, .ref rcs, .ref rpa, .ref rpm, .ref rpo, .ref rti, .ref rre, .ref rcl, .int (nI sz), .int (nI cs), .int (nI (nx1 + 1)), .int (nI la)])), (rpx, .inl (cI, 30720, .inl (nF Px))), (rth, .inl (cZ, 96, .inl (nF Th))), (rca, .inl (cI, 6144, .inl (nF Ca))), (rti, .inl (cI, 64, .inl (nF (up Ti1 k ((up (up (up (up Co 0 u27) 1 u32) 2 u37) 3 u42) ((u48 / 2 ^ (6 - (2 * (k % 4)))) % 4)))))), (rcl, .inl (cI, 64, .inl (nF (up (up (up (up Co 0 u27) 1 u32) 2 u37) 3 u42)))), (rcm, .inl (cI, 18741, .inl (nF Cm)))] := hD
                refine lv_iinc (v := (nI (k + 1))) (lv' := [(6, .int (nI (k + 1))), (5, .int (nI 0)), (7, .int (nI ((u48 / 2 ^ (6 - (2 * (k % 4)))) % 4))), (4, .int (nI u48)), (3, .int (nI 4)), (0, .ref mo), (1, .int (nI v)), (2, .int (nI 4))]) hx hb d_Mod_read_255 hl (k := 3) rfl (nI_add k 1) (by decide) rfl (fun ls hl => ?_)
                refine lv_goto (tgt := 124) hx hb d_Mod_read_258 (by decide) ?_
                exact ih124 (k + 1) u48 0 (nx1 + 1) (up Ti1 k ((up (up (up (up Co 0 u27) 1 u32) 2 u37) 3 u42) ((u48 / 2 ^ (6 - (2 * (k % 4)))) % 4))) (by omega) (hp52) (by decide) (by omega) (by omega) (up_lt bT1 ((up_lt (up_lt (up_lt (up_lt bCo hp31) hp36) hp41) hp46) _)) (by omega) _ _ _ hP hD hS (lv_sub hl [0, 1, 3, 4, 5, 6, 7] rfl)
              · refine lv_iload hx hb d_Mod_read_214 (lv_at hl 0 rfl) ?_
                refine lv_iload_n hx hb d_Mod_read_216 rfl (lv_at hl 4 rfl) ?_
                refine nv_icmp_ge (tgt := 224) hx hb d_Mod_read_217 (by decide) (m_lt (show 4 ≤ 2 ^ 31 by decide) (by decide)) (by omega) (fun c_217 => ?_) (fun c_217 => ?_)
                · refine lv_iconst (v := nI 0) hx hb d_Mod_read_224 (by decide) ?_
                  refine lv_istore (lv' := [(5, .int (nI 0)), (7, .int (nI ((u48 / 2 ^ (6 - (2 * (k % 4)))) % 4))), (4, .int (nI u48)), (6, .int (nI k)), (3, .int (nI 4)), (0, .ref mo), (1, .int (nI v)), (2, .int (nI 4))]) hx hb d_Mod_read_225 hl (by decide) rfl (fun ls hl => ?_)
                  refine lv_aload_n hx hb d_Mod_read_227 rfl (lv_at hl 5 rfl) ?_
                  refine va_get (D := D) (ci := 9) (v := .ref rti) (C := "TileScreenModel") (T := F_Mod) (N := 27) hx hb htb i_Mod hown hG.1 hP 0 rfl rfl 20 (by decide) (htb _ k_655) (fun _ h9 => h9) rfl d_Mod_read_228 ?_
                  refine lv_iload hx hb d_Mod_read_231 (lv_at hl 3 rfl) ?_
                  refine lv_iload_n hx hb d_Mod_read_233 rfl (lv_at hl 7 rfl) ?_
                  refine lv_bipush (v := nI 6) hx hb d_Mod_read_234 (by decide) ?_
                  refine nv_icmp_ne (tgt := 247) hx hb d_Mod_read_236 (by decide) (by omega) (by omega) (fun _ => ?_) (fun h9 => absurd h9 (by decide))
                  refine lv_aload_n hx hb d_Mod_read_247 rfl (lv_at hl 5 rfl) ?_
                  refine va_get (D := D) (ci := 9) (v := .ref rcl) (C := "TileScreenModel") (T := F_Mod) (N := 27) hx hb htb i_Mod hown hG.1 hP 0 rfl rfl 22 (by decide) (htb _ k_657) (fun _ h9 => h9) rfl d_Mod_read_248 ?_
                  refine lv_iload hx hb d_Mod_read_251 (lv_at hl 1 rfl) ?_
                  refine nv_iald hx hb hG.1 hP 5 0 rfl rfl (m_lt (show 4 ≤ 64 by decide) (by decide)) (by omega) d_Mod_read_253 ?_
                  refine nv_iast hx hb hG.1 hP hD hS 4 0 rfl rfl (by omega) (by omega) d_Mod_read_254 (fun H locs hP hD hS => ?_)
                  have hP : va_P D classes [(mo, .inr (9, [.int cd, .ref rpx, .int nb, .ref rca, .ref rpl, .ref rth, .ref rco, .ref rsh, .ref rsf, .ref rcr, .ref rep, .ref rby, .ref rli, .ref rls, .ref rla, .ref rcm, .ref rcs, .ref rpa, .ref rpm, .ref rpo, .ref rti, .ref rre, .ref rcl, .int (nI sz), .int (nI cs), .int (nI (nx1 + 1)), .int (nI la)])), (rpx, .inl (cI, 30720, .inl (nF Px))), (rth, .inl (cZ, 96, .inl (nF Th))), (rca, .inl (cI, 6144, .inl (nF Ca))), (rti, .inl (cI, 64, .inl (nF (up Ti1 k ((up (up (up (up Co 0 u27) 1 u32) 2 u37) 3 u42) ((u48 / 2 ^ (6 - (2 * (k % 4)))) % 4)))))), (rcl, .inl (cI, 64, .inl (nF (up (up (up (up Co 0 u27) 1 u32) 2 u37) 3 u42)))), (rcm, .inl (cI, 18741, .inl (nF Cm)))] H := hP
                  have hD : va_D AA [(mo, .inr (9, [.int cd, .ref rpx, .int nb, .ref rca, .ref rpl, .ref rth, .ref rco, .ref rsh, .ref rsf, .ref rcr, .ref rep, .ref rby, .ref rli, .ref rls, .ref rla, .ref rcm, .ref rcs, .ref rpa, .ref rpm, .ref rpo, .ref rti, .ref rre, .ref rcl, .int (nI sz), .int (nI cs), .int (nI (nx1 + 1)), .int (nI la)])), (rpx, .inl (cI, 30720, .inl (nF Px))), (rth, .inl (cZ, 96, .inl (nF Th))), (rca, .inl (cI, 6144, .inl (nF Ca))), (rti, .inl (cI, 64, .inl (nF (up Ti1 k ((up (up (up (up Co 0 u27) 1 u32) 2 u37) 3 u42) ((u48 / 2 ^ (6 - (2 * (k % 4)))) % 4)))))), (rcl, .inl (cI, 64, .inl (nF (up (up (up (up Co 0 u27) 1 u32) 2 u37) 3 u42)))), (rcm, .inl (cI, 18741, .inl (nF Cm)))] := hD
                  refine lv_iinc (v := (nI (k + 1))) (lv' := [(6, .int (nI (k + 1))), (5, .int (nI 0)), (7, .int (nI ((u48 / 2 ^ (6 - (2 * (k % 4)))) % 4))), (4, .int (nI u48)), (3, .int (nI 4)), (0, .ref mo), (1, .int (nI v)), (2, .int (nI 4))]) hx hb d_Mod_read_255 hl (k := 3) rfl (nI_add k 1) (by decide) rfl (fun ls hl => ?_)
                  refine lv_goto (tgt := 124) hx hb d_Mod_read_258 (by decide) ?_
                  exact ih124 (k + 1) u48 0 (nx1 + 1) (up Ti1 k ((up (up (up (up Co 0 u27) 1 u32) 2 u37) 3 u42) ((u48 / 2 ^ (6 - (2 * (k % 4)))) % 4))) (by omega) (hp52) (by decide) (by omega) (by omega) (up_lt bT1 ((up_lt (up_lt (up_lt (up_lt bCo hp31) hp36) hp41) hp46) _)) (by omega) _ _ _ hP hD hS (lv_sub hl [0, 1, 3, 4, 5, 6, 7] rfl)
                · refine lv_iconst (v := nI 1) hx hb d_Mod_read_220 (by decide) ?_
                  refine lv_goto (tgt := 225) hx hb d_Mod_read_221 (by decide) ?_
                  refine lv_istore (lv' := [(5, .int (nI 1)), (7, .int (nI ((u48 / 2 ^ (6 - (2 * (k % 4)))) % 4))), (4, .int (nI u48)), (6, .int (nI k)), (3, .int (nI 4)), (0, .ref mo), (1, .int (nI v)), (2, .int (nI 4))]) hx hb d_Mod_read_225 hl (by decide) rfl (fun ls hl => ?_)
                  refine lv_aload_n hx hb d_Mod_read_227 rfl (lv_at hl 5 rfl) ?_
                  refine va_get (D := D) (ci := 9) (v := .ref rti) (C := "TileScreenModel") (T := F_Mod) (N := 27) hx hb htb i_Mod hown hG.1 hP 0 rfl rfl 20 (by decide) (htb _ k_655) (fun _ h9 => h9) rfl d_Mod_read_228 ?_
                  refine lv_iload hx hb d_Mod_read_231 (lv_at hl 3 rfl) ?_
                  refine lv_iload_n hx hb d_Mod_read_233 rfl (lv_at hl 7 rfl) ?_
                  refine lv_bipush (v := nI 6) hx hb d_Mod_read_234 (by decide) ?_
                  refine nv_icmp_ne (tgt := 247) hx hb d_Mod_read_236 (by decide) (by omega) (by omega) (fun _ => ?_) (fun h9 => absurd h9 (by decide))
                  refine lv_aload_n hx hb d_Mod_read_247 rfl (lv_at hl 5 rfl) ?_
                  refine va_get (D := D) (ci := 9) (v := .ref rcl) (C := "TileScreenModel") (T := F_Mod) (N := 27) hx hb htb i_Mod hown hG.1 hP 0 rfl rfl 22 (by decide) (htb _ k_657) (fun _ h9 => h9) rfl d_Mod_read_248 ?_
                  refine lv_iload hx hb d_Mod_read_251 (lv_at hl 1 rfl) ?_
                  refine nv_iald hx hb hG.1 hP 5 0 rfl rfl (m_lt (show 4 ≤ 64 by decide) (by decide)) (by omega) d_Mod_read_253 ?_
                  refine nv_iast hx hb hG.1 hP hD hS 4 0 rfl rfl (by omega) (by omega) d_Mod_read_254 (fun H locs hP hD hS => ?_)
                  have hP : va_P D classes [(mo, .inr (9, [.int cd, .ref rpx, .int nb, .ref rca, .ref rpl, .ref rth, .ref rco, .ref rsh, .ref rsf, .ref rcr, .ref rep, .ref rby, .ref rli, .ref rls, .ref rla, .ref rcm, .ref rcs, .ref rpa, .ref rpm, .ref rpo, .ref rti, .ref rre, .ref rcl, .int (nI sz), .int (nI cs), .int (nI (nx1 + 1)), .int (nI la)])), (rpx, .inl (cI, 30720, .inl (nF Px))), (rth, .inl (cZ, 96, .inl (nF Th))), (rca, .inl (cI, 6144, .inl (nF Ca))), (rti, .inl (cI, 64, .inl (nF (up Ti1 k ((up (up (up (up Co 0 u27) 1 u32) 2 u37) 3 u42) ((u48 / 2 ^ (6 - (2 * (k % 4)))) % 4)))))), (rcl, .inl (cI, 64, .inl (nF (up (up (up (up Co 0 u27) 1 u32) 2 u37) 3 u42)))), (rcm, .inl (cI, 18741, .inl (nF Cm)))] H := hP
                  have hD : va_D AA [(mo, .inr (9, [.int cd, .ref rpx, .int nb, .ref rca, .ref rpl, .ref rth, .ref rco, .ref rsh, .ref rsf, .ref rcr, .ref rep, .ref rby, .ref rli, .ref rls, .ref rla, .ref rcm, .ref rcs, .ref rpa, .ref rpm, .ref rpo, .ref rti, .ref rre, .ref rcl, .int (nI sz), .int (nI cs), .int (nI (nx1 + 1)), .int (nI la)])), (rpx, .inl (cI, 30720, .inl (nF Px))), (rth, .inl (cZ, 96, .inl (nF Th))), (rca, .inl (cI, 6144, .inl (nF Ca))), (rti, .inl (cI, 64, .inl (nF (up Ti1 k ((up (up (up (up Co 0 u27) 1 u32) 2 u37) 3 u42) ((u48 / 2 ^ (6 - (2 * (k % 4)))) % 4)))))), (rcl, .inl (cI, 64, .inl (nF (up (up (up (up Co 0 u27) 1 u32) 2 u37) 3 u42)))), (rcm, .inl (cI, 18741, .inl (nF Cm)))] := hD
                  refine lv_iinc (v := (nI (k + 1))) (lv' := [(6, .int (nI (k + 1))), (5, .int (nI 1)), (7, .int (nI ((u48 / 2 ^ (6 - (2 * (k % 4)))) % 4))), (4, .int (nI u48)), (3, .int (nI 4)), (0, .ref mo), (1, .int (nI v)), (2, .int (nI 4))]) hx hb d_Mod_read_255 hl (k := 3) rfl (nI_add k 1) (by decide) rfl (fun ls hl => ?_)
                  refine lv_goto (tgt := 124) hx hb d_Mod_read_258 (by decide) ?_
                  exact ih124 (k + 1) u48 1 (nx1 + 1) (up Ti1 k ((up (up (up (up Co 0 u27) 1 u32) 2 u37) 3 u42) ((u48 / 2 ^ (6 - (2 * (k % 4)))) % 4))) (by omega) (hp52) (by decide) (by omega) (by omega) (up_lt bT1 ((up_lt (up_lt (up_lt (up_lt bCo hp31) hp36) hp41) hp46) _)) (by omega) _ _ _ hP hD hS (lv_sub hl [0, 1, 3, 4, 5, 6, 7] rfl)
      exact lp_124 _ 0 0 1 (((((nx + 1) + 2) + 2) + 2) + 2) Ti (Nat.zero_le _) (by decide) (by decide) (by omega) (by omega) (bTi) (Nat.lt_succ_self _) _ _ _ hP hD hS (lv_sub hl [0, 1, 2, 3, 4, 5, 6] rfl)
    · refine lv_iconst (v := nI 0) hx hb d_Mod_read_39 (by decide) ?_
      have hR := hret ((nI 0)) (0, nx + 1, Ti, Co) H locs 40 ls d_Mod_read_40 (by first | rfl | decide)
      try dsimp only at hR
      exact hR (⟨rfl, by decide, by omega, by omega, bTi, bCo⟩) hP hD hS
set_option maxHeartbeats 4000000 in
set_option maxRecDepth 100000 in
theorem c_Mod_read5 (mo : Nat) (cd : Int32) (rpx : Nat) (nb : Int32) (rca : Nat) (rpl : Nat) (rth : Nat) (rco : Nat) (rsh : Nat) (rsf : Nat) (rcr : Nat) (rep : Nat) (rby : Nat) (rli : Nat) (rls : Nat) (rla : Nat) (rcm : Nat) (rcs : Nat) (rpa : Nat) (rpm : Nat) (rpo : Nat) (rti : Nat) (rre : Nat) (rcl : Nat) (sz : Nat) (cs : Nat) (nx : Nat) (la : Nat) (Px : Nat → Nat) (Th : Nat → Nat) (Ca : Nat → Nat) (Ti : Nat → Nat) (Co : Nat → Nat) (Cm : Nat → Nat) (v : Nat) (hv : v < 3) (bPx : ∀ j, Px j < 65536) (bTh : ∀ j, Th j < 2) (bCa : ∀ j, Ca j < 65536) (bTi : ∀ j, Ti j < 65536) (bCo : ∀ j, Co j < 65536) (bCm : ∀ j, Cm j < 256) (hnx : nx ≤ 10000) (hla : la ≤ 6247) : CI (S := Nat × Nat × (Nat → Nat) × (Nat → Nat)) l classes NW D (TYS cI cZ cL cV) y_Mod_read (.code y_Mod_read b_Mod_read 8 (some .boolean) :: TB) { frames := 3, cells := 0, slots := 0, locals := 90 } [.ref mo, .int (nI v), .int (nI 5)] [(mo, .inr (9, [.int cd, .ref rpx, .int nb, .ref rca, .ref rpl, .ref rth, .ref rco, .ref rsh, .ref rsf, .ref rcr, .ref rep, .ref rby, .ref rli, .ref rls, .ref rla, .ref rcm, .ref rcs, .ref rpa, .ref rpm, .ref rpo, .ref rti, .ref rre, .ref rcl, .int (nI sz), .int (nI cs), .int (nI nx), .int (nI la)])), (rpx, .inl (cI, 30720, .inl (nF Px))), (rth, .inl (cZ, 96, .inl (nF Th))), (rca, .inl (cI, 6144, .inl (nF Ca))), (rti, .inl (cI, 64, .inl (nF Ti))), (rcl, .inl (cI, 64, .inl (nF Co))), (rcm, .inl (cI, 18741, .inl (nF Cm)))] (fun r u => r = nI u.1 ∧ u.1 ≤ 1 ∧ nx ≤ u.2.1 ∧ u.2.1 ≤ nx + 2100 ∧ (∀ j, u.2.2.1 j < 65536) ∧ (∀ j, u.2.2.2 j < 65536)) (fun u => [(mo, .inr (9, [.int cd, .ref rpx, .int nb, .ref rca, .ref rpl, .ref rth, .ref rco, .ref rsh, .ref rsf, .ref rcr, .ref rep, .ref rby, .ref rli, .ref rls, .ref rla, .ref rcm, .ref rcs, .ref rpa, .ref rpm, .ref rpo, .ref rti, .ref rre, .ref rcl, .int (nI sz), .int (nI cs), .int (nI u.2.1), .int (nI la)])), (rpx, .inl (cI, 30720, .inl (nF Px))), (rth, .inl (cZ, 96, .inl (nF Th))), (rca, .inl (cI, 6144, .inl (nF Ca))), (rti, .inl (cI, 64, .inl (nF u.2.2.1))), (rcl, .inl (cI, 64, .inl (nF u.2.2.2))), (rcm, .inl (cI, 18741, .inl (nF Cm)))]) := by
  refine CI.of (by decide) (Nat.le_of_ble_eq_true rfl) ?_
  intro pr ev sT mM aR bW mE cO AA QQ ls Bd hG hA hP hD hS hl hret
  have Bd : bd pr cO b_Mod_read 8 sT aR TB "TileScreenModel" mM := Bd
  obtain ⟨hx, hb, hml, hown, htb⟩ := id Bd
  have hl : lv_has ls 8 [(0, .ref mo), (1, .int (nI v)), (2, .int (nI 5))] := hl
  refine lv_iload_n hx hb d_Mod_read_0 rfl (lv_at hl 2 rfl) ?_
  refine lv_iconst (v := nI 4) hx hb d_Mod_read_1 (by decide) ?_
  refine nv_icmp_ne (tgt := 13) hx hb d_Mod_read_2 (by decide) (by omega) (by omega) (fun _ => ?_) (fun h9 => absurd h9 (by decide))
  refine lv_iload_n hx hb d_Mod_read_13 rfl (lv_at hl 2 rfl) ?_
  refine lv_iconst (v := nI 3) hx hb d_Mod_read_14 (by decide) ?_
  refine nv_icmp_ne (tgt := 22) hx hb d_Mod_read_15 (by decide) (by omega) (by omega) (fun _ => ?_) (fun h9 => absurd h9 (by decide))
  refine lv_iconst (v := nI 1) hx hb d_Mod_read_22 (by decide) ?_
  refine lv_istore_n (lv' := [(3, .int (nI 1)), (0, .ref mo), (1, .int (nI v)), (2, .int (nI 5))]) hx hb d_Mod_read_23 rfl hl (by decide) rfl (fun ls hl => ?_)
  refine lv_iload_n hx hb d_Mod_read_24 rfl (lv_at hl 3 rfl) ?_
  refine lv_iconst (v := nI 4) hx hb d_Mod_read_25 (by decide) ?_
  refine nv_icmp_ne (tgt := 41) hx hb d_Mod_read_26 (by decide) (by omega) (by omega) (fun _ => ?_) (fun h9 => absurd h9 (by decide))
  refine lv_iload_n hx hb d_Mod_read_41 rfl (lv_at hl 3 rfl) ?_
  refine nv_if_eq (tgt := 55) hx hb d_Mod_read_42 (by decide) (by decide) (fun h9 => absurd h9 (by decide)) (fun _ => ?_)
  refine lv_iload_n hx hb d_Mod_read_45 rfl (lv_at hl 3 rfl) ?_
  refine lv_iconst (v := nI 3) hx hb d_Mod_read_46 (by decide) ?_
  refine nv_icmp_eq (tgt := 55) hx hb d_Mod_read_47 (by decide) (by omega) (by omega) (fun h9 => absurd h9 (by decide)) (fun _ => ?_)
  refine lv_iload_n hx hb d_Mod_read_50 rfl (lv_at hl 3 rfl) ?_
  refine lv_iconst (v := nI 4) hx hb d_Mod_read_51 (by decide) ?_
  refine nv_icmp_ne (tgt := 82) hx hb d_Mod_read_52 (by decide) (by omega) (by omega) (fun _ => ?_) (fun h9 => absurd h9 (by decide))
  refine lv_iload_n hx hb d_Mod_read_82 rfl (lv_at hl 3 rfl) ?_
  refine lv_iconst (v := nI 1) hx hb d_Mod_read_83 (by decide) ?_
  refine nv_icmp_eq (tgt := 92) hx hb d_Mod_read_84 (by decide) (by omega) (by omega) (fun h9 => absurd h9 (by decide)) (fun _ => ?_)
  refine lv_iload_n hx hb d_Mod_read_87 rfl (lv_at hl 3 rfl) ?_
  refine lv_iconst (v := nI 2) hx hb d_Mod_read_88 (by decide) ?_
  refine nv_icmp_ne (tgt := 104) hx hb d_Mod_read_89 (by decide) (by omega) (by omega) (fun _ => ?_) (fun h9 => absurd h9 (by decide))
  refine lv_iload_n hx hb d_Mod_read_104 rfl (lv_at hl 3 rfl) ?_
  refine lv_iconst (v := nI 5) hx hb d_Mod_read_105 (by decide) ?_
  refine nv_icmp_ne (tgt := 115) hx hb d_Mod_read_106 (by decide) (by omega) (by omega) (fun h9 => absurd h9 (by decide)) (fun _ => ?_)
  refine lv_aload_n hx hb d_Mod_read_109 rfl (lv_at hl 1 rfl) ?_
  refine lv_iload_n hx hb d_Mod_read_110 rfl (lv_at hl 2 rfl) ?_
  refine kV_i (wc := [(mo, .inr (9, [.int cd, .ref rpx, .int nb, .ref rca, .ref rpl, .ref rth, .ref rco, .ref rsh, .ref rsf, .ref rcr, .ref rep, .ref rby, .ref rli, .ref rls, .ref rla, .ref rcm, .ref rcs, .ref rpa, .ref rpm, .ref rpo, .ref rti, .ref rre, .ref rcl, .int (nI sz), .int (nI cs), .int (nI nx), .int (nI la)])), (rti, .inl (cI, 64, .inl (nF Ti))), (rcm, .inl (cI, 18741, .inl (nF Cm)))]) (wr := [(rpx, .inl (cI, 30720, .inl (nF Px))), (rth, .inl (cZ, 96, .inl (nF Th))), (rca, .inl (cI, 6144, .inl (nF Ca))), (rcl, .inl (cI, 64, .inl (nF Co)))]) (w2 := fun u => [(mo, .inr (9, [.int cd, .ref rpx, .int nb, .ref rca, .ref rpl, .ref rth, .ref rco, .ref rsh, .ref rsf, .ref rcr, .ref rep, .ref rby, .ref rli, .ref rls, .ref rla, .ref rcm, .ref rcs, .ref rpa, .ref rpm, .ref rpo, .ref rti, .ref rre, .ref rcl, .int (nI sz), .int (nI cs), .int (nI u.2.1), .int (nI la)])), (rpx, .inl (cI, 30720, .inl (nF Px))), (rth, .inl (cZ, 96, .inl (nF Th))), (rca, .inl (cI, 6144, .inl (nF Ca))), (rti, .inl (cI, 64, .inl (nF u.2.2))), (rcl, .inl (cI, 64, .inl (nF Co))), (rcm, .inl (cI, 18741, .inl (nF Cm)))]) [.int (nI v)] [] Bd ⟨gi_app (gi_c0 k_849 (gi_c0 k_851 (gi_c0 s_43 (gi_c0 k_10 gi_nil)))) (gi_tb0 k_852), rfl, by decide, by decide⟩ (show (parseMethodDescriptor "(I)Z").map (fun d => d.parameters.length) = some 1 by decide +kernel) (c_Mod_readRuns mo cd rpx nb rca rpl rth rco rsh rsf rcr rep rby rli rls rla rcm rcs rpa rpm rpo rti rre rcl sz cs nx la Ti Cm v (by omega) (bTi) (bCm) (by omega) (by omega)) (by decide +kernel) ⟨Nat.le_of_ble_eq_true rfl, Nat.le_of_ble_eq_true rfl⟩ hG hP hD hS hA [0, 4, 6] [1, 2, 3, 5] [4, 0, 1, 2, 5, 3, 6] (by decide) rfl rfl (fun _ => rfl) (q0 := 0) rfl rfl rfl hl.1 rfl (Nat.le_of_ble_eq_true rfl) d_Mod_read_111 (fun r4 u6 H locs hp5 hP hD hS => ?_)
  obtain ⟨u1, u2, u3⟩ := u6
  try dsimp only at hp5
  have hP : va_P D classes [(mo, .inr (9, [.int cd, .ref rpx, .int nb, .ref rca, .ref rpl, .ref rth, .ref rco, .ref rsh, .ref rsf, .ref rcr, .ref rep, .ref rby, .ref rli, .ref rls, .ref rla, .ref rcm, .ref rcs, .ref rpa, .ref rpm, .ref rpo, .ref rti, .ref rre, .ref rcl, .int (nI sz), .int (nI cs), .int (nI u2), .int (nI la)])), (rpx, .inl (cI, 30720, .inl (nF Px))), (rth, .inl (cZ, 96, .inl (nF Th))), (rca, .inl (cI, 6144, .inl (nF Ca))), (rti, .inl (cI, 64, .inl (nF u3))), (rcl, .inl (cI, 64, .inl (nF Co))), (rcm, .inl (cI, 18741, .inl (nF Cm)))] H := hP
  have hD : va_D AA [(mo, .inr (9, [.int cd, .ref rpx, .int nb, .ref rca, .ref rpl, .ref rth, .ref rco, .ref rsh, .ref rsf, .ref rcr, .ref rep, .ref rby, .ref rli, .ref rls, .ref rla, .ref rcm, .ref rcs, .ref rpa, .ref rpm, .ref rpo, .ref rti, .ref rre, .ref rcl, .int (nI sz), .int (nI cs), .int (nI u2), .int (nI la)])), (rpx, .inl (cI, 30720, .inl (nF Px))), (rth, .inl (cZ, 96, .inl (nF Th))), (rca, .inl (cI, 6144, .inl (nF Ca))), (rti, .inl (cI, 64, .inl (nF u3))), (rcl, .inl (cI, 64, .inl (nF Co))), (rcm, .inl (cI, 18741, .inl (nF Cm)))] := hD
  obtain ⟨rfl, hp7⟩ := hp5
  obtain ⟨h8, h9, h10, h11⟩ := hp7
  have hR := hret ((nI u1)) (u1, u2, u3, Co) H locs 114 ls d_Mod_read_114 (nar_b1 h8)
  try dsimp only at hR
  exact hR (⟨rfl, h8, by omega, by omega, h11, bCo⟩) hP hD hS
set_option maxHeartbeats 4000000 in
set_option maxRecDepth 100000 in
theorem c_Mod_read6 (mo : Nat) (cd : Int32) (rpx : Nat) (nb : Int32) (rca : Nat) (rpl : Nat) (rth : Nat) (rco : Nat) (rsh : Nat) (rsf : Nat) (rcr : Nat) (rep : Nat) (rby : Nat) (rli : Nat) (rls : Nat) (rla : Nat) (rcm : Nat) (rcs : Nat) (rpa : Nat) (rpm : Nat) (rpo : Nat) (rti : Nat) (rre : Nat) (rcl : Nat) (sz : Nat) (cs : Nat) (nx : Nat) (la : Nat) (Px : Nat → Nat) (Th : Nat → Nat) (Ca : Nat → Nat) (Ti : Nat → Nat) (Co : Nat → Nat) (Cm : Nat → Nat) (v : Nat) (hv : v < 3) (bPx : ∀ j, Px j < 65536) (bTh : ∀ j, Th j < 2) (bCa : ∀ j, Ca j < 65536) (bTi : ∀ j, Ti j < 65536) (bCo : ∀ j, Co j < 65536) (bCm : ∀ j, Cm j < 256) (hnx : nx ≤ 10000) (hla : la ≤ 6247) : CI (S := Nat × Nat × (Nat → Nat) × (Nat → Nat)) l classes NW D (TYS cI cZ cL cV) y_Mod_read (.code y_Mod_read b_Mod_read 8 (some .boolean) :: TB) { frames := 3, cells := 0, slots := 0, locals := 90 } [.ref mo, .int (nI v), .int (nI 6)] [(mo, .inr (9, [.int cd, .ref rpx, .int nb, .ref rca, .ref rpl, .ref rth, .ref rco, .ref rsh, .ref rsf, .ref rcr, .ref rep, .ref rby, .ref rli, .ref rls, .ref rla, .ref rcm, .ref rcs, .ref rpa, .ref rpm, .ref rpo, .ref rti, .ref rre, .ref rcl, .int (nI sz), .int (nI cs), .int (nI nx), .int (nI la)])), (rpx, .inl (cI, 30720, .inl (nF Px))), (rth, .inl (cZ, 96, .inl (nF Th))), (rca, .inl (cI, 6144, .inl (nF Ca))), (rti, .inl (cI, 64, .inl (nF Ti))), (rcl, .inl (cI, 64, .inl (nF Co))), (rcm, .inl (cI, 18741, .inl (nF Cm)))] (fun r u => r = nI u.1 ∧ u.1 ≤ 1 ∧ nx ≤ u.2.1 ∧ u.2.1 ≤ nx + 2100 ∧ (∀ j, u.2.2.1 j < 65536) ∧ (∀ j, u.2.2.2 j < 65536)) (fun u => [(mo, .inr (9, [.int cd, .ref rpx, .int nb, .ref rca, .ref rpl, .ref rth, .ref rco, .ref rsh, .ref rsf, .ref rcr, .ref rep, .ref rby, .ref rli, .ref rls, .ref rla, .ref rcm, .ref rcs, .ref rpa, .ref rpm, .ref rpo, .ref rti, .ref rre, .ref rcl, .int (nI sz), .int (nI cs), .int (nI u.2.1), .int (nI la)])), (rpx, .inl (cI, 30720, .inl (nF Px))), (rth, .inl (cZ, 96, .inl (nF Th))), (rca, .inl (cI, 6144, .inl (nF Ca))), (rti, .inl (cI, 64, .inl (nF u.2.2.1))), (rcl, .inl (cI, 64, .inl (nF u.2.2.2))), (rcm, .inl (cI, 18741, .inl (nF Cm)))]) := by
  refine CI.of (by decide) (Nat.le_of_ble_eq_true rfl) ?_
  intro pr ev sT mM aR bW mE cO AA QQ ls Bd hG hA hP hD hS hl hret
  have Bd : bd pr cO b_Mod_read 8 sT aR TB "TileScreenModel" mM := Bd
  obtain ⟨hx, hb, hml, hown, htb⟩ := id Bd
  have hl : lv_has ls 8 [(0, .ref mo), (1, .int (nI v)), (2, .int (nI 6))] := hl
  refine lv_iload_n hx hb d_Mod_read_0 rfl (lv_at hl 2 rfl) ?_
  refine lv_iconst (v := nI 4) hx hb d_Mod_read_1 (by decide) ?_
  refine nv_icmp_ne (tgt := 13) hx hb d_Mod_read_2 (by decide) (by omega) (by omega) (fun _ => ?_) (fun h9 => absurd h9 (by decide))
  refine lv_iload_n hx hb d_Mod_read_13 rfl (lv_at hl 2 rfl) ?_
  refine lv_iconst (v := nI 3) hx hb d_Mod_read_14 (by decide) ?_
  refine nv_icmp_ne (tgt := 22) hx hb d_Mod_read_15 (by decide) (by omega) (by omega) (fun _ => ?_) (fun h9 => absurd h9 (by decide))
  refine lv_iconst (v := nI 1) hx hb d_Mod_read_22 (by decide) ?_
  refine lv_istore_n (lv' := [(3, .int (nI 1)), (0, .ref mo), (1, .int (nI v)), (2, .int (nI 6))]) hx hb d_Mod_read_23 rfl hl (by decide) rfl (fun ls hl => ?_)
  refine lv_iload_n hx hb d_Mod_read_24 rfl (lv_at hl 3 rfl) ?_
  refine lv_iconst (v := nI 4) hx hb d_Mod_read_25 (by decide) ?_
  refine nv_icmp_ne (tgt := 41) hx hb d_Mod_read_26 (by decide) (by omega) (by omega) (fun _ => ?_) (fun h9 => absurd h9 (by decide))
  refine lv_iload_n hx hb d_Mod_read_41 rfl (lv_at hl 3 rfl) ?_
  refine nv_if_eq (tgt := 55) hx hb d_Mod_read_42 (by decide) (by decide) (fun h9 => absurd h9 (by decide)) (fun _ => ?_)
  refine lv_iload_n hx hb d_Mod_read_45 rfl (lv_at hl 3 rfl) ?_
  refine lv_iconst (v := nI 3) hx hb d_Mod_read_46 (by decide) ?_
  refine nv_icmp_eq (tgt := 55) hx hb d_Mod_read_47 (by decide) (by omega) (by omega) (fun h9 => absurd h9 (by decide)) (fun _ => ?_)
  refine lv_iload_n hx hb d_Mod_read_50 rfl (lv_at hl 3 rfl) ?_
  refine lv_iconst (v := nI 4) hx hb d_Mod_read_51 (by decide) ?_
  refine nv_icmp_ne (tgt := 82) hx hb d_Mod_read_52 (by decide) (by omega) (by omega) (fun _ => ?_) (fun h9 => absurd h9 (by decide))
  refine lv_iload_n hx hb d_Mod_read_82 rfl (lv_at hl 3 rfl) ?_
  refine lv_iconst (v := nI 1) hx hb d_Mod_read_83 (by decide) ?_
  refine nv_icmp_eq (tgt := 92) hx hb d_Mod_read_84 (by decide) (by omega) (by omega) (fun h9 => absurd h9 (by decide)) (fun _ => ?_)
  refine lv_iload_n hx hb d_Mod_read_87 rfl (lv_at hl 3 rfl) ?_
  refine lv_iconst (v := nI 2) hx hb d_Mod_read_88 (by decide) ?_
  refine nv_icmp_ne (tgt := 104) hx hb d_Mod_read_89 (by decide) (by omega) (by omega) (fun _ => ?_) (fun h9 => absurd h9 (by decide))
  refine lv_iload_n hx hb d_Mod_read_104 rfl (lv_at hl 3 rfl) ?_
  refine lv_iconst (v := nI 5) hx hb d_Mod_read_105 (by decide) ?_
  refine nv_icmp_ne (tgt := 115) hx hb d_Mod_read_106 (by decide) (by omega) (by omega) (fun _ => ?_) (fun h9 => absurd h9 (by decide))
  refine lv_iconst (v := nI 0) hx hb d_Mod_read_115 (by decide) ?_
  refine lv_istore (lv' := [(4, .int (nI 0)), (3, .int (nI 1)), (0, .ref mo), (1, .int (nI v)), (2, .int (nI 6))]) hx hb d_Mod_read_116 hl (by decide) rfl (fun ls hl => ?_)
  refine lv_iconst (v := nI 1) hx hb d_Mod_read_118 (by decide) ?_
  refine lv_istore (lv' := [(5, .int (nI 1)), (4, .int (nI 0)), (3, .int (nI 1)), (0, .ref mo), (1, .int (nI v)), (2, .int (nI 6))]) hx hb d_Mod_read_119 hl (by decide) rfl (fun ls hl => ?_)
  refine lv_iconst (v := nI 0) hx hb d_Mod_read_121 (by decide) ?_
  refine lv_istore (lv' := [(6, .int (nI 0)), (5, .int (nI 1)), (4, .int (nI 0)), (3, .int (nI 1)), (0, .ref mo), (1, .int (nI v)), (2, .int (nI 6))]) hx hb d_Mod_read_122 hl (by decide) rfl (fun ls hl => ?_)
  have lp_124 : ∀ (nn : Nat) (k : Nat) (b1 : Nat) (g1 : Nat) (nx1 : Nat) (Ti1 : Nat → Nat) (hk : k ≤ 64) (hb1 : b1 < 256) (hg1 : g1 ≤ 1) (hn1 : nx1 ≤ nx + 3 * k) (hn2 : nx ≤ nx1) (bT1 : ∀ j, Ti1 j < 65536), 64 - k < nn → ∀ (H : Heap) (locs : List Loc) (ls : Array Slot), va_P D classes [(mo, .inr (9, [.int cd, .ref rpx, .int nb, .ref rca, .ref rpl, .ref rth, .ref rco, .ref rsh, .ref rsf, .ref rcr, .ref rep, .ref rby, .ref rli, .ref rls, .ref rla, .ref rcm, .ref rcs, .ref rpa, .ref rpm, .ref rpo, .ref rti, .ref rre, .ref rcl, .int (nI sz), .int (nI cs), .int (nI nx1), .int (nI la)])), (rpx, .inl (cI, 30720, .inl (nF Px))), (rth, .inl (cZ, 96, .inl (nF Th))), (rca, .inl (cI, 6144, .inl (nF Ca))), (rti, .inl (cI, 64, .inl (nF Ti1))), (rcl, .inl (cI, 64, .inl (nF Co))), (rcm, .inl (cI, 18741, .inl (nF Cm)))] H → va_D AA [(mo, .inr (9, [.int cd, .ref rpx, .int nb, .ref rca, .ref rpl, .ref rth, .ref rco, .ref rsh, .ref rsf, .ref rcr, .ref rep, .ref rby, .ref rli, .ref rls, .ref rla, .ref rcm, .ref rcs, .ref rpa, .ref rpm, .ref rpo, .ref rti, .ref rre, .ref rcl, .int (nI sz), .int (nI cs), .int (nI nx1), .int (nI la)])), (rpx, .inl (cI, 30720, .inl (nF Px))), (rth, .inl (cZ, 96, .inl (nF Th))), (rca, .inl (cI, 6144, .inl (nF Ca))), (rti, .inl (cI, 64, .inl (nF Ti1))), (rcl, .inl (cI, 64, .inl (nF Co))), (rcm, .inl (cI, 18741, .inl (nF Cm)))] → va_S AA sT.heap H locs → lv_has ls 8 [(6, .int (nI k)), (5, .int (nI g1)), (4, .int (nI b1)), (3, .int (nI 1)), (0, .ref mo), (1, .int (nI v)), (2, .int (nI 6))] → W pr l ev ({ frames := 3, cells := 0, slots := 0, locals := 90 } : Room) sT mM aR bW mE cO H locs 0 0 QQ (F0 mM 124 ls []) := by
    intro nn
    induction nn with
    | zero => intro k b1 g1 nx1 Ti1 hk hb1 hg1 hn1 hn2 bT1 hm; exact absurd hm (Nat.not_lt_zero _)
    | succ nn ih124 =>
      intro k b1 g1 nx1 Ti1 hk hb1 hg1 hn1 hn2 bT1 hm H locs ls hP hD hS hl
      refine lv_iload hx hb d_Mod_read_124 (lv_at hl 0 rfl) ?_
      refine lv_bipush (v := nI 64) hx hb d_Mod_read_126 (by decide) ?_
      refine nv_icmp_ge (tgt := 261) hx hb d_Mod_read_128 (by decide) (by omega) (by omega) (fun c_128 => ?_) (fun c_128 => ?_)
      · refine lv_iload hx hb d_Mod_read_261 (lv_at hl 1 rfl) ?_
        refine nv_if_eq (tgt := 281) hx hb d_Mod_read_263 (by decide) (by omega) (fun c_263 => ?_) (fun c_263 => ?_)
        · refine lv_iconst (v := nI 0) hx hb d_Mod_read_281 (by decide) ?_
          have hR := hret ((nI 0)) (0, nx1, Ti1, Co) H locs 282 ls d_Mod_read_282 (by first | rfl | decide)
          try dsimp only at hR
          exact hR (⟨rfl, by decide, by omega, by omega, bT1, bCo⟩) hP hD hS
        · refine lv_aload_n hx hb d_Mod_read_266 rfl (lv_at hl 4 rfl) ?_
          refine va_get (D := D) (ci := 9) (v := .int (nI nx1)) (C := "TileScreenModel") (T := F_Mod) (N := 27) hx hb htb i_Mod hown hG.1 hP 0 rfl rfl 25 (by decide) (htb _ k_660) (fun _ h9 => h9) rfl d_Mod_read_267 ?_
          refine lv_aload_n hx hb d_Mod_read_270 rfl (lv_at hl 4 rfl) ?_
          refine va_get (D := D) (ci := 9) (v := .int (nI la)) (C := "TileScreenModel") (T := F_Mod) (N := 27) hx hb htb i_Mod hown hG.1 hP 0 rfl rfl 26 (by decide) (htb _ k_661) (fun _ h9 => h9) rfl d_Mod_read_271 ?_
          refine nv_icmp_gt (tgt := 281) hx hb d_Mod_read_274 (by decide) (by omega) (by omega) (fun c_274 => ?_) (fun c_274 => ?_)
          · refine lv_iconst (v := nI 0) hx hb d_Mod_read_281 (by decide) ?_
            have hR := hret ((nI 0)) (0, nx1, Ti1, Co) H locs 282 ls d_Mod_read_282 (by first | rfl | decide)
            try dsimp only at hR
            exact hR (⟨rfl, by decide, by omega, by omega, bT1, bCo⟩) hP hD hS
          · refine lv_iconst (v := nI 1) hx hb d_Mod_read_277 (by decide) ?_
            refine lv_goto (tgt := 282) hx hb d_Mod_read_278 (by decide) ?_
            have hR := hret ((nI 1)) (1, nx1, Ti1, Co) H locs 282 ls d_Mod_read_282 (by first | rfl | decide)
            try dsimp only at hR
            exact hR (⟨rfl, by decide, by omega, by omega, bT1, bCo⟩) hP hD hS
      · refine lv_iload_n hx hb d_Mod_read_131 rfl (lv_at hl 6 rfl) ?_
        refine lv_iconst (v := nI 3) hx hb d_Mod_read_132 (by decide) ?_
        refine nv_icmp_ne (tgt := 144) hx hb d_Mod_read_133 (by decide) (by omega) (by omega) (fun _ => ?_) (fun h9 => absurd h9 (by decide))
        refine lv_iload_n hx hb d_Mod_read_144 rfl (lv_at hl 6 rfl) ?_
        refine lv_iconst (v := nI 4) hx hb d_Mod_read_145 (by decide) ?_
        refine nv_icmp_ne (tgt := 163) hx hb d_Mod_read_146 (by decide) (by omega) (by omega) (fun _ => ?_) (fun h9 => absurd h9 (by decide))
        refine lv_iload_n hx hb d_Mod_read_163 rfl (lv_at hl 6 rfl) ?_
        refine lv_iconst (v := nI 3) hx hb d_Mod_read_164 (by decide) ?_
        refine nv_icmp_ne (tgt := 184) hx hb d_Mod_read_165 (by decide) (by omega) (by omega) (fun _ => ?_) (fun h9 => absurd h9 (by decide))
        refine lv_iload_n hx hb d_Mod_read_184 rfl (lv_at hl 6 rfl) ?_
        refine lv_iconst (v := nI 4) hx hb d_Mod_read_185 (by decide) ?_
        refine nv_icmp_ne (tgt := 206) hx hb d_Mod_read_186 (by decide) (by omega) (by omega) (fun _ => ?_) (fun h9 => absurd h9 (by decide))
        refine lv_iconst (v := nI 0) hx hb d_Mod_read_206 (by decide) ?_
        refine lv_istore (lv' := [(7, .int (nI 0)), (6, .int (nI k)), (5, .int (nI g1)), (4, .int (nI b1)), (3, .int (nI 1)), (0, .ref mo), (1, .int (nI v)), (2, .int (nI 6))]) hx hb d_Mod_read_207 hl (by decide) rfl (fun ls hl => ?_)
        refine lv_iload hx hb d_Mod_read_209 (lv_at hl 2 rfl) ?_
        refine nv_if_eq (tgt := 224) hx hb d_Mod_read_211 (by decide) (by omega) (fun c_211 => ?_) (fun c_211 => ?_)
        · refine lv_iconst (v := nI 0) hx hb d_Mod_read_224 (by decide) ?_
          refine lv_istore (lv' := [(5, .int (nI 0)), (7, .int (nI 0)), (6, .int (nI k)), (4, .int (nI b1)), (3, .int (nI 1)), (0, .ref mo), (1, .int (nI v)), (2, .int (nI 6))]) hx hb d_Mod_read_225 hl (by decide) rfl (fun ls hl => ?_)
          refine lv_aload_n hx hb d_Mod_read_227 rfl (lv_at hl 5 rfl) ?_
          refine va_get (D := D) (ci := 9) (v := .ref rti) (C := "TileScreenModel") (T := F_Mod) (N := 27) hx hb htb i_Mod hown hG.1 hP 0 rfl rfl 20 (by decide) (htb _ k_655) (fun _ h9 => h9) rfl d_Mod_read_228 ?_
          refine lv_iload hx hb d_Mod_read_231 (lv_at hl 2 rfl) ?_
          refine lv_iload_n hx hb d_Mod_read_233 rfl (lv_at hl 7 rfl) ?_
          refine lv_bipush (v := nI 6) hx hb d_Mod_read_234 (by decide) ?_
          refine nv_icmp_ne (tgt := 247) hx hb d_Mod_read_236 (by decide) (by omega) (by omega) (fun h9 => absurd h9 (by decide)) (fun _ => ?_)
          refine lv_aload_n hx hb d_Mod_read_239 rfl (lv_at hl 5 rfl) ?_
          refine lv_iload_n hx hb d_Mod_read_240 rfl (lv_at hl 6 rfl) ?_
          refine kV_i (wc := [(mo, .inr (9, [.int cd, .ref rpx, .int nb, .ref rca, .ref rpl, .ref rth, .ref rco, .ref rsh, .ref rsf, .ref rcr, .ref rep, .ref rby, .ref rli, .ref rls, .ref rla, .ref rcm, .ref rcs, .ref rpa, .ref rpm, .ref rpo, .ref rti, .ref rre, .ref rcl, .int (nI sz), .int (nI cs), .int (nI nx1), .int (nI la)])), (rcm, .inl (cI, 18741, .inl (nF Cm)))]) (wr := [(rpx, .inl (cI, 30720, .inl (nF Px))), (rth, .inl (cZ, 96, .inl (nF Th))), (rca, .inl (cI, 6144, .inl (nF Ca))), (rti, .inl (cI, 64, .inl (nF Ti1))), (rcl, .inl (cI, 64, .inl (nF Co)))]) (w2 := fun u => [(mo, .inr (9, [.int cd, .ref rpx, .int nb, .ref rca, .ref rpl, .ref rth, .ref rco, .ref rsh, .ref rsf, .ref rcr, .ref rep, .ref rby, .ref rli, .ref rls, .ref rla, .ref rcm, .ref rcs, .ref rpa, .ref rpm, .ref rpo, .ref rti, .ref rre, .ref rcl, .int (nI sz), .int (nI cs), .int (nI (nx1 + 2)), .int (nI la)])), (rpx, .inl (cI, 30720, .inl (nF Px))), (rth, .inl (cZ, 96, .inl (nF Th))), (rca, .inl (cI, 6144, .inl (nF Ca))), (rti, .inl (cI, 64, .inl (nF Ti1))), (rcl, .inl (cI, 64, .inl (nF Co))), (rcm, .inl (cI, 18741, .inl (nF Cm)))]) [.int (nI v)] [.int (nI k), .ref rti] Bd ⟨gi_app (gi_c0 k_833 (gi_c0 k_835 (gi_c0 s_39 (gi_c0 k_10 gi_nil)))) (gi_tb0 k_836), rfl, by decide, by decide⟩ (show (parseMethodDescriptor "(I)I").map (fun d => d.parameters.length) = some 1 by decide +kernel) (c_Mod_getTwo mo cd rpx nb rca rpl rth rco rsh rsf rcr rep rby rli rls rla rcm rcs rpa rpm rpo rti rre rcl sz cs nx1 la Cm v (hv) (hla) (by omega) (bCm)) (by decide +kernel) ⟨Nat.le_of_ble_eq_true rfl, Nat.le_of_ble_eq_true rfl⟩ hG hP hD hS hA [0, 6] [1, 2, 3, 4, 5] [5, 0, 1, 2, 3, 4, 6] (by decide) rfl rfl (fun _ => rfl) (q0 := 0) rfl rfl rfl hl.1 rfl (Nat.le_of_ble_eq_true rfl) d_Mod_read_241 (fun r3 u5 H locs hp4 hP hD hS => ?_)
          obtain ⟨u2, rfl⟩ : ∃ z9, z9 = u5 := ⟨_, rfl⟩
          try dsimp only at hp4
          have hP : va_P D classes [(mo, .inr (9, [.int cd, .ref rpx, .int nb, .ref rca, .ref rpl, .ref rth, .ref rco, .ref rsh, .ref rsf, .ref rcr, .ref rep, .ref rby, .ref rli, .ref rls, .ref rla, .ref rcm, .ref rcs, .ref rpa, .ref rpm, .ref rpo, .ref rti, .ref rre, .ref rcl, .int (nI sz), .int (nI cs), .int (nI (nx1 + 2)), .int (nI la)])), (rpx, .inl (cI, 30720, .inl (nF Px))), (rth, .inl (cZ, 96, .inl (nF Th))), (rca, .inl (cI, 6144, .inl (nF Ca))), (rti, .inl (cI, 64, .inl (nF Ti1))), (rcl, .inl (cI, 64, .inl (nF Co))), (rcm, .inl (cI, 18741, .inl (nF Cm)))] H := hP
          have hD : va_D AA [(mo, .inr (9, [.int cd, .ref rpx, .int nb, .ref rca, .ref rpl, .ref rth, .ref rco, .ref rsh, .ref rsf, .ref rcr, .ref rep, .ref rby, .ref rli, .ref rls, .ref rla, .ref rcm, .ref rcs, .ref rpa, .ref rpm, .ref rpo, .ref rti, .ref rre, .ref rcl, .int (nI sz), .int (nI cs), .int (nI (nx1 + 2)), .int (nI la)])), (rpx, .inl (cI, 30720, .inl (nF Px))), (rth, .inl (cZ, 96, .inl (nF Th))), (rca, .inl (cI, 6144, .inl (nF Ca))), (rti, .inl (cI, 64, .inl (nF Ti1))), (rcl, .inl (cI, 64, .inl (nF Co))), (rcm, .inl (cI, 18741, .inl (nF Cm)))] := hD
          obtain ⟨rfl, hp6⟩ := hp4
          refine lv_goto (tgt := 254) hx hb d_Mod_read_244 (by decide) ?_
          refine nv_iast hx hb hG.1 hP hD hS 4 0 rfl rfl (by omega) (by omega) d_Mod_read_254 (fun H locs hP hD hS => ?_)
          have hP : va_P D classes [(mo, .inr (9, [.int cd, .ref rpx, .int nb, .ref rca, .ref rpl, .ref rth, .ref rco, .ref rsh, .ref rsf, .ref rcr, .ref rep, .ref rby, .ref rli, .ref rls, .ref rla, .ref rcm, .ref rcs, .ref rpa, .ref rpm, .ref rpo, .ref rti, .ref rre, .ref rcl, .int (nI sz), .int (nI cs), .int (nI (nx1 + 2)), .int (nI la)])), (rpx, .inl (cI, 30720, .inl (nF Px))), (rth, .inl (cZ, 96, .inl (nF Th))), (rca, .inl (cI, 6144, .inl (nF Ca))), (rti, .inl (cI, 64, .inl (nF (up Ti1 k u2)))), (rcl, .inl (cI, 64, .inl (nF Co))), (rcm, .inl (cI, 18741, .inl (nF Cm)))] H := hP
          have hD : va_D AA [(mo, .inr (9, [.int cd, .ref rpx, .int nb, .ref rca, .ref rpl, .ref rth, .ref rco, .ref rsh, .ref rsf, .ref rcr, .ref rep, .ref rby, .ref rli, .ref rls, .ref rla, .ref rcm, .ref rcs, .ref rpa, .ref rpm, .ref rpo, .ref rti, .ref rre, .ref rcl, .int (nI sz), .int (nI cs), .int (nI (nx1 + 2)), .int (nI la)])), (rpx, .inl (cI, 30720, .inl (nF Px))), (rth, .inl (cZ, 96, .inl (nF Th))), (rca, .inl (cI, 6144, .inl (nF Ca))), (rti, .inl (cI, 64, .inl (nF (up Ti1 k u2)))), (rcl, .inl (cI, 64, .inl (nF Co))), (rcm, .inl (cI, 18741, .inl (nF Cm)))] := hD
          refine lv_iinc (v := (nI (k + 1))) (lv' := [(6, .int (nI (k + 1))), (5, .int (nI 0)), (7, .int (nI 0)), (4, .int (nI b1)), (3, .int (nI 1)), (0, .ref mo), (1, .int (nI v)), (2, .int (nI 6))]) hx hb d_Mod_read_255 hl (k := 2) rfl (nI_add k 1) (by decide) rfl (fun ls hl => ?_)
          refine lv_goto (tgt := 124) hx hb d_Mod_read_258 (by decide) ?_
          exact ih124 (k + 1) b1 0 (nx1 + 2) (up Ti1 k u2) (by omega) (hb1) (by decide) (by omega) (by omega) (up_lt bT1 hp6) (by omega) _ _ _ hP hD hS (lv_sub hl [0, 1, 3, 4, 5, 6, 7] rfl)
        · refine lv_iload hx hb d_Mod_read_214 (lv_at hl 0 rfl) ?_
          refine lv_iload_n hx hb d_Mod_read_216 rfl (lv_at hl 4 rfl) ?_
          refine nv_icmp_ge (tgt := 224) hx hb d_Mod_read_217 (by decide) (by decide) (by omega) (fun h9 => absurd h9 (by decide)) (fun _ => ?_)
          refine lv_iconst (v := nI 1) hx hb d_Mod_read_220 (by decide) ?_
          refine lv_goto (tgt := 225) hx hb d_Mod_read_221 (by decide) ?_
          refine lv_istore (lv' := [(5, .int (nI 1)), (7, .int (nI 0)), (6, .int (nI k)), (4, .int (nI b1)), (3, .int (nI 1)), (0, .ref mo), (1, .int (nI v)), (2, .int (nI 6))]) hx hb d_Mod_read_225 hl (by decide) rfl (fun ls hl => ?_)
          refine lv_aload_n hx hb d_Mod_read_227 rfl (lv_at hl 5 rfl) ?_
          refine va_get (D := D) (ci := 9) (v := .ref rti) (C := "TileScreenModel") (T := F_Mod) (N := 27) hx hb htb i_Mod hown hG.1 hP 0 rfl rfl 20 (by decide) (htb _ k_655) (fun _ h9 => h9) rfl d_Mod_read_228 ?_
          refine lv_iload hx hb d_Mod_read_231 (lv_at hl 2 rfl) ?_
          refine lv_iload_n hx hb d_Mod_read_233 rfl (lv_at hl 7 rfl) ?_
          refine lv_bipush (v := nI 6) hx hb d_Mod_read_234 (by decide) ?_
          refine nv_icmp_ne (tgt := 247) hx hb d_Mod_read_236 (by decide) (by omega) (by omega) (fun h9 => absurd h9 (by decide)) (fun _ => ?_)
          refine lv_aload_n hx hb d_Mod_read_239 rfl (lv_at hl 5 rfl) ?_
          refine lv_iload_n hx hb d_Mod_read_240 rfl (lv_at hl 6 rfl) ?_
          refine kV_i (wc := [(mo, .inr (9, [.int cd, .ref rpx, .int nb, .ref rca, .ref rpl, .ref rth, .ref rco, .ref rsh, .ref rsf, .ref rcr, .ref rep, .ref rby, .ref rli, .ref rls, .ref rla, .ref rcm, .ref rcs, .ref rpa, .ref rpm, .ref rpo, .ref rti, .ref rre, .ref rcl, .int (nI sz), .int (nI cs), .int (nI nx1), .int (nI la)])), (rcm, .inl (cI, 18741, .inl (nF Cm)))]) (wr := [(rpx, .inl (cI, 30720, .inl (nF Px))), (rth, .inl (cZ, 96, .inl (nF Th))), (rca, .inl (cI, 6144, .inl (nF Ca))), (rti, .inl (cI, 64, .inl (nF Ti1))), (rcl, .inl (cI, 64, .inl (nF Co)))]) (w2 := fun u => [(mo, .inr (9, [.int cd, .ref rpx, .int nb, .ref rca, .ref rpl, .ref rth, .ref rco, .ref rsh, .ref rsf, .ref rcr, .ref rep, .ref rby, .ref rli, .ref rls, .ref rla, .ref rcm, .ref rcs, .ref rpa, .ref rpm, .ref rpo, .ref rti, .ref rre, .ref rcl, .int (nI sz), .int (nI cs), .int (nI (nx1 + 2)), .int (nI la)])), (rpx, .inl (cI, 30720, .inl (nF Px))), (rth, .inl (cZ, 96, .inl (nF Th))), (rca, .inl (cI, 6144, .inl (nF Ca))), (rti, .inl (cI, 64, .inl (nF Ti1))), (rcl, .inl (cI, 64, .inl (nF Co))), (rcm, .inl (cI, 18741, .inl (nF Cm)))]) [.int (nI v)] [.int (nI k), .ref rti] Bd ⟨gi_app (gi_c0 k_833 (gi_c0 k_835 (gi_c0 s_39 (gi_c0 k_10 gi_nil)))) (gi_tb0 k_836), rfl, by decide, by decide⟩ (show (parseMethodDescriptor "(I)I").map (fun d => d.parameters.length) = some 1 by decide +kernel) (c_Mod_getTwo mo cd rpx nb rca rpl rth rco rsh rsf rcr rep rby rli rls rla rcm rcs rpa rpm rpo rti rre rcl sz cs nx1 la Cm v (hv) (hla) (by omega) (bCm)) (by decide +kernel) ⟨Nat.le_of_ble_eq_true rfl, Nat.le_of_ble_eq_true rfl⟩ hG hP hD hS hA [0, 6] [1, 2, 3, 4, 5] [5, 0, 1, 2, 3, 4, 6] (by decide) rfl rfl (fun _ => rfl) (q0 := 0) rfl rfl rfl hl.1 rfl (Nat.le_of_ble_eq_true rfl) d_Mod_read_241 (fun r8 u10 H locs hp9 hP hD hS => ?_)
          obtain ⟨u7, rfl⟩ : ∃ z9, z9 = u10 := ⟨_, rfl⟩
          try dsimp only at hp9
          have hP : va_P D classes [(mo, .inr (9, [.int cd, .ref rpx, .int nb, .ref rca, .ref rpl, .ref rth, .ref rco, .ref rsh, .ref rsf, .ref rcr, .ref rep, .ref rby, .ref rli, .ref rls, .ref rla, .ref rcm, .ref rcs, .ref rpa, .ref rpm, .ref rpo, .ref rti, .ref rre, .ref rcl, .int (nI sz), .int (nI cs), .int (nI (nx1 + 2)), .int (nI la)])), (rpx, .inl (cI, 30720, .inl (nF Px))), (rth, .inl (cZ, 96, .inl (nF Th))), (rca, .inl (cI, 6144, .inl (nF Ca))), (rti, .inl (cI, 64, .inl (nF Ti1))), (rcl, .inl (cI, 64, .inl (nF Co))), (rcm, .inl (cI, 18741, .inl (nF Cm)))] H := hP
          have hD : va_D AA [(mo, .inr (9, [.int cd, .ref rpx, .int nb, .ref rca, .ref rpl, .ref rth, .ref rco, .ref rsh, .ref rsf, .ref rcr, .ref rep, .ref rby, .ref rli, .ref rls, .ref rla, .ref rcm, .ref rcs, .ref rpa, .ref rpm, .ref rpo, .ref rti, .ref rre, .ref rcl, .int (nI sz), .int (nI cs), .int (nI (nx1 + 2)), .int (nI la)])), (rpx, .inl (cI, 30720, .inl (nF Px))), (rth, .inl (cZ, 96, .inl (nF Th))), (rca, .inl (cI, 6144, .inl (nF Ca))), (rti, .inl (cI, 64, .inl (nF Ti1))), (rcl, .inl (cI, 64, .inl (nF Co))), (rcm, .inl (cI, 18741, .inl (nF Cm)))] := hD
          obtain ⟨rfl, hp11⟩ := hp9
          refine lv_goto (tgt := 254) hx hb d_Mod_read_244 (by decide) ?_
          refine nv_iast hx hb hG.1 hP hD hS 4 0 rfl rfl (by omega) (by omega) d_Mod_read_254 (fun H locs hP hD hS => ?_)
          have hP : va_P D classes [(mo, .inr (9, [.int cd, .ref rpx, .int nb, .ref rca, .ref rpl, .ref rth, .ref rco, .ref rsh, .ref rsf, .ref rcr, .ref rep, .ref rby, .ref rli, .ref rls, .ref rla, .ref rcm, .ref rcs, .ref rpa, .ref rpm, .ref rpo, .ref rti, .ref rre, .ref rcl, .int (nI sz), .int (nI cs), .int (nI (nx1 + 2)), .int (nI la)])), (rpx, .inl (cI, 30720, .inl (nF Px))), (rth, .inl (cZ, 96, .inl (nF Th))), (rca, .inl (cI, 6144, .inl (nF Ca))), (rti, .inl (cI, 64, .inl (nF (up Ti1 k u7)))), (rcl, .inl (cI, 64, .inl (nF Co))), (rcm, .inl (cI, 18741, .inl (nF Cm)))] H := hP
          have hD : va_D AA [(mo, .inr (9, [.int cd, .ref rpx, .int nb, .ref rca, .ref rpl, .ref rth, .ref rco, .ref rsh, .ref rsf, .ref rcr, .ref rep, .ref rby, .ref rli, .ref rls, .ref rla, .ref rcm, .ref rcs, .ref rpa, .ref rpm, .ref rpo, .ref rti, .ref rre, .ref rcl, .int (nI sz), .int (nI cs), .int (nI (nx1 + 2)), .int (nI la)])), (rpx, .inl (cI, 30720, .inl (nF Px))), (rth, .inl (cZ, 96, .inl (nF Th))), (rca, .inl (cI, 6144, .inl (nF Ca))), (rti, .inl (cI, 64, .inl (nF (up Ti1 k u7)))), (rcl, .inl (cI, 64, .inl (nF Co))), (rcm, .inl (cI, 18741, .inl (nF Cm)))] := hD
          refine lv_iinc (v := (nI (k + 1))) (lv' := [(6, .int (nI (k + 1))), (5, .int (nI 1)), (7, .int (nI 0)), (4, .int (nI b1)), (3, .int (nI 1)), (0, .ref mo), (1, .int (nI v)), (2, .int (nI 6))]) hx hb d_Mod_read_255 hl (k := 2) rfl (nI_add k 1) (by decide) rfl (fun ls hl => ?_)
          refine lv_goto (tgt := 124) hx hb d_Mod_read_258 (by decide) ?_
          exact ih124 (k + 1) b1 1 (nx1 + 2) (up Ti1 k u7) (by omega) (hb1) (by decide) (by omega) (by omega) (up_lt bT1 hp11) (by omega) _ _ _ hP hD hS (lv_sub hl [0, 1, 3, 4, 5, 6, 7] rfl)
  exact lp_124 _ 0 0 1 nx Ti (Nat.zero_le _) (by decide) (by decide) (by omega) (by omega) (bTi) (Nat.lt_succ_self _) _ _ _ hP hD hS (lv_sub hl [0, 1, 2, 3, 4, 5, 6] rfl)
theorem c_Mod_readK (mo : Nat) (cd : Int32) (rpx : Nat) (nb : Int32) (rca : Nat) (rpl : Nat) (rth : Nat) (rco : Nat) (rsh : Nat) (rsf : Nat) (rcr : Nat) (rep : Nat) (rby : Nat) (rli : Nat) (rls : Nat) (rla : Nat) (rcm : Nat) (rcs : Nat) (rpa : Nat) (rpm : Nat) (rpo : Nat) (rti : Nat) (rre : Nat) (rcl : Nat) (sz : Nat) (cs : Nat) (nx : Nat) (la : Nat) (Px : Nat → Nat) (Th : Nat → Nat) (Ca : Nat → Nat) (Ti : Nat → Nat) (Co : Nat → Nat) (Cm : Nat → Nat) (v : Nat) (kd : Nat) (hv : v < 3) (bPx : ∀ j, Px j < 65536) (bTh : ∀ j, Th j < 2) (bCa : ∀ j, Ca j < 65536) (bTi : ∀ j, Ti j < 65536) (bCo : ∀ j, Co j < 65536) (bCm : ∀ j, Cm j < 256) (hnx : nx ≤ 10000) (hla : la ≤ 6247) (hkd : kd < 7) : CI (S := Nat × Nat × (Nat → Nat) × (Nat → Nat)) l classes NW D (TYS cI cZ cL cV) y_Mod_read (.code y_Mod_read b_Mod_read 8 (some .boolean) :: TB) { frames := 3, cells := 0, slots := 0, locals := 90 } [.ref mo, .int (nI v), .int (nI kd)] [(mo, .inr (9, [.int cd, .ref rpx, .int nb, .ref rca, .ref rpl, .ref rth, .ref rco, .ref rsh, .ref rsf, .ref rcr, .ref rep, .ref rby, .ref rli, .ref rls, .ref rla, .ref rcm, .ref rcs, .ref rpa, .ref rpm, .ref rpo, .ref rti, .ref rre, .ref rcl, .int (nI sz), .int (nI cs), .int (nI nx), .int (nI la)])), (rpx, .inl (cI, 30720, .inl (nF Px))), (rth, .inl (cZ, 96, .inl (nF Th))), (rca, .inl (cI, 6144, .inl (nF Ca))), (rti, .inl (cI, 64, .inl (nF Ti))), (rcl, .inl (cI, 64, .inl (nF Co))), (rcm, .inl (cI, 18741, .inl (nF Cm)))] (fun r u => r = nI u.1 ∧ u.1 ≤ 1 ∧ nx ≤ u.2.1 ∧ u.2.1 ≤ nx + 2100 ∧ (∀ j, u.2.2.1 j < 65536) ∧ (∀ j, u.2.2.2 j < 65536)) (fun u => [(mo, .inr (9, [.int cd, .ref rpx, .int nb, .ref rca, .ref rpl, .ref rth, .ref rco, .ref rsh, .ref rsf, .ref rcr, .ref rep, .ref rby, .ref rli, .ref rls, .ref rla, .ref rcm, .ref rcs, .ref rpa, .ref rpm, .ref rpo, .ref rti, .ref rre, .ref rcl, .int (nI sz), .int (nI cs), .int (nI u.2.1), .int (nI la)])), (rpx, .inl (cI, 30720, .inl (nF Px))), (rth, .inl (cZ, 96, .inl (nF Th))), (rca, .inl (cI, 6144, .inl (nF Ca))), (rti, .inl (cI, 64, .inl (nF u.2.2.1))), (rcl, .inl (cI, 64, .inl (nF u.2.2.2))), (rcm, .inl (cI, 18741, .inl (nF Cm)))]) := by
  rcases (show kd = 0 ∨ kd = 1 ∨ kd = 2 ∨ kd = 3 ∨ kd = 4 ∨ kd = 5 ∨ kd = 6 by omega) with rfl | rfl | rfl | rfl | rfl | rfl | rfl
  · exact c_Mod_read0 mo cd rpx nb rca rpl rth rco rsh rsf rcr rep rby rli rls rla rcm rcs rpa rpm rpo rti rre rcl sz cs nx la Px Th Ca Ti Co Cm v hv bPx bTh bCa bTi bCo bCm hnx hla
  · exact c_Mod_read1 mo cd rpx nb rca rpl rth rco rsh rsf rcr rep rby rli rls rla rcm rcs rpa rpm rpo rti rre rcl sz cs nx la Px Th Ca Ti Co Cm v hv bPx bTh bCa bTi bCo bCm hnx hla
  · exact c_Mod_read2 mo cd rpx nb rca rpl rth rco rsh rsf rcr rep rby rli rls rla rcm rcs rpa rpm rpo rti rre rcl sz cs nx la Px Th Ca Ti Co Cm v hv bPx bTh bCa bTi bCo bCm hnx hla
  · exact c_Mod_read3 mo cd rpx nb rca rpl rth rco rsh rsf rcr rep rby rli rls rla rcm rcs rpa rpm rpo rti rre rcl sz cs nx la Px Th Ca Ti Co Cm v hv bPx bTh bCa bTi bCo bCm hnx hla
  · exact c_Mod_read4 mo cd rpx nb rca rpl rth rco rsh rsf rcr rep rby rli rls rla rcm rcs rpa rpm rpo rti rre rcl sz cs nx la Px Th Ca Ti Co Cm v hv bPx bTh bCa bTi bCo bCm hnx hla
  · exact c_Mod_read5 mo cd rpx nb rca rpl rth rco rsh rsf rcr rep rby rli rls rla rcm rcs rpa rpm rpo rti rre rcl sz cs nx la Px Th Ca Ti Co Cm v hv bPx bTh bCa bTi bCo bCm hnx hla
  · exact c_Mod_read6 mo cd rpx nb rca rpl rth rco rsh rsf rcr rep rby rli rls rla rcm rcs rpa rpm rpo rti rre rcl sz cs nx la Px Th Ca Ti Co Cm v hv bPx bTh bCa bTi bCo bCm hnx hla
end
