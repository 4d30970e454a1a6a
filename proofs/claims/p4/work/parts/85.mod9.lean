section
variable {l : Launch} {D : va_G} {cI cZ cL cV : ClassId}
theorem nar_b1 {b : Nat} (h : b ≤ 1) : narrow .boolean (.int (nI b)) = .int (nI b) := by
  rcases (show b = 0 ∨ b = 1 by omega) with rfl | rfl <;> rfl
theorem xor_b {a b : Nat} (ha : a < 256) (hb : b < 256) : a ^^^ b < 256 := Nat.xor_lt_two_pow (n := 8) ha hb
theorem m_lt {x n m : Nat} (h : n ≤ m) (h0 : 0 < n) : x % n < m := Nat.lt_of_lt_of_le (Nat.mod_lt _ h0) h
/-- how far an int is below a told number -/
def dst (t : Nat) (x : Int32) : Nat := (nI t - x).toBitVec.toNat
theorem dst_s {t : Nat} {x : Int32} (h : x ≠ nI t) : dst t (x + nI 1) < dst t x := by
  have h1 : x.toBitVec.toNat ≠ (nI t).toBitVec.toNat := fun q => h (Int32.toBitVec_inj.mp (BitVec.eq_of_toNat_eq q))
  have h2 := x.toBitVec.isLt
  have h3 := (nI t).toBitVec.isLt
  show ((nI t).toBitVec - (x.toBitVec + (nI 1).toBitVec)).toNat < ((nI t).toBitVec - x.toBitVec).toNat
  rw [BitVec.toNat_sub, BitVec.toNat_sub, BitVec.toNat_add, show (nI 1).toBitVec.toNat = 1 from rfl]
  omega
theorem rem_told {t : Nat} {x : Int32} (ht : t < 65536) (h : ¬ x - x / nI 65536 * nI 65536 = nI t) : x ≠ nI t := fun q => h (by
  rw [q, pk_div (by omega) (by decide) (by decide), Nat.div_eq_of_lt ht, show nI 0 * nI 65536 = nI 0 from rfl]
  rw [nI_0]
  exact Int32.sub_zero _)
set_option maxHeartbeats 400000 in
set_option maxRecDepth 100000 in
theorem c_Mod_readLike1 (mo : Nat) (cd : Int32) (rpx : Nat) (nb : Int32) (rca : Nat) (rpl : Nat) (rth : Nat) (rco : Nat) (rsh : Nat) (rsf : Nat) (rcr : Nat) (rep : Nat) (rby : Nat) (rli : Nat) (rls : Nat) (rla : Nat) (rcm : Nat) (rcs : Nat) (rpa : Nat) (rpm : Nat) (rpo : Nat) (rti : Nat) (rre : Nat) (rcl : Nat) (sz : Nat) (cs : Nat) (nx : Nat) (la : Nat) (Px : Nat → Nat) (Th : Nat → Nat) (Ca : Nat → Nat) (Ti : Nat → Nat) (v : Nat) (n9 : Nat) (hv : v < 3) (bPx : ∀ j, Px j < 65536) (bTh : ∀ j, Th j < 2) (bCa : ∀ j, Ca j < 65536) (bTi : ∀ j, Ti j < 65536) (hn9 : n9 < 256) (hnx : nx ≤ 20000) (hla : la ≤ 6247) : CI (S := Nat × (Nat → Nat)) l classes NW D (TYS cI cZ cL cV) y_Mod_readLike (.code y_Mod_readLike b_Mod_readLike 5 (some .boolean) :: TB) { frames := 1, cells := 0, slots := 0, locals := 22 } [.ref mo, .int (nI v), .int (nI 1), .int (nI n9)] [(mo, .inr (9, [.int cd, .ref rpx, .int nb, .ref rca, .ref rpl, .ref rth, .ref rco, .ref rsh, .ref rsf, .ref rcr, .ref rep, .ref rby, .ref rli, .ref rls, .ref rla, .ref rcm, .ref rcs, .ref rpa, .ref rpm, .ref rpo, .ref rti, .ref rre, .ref rcl, .int (nI sz), .int (nI cs), .int (nI nx), .int (nI la)])), (rpx, .inl (cI, 30720, .inl (nF Px))), (rth, .inl (cZ, 96, .inl (nF Th))), (rca, .inl (cI, 6144, .inl (nF Ca))), (rti, .inl (cI, 64, .inl (nF Ti)))] (fun r u => r = nI u.1 ∧ u.1 ≤ 1 ∧ (∀ j, u.2 j < 65536)) (fun u => [(mo, .inr (9, [.int cd, .ref rpx, .int nb, .ref rca, .ref rpl, .ref rth, .ref rco, .ref rsh, .ref rsf, .ref rcr, .ref rep, .ref rby, .ref rli, .ref rls, .ref rla, .ref rcm, .ref rcs, .ref rpa, .ref rpm, .ref rpo, .ref rti, .ref rre, .ref rcl, .int (nI sz), .int (nI cs), .int (nI nx), .int (nI la)])), (rpx, .inl (cI, 30720, .inl (nF Px))), (rth, .inl (cZ, 96, .inl (nF Th))), (rca, .inl (cI, 6144, .inl (nF Ca))), (rti, .inl (cI, 64, .inl (nF u.2)))]) := by
  refine CI.of (by decide) (Nat.le_of_ble_eq_true rfl) ?_
  intro pr ev sT mM aR bW mE cO AA QQ ls Bd hG hA hP hD hS hl hret
  have Bd : bd pr cO b_Mod_readLike 5 sT aR TB "TileScreenModel" mM := Bd
  obtain ⟨hx, hb, hml, hown, htb⟩ := id Bd
  have hl : lv_has ls 5 [(0, .ref mo), (1, .int (nI v)), (2, .int (nI 1)), (3, .int (nI n9))] := hl
  refine lv_aload_n hx hb d_Mod_readLike_0 rfl (lv_at hl 0 rfl) ?_
  refine va_get (D := D) (ci := 9) (v := .int (nI nx)) (C := "TileScreenModel") (T := F_Mod) (N := 27) hx hb htb i_Mod hown hG.1 hP 0 rfl rfl 25 (by decide) (htb _ k_660) (fun _ h9 => h9) rfl d_Mod_readLike_1 ?_
  refine lv_aload_n hx hb d_Mod_readLike_4 rfl (lv_at hl 0 rfl) ?_
  refine va_get (D := D) (ci := 9) (v := .int (nI la)) (C := "TileScreenModel") (T := F_Mod) (N := 27) hx hb htb i_Mod hown hG.1 hP 0 rfl rfl 26 (by decide) (htb _ k_661) (fun _ h9 => h9) rfl d_Mod_readLike_5 ?_
  refine nv_icmp_gt (tgt := 50) hx hb d_Mod_readLike_8 (by decide) (by omega) (by omega) (fun c_8 => ?_) (fun c_8 => ?_)
  · refine lv_iconst (v := nI 0) hx hb d_Mod_readLike_50 (by decide) ?_
    have hR := hret ((nI 0)) (0, Ti) sT.heap [] 51 ls d_Mod_readLike_51 (by first | rfl | decide)
    try dsimp only at hR
    exact hR (⟨rfl, by decide, bTi⟩) hP hD hS
  · refine lv_iload_n hx hb d_Mod_readLike_11 rfl (lv_at hl 2 rfl) ?_
    refine lv_iconst (v := nI 1) hx hb d_Mod_readLike_12 (by decide) ?_
    refine nv_icmp_ne (tgt := 22) hx hb d_Mod_readLike_13 (by decide) (by omega) (by omega) (fun h9 => absurd h9 (by decide)) (fun _ => ?_)
    refine lv_iload_n hx hb d_Mod_readLike_16 rfl (lv_at hl 3 rfl) ?_
    refine lv_bipush (v := nI 48) hx hb d_Mod_readLike_17 (by decide) ?_
    refine nv_icmp_ge (tgt := 50) hx hb d_Mod_readLike_19 (by decide) (by omega) (by omega) (fun c_19 => ?_) (fun c_19 => ?_)
    · refine lv_iconst (v := nI 0) hx hb d_Mod_readLike_50 (by decide) ?_
      have hR := hret ((nI 0)) (0, Ti) sT.heap [] 51 ls d_Mod_readLike_51 (by first | rfl | decide)
      try dsimp only at hR
      exact hR (⟨rfl, by decide, bTi⟩) hP hD hS
    · refine lv_iload_n hx hb d_Mod_readLike_22 rfl (lv_at hl 2 rfl) ?_
      refine lv_iconst (v := nI 2) hx hb d_Mod_readLike_23 (by decide) ?_
      refine nv_icmp_ne (tgt := 52) hx hb d_Mod_readLike_24 (by decide) (by omega) (by omega) (fun _ => ?_) (fun h9 => absurd h9 (by decide))
      refine lv_iconst (v := nI 0) hx hb d_Mod_readLike_52 (by decide) ?_
      refine lv_istore (lv' := [(4, .int (nI 0)), (0, .ref mo), (1, .int (nI v)), (2, .int (nI 1)), (3, .int (nI n9))]) hx hb d_Mod_readLike_53 hl (by decide) rfl (fun ls hl => ?_)
      have lp_55 : ∀ (nn : Nat) (k : Nat) (Ti1 : Nat → Nat) (hk : k ≤ 64) (bT1 : ∀ j, Ti1 j < 65536), 64 - k < nn → ∀ (H : Heap) (locs : List Loc) (ls : Array Slot), va_P D classes [(mo, .inr (9, [.int cd, .ref rpx, .int nb, .ref rca, .ref rpl, .ref rth, .ref rco, .ref rsh, .ref rsf, .ref rcr, .ref rep, .ref rby, .ref rli, .ref rls, .ref rla, .ref rcm, .ref rcs, .ref rpa, .ref rpm, .ref rpo, .ref rti, .ref rre, .ref rcl, .int (nI sz), .int (nI cs), .int (nI nx), .int (nI la)])), (rpx, .inl (cI, 30720, .inl (nF Px))), (rth, .inl (cZ, 96, .inl (nF Th))), (rca, .inl (cI, 6144, .inl (nF Ca))), (rti, .inl (cI, 64, .inl (nF Ti1)))] H → va_D AA [(mo, .inr (9, [.int cd, .ref rpx, .int nb, .ref rca, .ref rpl, .ref rth, .ref rco, .ref rsh, .ref rsf, .ref rcr, .ref rep, .ref rby, .ref rli, .ref rls, .ref rla, .ref rcm, .ref rcs, .ref rpa, .ref rpm, .ref rpo, .ref rti, .ref rre, .ref rcl, .int (nI sz), .int (nI cs), .int (nI nx), .int (nI la)])), (rpx, .inl (cI, 30720, .inl (nF Px))), (rth, .inl (cZ, 96, .inl (nF Th))), (rca, .inl (cI, 6144, .inl (nF Ca))), (rti, .inl (cI, 64, .inl (nF Ti1)))] → va_S AA sT.heap H locs → lv_has ls 5 [(4, .int (nI k)), (0, .ref mo), (1, .int (nI v)), (2, .int (nI 1)), (3, .int (nI n9))] → W pr l ev ({ frames := 1, cells := 0, slots := 0, locals := 22 } : Room) sT mM aR bW mE cO H locs 0 0 QQ (F0 mM 55 ls []) := by
        intro nn
        induction nn with
        | zero => intro k Ti1 hk bT1 hm; exact absurd hm (Nat.not_lt_zero _)
        | succ nn ih55 =>
          intro k Ti1 hk bT1 hm H locs ls hP hD hS hl
          refine lv_iload hx hb d_Mod_readLike_55 (lv_at hl 0 rfl) ?_
          refine lv_bipush (v := nI 64) hx hb d_Mod_readLike_57 (by decide) ?_
          refine nv_icmp_ge (tgt := 117) hx hb d_Mod_readLike_59 (by decide) (by omega) (by omega) (fun c_59 => ?_) (fun c_59 => ?_)
          · refine lv_iconst (v := nI 1) hx hb d_Mod_readLike_117 (by decide) ?_
            have hR := hret ((nI 1)) (1, Ti1) H locs 118 ls d_Mod_readLike_118 (by first | rfl | decide)
            try dsimp only at hR
            exact hR (⟨rfl, by decide, bT1⟩) hP hD hS
          · refine lv_aload_n hx hb d_Mod_readLike_62 rfl (lv_at hl 1 rfl) ?_
            refine va_get (D := D) (ci := 9) (v := .ref rti) (C := "TileScreenModel") (T := F_Mod) (N := 27) hx hb htb i_Mod hown hG.1 hP 0 rfl rfl 20 (by decide) (htb _ k_655) (fun _ h9 => h9) rfl d_Mod_readLike_63 ?_
            refine lv_iload hx hb d_Mod_readLike_66 (lv_at hl 0 rfl) ?_
            refine lv_iload_n hx hb d_Mod_readLike_68 rfl (lv_at hl 3 rfl) ?_
            refine lv_iconst (v := nI 1) hx hb d_Mod_readLike_69 (by decide) ?_
            refine nv_icmp_ne (tgt := 90) hx hb d_Mod_readLike_70 (by decide) (by omega) (by omega) (fun h9 => absurd h9 (by decide)) (fun _ => ?_)
            refine lv_aload_n hx hb d_Mod_readLike_73 rfl (lv_at hl 1 rfl) ?_
            refine va_get (D := D) (ci := 9) (v := .ref rpx) (C := "TileScreenModel") (T := F_Mod) (N := 27) hx hb htb i_Mod hown hG.1 hP 0 rfl rfl 1 (by decide) (htb _ k_636) (fun _ h9 => h9) rfl d_Mod_readLike_74 ?_
            refine lv_iconst (v := nI 2) hx hb d_Mod_readLike_77 (by decide) ?_
            refine lv_iload_n hx hb d_Mod_readLike_78 rfl (lv_at hl 2 rfl) ?_
            refine nv_iadd hx hb d_Mod_readLike_79 ?_
            refine lv_iload_n hx hb d_Mod_readLike_80 rfl (lv_at hl 4 rfl) ?_
            refine lv_iload hx hb d_Mod_readLike_81 (lv_at hl 0 rfl) ?_
            refine kS_i (wc := []) (wr := [(mo, .inr (9, [.int cd, .ref rpx, .int nb, .ref rca, .ref rpl, .ref rth, .ref rco, .ref rsh, .ref rsf, .ref rcr, .ref rep, .ref rby, .ref rli, .ref rls, .ref rla, .ref rcm, .ref rcs, .ref rpa, .ref rpm, .ref rpo, .ref rti, .ref rre, .ref rcl, .int (nI sz), .int (nI cs), .int (nI nx), .int (nI la)])), (rpx, .inl (cI, 30720, .inl (nF Px))), (rth, .inl (cZ, 96, .inl (nF Th))), (rca, .inl (cI, 6144, .inl (nF Ca))), (rti, .inl (cI, 64, .inl (nF Ti1)))]) (w2 := fun _ => [(mo, .inr (9, [.int cd, .ref rpx, .int nb, .ref rca, .ref rpl, .ref rth, .ref rco, .ref rsh, .ref rsf, .ref rcr, .ref rep, .ref rby, .ref rli, .ref rls, .ref rla, .ref rcm, .ref rcs, .ref rpa, .ref rpm, .ref rpo, .ref rti, .ref rre, .ref rcl, .int (nI sz), .int (nI cs), .int (nI nx), .int (nI la)])), (rpx, .inl (cI, 30720, .inl (nF Px))), (rth, .inl (cZ, 96, .inl (nF Th))), (rca, .inl (cI, 6144, .inl (nF Ca))), (rti, .inl (cI, 64, .inl (nF Ti1)))]) [.int (nI (2 + v)), .int (nI n9), .int (nI k)] [.ref rpx, .int (nI k), .ref rti] Bd ⟨gi_app (gi_c0 k_741 (gi_c0 k_742 (gi_c0 k_10 gi_nil))) (gi_tb0 k_743), rfl, by decide, by decide⟩ (show (parseMethodDescriptor "(III)I").map (fun d => d.parameters.length) = some 3 by decide +kernel) (c_Mod_spot (2 + v) n9 k (by omega) (by omega) (by omega)) (by decide +kernel) ⟨Nat.le_of_ble_eq_true rfl, Nat.le_of_ble_eq_true rfl⟩ hG hP hD hS hA [] [0, 1, 2, 3, 4] [0, 1, 2, 3, 4] (by decide) rfl rfl (fun _ => rfl) hl.1 rfl (Nat.le_of_ble_eq_true rfl) d_Mod_readLike_83 (fun r2 u4 H locs hp3 hP hD hS => ?_)
            have hP : va_P D classes [(mo, .inr (9, [.int cd, .ref rpx, .int nb, .ref rca, .ref rpl, .ref rth, .ref rco, .ref rsh, .ref rsf, .ref rcr, .ref rep, .ref rby, .ref rli, .ref rls, .ref rla, .ref rcm, .ref rcs, .ref rpa, .ref rpm, .ref rpo, .ref rti, .ref rre, .ref rcl, .int (nI sz), .int (nI cs), .int (nI nx), .int (nI la)])), (rpx, .inl (cI, 30720, .inl (nF Px))), (rth, .inl (cZ, 96, .inl (nF Th))), (rca, .inl (cI, 6144, .inl (nF Ca))), (rti, .inl (cI, 64, .inl (nF Ti1)))] H := hP
            have hD : va_D AA [(mo, .inr (9, [.int cd, .ref rpx, .int nb, .ref rca, .ref rpl, .ref rth, .ref rco, .ref rsh, .ref rsf, .ref rcr, .ref rep, .ref rby, .ref rli, .ref rls, .ref rla, .ref rcm, .ref rcs, .ref rpa, .ref rpm, .ref rpo, .ref rti, .ref rre, .ref rcl, .int (nI sz), .int (nI cs), .int (nI nx), .int (nI la)])), (rpx, .inl (cI, 30720, .inl (nF Px))), (rth, .inl (cZ, 96, .inl (nF Th))), (rca, .inl (cI, 6144, .inl (nF Ca))), (rti, .inl (cI, 64, .inl (nF Ti1)))] := hD
            subst hp3
            refine nv_iald hx hb hG.1 hP 1 0 rfl rfl (by omega) (by omega) d_Mod_readLike_86 ?_
            refine lv_goto (tgt := 110) hx hb d_Mod_readLike_87 (by decide) ?_
            refine nv_iast hx hb hG.1 hP hD hS 4 0 rfl rfl (by omega) (by omega) d_Mod_readLike_110 (fun H locs hP hD hS => ?_)
            have hP : va_P D classes [(mo, .inr (9, [.int cd, .ref rpx, .int nb, .ref rca, .ref rpl, .ref rth, .ref rco, .ref rsh, .ref rsf, .ref rcr, .ref rep, .ref rby, .ref rli, .ref rls, .ref rla, .ref rcm, .ref rcs, .ref rpa, .ref rpm, .ref rpo, .ref rti, .ref rre, .ref rcl, .int (nI sz), .int (nI cs), .int (nI nx), .int (nI la)])), (rpx, .inl (cI, 30720, .inl (nF Px))), (rth, .inl (cZ, 96, .inl (nF Th))), (rca, .inl (cI, 6144, .inl (nF Ca))), (rti, .inl (cI, 64, .inl (nF (up Ti1 k (Px (3072 * (2 + v) + 64 * (n9 / 8 * 8 + k / 8) + n9 % 8 * 8 + k % 8))))))] H := hP
            have hD : va_D AA [(mo, .inr (9, [.int cd, .ref rpx, .int nb, .ref rca, .ref rpl, .ref rth, .ref rco, .ref rsh, .ref rsf, .ref rcr, .ref rep, .ref rby, .ref rli, .ref rls, .ref rla, .ref rcm, .ref rcs, .ref rpa, .ref rpm, .ref rpo, .ref rti, .ref rre, .ref rcl, .int (nI sz), .int (nI cs), .int (nI nx), .int (nI la)])), (rpx, .inl (cI, 30720, .inl (nF Px))), (rth, .inl (cZ, 96, .inl (nF Th))), (rca, .inl (cI, 6144, .inl (nF Ca))), (rti, .inl (cI, 64, .inl (nF (up Ti1 k (Px (3072 * (2 + v) + 64 * (n9 / 8 * 8 + k / 8) + n9 % 8 * 8 + k % 8))))))] := hD
            refine lv_iinc (v := (nI (k + 1))) (lv' := [(4, .int (nI (k + 1))), (0, .ref mo), (1, .int (nI v)), (2, .int (nI 1)), (3, .int (nI n9))]) hx hb d_Mod_readLike_111 hl (k := 0) rfl (nI_add k 1) (by decide) rfl (fun ls hl => ?_)
            refine lv_goto (tgt := 55) hx hb d_Mod_readLike_114 (by decide) ?_
            exact ih55 (k + 1) (up Ti1 k (Px (3072 * (2 + v) + 64 * (n9 / 8 * 8 + k / 8) + n9 % 8 * 8 + k % 8))) (by omega) (up_lt bT1 (bPx _)) (by omega) _ _ _ hP hD hS (lv_sub hl [0, 1, 2, 3, 4] rfl)
      exact lp_55 _ 0 Ti (Nat.zero_le _) (bTi) (Nat.lt_succ_self _) _ _ _ hP hD hS (lv_sub hl [0, 1, 2, 3, 4] rfl)
set_option maxHeartbeats 400000 in
set_option maxRecDepth 100000 in
theorem c_Mod_readLike2 (mo : Nat) (cd : Int32) (rpx : Nat) (nb : Int32) (rca : Nat) (rpl : Nat) (rth : Nat) (rco : Nat) (rsh : Nat) (rsf : Nat) (rcr : Nat) (rep : Nat) (rby : Nat) (rli : Nat) (rls : Nat) (rla : Nat) (rcm : Nat) (rcs : Nat) (rpa : Nat) (rpm : Nat) (rpo : Nat) (rti : Nat) (rre : Nat) (rcl : Nat) (sz : Nat) (cs : Nat) (nx : Nat) (la : Nat) (Px : Nat → Nat) (Th : Nat → Nat) (Ca : Nat → Nat) (Ti : Nat → Nat) (v : Nat) (n9 : Nat) (hv : v < 3) (bPx : ∀ j, Px j < 65536) (bTh : ∀ j, Th j < 2) (bCa : ∀ j, Ca j < 65536) (bTi : ∀ j, Ti j < 65536) (hn9 : n9 < 256) (hnx : nx ≤ 20000) (hla : la ≤ 6247) : CI (S := Nat × (Nat → Nat)) l classes NW D (TYS cI cZ cL cV) y_Mod_readLike (.code y_Mod_readLike b_Mod_readLike 5 (some .boolean) :: TB) { frames := 0, cells := 0, slots := 0, locals := 0 } [.ref mo, .int (nI v), .int (nI 2), .int (nI n9)] [(mo, .inr (9, [.int cd, .ref rpx, .int nb, .ref rca, .ref rpl, .ref rth, .ref rco, .ref rsh, .ref rsf, .ref rcr, .ref rep, .ref rby, .ref rli, .ref rls, .ref rla, .ref rcm, .ref rcs, .ref rpa, .ref rpm, .ref rpo, .ref rti, .ref rre, .ref rcl, .int (nI sz), .int (nI cs), .int (nI nx), .int (nI la)])), (rpx, .inl (cI, 30720, .inl (nF Px))), (rth, .inl (cZ, 96, .inl (nF Th))), (rca, .inl (cI, 6144, .inl (nF Ca))), (rti, .inl (cI, 64, .inl (nF Ti)))] (fun r u => r = nI u.1 ∧ u.1 ≤ 1 ∧ (∀ j, u.2 j < 65536)) (fun u => [(mo, .inr (9, [.int cd, .ref rpx, .int nb, .ref rca, .ref rpl, .ref rth, .ref rco, .ref rsh, .ref rsf, .ref rcr, .ref rep, .ref rby, .ref rli, .ref rls, .ref rla, .ref rcm, .ref rcs, .ref rpa, .ref rpm, .ref rpo, .ref rti, .ref rre, .ref rcl, .int (nI sz), .int (nI cs), .int (nI nx), .int (nI la)])), (rpx, .inl (cI, 30720, .inl (nF Px))), (rth, .inl (cZ, 96, .inl (nF Th))), (rca, .inl (cI, 6144, .inl (nF Ca))), (rti, .inl (cI, 64, .inl (nF u.2)))]) := by
  refine CI.of (by decide) (Nat.le_of_ble_eq_true rfl) ?_
  intro pr ev sT mM aR bW mE cO AA QQ ls Bd hG hA hP hD hS hl hret
  have Bd : bd pr cO b_Mod_readLike 5 sT aR TB "TileScreenModel" mM := Bd
  obtain ⟨hx, hb, hml, hown, htb⟩ := id Bd
  have hl : lv_has ls 5 [(0, .ref mo), (1, .int (nI v)), (2, .int (nI 2)), (3, .int (nI n9))] := hl
  refine lv_aload_n hx hb d_Mod_readLike_0 rfl (lv_at hl 0 rfl) ?_
  refine va_get (D := D) (ci := 9) (v := .int (nI nx)) (C := "TileScreenModel") (T := F_Mod) (N := 27) hx hb htb i_Mod hown hG.1 hP 0 rfl rfl 25 (by decide) (htb _ k_660) (fun _ h9 => h9) rfl d_Mod_readLike_1 ?_
  refine lv_aload_n hx hb d_Mod_readLike_4 rfl (lv_at hl 0 rfl) ?_
  refine va_get (D := D) (ci := 9) (v := .int (nI la)) (C := "TileScreenModel") (T := F_Mod) (N := 27) hx hb htb i_Mod hown hG.1 hP 0 rfl rfl 26 (by decide) (htb _ k_661) (fun _ h9 => h9) rfl d_Mod_readLike_5 ?_
  refine nv_icmp_gt (tgt := 50) hx hb d_Mod_readLike_8 (by decide) (by omega) (by omega) (fun c_8 => ?_) (fun c_8 => ?_)
  · refine lv_iconst (v := nI 0) hx hb d_Mod_readLike_50 (by decide) ?_
    have hR := hret ((nI 0)) (0, Ti) sT.heap [] 51 ls d_Mod_readLike_51 (by first | rfl | decide)
    try dsimp only at hR
    exact hR (⟨rfl, by decide, bTi⟩) hP hD hS
  · refine lv_iload_n hx hb d_Mod_readLike_11 rfl (lv_at hl 2 rfl) ?_
    refine lv_iconst (v := nI 1) hx hb d_Mod_readLike_12 (by decide) ?_
    refine nv_icmp_ne (tgt := 22) hx hb d_Mod_readLike_13 (by decide) (by omega) (by omega) (fun _ => ?_) (fun h9 => absurd h9 (by decide))
    refine lv_iload_n hx hb d_Mod_readLike_22 rfl (lv_at hl 2 rfl) ?_
    refine lv_iconst (v := nI 2) hx hb d_Mod_readLike_23 (by decide) ?_
    refine nv_icmp_ne (tgt := 52) hx hb d_Mod_readLike_24 (by decide) (by omega) (by omega) (fun h9 => absurd h9 (by decide)) (fun _ => ?_)
    refine lv_iload_n hx hb d_Mod_readLike_27 rfl (lv_at hl 3 rfl) ?_
    refine lv_bipush (v := nI 15) hx hb d_Mod_readLike_28 (by decide) ?_
    refine nv_icmp_gt (tgt := 50) hx hb d_Mod_readLike_30 (by decide) (by omega) (by omega) (fun c_30 => ?_) (fun c_30 => ?_)
    · refine lv_iconst (v := nI 0) hx hb d_Mod_readLike_50 (by decide) ?_
      have hR := hret ((nI 0)) (0, Ti) sT.heap [] 51 ls d_Mod_readLike_51 (by first | rfl | decide)
      try dsimp only at hR
      exact hR (⟨rfl, by decide, bTi⟩) hP hD hS
    · refine lv_aload_n hx hb d_Mod_readLike_33 rfl (lv_at hl 0 rfl) ?_
      refine va_get (D := D) (ci := 9) (v := .ref rth) (C := "TileScreenModel") (T := F_Mod) (N := 27) hx hb htb i_Mod hown hG.1 hP 0 rfl rfl 5 (by decide) (htb _ k_640) (fun _ h9 => h9) rfl d_Mod_readLike_34 ?_
      refine lv_bipush (v := nI 48) hx hb d_Mod_readLike_37 (by decide) ?_
      refine lv_bipush (v := nI 16) hx hb d_Mod_readLike_39 (by decide) ?_
      refine lv_iload_n hx hb d_Mod_readLike_41 rfl (lv_at hl 1 rfl) ?_
      refine nv_imul hx hb d_Mod_readLike_42 ?_
      refine nv_iadd hx hb d_Mod_readLike_43 ?_
      refine lv_iload_n hx hb d_Mod_readLike_44 rfl (lv_at hl 3 rfl) ?_
      refine nv_iadd hx hb d_Mod_readLike_45 ?_
      refine nv_zald hx hb hG.1 hP 2 1 rfl rfl (by omega) (by omega) d_Mod_readLike_46 ?_
      refine nv_if_ne (tgt := 52) hx hb d_Mod_readLike_47 (by decide) (Nat.lt_trans (bTh _) (by decide)) (fun c_47 => ?_) (fun c_47 => ?_)
      · refine lv_iconst (v := nI 0) hx hb d_Mod_readLike_52 (by decide) ?_
        refine lv_istore (lv' := [(4, .int (nI 0)), (0, .ref mo), (1, .int (nI v)), (2, .int (nI 2)), (3, .int (nI n9))]) hx hb d_Mod_readLike_53 hl (by decide) rfl (fun ls hl => ?_)
        have lp_55 : ∀ (nn : Nat) (k : Nat) (Ti1 : Nat → Nat) (hk : k ≤ 64) (bT1 : ∀ j, Ti1 j < 65536), 64 - k < nn → ∀ (H : Heap) (locs : List Loc) (ls : Array Slot), va_P D classes [(mo, .inr (9, [.int cd, .ref rpx, .int nb, .ref rca, .ref rpl, .ref rth, .ref rco, .ref rsh, .ref rsf, .ref rcr, .ref rep, .ref rby, .ref rli, .ref rls, .ref rla, .ref rcm, .ref rcs, .ref rpa, .ref rpm, .ref rpo, .ref rti, .ref rre, .ref rcl, .int (nI sz), .int (nI cs), .int (nI nx), .int (nI la)])), (rpx, .inl (cI, 30720, .inl (nF Px))), (rth, .inl (cZ, 96, .inl (nF Th))), (rca, .inl (cI, 6144, .inl (nF Ca))), (rti, .inl (cI, 64, .inl (nF Ti1)))] H → va_D AA [(mo, .inr (9, [.int cd, .ref rpx, .int nb, .ref rca, .ref rpl, .ref rth, .ref rco, .ref rsh, .ref rsf, .ref rcr, .ref rep, .ref rby, .ref rli, .ref rls, .ref rla, .ref rcm, .ref rcs, .ref rpa, .ref rpm, .ref rpo, .ref rti, .ref rre, .ref rcl, .int (nI sz), .int (nI cs), .int (nI nx), .int (nI la)])), (rpx, .inl (cI, 30720, .inl (nF Px))), (rth, .inl (cZ, 96, .inl (nF Th))), (rca, .inl (cI, 6144, .inl (nF Ca))), (rti, .inl (cI, 64, .inl (nF Ti1)))] → va_S AA sT.heap H locs → lv_has ls 5 [(4, .int (nI k)), (0, .ref mo), (1, .int (nI v)), (2, .int (nI 2)), (3, .int (nI n9))] → W pr l ev ({ frames := 0, cells := 0, slots := 0, locals := 0 } : Room) sT mM aR bW mE cO H locs 0 0 QQ (F0 mM 55 ls []) := by
          intro nn
          induction nn with
          | zero => intro k Ti1 hk bT1 hm; exact absurd hm (Nat.not_lt_zero _)
          | succ nn ih55 =>
            intro k Ti1 hk bT1 hm H locs ls hP hD hS hl
            refine lv_iload hx hb d_Mod_readLike_55 (lv_at hl 0 rfl) ?_
            refine lv_bipush (v := nI 64) hx hb d_Mod_readLike_57 (by decide) ?_
            refine nv_icmp_ge (tgt := 117) hx hb d_Mod_readLike_59 (by decide) (by omega) (by omega) (fun c_59 => ?_) (fun c_59 => ?_)
            · refine lv_iconst (v := nI 1) hx hb d_Mod_readLike_117 (by decide) ?_
              have hR := hret ((nI 1)) (1, Ti1) H locs 118 ls d_Mod_readLike_118 (by first | rfl | decide)
              try dsimp only at hR
              exact hR (⟨rfl, by decide, bT1⟩) hP hD hS
            · refine lv_aload_n hx hb d_Mod_readLike_62 rfl (lv_at hl 1 rfl) ?_
              refine va_get (D := D) (ci := 9) (v := .ref rti) (C := "TileScreenModel") (T := F_Mod) (N := 27) hx hb htb i_Mod hown hG.1 hP 0 rfl rfl 20 (by decide) (htb _ k_655) (fun _ h9 => h9) rfl d_Mod_readLike_63 ?_
              refine lv_iload hx hb d_Mod_readLike_66 (lv_at hl 0 rfl) ?_
              refine lv_iload_n hx hb d_Mod_readLike_68 rfl (lv_at hl 3 rfl) ?_
              refine lv_iconst (v := nI 1) hx hb d_Mod_readLike_69 (by decide) ?_
              refine nv_icmp_ne (tgt := 90) hx hb d_Mod_readLike_70 (by decide) (by omega) (by omega) (fun _ => ?_) (fun h9 => absurd h9 (by decide))
              refine lv_aload_n hx hb d_Mod_readLike_90 rfl (lv_at hl 1 rfl) ?_
              refine va_get (D := D) (ci := 9) (v := .ref rca) (C := "TileScreenModel") (T := F_Mod) (N := 27) hx hb htb i_Mod hown hG.1 hP 0 rfl rfl 3 (by decide) (htb _ k_638) (fun _ h9 => h9) rfl d_Mod_readLike_91 ?_
              refine lv_sipush (v := nI 1024) hx hb d_Mod_readLike_94 (by decide) ?_
              refine lv_iconst (v := nI 3) hx hb d_Mod_readLike_97 (by decide) ?_
              refine lv_iload_n hx hb d_Mod_readLike_98 rfl (lv_at hl 2 rfl) ?_
              refine nv_iadd hx hb d_Mod_readLike_99 ?_
              refine nv_imul hx hb d_Mod_readLike_100 ?_
              refine lv_bipush (v := nI 64) hx hb d_Mod_readLike_101 (by decide) ?_
              refine lv_iload_n hx hb d_Mod_readLike_103 rfl (lv_at hl 4 rfl) ?_
              refine nv_imul hx hb d_Mod_readLike_104 ?_
              refine nv_iadd hx hb d_Mod_readLike_105 ?_
              refine lv_iload hx hb d_Mod_readLike_106 (lv_at hl 0 rfl) ?_
              refine nv_iadd hx hb d_Mod_readLike_108 ?_
              refine nv_iald hx hb hG.1 hP 3 0 rfl rfl (by omega) (by omega) d_Mod_readLike_109 ?_
              refine nv_iast hx hb hG.1 hP hD hS 4 0 rfl rfl (by omega) (by omega) d_Mod_readLike_110 (fun H locs hP hD hS => ?_)
              have hP : va_P D classes [(mo, .inr (9, [.int cd, .ref rpx, .int nb, .ref rca, .ref rpl, .ref rth, .ref rco, .ref rsh, .ref rsf, .ref rcr, .ref rep, .ref rby, .ref rli, .ref rls, .ref rla, .ref rcm, .ref rcs, .ref rpa, .ref rpm, .ref rpo, .ref rti, .ref rre, .ref rcl, .int (nI sz), .int (nI cs), .int (nI nx), .int (nI la)])), (rpx, .inl (cI, 30720, .inl (nF Px))), (rth, .inl (cZ, 96, .inl (nF Th))), (rca, .inl (cI, 6144, .inl (nF Ca))), (rti, .inl (cI, 64, .inl (nF (up Ti1 k (Ca (1024 * (3 + v) + (64 * n9) + k))))))] H := hP
              have hD : va_D AA [(mo, .inr (9, [.int cd, .ref rpx, .int nb, .ref rca, .ref rpl, .ref rth, .ref rco, .ref rsh, .ref rsf, .ref rcr, .ref rep, .ref rby, .ref rli, .ref rls, .ref rla, .ref rcm, .ref rcs, .ref rpa, .ref rpm, .ref rpo, .ref rti, .ref rre, .ref rcl, .int (nI sz), .int (nI cs), .int (nI nx), .int (nI la)])), (rpx, .inl (cI, 30720, .inl (nF Px))), (rth, .inl (cZ, 96, .inl (nF Th))), (rca, .inl (cI, 6144, .inl (nF Ca))), (rti, .inl (cI, 64, .inl (nF (up Ti1 k (Ca (1024 * (3 + v) + (64 * n9) + k))))))] := hD
              refine lv_iinc (v := (nI (k + 1))) (lv' := [(4, .int (nI (k + 1))), (0, .ref mo), (1, .int (nI v)), (2, .int (nI 2)), (3, .int (nI n9))]) hx hb d_Mod_readLike_111 hl (k := 0) rfl (nI_add k 1) (by decide) rfl (fun ls hl => ?_)
              refine lv_goto (tgt := 55) hx hb d_Mod_readLike_114 (by decide) ?_
              exact ih55 (k + 1) (up Ti1 k (Ca (1024 * (3 + v) + (64 * n9) + k))) (by omega) (up_lt bT1 (bCa _)) (by omega) _ _ _ hP hD hS (lv_sub hl [0, 1, 2, 3, 4] rfl)
        exact lp_55 _ 0 Ti (Nat.zero_le _) (bTi) (Nat.lt_succ_self _) _ _ _ hP hD hS (lv_sub hl [0, 1, 2, 3, 4] rfl)
      · refine lv_iconst (v := nI 0) hx hb d_Mod_readLike_50 (by decide) ?_
        have hR := hret ((nI 0)) (0, Ti) sT.heap [] 51 ls d_Mod_readLike_51 (by first | rfl | decide)
        try dsimp only at hR
        exact hR (⟨rfl, by decide, bTi⟩) hP hD hS
set_option maxHeartbeats 400000 in
set_option maxRecDepth 100000 in
theorem c_Mod_readRuns (mo : Nat) (cd : Int32) (rpx : Nat) (nb : Int32) (rca : Nat) (rpl : Nat) (rth : Nat) (rco : Nat) (rsh : Nat) (rsf : Nat) (rcr : Nat) (rep : Nat) (rby : Nat) (rli : Nat) (rls : Nat) (rla : Nat) (rcm : Nat) (rcs : Nat) (rpa : Nat) (rpm : Nat) (rpo : Nat) (rti : Nat) (rre : Nat) (rcl : Nat) (sz : Nat) (cs : Nat) (nx : Nat) (la : Nat) (Ti : Nat → Nat) (Cm : Nat → Nat) (v : Nat) (hv : v < 3) (bTi : ∀ j, Ti j < 65536) (bCm : ∀ j, Cm j < 256) (hnx : nx ≤ 20000) (hla : la ≤ 6247) : CI (S := Nat × Nat × (Nat → Nat)) l classes NW D (TYS cI cZ cL cV) y_Mod_readRuns (.code y_Mod_readRuns b_Mod_readRuns 8 (some .boolean) :: TB) { frames := 2, cells := 0, slots := 0, locals := 44 } [.ref mo, .int (nI v)] [(mo, .inr (9, [.int cd, .ref rpx, .int nb, .ref rca, .ref rpl, .ref rth, .ref rco, .ref rsh, .ref rsf, .ref rcr, .ref rep, .ref rby, .ref rli, .ref rls, .ref rla, .ref rcm, .ref rcs, .ref rpa, .ref rpm, .ref rpo, .ref rti, .ref rre, .ref rcl, .int (nI sz), .int (nI cs), .int (nI nx), .int (nI la)])), (rti, .inl (cI, 64, .inl (nF Ti))), (rcm, .inl (cI, 18741, .inl (nF Cm)))] (fun r u => r = nI u.1 ∧ u.1 ≤ 1 ∧ nx ≤ u.2.1 ∧ u.2.1 ≤ nx + 2000 ∧ (∀ j, u.2.2 j < 65536)) (fun u => [(mo, .inr (9, [.int cd, .ref rpx, .int nb, .ref rca, .ref rpl, .ref rth, .ref rco, .ref rsh, .ref rsf, .ref rcr, .ref rep, .ref rby, .ref rli, .ref rls, .ref rla, .ref rcm, .ref rcs, .ref rpa, .ref rpm, .ref rpo, .ref rti, .ref rre, .ref rcl, .int (nI sz), .int (nI cs), .int (nI u.2.1), .int (nI la)])), (rti, .inl (cI, 64, .inl (nF u.2.2))), (rcm, .inl (cI, 18741, .inl (nF Cm)))]) := by
  refine CI.of (by decide) (Nat.le_of_ble_eq_true rfl) ?_
  intro pr ev sT mM aR bW mE cO AA QQ ls Bd hG hA hP hD hS hl hret
  have Bd : bd pr cO b_Mod_readRuns 8 sT aR TB "TileScreenModel" mM := Bd
  obtain ⟨hx, hb, hml, hown, htb⟩ := id Bd
  have hl : lv_has ls 8 [(0, .ref mo), (1, .int (nI v))] := hl
  refine lv_aload_n hx hb d_Mod_readRuns_0 rfl (lv_at hl 0 rfl) ?_
  refine lv_iload_n hx hb d_Mod_readRuns_1 rfl (lv_at hl 1 rfl) ?_
  refine kV_i (wc := [(mo, .inr (9, [.int cd, .ref rpx, .int nb, .ref rca, .ref rpl, .ref rth, .ref rco, .ref rsh, .ref rsf, .ref rcr, .ref rep, .ref rby, .ref rli, .ref rls, .ref rla, .ref rcm, .ref rcs, .ref rpa, .ref rpm, .ref rpo, .ref rti, .ref rre, .ref rcl, .int (nI sz), .int (nI cs), .int (nI nx), .int (nI la)])), (rcm, .inl (cI, 18741, .inl (nF Cm)))]) (wr := [(rti, .inl (cI, 64, .inl (nF Ti)))]) (w2 := fun u => [(mo, .inr (9, [.int cd, .ref rpx, .int nb, .ref rca, .ref rpl, .ref rth, .ref rco, .ref rsh, .ref rsf, .ref rcr, .ref rep, .ref rby, .ref rli, .ref rls, .ref rla, .ref rcm, .ref rcs, .ref rpa, .ref rpm, .ref rpo, .ref rti, .ref rre, .ref rcl, .int (nI sz), .int (nI cs), .int (nI (nx + 1)), .int (nI la)])), (rti, .inl (cI, 64, .inl (nF Ti))), (rcm, .inl (cI, 18741, .inl (nF Cm)))]) [.int (nI v)] [] Bd ⟨gi_app (gi_c0 k_837 (gi_c0 k_839 (gi_c0 s_40 (gi_c0 k_10 gi_nil)))) (gi_tb0 k_840), rfl, by decide, by decide⟩ (show (parseMethodDescriptor "(I)I").map (fun d => d.parameters.length) = some 1 by decide +kernel) (c_Mod_get mo cd rpx nb rca rpl rth rco rsh rsf rcr rep rby rli rls rla rcm rcs rpa rpm rpo rti rre rcl sz cs nx la Cm v (hv) (hla) (by omega) (bCm)) (by decide +kernel) ⟨Nat.le_of_ble_eq_true rfl, Nat.le_of_ble_eq_true rfl⟩ hG hP hD hS hA [0, 2] [1] [1, 0, 2] (by decide) rfl rfl (fun _ => rfl) (q0 := 0) rfl rfl rfl hl.1 rfl (Nat.le_of_ble_eq_true rfl) d_Mod_readRuns_2 (fun r2 u4 H locs hp3 hP hD hS => ?_)
  obtain ⟨u1, rfl⟩ : ∃ z9, z9 = u4 := ⟨_, rfl⟩
  try dsimp only at hp3
  have hP : va_P D classes [(mo, .inr (9, [.int cd, .ref rpx, .int nb, .ref rca, .ref rpl, .ref rth, .ref rco, .ref rsh, .ref rsf, .ref rcr, .ref rep, .ref rby, .ref rli, .ref rls, .ref rla, .ref rcm, .ref rcs, .ref rpa, .ref rpm, .ref rpo, .ref rti, .ref rre, .ref rcl, .int (nI sz), .int (nI cs), .int (nI (nx + 1)), .int (nI la)])), (rti, .inl (cI, 64, .inl (nF Ti))), (rcm, .inl (cI, 18741, .inl (nF Cm)))] H := hP
  have hD : va_D AA [(mo, .inr (9, [.int cd, .ref rpx, .int nb, .ref rca, .ref rpl, .ref rth, .ref rco, .ref rsh, .ref rsf, .ref rcr, .ref rep, .ref rby, .ref rli, .ref rls, .ref rla, .ref rcm, .ref rcs, .ref rpa, .ref rpm, .ref rpo, .ref rti, .ref rre, .ref rcl, .int (nI sz), .int (nI cs), .int (nI (nx + 1)), .int (nI la)])), (rti, .inl (cI, 64, .inl (nF Ti))), (rcm, .inl (cI, 18741, .inl (nF Cm)))] := hD
  obtain ⟨rfl, hp5⟩ := hp3
  refine lv_istore_n (lv' := [(2, .int (nI u1)), (0, .ref mo), (1, .int (nI v))]) hx hb d_Mod_readRuns_5 rfl hl (by decide) rfl (fun ls hl => ?_)
  refine lv_iconst (v := nI 0) hx hb d_Mod_readRuns_6 (by decide) ?_
  refine lv_istore_n (lv' := [(3, .int (nI 0)), (2, .int (nI u1)), (0, .ref mo), (1, .int (nI v))]) hx hb d_Mod_readRuns_7 rfl hl (by decide) rfl (fun ls hl => ?_)
  refine lv_iconst (v := nI 0) hx hb d_Mod_readRuns_8 (by decide) ?_
  refine lv_istore (lv' := [(4, .int (nI 0)), (3, .int (nI 0)), (2, .int (nI u1)), (0, .ref mo), (1, .int (nI v))]) hx hb d_Mod_readRuns_9 hl (by decide) rfl (fun ls hl => ?_)
  have lp_11 : ∀ (nn : Nat) (i : Nat) (k : Nat) (nx1 : Nat) (Ti1 : Nat → Nat) (hi : i ≤ u1) (hk : k ≤ 64) (hx0 : nx + 1 ≤ nx1) (hx1 : nx1 ≤ nx + 1 + 3 * i) (bT1 : ∀ j, Ti1 j < 65536), u1 - i < nn → ∀ (H : Heap) (locs : List Loc) (ls : Array Slot), va_P D classes [(mo, .inr (9, [.int cd, .ref rpx, .int nb, .ref rca, .ref rpl, .ref rth, .ref rco, .ref rsh, .ref rsf, .ref rcr, .ref rep, .ref rby, .ref rli, .ref rls, .ref rla, .ref rcm, .ref rcs, .ref rpa, .ref rpm, .ref rpo, .ref rti, .ref rre, .ref rcl, .int (nI sz), .int (nI cs), .int (nI nx1), .int (nI la)])), (rti, .inl (cI, 64, .inl (nF Ti1))), (rcm, .inl (cI, 18741, .inl (nF Cm)))] H → va_D AA [(mo, .inr (9, [.int cd, .ref rpx, .int nb, .ref rca, .ref rpl, .ref rth, .ref rco, .ref rsh, .ref rsf, .ref rcr, .ref rep, .ref rby, .ref rli, .ref rls, .ref rla, .ref rcm, .ref rcs, .ref rpa, .ref rpm, .ref rpo, .ref rti, .ref rre, .ref rcl, .int (nI sz), .int (nI cs), .int (nI nx1), .int (nI la)])), (rti, .inl (cI, 64, .inl (nF Ti1))), (rcm, .inl (cI, 18741, .inl (nF Cm)))] → va_S AA sT.heap H locs → lv_has ls 8 [(4, .int (nI i)), (3, .int (nI k)), (2, .int (nI u1)), (0, .ref mo), (1, .int (nI v))] → W pr l ev ({ frames := 2, cells := 0, slots := 0, locals := 44 } : Room) sT mM aR bW mE cO H locs 0 0 QQ (F0 mM 11 ls []) := by
    intro nn
    induction nn with
    | zero => intro i k nx1 Ti1 hi hk hx0 hx1 bT1 hm; exact absurd hm (Nat.not_lt_zero _)
    | succ nn ih11 =>
      intro i k nx1 Ti1 hi hk hx0 hx1 bT1 hm H locs ls hP hD hS hl
      refine lv_iload hx hb d_Mod_readRuns_11 (lv_at hl 0 rfl) ?_
      refine lv_iload_n hx hb d_Mod_readRuns_13 rfl (lv_at hl 2 rfl) ?_
      refine nv_icmp_ge (tgt := 96) hx hb d_Mod_readRuns_14 (by decide) (by omega) (by omega) (fun c_14 => ?_) (fun c_14 => ?_)
      · refine lv_iload_n hx hb d_Mod_readRuns_96 rfl (lv_at hl 1 rfl) ?_
        refine lv_bipush (v := nI 64) hx hb d_Mod_readRuns_97 (by decide) ?_
        refine nv_icmp_ne (tgt := 117) hx hb d_Mod_readRuns_99 (by decide) (by omega) (by omega) (fun c_99 => ?_) (fun c_99 => ?_)
        · refine lv_iconst (v := nI 0) hx hb d_Mod_readRuns_117 (by decide) ?_
          have hR := hret ((nI 0)) (0, nx1, Ti1) H locs 118 ls d_Mod_readRuns_118 (by first | rfl | decide)
          try dsimp only at hR
          exact hR (⟨rfl, by decide, by omega, by omega, bT1⟩) hP hD hS
        · refine lv_aload_n hx hb d_Mod_readRuns_102 rfl (lv_at hl 3 rfl) ?_
          refine va_get (D := D) (ci := 9) (v := .int (nI nx1)) (C := "TileScreenModel") (T := F_Mod) (N := 27) hx hb htb i_Mod hown hG.1 hP 0 rfl rfl 25 (by decide) (htb _ k_660) (fun _ h9 => h9) rfl d_Mod_readRuns_103 ?_
          refine lv_aload_n hx hb d_Mod_readRuns_106 rfl (lv_at hl 3 rfl) ?_
          refine va_get (D := D) (ci := 9) (v := .int (nI la)) (C := "TileScreenModel") (T := F_Mod) (N := 27) hx hb htb i_Mod hown hG.1 hP 0 rfl rfl 26 (by decide) (htb _ k_661) (fun _ h9 => h9) rfl d_Mod_readRuns_107 ?_
          refine nv_icmp_gt (tgt := 117) hx hb d_Mod_readRuns_110 (by decide) (by omega) (by omega) (fun c_110 => ?_) (fun c_110 => ?_)
          · refine lv_iconst (v := nI 0) hx hb d_Mod_readRuns_117 (by decide) ?_
            have hR := hret ((nI 0)) (0, nx1, Ti1) H locs 118 ls d_Mod_readRuns_118 (by first | rfl | decide)
            try dsimp only at hR
            exact hR (⟨rfl, by decide, by omega, by omega, bT1⟩) hP hD hS
          · refine lv_iconst (v := nI 1) hx hb d_Mod_readRuns_113 (by decide) ?_
            refine lv_goto (tgt := 118) hx hb d_Mod_readRuns_114 (by decide) ?_
            have hR := hret ((nI 1)) (1, nx1, Ti1) H locs 118 ls d_Mod_readRuns_118 (by first | rfl | decide)
            try dsimp only at hR
            exact hR (⟨rfl, by decide, by omega, by omega, bT1⟩) hP hD hS
      · refine lv_aload_n hx hb d_Mod_readRuns_17 rfl (lv_at hl 3 rfl) ?_
        refine lv_iload_n hx hb d_Mod_readRuns_18 rfl (lv_at hl 4 rfl) ?_
        refine kV_i (wc := [(mo, .inr (9, [.int cd, .ref rpx, .int nb, .ref rca, .ref rpl, .ref rth, .ref rco, .ref rsh, .ref rsf, .ref rcr, .ref rep, .ref rby, .ref rli, .ref rls, .ref rla, .ref rcm, .ref rcs, .ref rpa, .ref rpm, .ref rpo, .ref rti, .ref rre, .ref rcl, .int (nI sz), .int (nI cs), .int (nI nx1), .int (nI la)])), (rcm, .inl (cI, 18741, .inl (nF Cm)))]) (wr := [(rti, .inl (cI, 64, .inl (nF Ti1)))]) (w2 := fun u => [(mo, .inr (9, [.int cd, .ref rpx, .int nb, .ref rca, .ref rpl, .ref rth, .ref rco, .ref rsh, .ref rsf, .ref rcr, .ref rep, .ref rby, .ref rli, .ref rls, .ref rla, .ref rcm, .ref rcs, .ref rpa, .ref rpm, .ref rpo, .ref rti, .ref rre, .ref rcl, .int (nI sz), .int (nI cs), .int (nI (nx1 + 1)), .int (nI la)])), (rti, .inl (cI, 64, .inl (nF Ti1))), (rcm, .inl (cI, 18741, .inl (nF Cm)))]) [.int (nI v)] [] Bd ⟨gi_app (gi_c0 k_837 (gi_c0 k_839 (gi_c0 s_40 (gi_c0 k_10 gi_nil)))) (gi_tb0 k_840), rfl, by decide, by decide⟩ (show (parseMethodDescriptor "(I)I").map (fun d => d.parameters.length) = some 1 by decide +kernel) (c_Mod_get mo cd rpx nb rca rpl rth rco rsh rsf rcr rep rby rli rls rla rcm rcs rpa rpm rpo rti rre rcl sz cs nx1 la Cm v (hv) (hla) (by omega) (bCm)) (by decide +kernel) ⟨Nat.le_of_ble_eq_true rfl, Nat.le_of_ble_eq_true rfl⟩ hG hP hD hS hA [0, 2] [1] [1, 0, 2] (by decide) rfl rfl (fun _ => rfl) (q0 := 0) rfl rfl rfl hl.1 rfl (Nat.le_of_ble_eq_true rfl) d_Mod_readRuns_19 (fun r8 u10 H locs hp9 hP hD hS => ?_)
        obtain ⟨u7, rfl⟩ : ∃ z9, z9 = u10 := ⟨_, rfl⟩
        try dsimp only at hp9
        have hP : va_P D classes [(mo, .inr (9, [.int cd, .ref rpx, .int nb, .ref rca, .ref rpl, .ref rth, .ref rco, .ref rsh, .ref rsf, .ref rcr, .ref rep, .ref rby, .ref rli, .ref rls, .ref rla, .ref rcm, .ref rcs, .ref rpa, .ref rpm, .ref rpo, .ref rti, .ref rre, .ref rcl, .int (nI sz), .int (nI cs), .int (nI (nx1 + 1)), .int (nI la)])), (rti, .inl (cI, 64, .inl (nF Ti1))), (rcm, .inl (cI, 18741, .inl (nF Cm)))] H := hP
        have hD : va_D AA [(mo, .inr (9, [.int cd, .ref rpx, .int nb, .ref rca, .ref rpl, .ref rth, .ref rco, .ref rsh, .ref rsf, .ref rcr, .ref rep, .ref rby, .ref rli, .ref rls, .ref rla, .ref rcm, .ref rcs, .ref rpa, .ref rpm, .ref rpo, .ref rti, .ref rre, .ref rcl, .int (nI sz), .int (nI cs), .int (nI (nx1 + 1)), .int (nI la)])), (rti, .inl (cI, 64, .inl (nF Ti1))), (rcm, .inl (cI, 18741, .inl (nF Cm)))] := hD
        obtain ⟨rfl, hp11⟩ := hp9
        refine lv_istore (lv' := [(5, .int (nI u7)), (4, .int (nI i)), (3, .int (nI k)), (2, .int (nI u1)), (0, .ref mo), (1, .int (nI v))]) hx hb d_Mod_readRuns_22 hl (by decide) rfl (fun ls hl => ?_)
        refine lv_aload_n hx hb d_Mod_readRuns_24 rfl (lv_at hl 4 rfl) ?_
        refine lv_iload_n hx hb d_Mod_readRuns_25 rfl (lv_at hl 5 rfl) ?_
        refine kV_i (wc := [(mo, .inr (9, [.int cd, .ref rpx, .int nb, .ref rca, .ref rpl, .ref rth, .ref rco, .ref rsh, .ref rsf, .ref rcr, .ref rep, .ref rby, .ref rli, .ref rls, .ref rla, .ref rcm, .ref rcs, .ref rpa, .ref rpm, .ref rpo, .ref rti, .ref rre, .ref rcl, .int (nI sz), .int (nI cs), .int (nI (nx1 + 1)), .int (nI la)])), (rcm, .inl (cI, 18741, .inl (nF Cm)))]) (wr := [(rti, .inl (cI, 64, .inl (nF Ti1)))]) (w2 := fun u => [(mo, .inr (9, [.int cd, .ref rpx, .int nb, .ref rca, .ref rpl, .ref rth, .ref rco, .ref rsh, .ref rsf, .ref rcr, .ref rep, .ref rby, .ref rli, .ref rls, .ref rla, .ref rcm, .ref rcs, .ref rpa, .ref rpm, .ref rpo, .ref rti, .ref rre, .ref rcl, .int (nI sz), .int (nI cs), .int (nI ((nx1 + 1) + 2)), .int (nI la)])), (rti, .inl (cI, 64, .inl (nF Ti1))), (rcm, .inl (cI, 18741, .inl (nF Cm)))]) [.int (nI v)] [] Bd ⟨gi_app (gi_c0 k_833 (gi_c0 k_835 (gi_c0 s_39 (gi_c0 k_10 gi_nil)))) (gi_tb0 k_836), rfl, by decide, by decide⟩ (show (parseMethodDescriptor "(I)I").map (fun d => d.parameters.length) = some 1 by decide +kernel) (c_Mod_getTwo mo cd rpx nb rca rpl rth rco rsh rsf rcr rep rby rli rls rla rcm rcs rpa rpm rpo rti rre rcl sz cs (nx1 + 1) la Cm v (hv) (hla) (by omega) (bCm)) (by decide +kernel) ⟨Nat.le_of_ble_eq_true rfl, Nat.le_of_ble_eq_true rfl⟩ hG hP hD hS hA [0, 2] [1] [1, 0, 2] (by decide) rfl rfl (fun _ => rfl) (q0 := 0) rfl rfl rfl hl.1 rfl (Nat.le_of_ble_eq_true rfl) d_Mod_readRuns_26 (fun r13 u15 H locs hp14 hP hD hS => ?_)
        obtain ⟨u12, rfl⟩ : ∃ z9, z9 = u15 := ⟨_, rfl⟩
        try dsimp only at hp14
        have hP : va_P D classes [(mo, .inr (9, [.int cd, .ref rpx, .int nb, .ref rca, .ref rpl, .ref rth, .ref rco, .ref rsh, .ref rsf, .ref rcr, .ref rep, .ref rby, .ref rli, .ref rls, .ref rla, .ref rcm, .ref rcs, .ref rpa, .ref rpm, .ref rpo, .ref rti, .ref rre, .ref rcl, .int (nI sz), .int (nI cs), .int (nI ((nx1 + 1) + 2)), .int (nI la)])), (rti, .inl (cI, 64, .inl (nF Ti1))), (rcm, .inl (cI, 18741, .inl (nF Cm)))] H := hP
        have hD : va_D AA [(mo, .inr (9, [.int cd, .ref rpx, .int nb, .ref rca, .ref rpl, .ref rth, .ref rco, .ref rsh, .ref rsf, .ref rcr, .ref rep, .ref rby, .ref rli, .ref rls, .ref rla, .ref rcm, .ref rcs, .ref rpa, .ref rpm, .ref rpo, .ref rti, .ref rre, .ref rcl, .int (nI sz), .int (nI cs), .int (nI ((nx1 + 1) + 2)), .int (nI la)])), (rti, .inl (cI, 64, .inl (nF Ti1))), (rcm, .inl (cI, 18741, .inl (nF Cm)))] := hD
        obtain ⟨rfl, hp16⟩ := hp14
        refine lv_istore (lv' := [(6, .int (nI u12)), (5, .int (nI u7)), (4, .int (nI i)), (3, .int (nI k)), (2, .int (nI u1)), (0, .ref mo), (1, .int (nI v))]) hx hb d_Mod_readRuns_29 hl (by decide) rfl (fun ls hl => ?_)
        refine lv_iload hx hb d_Mod_readRuns_31 (lv_at hl 1 rfl) ?_
        refine nv_if_eq (tgt := 56) hx hb d_Mod_readRuns_33 (by decide) (by omega) (fun c_33 => ?_) (fun c_33 => ?_)
        · refine lv_iconst (v := nI 0) hx hb d_Mod_readRuns_56 (by decide) ?_
          have hR := hret ((nI 0)) (0, (nx1 + 1) + 2, Ti1) H locs 57 ls d_Mod_readRuns_57 (by first | rfl | decide)
          try dsimp only at hR
          exact hR (⟨rfl, by decide, by omega, by omega, bT1⟩) hP hD hS
        · refine lv_iload_n hx hb d_Mod_readRuns_36 rfl (lv_at hl 3 rfl) ?_
          refine lv_iload hx hb d_Mod_readRuns_37 (lv_at hl 1 rfl) ?_
          refine nv_iadd hx hb d_Mod_readRuns_39 ?_
          refine lv_bipush (v := nI 64) hx hb d_Mod_readRuns_40 (by decide) ?_
          refine nv_icmp_gt (tgt := 56) hx hb d_Mod_readRuns_42 (by decide) (by omega) (by omega) (fun c_42 => ?_) (fun c_42 => ?_)
          · refine lv_iconst (v := nI 0) hx hb d_Mod_readRuns_56 (by decide) ?_
            have hR := hret ((nI 0)) (0, (nx1 + 1) + 2, Ti1) H locs 57 ls d_Mod_readRuns_57 (by first | rfl | decide)
            try dsimp only at hR
            exact hR (⟨rfl, by decide, by omega, by omega, bT1⟩) hP hD hS
          · refine lv_aload_n hx hb d_Mod_readRuns_45 rfl (lv_at hl 5 rfl) ?_
            refine va_get (D := D) (ci := 9) (v := .int (nI ((nx1 + 1) + 2))) (C := "TileScreenModel") (T := F_Mod) (N := 27) hx hb htb i_Mod hown hG.1 hP 0 rfl rfl 25 (by decide) (htb _ k_660) (fun _ h9 => h9) rfl d_Mod_readRuns_46 ?_
            refine lv_aload_n hx hb d_Mod_readRuns_49 rfl (lv_at hl 5 rfl) ?_
            refine va_get (D := D) (ci := 9) (v := .int (nI la)) (C := "TileScreenModel") (T := F_Mod) (N := 27) hx hb htb i_Mod hown hG.1 hP 0 rfl rfl 26 (by decide) (htb _ k_661) (fun _ h9 => h9) rfl d_Mod_readRuns_50 ?_
            refine nv_icmp_le (tgt := 58) hx hb d_Mod_readRuns_53 (by decide) (by omega) (by omega) (fun c_53 => ?_) (fun c_53 => ?_)
            · refine lv_iconst (v := nI 0) hx hb d_Mod_readRuns_58 (by decide) ?_
              refine lv_istore (lv' := [(7, .int (nI 0)), (6, .int (nI u12)), (5, .int (nI u7)), (4, .int (nI i)), (3, .int (nI k)), (2, .int (nI u1)), (0, .ref mo), (1, .int (nI v))]) hx hb d_Mod_readRuns_59 hl (by decide) rfl (fun ls hl => ?_)
              have lp_61 : ∀ (nn : Nat) (j : Nat) (Ti3 : Nat → Nat) (hj : j ≤ u7) (bT3 : ∀ j, Ti3 j < 65536), u7 - j < nn → ∀ (H : Heap) (locs : List Loc) (ls : Array Slot), va_P D classes [(mo, .inr (9, [.int cd, .ref rpx, .int nb, .ref rca, .ref rpl, .ref rth, .ref rco, .ref rsh, .ref rsf, .ref rcr, .ref rep, .ref rby, .ref rli, .ref rls, .ref rla, .ref rcm, .ref rcs, .ref rpa, .ref rpm, .ref rpo, .ref rti, .ref rre, .ref rcl, .int (nI sz), .int (nI cs), .int (nI ((nx1 + 1) + 2)), .int (nI la)])), (rti, .inl (cI, 64, .inl (nF Ti3))), (rcm, .inl (cI, 18741, .inl (nF Cm)))] H → va_D AA [(mo, .inr (9, [.int cd, .ref rpx, .int nb, .ref rca, .ref rpl, .ref rth, .ref rco, .ref rsh, .ref rsf, .ref rcr, .ref rep, .ref rby, .ref rli, .ref rls, .ref rla, .ref rcm, .ref rcs, .ref rpa, .ref rpm, .ref rpo, .ref rti, .ref rre, .ref rcl, .int (nI sz), .int (nI cs), .int (nI ((nx1 + 1) + 2)), .int (nI la)])), (rti, .inl (cI, 64, .inl (nF Ti3))), (rcm, .inl (cI, 18741, .inl (nF Cm)))] → va_S AA sT.heap H locs → lv_has ls 8 [(7, .int (nI j)), (6, .int (nI u12)), (5, .int (nI u7)), (4, .int (nI i)), (3, .int (nI k)), (2, .int (nI u1)), (0, .ref mo), (1, .int (nI v))] → W pr l ev ({ frames := 2, cells := 0, slots := 0, locals := 44 } : Room) sT mM aR bW mE cO H locs 0 0 QQ (F0 mM 61 ls []) := by
                intro nn
                induction nn with
                | zero => intro j Ti3 hj bT3 hm; exact absurd hm (Nat.not_lt_zero _)
                | succ nn ih61 =>
                  intro j Ti3 hj bT3 hm H locs ls hP hD hS hl
                  refine lv_iload hx hb d_Mod_readRuns_61 (lv_at hl 0 rfl) ?_
                  refine lv_iload hx hb d_Mod_readRuns_63 (lv_at hl 2 rfl) ?_
                  refine nv_icmp_ge (tgt := 85) hx hb d_Mod_readRuns_65 (by decide) (by omega) (by omega) (fun c_65 => ?_) (fun c_65 => ?_)
                  · refine lv_iload_n hx hb d_Mod_readRuns_85 rfl (lv_at hl 4 rfl) ?_
                    refine lv_iload hx hb d_Mod_readRuns_86 (lv_at hl 2 rfl) ?_
                    refine nv_iadd hx hb d_Mod_readRuns_88 ?_
                    refine lv_istore_n (lv' := [(3, .int (nI (k + u7))), (7, .int (nI j)), (6, .int (nI u12)), (5, .int (nI u7)), (4, .int (nI i)), (2, .int (nI u1)), (0, .ref mo), (1, .int (nI v))]) hx hb d_Mod_readRuns_89 rfl hl (by decide) rfl (fun ls hl => ?_)
                    refine lv_iinc (v := (nI (i + 1))) (lv' := [(4, .int (nI (i + 1))), (3, .int (nI (k + u7))), (7, .int (nI j)), (6, .int (nI u12)), (5, .int (nI u7)), (2, .int (nI u1)), (0, .ref mo), (1, .int (nI v))]) hx hb d_Mod_readRuns_90 hl (k := 4) rfl (nI_add i 1) (by decide) rfl (fun ls hl => ?_)
                    refine lv_goto (tgt := 11) hx hb d_Mod_readRuns_93 (by decide) ?_
                    exact ih11 (i + 1) (k + u7) ((nx1 + 1) + 2) Ti3 (by omega) (by omega) (by omega) (by omega) (bT3) (by omega) _ _ _ hP hD hS (lv_sub hl [0, 1, 5, 6, 7] rfl)
                  · refine lv_aload_n hx hb d_Mod_readRuns_68 rfl (lv_at hl 6 rfl) ?_
                    refine va_get (D := D) (ci := 9) (v := .ref rti) (C := "TileScreenModel") (T := F_Mod) (N := 27) hx hb htb i_Mod hown hG.1 hP 0 rfl rfl 20 (by decide) (htb _ k_655) (fun _ h9 => h9) rfl d_Mod_readRuns_69 ?_
                    refine lv_iload_n hx hb d_Mod_readRuns_72 rfl (lv_at hl 4 rfl) ?_
                    refine lv_iload hx hb d_Mod_readRuns_73 (lv_at hl 0 rfl) ?_
                    refine nv_iadd hx hb d_Mod_readRuns_75 ?_
                    refine lv_iload hx hb d_Mod_readRuns_76 (lv_at hl 1 rfl) ?_
                    refine nv_iast hx hb hG.1 hP hD hS 1 0 rfl rfl (by omega) (by omega) d_Mod_readRuns_78 (fun H locs hP hD hS => ?_)
                    have hP : va_P D classes [(mo, .inr (9, [.int cd, .ref rpx, .int nb, .ref rca, .ref rpl, .ref rth, .ref rco, .ref rsh, .ref rsf, .ref rcr, .ref rep, .ref rby, .ref rli, .ref rls, .ref rla, .ref rcm, .ref rcs, .ref rpa, .ref rpm, .ref rpo, .ref rti, .ref rre, .ref rcl, .int (nI sz), .int (nI cs), .int (nI ((nx1 + 1) + 2)), .int (nI la)])), (rti, .inl (cI, 64, .inl (nF (up Ti3 (k + j) u12)))), (rcm, .inl (cI, 18741, .inl (nF Cm)))] H := hP
                    have hD : va_D AA [(mo, .inr (9, [.int cd, .ref rpx, .int nb, .ref rca, .ref rpl, .ref rth, .ref rco, .ref rsh, .ref rsf, .ref rcr, .ref rep, .ref rby, .ref rli, .ref rls, .ref rla, .ref rcm, .ref rcs, .ref rpa, .ref rpm, .ref rpo, .ref rti, .ref rre, .ref rcl, .int (nI sz), .int (nI cs), .int (nI ((nx1 + 1) + 2)), .int (nI la)])), (rti, .inl (cI, 64, .inl (nF (up Ti3 (k + j) u12)))), (rcm, .inl (cI, 18741, .inl (nF Cm)))] := hD
                    refine lv_iinc (v := (nI (j + 1))) (lv' := [(7, .int (nI (j + 1))), (6, .int (nI u12)), (5, .int (nI u7)), (4, .int (nI i)), (3, .int (nI k)), (2, .int (nI u1)), (0, .ref mo), (1, .int (nI v))]) hx hb d_Mod_readRuns_79 hl (k := 0) rfl (nI_add j 1) (by decide) rfl (fun ls hl => ?_)
                    refine lv_goto (tgt := 61) hx hb d_Mod_readRuns_82 (by decide) ?_
                    exact ih61 (j + 1) (up Ti3 (k + j) u12) (by omega) (up_lt bT3 hp16) (by omega) _ _ _ hP hD hS (lv_sub hl [0, 1, 2, 3, 4, 5, 6, 7] rfl)
              exact lp_61 _ 0 Ti1 (Nat.zero_le _) (bT1) (Nat.lt_succ_self _) _ _ _ hP hD hS (lv_sub hl [0, 1, 2, 3, 4, 5, 6, 7] rfl)
            · refine lv_iconst (v := nI 0) hx hb d_Mod_readRuns_56 (by decide) ?_
              have hR := hret ((nI 0)) (0, (nx1 + 1) + 2, Ti1) H locs 57 ls d_Mod_readRuns_57 (by first | rfl | decide)
              try dsimp only at hR
              exact hR (⟨rfl, by decide, by omega, by omega, bT1⟩) hP hD hS
  exact lp_11 _ 0 0 (nx + 1) Ti (Nat.zero_le _) (by decide) (by omega) (by omega) (bTi) (Nat.lt_succ_self _) _ _ _ hP hD hS (lv_sub hl [0, 1, 2, 3, 4] rfl)
end
