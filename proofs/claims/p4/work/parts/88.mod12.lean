section
variable {l : Launch} {D : va_G} {cI cZ cL cV : ClassId}
theorem up_lt9 {F : Nat → Nat} {B k x : Nat} (h : ∀ j, j ≠ k → F j < B) (hx : x < B) : ∀ j, up F k x j < B := fun j => by
  by_cases e : j = k
  · rw [e, up_s]; exact hx
  · rw [up_n _ _ e]; exact h j e
theorem lt_at {F : Nat → Nat} {B k : Nat} (h : ∀ j, j ≠ k → F j < B) (hk : F k < B) : ∀ j, F j < B := fun j => by
  by_cases e : j = k
  · rw [e]; exact hk
  · exact h j e
set_option maxHeartbeats 400000 in
set_option maxRecDepth 100000 in
theorem c_Mod_poisonR (mo : Nat) (cd : Int32) (rpx : Nat) (nb : Int32) (rca : Nat) (rpl : Nat) (rth : Nat) (rco : Nat) (rsh : Nat) (rsf : Nat) (rcr : Nat) (rep : Nat) (rby : Nat) (rli : Nat) (rls : Nat) (rla : Nat) (rcm : Nat) (rcs : Nat) (rpa : Nat) (rpm : Nat) (rpo : Nat) (rti : Nat) (rre : Nat) (rcl : Nat) (sz : Nat) (cs : Nat) (nx : Nat) (la : Nat) (Pa : Nat → Int32) (Pm : Nat → Nat) (Po : Nat → Nat) (v : Nat) (n : Nat) (mk : Int32) (hv : v < 3) (hn1 : 1 ≤ n) (hn2 : n ≤ 10000) (bPm : ∀ j, Pm j < 256) (bPo : ∀ j, Po j < 9) : CI (S := (Nat → Int32) × (Nat → Nat) × (Nat → Nat)) l classes NW D (TYS cI cZ cL cV) y_Mod_poison (.code y_Mod_poison b_Mod_poison 4 (some .boolean) :: TB) { frames := 1, cells := 0, slots := 0, locals := 20 } [.ref mo, .int (nI v), .int (nI n), .int mk] [(mo, .inr (9, [.int cd, .ref rpx, .int nb, .ref rca, .ref rpl, .ref rth, .ref rco, .ref rsh, .ref rsf, .ref rcr, .ref rep, .ref rby, .ref rli, .ref rls, .ref rla, .ref rcm, .ref rcs, .ref rpa, .ref rpm, .ref rpo, .ref rti, .ref rre, .ref rcl, .int (nI sz), .int (nI cs), .int (nI nx), .int (nI la)])), (rpa, .inl (cI, 24, .inl Pa)), (rpm, .inl (cI, 24, .inl (nF Pm))), (rpo, .inl (cI, 3, .inl (nF Po)))] (fun r u => r = nI 1 ∧ (∀ j, u.2.1 j < 256) ∧ (∀ j, u.2.2 j < 9)) (fun u => [(mo, .inr (9, [.int (nI 0), .ref rpx, .int nb, .ref rca, .ref rpl, .ref rth, .ref rco, .ref rsh, .ref rsf, .ref rcr, .ref rep, .ref rby, .ref rli, .ref rls, .ref rla, .ref rcm, .ref rcs, .ref rpa, .ref rpm, .ref rpo, .ref rti, .ref rre, .ref rcl, .int (nI sz), .int (nI cs), .int (nI nx), .int (nI la)])), (rpa, .inl (cI, 24, .inl u.1)), (rpm, .inl (cI, 24, .inl (nF u.2.1))), (rpo, .inl (cI, 3, .inl (nF u.2.2)))]) := by
  refine CI.of (by decide) (Nat.le_of_ble_eq_true rfl) ?_
  intro pr ev sT mM aR bW mE cO AA QQ ls Bd hG hA hP hD hS hl hret
  have Bd : bd pr cO b_Mod_poison 4 sT aR TB "TileScreenModel" mM := Bd
  obtain ⟨hx, hb, hml, hown, htb⟩ := id Bd
  have hl : lv_has ls 4 [(0, .ref mo), (1, .int (nI v)), (2, .int (nI n)), (3, .int mk)] := hl
  refine lv_aload_n hx hb d_Mod_poison_0 rfl (lv_at hl 0 rfl) ?_
  refine lv_iconst (v := nI 0) hx hb d_Mod_poison_1 (by decide) ?_
  refine va_put (D := D) (ci := 9) (v := .int (nI 0)) (ty := .int) (C := "TileScreenModel") (T := F_Mod) (N := 27) hx hb htb i_Mod t_Mod t_Mod_ok n_Mod hown hG.1 hP hD hS 0 rfl rfl 0 (by decide) (htb _ k_635) (fun _ h9 => h9) rfl (by decide +kernel) rfl rfl (Nat.le_of_ble_eq_true rfl) d_Mod_poison_2 (fun H locs hP hD hS => ?_)
  have hP : va_P D classes [(mo, .inr (9, [.int (nI 0), .ref rpx, .int nb, .ref rca, .ref rpl, .ref rth, .ref rco, .ref rsh, .ref rsf, .ref rcr, .ref rep, .ref rby, .ref rli, .ref rls, .ref rla, .ref rcm, .ref rcs, .ref rpa, .ref rpm, .ref rpo, .ref rti, .ref rre, .ref rcl, .int (nI sz), .int (nI cs), .int (nI nx), .int (nI la)])), (rpa, .inl (cI, 24, .inl Pa)), (rpm, .inl (cI, 24, .inl (nF Pm))), (rpo, .inl (cI, 3, .inl (nF Po)))] H := hP
  have hD : va_D AA [(mo, .inr (9, [.int (nI 0), .ref rpx, .int nb, .ref rca, .ref rpl, .ref rth, .ref rco, .ref rsh, .ref rsf, .ref rcr, .ref rep, .ref rby, .ref rli, .ref rls, .ref rla, .ref rcm, .ref rcs, .ref rpa, .ref rpm, .ref rpo, .ref rti, .ref rre, .ref rcl, .int (nI sz), .int (nI cs), .int (nI nx), .int (nI la)])), (rpa, .inl (cI, 24, .inl Pa)), (rpm, .inl (cI, 24, .inl (nF Pm))), (rpo, .inl (cI, 3, .inl (nF Po)))] := hD
  refine lv_iload_n hx hb d_Mod_poison_5 rfl (lv_at hl 1 rfl) ?_
  refine kS_i (wc := []) (wr := [(mo, .inr (9, [.int (nI 0), .ref rpx, .int nb, .ref rca, .ref rpl, .ref rth, .ref rco, .ref rsh, .ref rsf, .ref rcr, .ref rep, .ref rby, .ref rli, .ref rls, .ref rla, .ref rcm, .ref rcs, .ref rpa, .ref rpm, .ref rpo, .ref rti, .ref rre, .ref rcl, .int (nI sz), .int (nI cs), .int (nI nx), .int (nI la)])), (rpa, .inl (cI, 24, .inl Pa)), (rpm, .inl (cI, 24, .inl (nF Pm))), (rpo, .inl (cI, 3, .inl (nF Po)))]) (w2 := fun _ => [(mo, .inr (9, [.int (nI 0), .ref rpx, .int nb, .ref rca, .ref rpl, .ref rth, .ref rco, .ref rsh, .ref rsf, .ref rcr, .ref rep, .ref rby, .ref rli, .ref rls, .ref rla, .ref rcm, .ref rcs, .ref rpa, .ref rpm, .ref rpo, .ref rti, .ref rre, .ref rcl, .int (nI sz), .int (nI cs), .int (nI nx), .int (nI la)])), (rpa, .inl (cI, 24, .inl Pa)), (rpm, .inl (cI, 24, .inl (nF Pm))), (rpo, .inl (cI, 3, .inl (nF Po)))]) [.int (nI v)] [] Bd ⟨gi_app (gi_c0 k_753 (gi_c0 k_754 (gi_c0 k_10 gi_nil))) (gi_tb0 k_755), rfl, by decide, by decide⟩ (show (parseMethodDescriptor "(I)Z").map (fun d => d.parameters.length) = some 1 by decide +kernel) (c_Mod_isViewer (nI v) ) (by decide +kernel) ⟨Nat.le_of_ble_eq_true rfl, Nat.le_of_ble_eq_true rfl⟩ hG hP hD hS hA [] [0, 1, 2, 3] [0, 1, 2, 3] (by decide) rfl rfl (fun _ => rfl) hl.1 rfl (Nat.le_of_ble_eq_true rfl) d_Mod_poison_6 (fun r1 u3 H locs hp2 hP hD hS => ?_)
  have hP : va_P D classes [(mo, .inr (9, [.int (nI 0), .ref rpx, .int nb, .ref rca, .ref rpl, .ref rth, .ref rco, .ref rsh, .ref rsf, .ref rcr, .ref rep, .ref rby, .ref rli, .ref rls, .ref rla, .ref rcm, .ref rcs, .ref rpa, .ref rpm, .ref rpo, .ref rti, .ref rre, .ref rcl, .int (nI sz), .int (nI cs), .int (nI nx), .int (nI la)])), (rpa, .inl (cI, 24, .inl Pa)), (rpm, .inl (cI, 24, .inl (nF Pm))), (rpo, .inl (cI, 3, .inl (nF Po)))] H := hP
  have hD : va_D AA [(mo, .inr (9, [.int (nI 0), .ref rpx, .int nb, .ref rca, .ref rpl, .ref rth, .ref rco, .ref rsh, .ref rsf, .ref rcr, .ref rep, .ref rby, .ref rli, .ref rls, .ref rla, .ref rcm, .ref rcs, .ref rpa, .ref rpm, .ref rpo, .ref rti, .ref rre, .ref rcl, .int (nI sz), .int (nI cs), .int (nI nx), .int (nI la)])), (rpa, .inl (cI, 24, .inl Pa)), (rpm, .inl (cI, 24, .inl (nF Pm))), (rpo, .inl (cI, 3, .inl (nF Po)))] := hD
  subst hp2
  refine nv_if_eq (tgt := 24) hx hb d_Mod_poison_9 (by decide) (bt_lt _) (fun c_9 => ?_) (fun c_9 => ?_)
  · exact absurd (vwP_i hv) (cB_0 c_9)
  · refine lv_iload_n hx hb d_Mod_poison_12 rfl (lv_at hl 2 rfl) ?_
    refine lv_iconst (v := nI 1) hx hb d_Mod_poison_13 (by decide) ?_
    refine nv_icmp_lt (tgt := 24) hx hb d_Mod_poison_14 (by decide) (by omega) (by omega) (fun c_14 => ?_) (fun c_14 => ?_)
    · omega
    · refine lv_iload_n hx hb d_Mod_poison_17 rfl (lv_at hl 2 rfl) ?_
      refine lv_sipush (v := nI 10000) hx hb d_Mod_poison_18 (by decide) ?_
      refine nv_icmp_le (tgt := 26) hx hb d_Mod_poison_21 (by decide) (by omega) (by omega) (fun c_21 => ?_) (fun c_21 => ?_)
      · refine lv_aload_n hx hb d_Mod_poison_26 rfl (lv_at hl 0 rfl) ?_
        refine va_get (D := D) (ci := 9) (v := .ref rpo) (C := "TileScreenModel") (T := F_Mod) (N := 27) hx hb htb i_Mod hown hG.1 hP 0 rfl rfl 19 (by decide) (htb _ k_654) (fun _ h9 => h9) rfl d_Mod_poison_27 ?_
        refine lv_iload_n hx hb d_Mod_poison_30 rfl (lv_at hl 1 rfl) ?_
        refine nv_iald hx hb hG.1 hP 3 0 rfl rfl (by omega) (by omega) d_Mod_poison_31 ?_
        refine lv_bipush (v := nI 8) hx hb d_Mod_poison_32 (by decide) ?_
        refine nv_icmp_ne (tgt := 47) hx hb d_Mod_poison_34 (by decide) (by have := bPo v; omega) (by omega) (fun c_34 => ?_) (fun c_34 => ?_)
        · refine lv_aload_n hx hb d_Mod_poison_47 rfl (lv_at hl 0 rfl) ?_
          refine va_get (D := D) (ci := 9) (v := .ref rpa) (C := "TileScreenModel") (T := F_Mod) (N := 27) hx hb htb i_Mod hown hG.1 hP 0 rfl rfl 17 (by decide) (htb _ k_652) (fun _ h9 => h9) rfl d_Mod_poison_48 ?_
          refine lv_bipush (v := nI 8) hx hb d_Mod_poison_51 (by decide) ?_
          refine lv_iload_n hx hb d_Mod_poison_53 rfl (lv_at hl 1 rfl) ?_
          refine nv_imul hx hb d_Mod_poison_54 ?_
          refine lv_aload_n hx hb d_Mod_poison_55 rfl (lv_at hl 0 rfl) ?_
          refine va_get (D := D) (ci := 9) (v := .ref rpo) (C := "TileScreenModel") (T := F_Mod) (N := 27) hx hb htb i_Mod hown hG.1 hP 0 rfl rfl 19 (by decide) (htb _ k_654) (fun _ h9 => h9) rfl d_Mod_poison_56 ?_
          refine lv_iload_n hx hb d_Mod_poison_59 rfl (lv_at hl 1 rfl) ?_
          refine nv_iald hx hb hG.1 hP 3 0 rfl rfl (by omega) (by omega) d_Mod_poison_60 ?_
          refine nv_iadd hx hb d_Mod_poison_61 ?_
          refine lv_iload_n hx hb d_Mod_poison_62 rfl (lv_at hl 2 rfl) ?_
          refine nr_iast hx hb hG.1 hP hD hS 1 0 rfl rfl (by have := bPo v; omega) (by omega) d_Mod_poison_63 (fun H locs hP hD hS => ?_)
          have hP : va_P D classes [(mo, .inr (9, [.int (nI 0), .ref rpx, .int nb, .ref rca, .ref rpl, .ref rth, .ref rco, .ref rsh, .ref rsf, .ref rcr, .ref rep, .ref rby, .ref rli, .ref rls, .ref rla, .ref rcm, .ref rcs, .ref rpa, .ref rpm, .ref rpo, .ref rti, .ref rre, .ref rcl, .int (nI sz), .int (nI cs), .int (nI nx), .int (nI la)])), (rpa, .inl (cI, 24, .inl (upd Pa (8 * v + (Po v)) (nI n)))), (rpm, .inl (cI, 24, .inl (nF Pm))), (rpo, .inl (cI, 3, .inl (nF Po)))] H := hP
          have hD : va_D AA [(mo, .inr (9, [.int (nI 0), .ref rpx, .int nb, .ref rca, .ref rpl, .ref rth, .ref rco, .ref rsh, .ref rsf, .ref rcr, .ref rep, .ref rby, .ref rli, .ref rls, .ref rla, .ref rcm, .ref rcs, .ref rpa, .ref rpm, .ref rpo, .ref rti, .ref rre, .ref rcl, .int (nI sz), .int (nI cs), .int (nI nx), .int (nI la)])), (rpa, .inl (cI, 24, .inl (upd Pa (8 * v + (Po v)) (nI n)))), (rpm, .inl (cI, 24, .inl (nF Pm))), (rpo, .inl (cI, 3, .inl (nF Po)))] := hD
          refine lv_aload_n hx hb d_Mod_poison_64 rfl (lv_at hl 0 rfl) ?_
          refine va_get (D := D) (ci := 9) (v := .ref rpm) (C := "TileScreenModel") (T := F_Mod) (N := 27) hx hb htb i_Mod hown hG.1 hP 0 rfl rfl 18 (by decide) (htb _ k_653) (fun _ h9 => h9) rfl d_Mod_poison_65 ?_
          refine lv_bipush (v := nI 8) hx hb d_Mod_poison_68 (by decide) ?_
          refine lv_iload_n hx hb d_Mod_poison_70 rfl (lv_at hl 1 rfl) ?_
          refine nv_imul hx hb d_Mod_poison_71 ?_
          refine lv_aload_n hx hb d_Mod_poison_72 rfl (lv_at hl 0 rfl) ?_
          refine va_get (D := D) (ci := 9) (v := .ref rpo) (C := "TileScreenModel") (T := F_Mod) (N := 27) hx hb htb i_Mod hown hG.1 hP 0 rfl rfl 19 (by decide) (htb _ k_654) (fun _ h9 => h9) rfl d_Mod_poison_73 ?_
          refine lv_iload_n hx hb d_Mod_poison_76 rfl (lv_at hl 1 rfl) ?_
          refine nv_iald hx hb hG.1 hP 3 0 rfl rfl (by omega) (by omega) d_Mod_poison_77 ?_
          refine nv_iadd hx hb d_Mod_poison_78 ?_
          refine lv_iload_n hx hb d_Mod_poison_79 rfl (lv_at hl 3 rfl) ?_
          refine lv_sipush (v := nI 255) hx hb d_Mod_poison_80 (by decide) ?_
          refine lv_iand hx hb d_Mod_poison_83 ?_
          refine nv_top (y := nI (mk8 mk)) (mk8_eq mk) ?_
          refine nv_iast hx hb hG.1 hP hD hS 2 0 rfl rfl (by have := bPo v; omega) (by omega) d_Mod_poison_84 (fun H locs hP hD hS => ?_)
          have hP : va_P D classes [(mo, .inr (9, [.int (nI 0), .ref rpx, .int nb, .ref rca, .ref rpl, .ref rth, .ref rco, .ref rsh, .ref rsf, .ref rcr, .ref rep, .ref rby, .ref rli, .ref rls, .ref rla, .ref rcm, .ref rcs, .ref rpa, .ref rpm, .ref rpo, .ref rti, .ref rre, .ref rcl, .int (nI sz), .int (nI cs), .int (nI nx), .int (nI la)])), (rpa, .inl (cI, 24, .inl (upd Pa (8 * v + (Po v)) (nI n)))), (rpm, .inl (cI, 24, .inl (nF (up Pm (8 * v + (Po v)) (mk8 mk))))), (rpo, .inl (cI, 3, .inl (nF Po)))] H := hP
          have hD : va_D AA [(mo, .inr (9, [.int (nI 0), .ref rpx, .int nb, .ref rca, .ref rpl, .ref rth, .ref rco, .ref rsh, .ref rsf, .ref rcr, .ref rep, .ref rby, .ref rli, .ref rls, .ref rla, .ref rcm, .ref rcs, .ref rpa, .ref rpm, .ref rpo, .ref rti, .ref rre, .ref rcl, .int (nI sz), .int (nI cs), .int (nI nx), .int (nI la)])), (rpa, .inl (cI, 24, .inl (upd Pa (8 * v + (Po v)) (nI n)))), (rpm, .inl (cI, 24, .inl (nF (up Pm (8 * v + (Po v)) (mk8 mk))))), (rpo, .inl (cI, 3, .inl (nF Po)))] := hD
          refine lv_aload_n hx hb d_Mod_poison_85 rfl (lv_at hl 0 rfl) ?_
          refine va_get (D := D) (ci := 9) (v := .ref rpo) (C := "TileScreenModel") (T := F_Mod) (N := 27) hx hb htb i_Mod hown hG.1 hP 0 rfl rfl 19 (by decide) (htb _ k_654) (fun _ h9 => h9) rfl d_Mod_poison_86 ?_
          refine lv_iload_n hx hb d_Mod_poison_89 rfl (lv_at hl 1 rfl) ?_
          refine lv_dup2_11 hx hb d_Mod_poison_90 rfl rfl ?_
          refine nv_iald hx hb hG.1 hP 3 0 rfl rfl (by omega) (by omega) d_Mod_poison_91 ?_
          refine lv_iconst (v := nI 1) hx hb d_Mod_poison_92 (by decide) ?_
          refine nv_iadd hx hb d_Mod_poison_93 ?_
          refine nv_iast hx hb hG.1 hP hD hS 3 0 rfl rfl (by omega) (by omega) d_Mod_poison_94 (fun H locs hP hD hS => ?_)
          have hP : va_P D classes [(mo, .inr (9, [.int (nI 0), .ref rpx, .int nb, .ref rca, .ref rpl, .ref rth, .ref rco, .ref rsh, .ref rsf, .ref rcr, .ref rep, .ref rby, .ref rli, .ref rls, .ref rla, .ref rcm, .ref rcs, .ref rpa, .ref rpm, .ref rpo, .ref rti, .ref rre, .ref rcl, .int (nI sz), .int (nI cs), .int (nI nx), .int (nI la)])), (rpa, .inl (cI, 24, .inl (upd Pa (8 * v + (Po v)) (nI n)))), (rpm, .inl (cI, 24, .inl (nF (up Pm (8 * v + (Po v)) (mk8 mk))))), (rpo, .inl (cI, 3, .inl (nF (up Po v (Po v + 1)))))] H := hP
          have hD : va_D AA [(mo, .inr (9, [.int (nI 0), .ref rpx, .int nb, .ref rca, .ref rpl, .ref rth, .ref rco, .ref rsh, .ref rsf, .ref rcr, .ref rep, .ref rby, .ref rli, .ref rls, .ref rla, .ref rcm, .ref rcs, .ref rpa, .ref rpm, .ref rpo, .ref rti, .ref rre, .ref rcl, .int (nI sz), .int (nI cs), .int (nI nx), .int (nI la)])), (rpa, .inl (cI, 24, .inl (upd Pa (8 * v + (Po v)) (nI n)))), (rpm, .inl (cI, 24, .inl (nF (up Pm (8 * v + (Po v)) (mk8 mk))))), (rpo, .inl (cI, 3, .inl (nF (up Po v (Po v + 1)))))] := hD
          refine lv_iconst (v := nI 1) hx hb d_Mod_poison_95 (by decide) ?_
          have hR := hret ((nI 1)) (upd Pa (8 * v + (Po v)) (nI n), up Pm (8 * v + (Po v)) (mk8 mk), up Po v (Po v + 1)) H locs 96 ls d_Mod_poison_96 (by first | rfl | decide)
          try dsimp only at hR
          exact hR (⟨rfl, up_lt bPm (mk8_lt mk), up_lt bPo (by have := bPo v; omega)⟩) hP hD hS
        · refine lv_aload_n hx hb d_Mod_poison_37 rfl (lv_at hl 0 rfl) ?_
          refine va_get (D := D) (ci := 9) (v := .ref rpo) (C := "TileScreenModel") (T := F_Mod) (N := 27) hx hb htb i_Mod hown hG.1 hP 0 rfl rfl 19 (by decide) (htb _ k_654) (fun _ h9 => h9) rfl d_Mod_poison_38 ?_
          refine lv_iload_n hx hb d_Mod_poison_41 rfl (lv_at hl 1 rfl) ?_
          refine lv_dup2_11 hx hb d_Mod_poison_42 rfl rfl ?_
          refine nv_iald hx hb hG.1 hP 3 0 rfl rfl (by omega) (by omega) d_Mod_poison_43 ?_
          refine lv_iconst (v := nI 1) hx hb d_Mod_poison_44 (by decide) ?_
          refine nv_isub hx hb (by omega) d_Mod_poison_45 ?_
          refine nv_iast hx hb hG.1 hP hD hS 3 0 rfl rfl (by omega) (by omega) d_Mod_poison_46 (fun H locs hP hD hS => ?_)
          have hP : va_P D classes [(mo, .inr (9, [.int (nI 0), .ref rpx, .int nb, .ref rca, .ref rpl, .ref rth, .ref rco, .ref rsh, .ref rsf, .ref rcr, .ref rep, .ref rby, .ref rli, .ref rls, .ref rla, .ref rcm, .ref rcs, .ref rpa, .ref rpm, .ref rpo, .ref rti, .ref rre, .ref rcl, .int (nI sz), .int (nI cs), .int (nI nx), .int (nI la)])), (rpa, .inl (cI, 24, .inl Pa)), (rpm, .inl (cI, 24, .inl (nF Pm))), (rpo, .inl (cI, 3, .inl (nF (up Po v ((Po v) - 1)))))] H := hP
          have hD : va_D AA [(mo, .inr (9, [.int (nI 0), .ref rpx, .int nb, .ref rca, .ref rpl, .ref rth, .ref rco, .ref rsh, .ref rsf, .ref rcr, .ref rep, .ref rby, .ref rli, .ref rls, .ref rla, .ref rcm, .ref rcs, .ref rpa, .ref rpm, .ref rpo, .ref rti, .ref rre, .ref rcl, .int (nI sz), .int (nI cs), .int (nI nx), .int (nI la)])), (rpa, .inl (cI, 24, .inl Pa)), (rpm, .inl (cI, 24, .inl (nF Pm))), (rpo, .inl (cI, 3, .inl (nF (up Po v ((Po v) - 1)))))] := hD
          refine lv_aload_n hx hb d_Mod_poison_47 rfl (lv_at hl 0 rfl) ?_
          refine va_get (D := D) (ci := 9) (v := .ref rpa) (C := "TileScreenModel") (T := F_Mod) (N := 27) hx hb htb i_Mod hown hG.1 hP 0 rfl rfl 17 (by decide) (htb _ k_652) (fun _ h9 => h9) rfl d_Mod_poison_48 ?_
          refine lv_bipush (v := nI 8) hx hb d_Mod_poison_51 (by decide) ?_
          refine lv_iload_n hx hb d_Mod_poison_53 rfl (lv_at hl 1 rfl) ?_
          refine nv_imul hx hb d_Mod_poison_54 ?_
          refine lv_aload_n hx hb d_Mod_poison_55 rfl (lv_at hl 0 rfl) ?_
          refine va_get (D := D) (ci := 9) (v := .ref rpo) (C := "TileScreenModel") (T := F_Mod) (N := 27) hx hb htb i_Mod hown hG.1 hP 0 rfl rfl 19 (by decide) (htb _ k_654) (fun _ h9 => h9) rfl d_Mod_poison_56 ?_
          refine lv_iload_n hx hb d_Mod_poison_59 rfl (lv_at hl 1 rfl) ?_
          refine nv_iald hx hb hG.1 hP 3 0 rfl rfl (by omega) (by omega) d_Mod_poison_60 ?_
          refine nv_top (y := nI (Po v - 1)) (congrArg nI (up_s _ _ _)) ?_
          refine nv_iadd hx hb d_Mod_poison_61 ?_
          refine lv_iload_n hx hb d_Mod_poison_62 rfl (lv_at hl 2 rfl) ?_
          refine nr_iast hx hb hG.1 hP hD hS 1 0 rfl rfl (by have := bPo v; omega) (by omega) d_Mod_poison_63 (fun H locs hP hD hS => ?_)
          have hP : va_P D classes [(mo, .inr (9, [.int (nI 0), .ref rpx, .int nb, .ref rca, .ref rpl, .ref rth, .ref rco, .ref rsh, .ref rsf, .ref rcr, .ref rep, .ref rby, .ref rli, .ref rls, .ref rla, .ref rcm, .ref rcs, .ref rpa, .ref rpm, .ref rpo, .ref rti, .ref rre, .ref rcl, .int (nI sz), .int (nI cs), .int (nI nx), .int (nI la)])), (rpa, .inl (cI, 24, .inl (upd Pa (8 * v + (Po v - 1)) (nI n)))), (rpm, .inl (cI, 24, .inl (nF Pm))), (rpo, .inl (cI, 3, .inl (nF (up Po v ((Po v) - 1)))))] H := hP
          have hD : va_D AA [(mo, .inr (9, [.int (nI 0), .ref rpx, .int nb, .ref rca, .ref rpl, .ref rth, .ref rco, .ref rsh, .ref rsf, .ref rcr, .ref rep, .ref rby, .ref rli, .ref rls, .ref rla, .ref rcm, .ref rcs, .ref rpa, .ref rpm, .ref rpo, .ref rti, .ref rre, .ref rcl, .int (nI sz), .int (nI cs), .int (nI nx), .int (nI la)])), (rpa, .inl (cI, 24, .inl (upd Pa (8 * v + (Po v - 1)) (nI n)))), (rpm, .inl (cI, 24, .inl (nF Pm))), (rpo, .inl (cI, 3, .inl (nF (up Po v ((Po v) - 1)))))] := hD
          refine lv_aload_n hx hb d_Mod_poison_64 rfl (lv_at hl 0 rfl) ?_
          refine va_get (D := D) (ci := 9) (v := .ref rpm) (C := "TileScreenModel") (T := F_Mod) (N := 27) hx hb htb i_Mod hown hG.1 hP 0 rfl rfl 18 (by decide) (htb _ k_653) (fun _ h9 => h9) rfl d_Mod_poison_65 ?_
          refine lv_bipush (v := nI 8) hx hb d_Mod_poison_68 (by decide) ?_
          refine lv_iload_n hx hb d_Mod_poison_70 rfl (lv_at hl 1 rfl) ?_
          refine nv_imul hx hb d_Mod_poison_71 ?_
          refine lv_aload_n hx hb d_Mod_poison_72 rfl (lv_at hl 0 rfl) ?_
          refine va_get (D := D) (ci := 9) (v := .ref rpo) (C := "TileScreenModel") (T := F_Mod) (N := 27) hx hb htb i_Mod hown hG.1 hP 0 rfl rfl 19 (by decide) (htb _ k_654) (fun _ h9 => h9) rfl d_Mod_poison_73 ?_
          refine lv_iload_n hx hb d_Mod_poison_76 rfl (lv_at hl 1 rfl) ?_
          refine nv_iald hx hb hG.1 hP 3 0 rfl rfl (by omega) (by omega) d_Mod_poison_77 ?_
          refine nv_top (y := nI (Po v - 1)) (congrArg nI (up_s _ _ _)) ?_
          refine nv_iadd hx hb d_Mod_poison_78 ?_
          refine lv_iload_n hx hb d_Mod_poison_79 rfl (lv_at hl 3 rfl) ?_
          refine lv_sipush (v := nI 255) hx hb d_Mod_poison_80 (by decide) ?_
          refine lv_iand hx hb d_Mod_poison_83 ?_
          refine nv_top (y := nI (mk8 mk)) (mk8_eq mk) ?_
          refine nv_iast hx hb hG.1 hP hD hS 2 0 rfl rfl (by have := bPo v; omega) (by omega) d_Mod_poison_84 (fun H locs hP hD hS => ?_)
          have hP : va_P D classes [(mo, .inr (9, [.int (nI 0), .ref rpx, .int nb, .ref rca, .ref rpl, .ref rth, .ref rco, .ref rsh, .ref rsf, .ref rcr, .ref rep, .ref rby, .ref rli, .ref rls, .ref rla, .ref rcm, .ref rcs, .ref rpa, .ref rpm, .ref rpo, .ref rti, .ref rre, .ref rcl, .int (nI sz), .int (nI cs), .int (nI nx), .int (nI la)])), (rpa, .inl (cI, 24, .inl (upd Pa (8 * v + (Po v - 1)) (nI n)))), (rpm, .inl (cI, 24, .inl (nF (up Pm (8 * v + (Po v - 1)) (mk8 mk))))), (rpo, .inl (cI, 3, .inl (nF (up Po v ((Po v) - 1)))))] H := hP
          have hD : va_D AA [(mo, .inr (9, [.int (nI 0), .ref rpx, .int nb, .ref rca, .ref rpl, .ref rth, .ref rco, .ref rsh, .ref rsf, .ref rcr, .ref rep, .ref rby, .ref rli, .ref rls, .ref rla, .ref rcm, .ref rcs, .ref rpa, .ref rpm, .ref rpo, .ref rti, .ref rre, .ref rcl, .int (nI sz), .int (nI cs), .int (nI nx), .int (nI la)])), (rpa, .inl (cI, 24, .inl (upd Pa (8 * v + (Po v - 1)) (nI n)))), (rpm, .inl (cI, 24, .inl (nF (up Pm (8 * v + (Po v - 1)) (mk8 mk))))), (rpo, .inl (cI, 3, .inl (nF (up Po v ((Po v) - 1)))))] := hD
          refine lv_aload_n hx hb d_Mod_poison_85 rfl (lv_at hl 0 rfl) ?_
          refine va_get (D := D) (ci := 9) (v := .ref rpo) (C := "TileScreenModel") (T := F_Mod) (N := 27) hx hb htb i_Mod hown hG.1 hP 0 rfl rfl 19 (by decide) (htb _ k_654) (fun _ h9 => h9) rfl d_Mod_poison_86 ?_
          refine lv_iload_n hx hb d_Mod_poison_89 rfl (lv_at hl 1 rfl) ?_
          refine lv_dup2_11 hx hb d_Mod_poison_90 rfl rfl ?_
          refine nv_iald hx hb hG.1 hP 3 0 rfl rfl (by omega) (by omega) d_Mod_poison_91 ?_
          refine nv_top (y := nI (Po v - 1)) (congrArg nI (up_s _ _ _)) ?_
          refine lv_iconst (v := nI 1) hx hb d_Mod_poison_92 (by decide) ?_
          refine nv_iadd hx hb d_Mod_poison_93 ?_
          refine nv_iast hx hb hG.1 hP hD hS 3 0 rfl rfl (by omega) (by omega) d_Mod_poison_94 (fun H locs hP hD hS => ?_)
          have hP : va_P D classes [(mo, .inr (9, [.int (nI 0), .ref rpx, .int nb, .ref rca, .ref rpl, .ref rth, .ref rco, .ref rsh, .ref rsf, .ref rcr, .ref rep, .ref rby, .ref rli, .ref rls, .ref rla, .ref rcm, .ref rcs, .ref rpa, .ref rpm, .ref rpo, .ref rti, .ref rre, .ref rcl, .int (nI sz), .int (nI cs), .int (nI nx), .int (nI la)])), (rpa, .inl (cI, 24, .inl (upd Pa (8 * v + (Po v - 1)) (nI n)))), (rpm, .inl (cI, 24, .inl (nF (up Pm (8 * v + (Po v - 1)) (mk8 mk))))), (rpo, .inl (cI, 3, .inl (nF (up (up Po v ((Po v) - 1)) v ((Po v - 1) + 1)))))] H := hP
          have hD : va_D AA [(mo, .inr (9, [.int (nI 0), .ref rpx, .int nb, .ref rca, .ref rpl, .ref rth, .ref rco, .ref rsh, .ref rsf, .ref rcr, .ref rep, .ref rby, .ref rli, .ref rls, .ref rla, .ref rcm, .ref rcs, .ref rpa, .ref rpm, .ref rpo, .ref rti, .ref rre, .ref rcl, .int (nI sz), .int (nI cs), .int (nI nx), .int (nI la)])), (rpa, .inl (cI, 24, .inl (upd Pa (8 * v + (Po v - 1)) (nI n)))), (rpm, .inl (cI, 24, .inl (nF (up Pm (8 * v + (Po v - 1)) (mk8 mk))))), (rpo, .inl (cI, 3, .inl (nF (up (up Po v ((Po v) - 1)) v ((Po v - 1) + 1)))))] := hD
          refine lv_iconst (v := nI 1) hx hb d_Mod_poison_95 (by decide) ?_
          have hR := hret ((nI 1)) (upd Pa (8 * v + (Po v - 1)) (nI n), up Pm (8 * v + (Po v - 1)) (mk8 mk), up (up Po v ((Po v) - 1)) v ((Po v - 1) + 1)) H locs 96 ls d_Mod_poison_96 (by first | rfl | decide)
          try dsimp only at hR
          exact hR (⟨rfl, up_lt bPm (mk8_lt mk), up_lt (up_lt bPo (by have := bPo v; omega)) (by have := bPo v; omega)⟩) hP hD hS
      · omega
set_option maxHeartbeats 8000000 in
set_option maxRecDepth 100000 in
theorem c_Mod_take (mo : Nat) (cd : Int32) (rpx : Nat) (nb : Int32) (rca : Nat) (rpl : Nat) (rth : Nat) (rco : Nat) (rsh : Nat) (rsf : Nat) (rcr : Nat) (rep : Nat) (rby : Nat) (rli : Nat) (rls : Nat) (rla : Nat) (rcm : Nat) (rcs : Nat) (rpa : Nat) (rpm : Nat) (rpo : Nat) (rti : Nat) (rre : Nat) (rcl : Nat) (sz : Nat) (cs : Nat) (nx : Nat) (la : Nat) (Px : Nat → Nat) (Th : Nat → Nat) (Ca : Nat → Nat) (Pl : Nat → Nat) (Ti : Nat → Nat) (Co : Nat → Nat) (Cm : Nat → Nat) (Cz : Nat → Nat) (Sh : Nat → Int32) (Pa : Nat → Int32) (Pm : Nat → Nat) (Po : Nat → Nat) (v : Nat) (b0 : Nat) (hv : v < 3) (bPx : ∀ j, Px j < 65536) (bTh : ∀ j, Th j < 2) (bCa : ∀ j, Ca j < 65536) (bPl : ∀ j, Pl j < 16) (bTi : ∀ j, Ti j < 65536) (bCo : ∀ j, Co j < 65536) (bCm : ∀ j, Cm j < 256) (bPm : ∀ j, Pm j < 256) (bPo : ∀ j, Po j < 9) (hz : Cz v < 6247) (hb0 : b0 < 256) : CI (S := Nat × Nat × Nat × (Nat → Nat) × (Nat → Nat) × (Nat → Nat) × (Nat → Nat) × (Nat → Nat) × (Nat → Nat) × (Nat → Nat) × (Nat → Int32) × (Nat → Nat) × (Nat → Int32) × (Nat → Nat) × (Nat → Nat)) l classes NW D (TYS cI cZ cL cV) y_Mod_take (.code y_Mod_take b_Mod_take 7 (some .boolean) :: TB) { frames := 5, cells := 0, slots := 0, locals := 143 } [.ref mo, .int (nI v), .int (nI b0)] [(mo, .inr (9, [.int cd, .ref rpx, .int nb, .ref rca, .ref rpl, .ref rth, .ref rco, .ref rsh, .ref rsf, .ref rcr, .ref rep, .ref rby, .ref rli, .ref rls, .ref rla, .ref rcm, .ref rcs, .ref rpa, .ref rpm, .ref rpo, .ref rti, .ref rre, .ref rcl, .int (nI sz), .int (nI cs), .int (nI nx), .int (nI la)])), (rpx, .inl (cI, 30720, .inl (nF Px))), (rth, .inl (cZ, 96, .inl (nF Th))), (rca, .inl (cI, 6144, .inl (nF Ca))), (rpl, .inl (cI, 6, .inl (nF Pl))), (rti, .inl (cI, 64, .inl (nF Ti))), (rcl, .inl (cI, 64, .inl (nF Co))), (rcm, .inl (cI, 18741, .inl (nF Cm))), (rcs, .inl (cI, 3, .inl (nF Cz))), (rsh, .inl (cI, 3, .inl Sh)), (rpa, .inl (cI, 24, .inl Pa)), (rpm, .inl (cI, 24, .inl (nF Pm))), (rpo, .inl (cI, 3, .inl (nF Po)))] (fun r u => r = nI u.1 ∧ u.1 ≤ 1 ∧ (∀ j, j ≠ v → u.2.2.2.2.2.2.2.2.2.1 j = Cz j) ∧ (u.1 = 1 → u.2.2.2.2.2.2.2.2.2.1 v < 6247) ∧ (∀ j, u.2.2.2.1 j < 65536) ∧ (∀ j, u.2.2.2.2.1 j < 2) ∧ (∀ j, u.2.2.2.2.2.1 j < 65536) ∧ (∀ j, u.2.2.2.2.2.2.1 j < 16) ∧ (∀ j, u.2.2.2.2.2.2.2.1 j < 65536) ∧ (∀ j, u.2.2.2.2.2.2.2.2.1 j < 65536) ∧ (∀ j, u.2.2.2.2.2.2.2.2.2.2.2.1 j < 256) ∧ (∀ j, u.2.2.2.2.2.2.2.2.2.2.2.2.2.1 j < 256) ∧ (∀ j, u.2.2.2.2.2.2.2.2.2.2.2.2.2.2 j < 9)) (fun u => [(mo, .inr (9, [.int cd, .ref rpx, .int nb, .ref rca, .ref rpl, .ref rth, .ref rco, .ref rsh, .ref rsf, .ref rcr, .ref rep, .ref rby, .ref rli, .ref rls, .ref rla, .ref rcm, .ref rcs, .ref rpa, .ref rpm, .ref rpo, .ref rti, .ref rre, .ref rcl, .int (nI sz), .int (nI cs), .int (nI u.2.1), .int (nI u.2.2.1)])), (rpx, .inl (cI, 30720, .inl (nF u.2.2.2.1))), (rth, .inl (cZ, 96, .inl (nF u.2.2.2.2.1))), (rca, .inl (cI, 6144, .inl (nF u.2.2.2.2.2.1))), (rpl, .inl (cI, 6, .inl (nF u.2.2.2.2.2.2.1))), (rti, .inl (cI, 64, .inl (nF u.2.2.2.2.2.2.2.1))), (rcl, .inl (cI, 64, .inl (nF u.2.2.2.2.2.2.2.2.1))), (rcm, .inl (cI, 18741, .inl (nF u.2.2.2.2.2.2.2.2.2.2.2.1))), (rcs, .inl (cI, 3, .inl (nF u.2.2.2.2.2.2.2.2.2.1))), (rsh, .inl (cI, 3, .inl u.2.2.2.2.2.2.2.2.2.2.1)), (rpa, .inl (cI, 24, .inl u.2.2.2.2.2.2.2.2.2.2.2.2.1)), (rpm, .inl (cI, 24, .inl (nF u.2.2.2.2.2.2.2.2.2.2.2.2.2.1))), (rpo, .inl (cI, 3, .inl (nF u.2.2.2.2.2.2.2.2.2.2.2.2.2.2)))]) := by
  refine CI.of (by decide) (Nat.le_of_ble_eq_true rfl) ?_
  intro pr ev sT mM aR bW mE cO AA QQ ls Bd hG hA hP hD hS hl hret
  have Bd : bd pr cO b_Mod_take 7 sT aR TB "TileScreenModel" mM := Bd
  obtain ⟨hx, hb, hml, hown, htb⟩ := id Bd
  have hl : lv_has ls 7 [(0, .ref mo), (1, .int (nI v)), (2, .int (nI b0))] := hl
  refine lv_iload_n hx hb d_Mod_take_0 rfl (lv_at hl 2 rfl) ?_
  refine lv_istore_n (lv' := [(3, .int (nI b0)), (0, .ref mo), (1, .int (nI v)), (2, .int (nI b0))]) hx hb d_Mod_take_1 rfl hl (by decide) rfl (fun ls hl => ?_)
  refine lv_iconst (v := nI 0) hx hb d_Mod_take_2 (by decide) ?_
  refine lv_istore (lv' := [(4, .int (nI 0)), (3, .int (nI b0)), (0, .ref mo), (1, .int (nI v)), (2, .int (nI b0))]) hx hb d_Mod_take_3 hl (by decide) rfl (fun ls hl => ?_)
  refine lv_iconst (v := nI 0) hx hb d_Mod_take_5 (by decide) ?_
  refine lv_istore (lv' := [(5, .int (nI 0)), (4, .int (nI 0)), (3, .int (nI b0)), (0, .ref mo), (1, .int (nI v)), (2, .int (nI b0))]) hx hb d_Mod_take_6 hl (by decide) rfl (fun ls hl => ?_)
  have lp_8 : ∀ (nn : Nat) (k : Nat) (g1 : Nat) (q : Nat) (Pa1 : Nat → Int32) (Pm1 : Nat → Nat) (hk : k ≤ Po v) (hq : q ≤ k) (hg1 : g1 < 256) (bm1 : ∀ j, Pm1 j < 256), Po v - k < nn → ∀ (H : Heap) (locs : List Loc) (ls : Array Slot), va_P D classes [(mo, .inr (9, [.int cd, .ref rpx, .int nb, .ref rca, .ref rpl, .ref rth, .ref rco, .ref rsh, .ref rsf, .ref rcr, .ref rep, .ref rby, .ref rli, .ref rls, .ref rla, .ref rcm, .ref rcs, .ref rpa, .ref rpm, .ref rpo, .ref rti, .ref rre, .ref rcl, .int (nI sz), .int (nI cs), .int (nI nx), .int (nI la)])), (rpx, .inl (cI, 30720, .inl (nF Px))), (rth, .inl (cZ, 96, .inl (nF Th))), (rca, .inl (cI, 6144, .inl (nF Ca))), (rpl, .inl (cI, 6, .inl (nF Pl))), (rti, .inl (cI, 64, .inl (nF Ti))), (rcl, .inl (cI, 64, .inl (nF Co))), (rcm, .inl (cI, 18741, .inl (nF Cm))), (rcs, .inl (cI, 3, .inl (nF Cz))), (rsh, .inl (cI, 3, .inl Sh)), (rpa, .inl (cI, 24, .inl Pa1)), (rpm, .inl (cI, 24, .inl (nF Pm1))), (rpo, .inl (cI, 3, .inl (nF Po)))] H → va_D AA [(mo, .inr (9, [.int cd, .ref rpx, .int nb, .ref rca, .ref rpl, .ref rth, .ref rco, .ref rsh, .ref rsf, .ref rcr, .ref rep, .ref rby, .ref rli, .ref rls, .ref rla, .ref rcm, .ref rcs, .ref rpa, .ref rpm, .ref rpo, .ref rti, .ref rre, .ref rcl, .int (nI sz), .int (nI cs), .int (nI nx), .int (nI la)])), (rpx, .inl (cI, 30720, .inl (nF Px))), (rth, .inl (cZ, 96, .inl (nF Th))), (rca, .inl (cI, 6144, .inl (nF Ca))), (rpl, .inl (cI, 6, .inl (nF Pl))), (rti, .inl (cI, 64, .inl (nF Ti))), (rcl, .inl (cI, 64, .inl (nF Co))), (rcm, .inl (cI, 18741, .inl (nF Cm))), (rcs, .inl (cI, 3, .inl (nF Cz))), (rsh, .inl (cI, 3, .inl Sh)), (rpa, .inl (cI, 24, .inl Pa1)), (rpm, .inl (cI, 24, .inl (nF Pm1))), (rpo, .inl (cI, 3, .inl (nF Po)))] → va_S AA sT.heap H locs → lv_has ls 7 [(5, .int (nI k)), (4, .int (nI q)), (3, .int (nI g1)), (0, .ref mo), (1, .int (nI v)), (2, .int (nI b0))] → W pr l ev ({ frames := 5, cells := 0, slots := 0, locals := 143 } : Room) sT mM aR bW mE cO H locs 0 0 QQ (F0 mM 8 ls []) := by
    intro nn
    induction nn with
    | zero => intro k g1 q Pa1 Pm1 hk hq hg1 bm1 hm; exact absurd hm (Nat.not_lt_zero _)
    | succ nn ih8 =>
      intro k g1 q Pa1 Pm1 hk hq hg1 bm1 hm H locs ls hP hD hS hl
      have hp9 := bPo v
      refine lv_iload hx hb d_Mod_take_8 (lv_at hl 0 rfl) ?_
      refine lv_aload_n hx hb d_Mod_take_10 rfl (lv_at hl 3 rfl) ?_
      refine va_get (D := D) (ci := 9) (v := .ref rpo) (C := "TileScreenModel") (T := F_Mod) (N := 27) hx hb htb i_Mod hown hG.1 hP 0 rfl rfl 19 (by decide) (htb _ k_654) (fun _ h9 => h9) rfl d_Mod_take_11 ?_
      refine lv_iload_n hx hb d_Mod_take_14 rfl (lv_at hl 4 rfl) ?_
      refine nv_iald hx hb hG.1 hP 12 0 rfl rfl (by omega) (by omega) d_Mod_take_15 ?_
      refine nv_icmp_ge (tgt := 105) hx hb d_Mod_take_16 (by decide) (by omega) (by have := bPo v; omega) (fun c_16 => ?_) (fun c_16 => ?_)
      · refine lv_aload_n hx hb d_Mod_take_105 rfl (lv_at hl 3 rfl) ?_
        refine va_get (D := D) (ci := 9) (v := .ref rpo) (C := "TileScreenModel") (T := F_Mod) (N := 27) hx hb htb i_Mod hown hG.1 hP 0 rfl rfl 19 (by decide) (htb _ k_654) (fun _ h9 => h9) rfl d_Mod_take_106 ?_
        refine lv_iload_n hx hb d_Mod_take_109 rfl (lv_at hl 4 rfl) ?_
        refine lv_iload hx hb d_Mod_take_110 (lv_at hl 1 rfl) ?_
        refine nv_iast hx hb hG.1 hP hD hS 12 0 rfl rfl (by omega) (by omega) d_Mod_take_112 (fun H locs hP hD hS => ?_)
        have hP : va_P D classes [(mo, .inr (9, [.int cd, .ref rpx, .int nb, .ref rca, .ref rpl, .ref rth, .ref rco, .ref rsh, .ref rsf, .ref rcr, .ref rep, .ref rby, .ref rli, .ref rls, .ref rla, .ref rcm, .ref rcs, .ref rpa, .ref rpm, .ref rpo, .ref rti, .ref rre, .ref rcl, .int (nI sz), .int (nI cs), .int (nI nx), .int (nI la)])), (rpx, .inl (cI, 30720, .inl (nF Px))), (rth, .inl (cZ, 96, .inl (nF Th))), (rca, .inl (cI, 6144, .inl (nF Ca))), (rpl, .inl (cI, 6, .inl (nF Pl))), (rti, .inl (cI, 64, .inl (nF Ti))), (rcl, .inl (cI, 64, .inl (nF Co))), (rcm, .inl (cI, 18741, .inl (nF Cm))), (rcs, .inl (cI, 3, .inl (nF Cz))), (rsh, .inl (cI, 3, .inl Sh)), (rpa, .inl (cI, 24, .inl Pa1)), (rpm, .inl (cI, 24, .inl (nF Pm1))), (rpo, .inl (cI, 3, .inl (nF (up Po v q))))] H := hP
        have hD : va_D AA [(mo, .inr (9, [.int cd, .ref rpx, .int nb, .ref rca, .ref rpl, .ref rth, .ref rco, .ref rsh, .ref rsf, .ref rcr, .ref rep, .ref rby, .ref rli, .ref rls, .ref rla, .ref rcm, .ref rcs, .ref rpa, .ref rpm, .ref rpo, .ref rti, .ref rre, .ref rcl, .int (nI sz), .int (nI cs), .int (nI nx), .int (nI la)])), (rpx, .inl (cI, 30720, .inl (nF Px))), (rth, .inl (cZ, 96, .inl (nF Th))), (rca, .inl (cI, 6144, .inl (nF Ca))), (rpl, .inl (cI, 6, .inl (nF Pl))), (rti, .inl (cI, 64, .inl (nF Ti))), (rcl, .inl (cI, 64, .inl (nF Co))), (rcm, .inl (cI, 18741, .inl (nF Cm))), (rcs, .inl (cI, 3, .inl (nF Cz))), (rsh, .inl (cI, 3, .inl Sh)), (rpa, .inl (cI, 24, .inl Pa1)), (rpm, .inl (cI, 24, .inl (nF Pm1))), (rpo, .inl (cI, 3, .inl (nF (up Po v q))))] := hD
        refine lv_aload_n hx hb d_Mod_take_113 rfl (lv_at hl 3 rfl) ?_
        refine va_get (D := D) (ci := 9) (v := .ref rcm) (C := "TileScreenModel") (T := F_Mod) (N := 27) hx hb htb i_Mod hown hG.1 hP 0 rfl rfl 15 (by decide) (htb _ k_650) (fun _ h9 => h9) rfl d_Mod_take_114 ?_
        refine lv_sipush (v := nI 6247) hx hb d_Mod_take_117 (by decide) ?_
        refine lv_iload_n hx hb d_Mod_take_120 rfl (lv_at hl 4 rfl) ?_
        refine nv_imul hx hb d_Mod_take_121 ?_
        refine lv_aload_n hx hb d_Mod_take_122 rfl (lv_at hl 3 rfl) ?_
        refine va_get (D := D) (ci := 9) (v := .ref rcs) (C := "TileScreenModel") (T := F_Mod) (N := 27) hx hb htb i_Mod hown hG.1 hP 0 rfl rfl 16 (by decide) (htb _ k_651) (fun _ h9 => h9) rfl d_Mod_take_123 ?_
        refine lv_iload_n hx hb d_Mod_take_126 rfl (lv_at hl 4 rfl) ?_
        refine nv_iald hx hb hG.1 hP 8 0 rfl rfl (by omega) (by omega) d_Mod_take_127 ?_
        refine nv_iadd hx hb d_Mod_take_128 ?_
        refine lv_iload_n hx hb d_Mod_take_129 rfl (lv_at hl 2 rfl) ?_
        refine nv_iast hx hb hG.1 hP hD hS 7 0 rfl rfl (by omega) (by omega) d_Mod_take_130 (fun H locs hP hD hS => ?_)
        have hP : va_P D classes [(mo, .inr (9, [.int cd, .ref rpx, .int nb, .ref rca, .ref rpl, .ref rth, .ref rco, .ref rsh, .ref rsf, .ref rcr, .ref rep, .ref rby, .ref rli, .ref rls, .ref rla, .ref rcm, .ref rcs, .ref rpa, .ref rpm, .ref rpo, .ref rti, .ref rre, .ref rcl, .int (nI sz), .int (nI cs), .int (nI nx), .int (nI la)])), (rpx, .inl (cI, 30720, .inl (nF Px))), (rth, .inl (cZ, 96, .inl (nF Th))), (rca, .inl (cI, 6144, .inl (nF Ca))), (rpl, .inl (cI, 6, .inl (nF Pl))), (rti, .inl (cI, 64, .inl (nF Ti))), (rcl, .inl (cI, 64, .inl (nF Co))), (rcm, .inl (cI, 18741, .inl (nF (up Cm (6247 * v + (Cz v)) g1)))), (rcs, .inl (cI, 3, .inl (nF Cz))), (rsh, .inl (cI, 3, .inl Sh)), (rpa, .inl (cI, 24, .inl Pa1)), (rpm, .inl (cI, 24, .inl (nF Pm1))), (rpo, .inl (cI, 3, .inl (nF (up Po v q))))] H := hP
        have hD : va_D AA [(mo, .inr (9, [.int cd, .ref rpx, .int nb, .ref rca, .ref rpl, .ref rth, .ref rco, .ref rsh, .ref rsf, .ref rcr, .ref rep, .ref rby, .ref rli, .ref rls, .ref rla, .ref rcm, .ref rcs, .ref rpa, .ref rpm, .ref rpo, .ref rti, .ref rre, .ref rcl, .int (nI sz), .int (nI cs), .int (nI nx), .int (nI la)])), (rpx, .inl (cI, 30720, .inl (nF Px))), (rth, .inl (cZ, 96, .inl (nF Th))), (rca, .inl (cI, 6144, .inl (nF Ca))), (rpl, .inl (cI, 6, .inl (nF Pl))), (rti, .inl (cI, 64, .inl (nF Ti))), (rcl, .inl (cI, 64, .inl (nF Co))), (rcm, .inl (cI, 18741, .inl (nF (up Cm (6247 * v + (Cz v)) g1)))), (rcs, .inl (cI, 3, .inl (nF Cz))), (rsh, .inl (cI, 3, .inl Sh)), (rpa, .inl (cI, 24, .inl Pa1)), (rpm, .inl (cI, 24, .inl (nF Pm1))), (rpo, .inl (cI, 3, .inl (nF (up Po v q))))] := hD
        refine lv_aload_n hx hb d_Mod_take_131 rfl (lv_at hl 3 rfl) ?_
        refine va_get (D := D) (ci := 9) (v := .ref rcs) (C := "TileScreenModel") (T := F_Mod) (N := 27) hx hb htb i_Mod hown hG.1 hP 0 rfl rfl 16 (by decide) (htb _ k_651) (fun _ h9 => h9) rfl d_Mod_take_132 ?_
        refine lv_iload_n hx hb d_Mod_take_135 rfl (lv_at hl 4 rfl) ?_
        refine lv_dup2_11 hx hb d_Mod_take_136 rfl rfl ?_
        refine nv_iald hx hb hG.1 hP 8 0 rfl rfl (by omega) (by omega) d_Mod_take_137 ?_
        refine lv_iconst (v := nI 1) hx hb d_Mod_take_138 (by decide) ?_
        refine nv_iadd hx hb d_Mod_take_139 ?_
        refine nv_iast hx hb hG.1 hP hD hS 8 0 rfl rfl (by omega) (by omega) d_Mod_take_140 (fun H locs hP hD hS => ?_)
        have hP : va_P D classes [(mo, .inr (9, [.int cd, .ref rpx, .int nb, .ref rca, .ref rpl, .ref rth, .ref rco, .ref rsh, .ref rsf, .ref rcr, .ref rep, .ref rby, .ref rli, .ref rls, .ref rla, .ref rcm, .ref rcs, .ref rpa, .ref rpm, .ref rpo, .ref rti, .ref rre, .ref rcl, .int (nI sz), .int (nI cs), .int (nI nx), .int (nI la)])), (rpx, .inl (cI, 30720, .inl (nF Px))), (rth, .inl (cZ, 96, .inl (nF Th))), (rca, .inl (cI, 6144, .inl (nF Ca))), (rpl, .inl (cI, 6, .inl (nF Pl))), (rti, .inl (cI, 64, .inl (nF Ti))), (rcl, .inl (cI, 64, .inl (nF Co))), (rcm, .inl (cI, 18741, .inl (nF (up Cm (6247 * v + (Cz v)) g1)))), (rcs, .inl (cI, 3, .inl (nF (up Cz v (Cz v + 1))))), (rsh, .inl (cI, 3, .inl Sh)), (rpa, .inl (cI, 24, .inl Pa1)), (rpm, .inl (cI, 24, .inl (nF Pm1))), (rpo, .inl (cI, 3, .inl (nF (up Po v q))))] H := hP
        have hD : va_D AA [(mo, .inr (9, [.int cd, .ref rpx, .int nb, .ref rca, .ref rpl, .ref rth, .ref rco, .ref rsh, .ref rsf, .ref rcr, .ref rep, .ref rby, .ref rli, .ref rls, .ref rla, .ref rcm, .ref rcs, .ref rpa, .ref rpm, .ref rpo, .ref rti, .ref rre, .ref rcl, .int (nI sz), .int (nI cs), .int (nI nx), .int (nI la)])), (rpx, .inl (cI, 30720, .inl (nF Px))), (rth, .inl (cZ, 96, .inl (nF Th))), (rca, .inl (cI, 6144, .inl (nF Ca))), (rpl, .inl (cI, 6, .inl (nF Pl))), (rti, .inl (cI, 64, .inl (nF Ti))), (rcl, .inl (cI, 64, .inl (nF Co))), (rcm, .inl (cI, 18741, .inl (nF (up Cm (6247 * v + (Cz v)) g1)))), (rcs, .inl (cI, 3, .inl (nF (up Cz v (Cz v + 1))))), (rsh, .inl (cI, 3, .inl Sh)), (rpa, .inl (cI, 24, .inl Pa1)), (rpm, .inl (cI, 24, .inl (nF Pm1))), (rpo, .inl (cI, 3, .inl (nF (up Po v q))))] := hD
        refine lv_aload_n hx hb d_Mod_take_141 rfl (lv_at hl 3 rfl) ?_
        refine va_get (D := D) (ci := 9) (v := .ref rcs) (C := "TileScreenModel") (T := F_Mod) (N := 27) hx hb htb i_Mod hown hG.1 hP 0 rfl rfl 16 (by decide) (htb _ k_651) (fun _ h9 => h9) rfl d_Mod_take_142 ?_
        refine lv_iload_n hx hb d_Mod_take_145 rfl (lv_at hl 4 rfl) ?_
        refine nv_iald hx hb hG.1 hP 8 0 rfl rfl (by omega) (by omega) d_Mod_take_146 ?_
        refine nv_top (y := nI (Cz v + 1)) (congrArg nI (up_s _ _ _)) ?_
        refine lv_iconst (v := nI 3) hx hb d_Mod_take_147 (by decide) ?_
        refine nv_icmp_ge (tgt := 153) hx hb d_Mod_take_148 (by decide) (by omega) (by omega) (fun c_148 => ?_) (fun c_148 => ?_)
        · refine lv_ldc (v := nI 65536) hx hb hown (htb _ k_728) d_Mod_take_153 ?_
          refine lv_aload_n hx hb d_Mod_take_155 rfl (lv_at hl 3 rfl) ?_
          refine va_get (D := D) (ci := 9) (v := .ref rcm) (C := "TileScreenModel") (T := F_Mod) (N := 27) hx hb htb i_Mod hown hG.1 hP 0 rfl rfl 15 (by decide) (htb _ k_650) (fun _ h9 => h9) rfl d_Mod_take_156 ?_
          refine lv_sipush (v := nI 6247) hx hb d_Mod_take_159 (by decide) ?_
          refine lv_iload_n hx hb d_Mod_take_162 rfl (lv_at hl 4 rfl) ?_
          refine nv_imul hx hb d_Mod_take_163 ?_
          refine nv_iald hx hb hG.1 hP 7 0 rfl rfl (by omega) (by omega) d_Mod_take_164 ?_
          refine nv_imul hx hb d_Mod_take_165 ?_
          refine lv_sipush (v := nI 256) hx hb d_Mod_take_166 (by decide) ?_
          refine lv_aload_n hx hb d_Mod_take_169 rfl (lv_at hl 3 rfl) ?_
          refine va_get (D := D) (ci := 9) (v := .ref rcm) (C := "TileScreenModel") (T := F_Mod) (N := 27) hx hb htb i_Mod hown hG.1 hP 0 rfl rfl 15 (by decide) (htb _ k_650) (fun _ h9 => h9) rfl d_Mod_take_170 ?_
          refine lv_sipush (v := nI 6247) hx hb d_Mod_take_173 (by decide) ?_
          refine lv_iload_n hx hb d_Mod_take_176 rfl (lv_at hl 4 rfl) ?_
          refine nv_imul hx hb d_Mod_take_177 ?_
          refine lv_iconst (v := nI 1) hx hb d_Mod_take_178 (by decide) ?_
          refine nv_iadd hx hb d_Mod_take_179 ?_
          refine nv_iald hx hb hG.1 hP 7 0 rfl rfl (by omega) (by omega) d_Mod_take_180 ?_
          refine nv_imul hx hb d_Mod_take_181 ?_
          refine nv_iadd hx hb d_Mod_take_182 ?_
          refine lv_aload_n hx hb d_Mod_take_183 rfl (lv_at hl 3 rfl) ?_
          refine va_get (D := D) (ci := 9) (v := .ref rcm) (C := "TileScreenModel") (T := F_Mod) (N := 27) hx hb htb i_Mod hown hG.1 hP 0 rfl rfl 15 (by decide) (htb _ k_650) (fun _ h9 => h9) rfl d_Mod_take_184 ?_
          refine lv_sipush (v := nI 6247) hx hb d_Mod_take_187 (by decide) ?_
          refine lv_iload_n hx hb d_Mod_take_190 rfl (lv_at hl 4 rfl) ?_
          refine nv_imul hx hb d_Mod_take_191 ?_
          refine lv_iconst (v := nI 2) hx hb d_Mod_take_192 (by decide) ?_
          refine nv_iadd hx hb d_Mod_take_193 ?_
          refine nv_iald hx hb hG.1 hP 7 0 rfl rfl (by omega) (by omega) d_Mod_take_194 ?_
          refine nv_iadd hx hb d_Mod_take_195 ?_
          refine lv_istore (lv' := [(5, .int (nI (65536 * ((up Cm (6247 * v + (Cz v)) g1) (6247 * v)) + (256 * ((up Cm (6247 * v + (Cz v)) g1) (6247 * v + 1))) + ((up Cm (6247 * v + (Cz v)) g1) (6247 * v + 2))))), (4, .int (nI q)), (3, .int (nI g1)), (0, .ref mo), (1, .int (nI v)), (2, .int (nI b0))]) hx hb d_Mod_take_196 hl (by decide) rfl (fun ls hl => ?_)
          have g0 := up_lt (k := 6247 * v + Cz v) bCm hg1 (6247 * v)
          have g1a := up_lt (k := 6247 * v + Cz v) bCm hg1 (6247 * v + 1)
          have g2a := up_lt (k := 6247 * v + Cz v) bCm hg1 (6247 * v + 2)
          refine lv_iload hx hb d_Mod_take_198 (lv_at hl 0 rfl) ?_
          refine lv_iconst (v := nI 4) hx hb d_Mod_take_200 (by decide) ?_
          refine nv_icmp_lt (tgt := 212) hx hb d_Mod_take_201 (by decide) (by omega) (by omega) (fun c_201 => ?_) (fun c_201 => ?_)
          · refine lv_iconst (v := nI 0) hx hb d_Mod_take_212 (by decide) ?_
            have hR := hret ((nI 0)) (0, nx, la, Px, Th, Ca, Pl, Ti, Co, up Cz v (Cz v + 1), Sh, up Cm (6247 * v + (Cz v)) g1, Pa1, Pm1, up Po v q) H locs 213 ls d_Mod_take_213 (by rfl)
            try dsimp only at hR
            exact hR (⟨rfl, by decide, fun j hj => up_n _ _ hj, fun h => absurd h (by decide), bPx, bTh, bCa, bPl, bTi, bCo, up_lt (k := 6247 * v + Cz v) bCm hg1, bm1, up_lt bPo (by omega)⟩) hP hD hS
          · refine lv_iload hx hb d_Mod_take_204 (lv_at hl 0 rfl) ?_
            refine lv_sipush (v := nI 6244) hx hb d_Mod_take_206 (by decide) ?_
            refine nv_icmp_le (tgt := 214) hx hb d_Mod_take_209 (by decide) (by omega) (by omega) (fun c_209 => ?_) (fun c_209 => ?_)
            · refine lv_aload_n hx hb d_Mod_take_214 rfl (lv_at hl 3 rfl) ?_
              refine va_get (D := D) (ci := 9) (v := .ref rcs) (C := "TileScreenModel") (T := F_Mod) (N := 27) hx hb htb i_Mod hown hG.1 hP 0 rfl rfl 16 (by decide) (htb _ k_651) (fun _ h9 => h9) rfl d_Mod_take_215 ?_
              refine lv_iload_n hx hb d_Mod_take_218 rfl (lv_at hl 4 rfl) ?_
              refine nv_iald hx hb hG.1 hP 8 0 rfl rfl (by omega) (by omega) d_Mod_take_219 ?_
              refine nv_top (y := nI (Cz v + 1)) (congrArg nI (up_s _ _ _)) ?_
              refine lv_iload hx hb d_Mod_take_220 (lv_at hl 0 rfl) ?_
              refine lv_iconst (v := nI 3) hx hb d_Mod_take_222 (by decide) ?_
              refine nv_iadd hx hb d_Mod_take_223 ?_
              refine nv_icmp_lt (tgt := 235) hx hb d_Mod_take_224 (by decide) (by omega) (by omega) (fun c_224 => ?_) (fun c_224 => ?_)
              · refine lv_iconst (v := nI 1) hx hb d_Mod_take_235 (by decide) ?_
                refine lv_goto (tgt := 240) hx hb d_Mod_take_236 (by decide) ?_
                have hR := hret ((nI 1)) (1, nx, la, Px, Th, Ca, Pl, Ti, Co, up Cz v (Cz v + 1), Sh, up Cm (6247 * v + (Cz v)) g1, Pa1, Pm1, up Po v q) H locs 240 ls d_Mod_take_240 (by rfl)
                try dsimp only at hR
                exact hR (⟨rfl, by decide, fun j hj => up_n _ _ hj, fun _ => by rw [up_s]; omega, bPx, bTh, bCa, bPl, bTi, bCo, up_lt (k := 6247 * v + Cz v) bCm hg1, bm1, up_lt bPo (by omega)⟩) hP hD hS
              · refine lv_aload_n hx hb d_Mod_take_227 rfl (lv_at hl 3 rfl) ?_
                refine lv_iload_n hx hb d_Mod_take_228 rfl (lv_at hl 4 rfl) ?_
                refine kV_i (wc := [(mo, .inr (9, [.int cd, .ref rpx, .int nb, .ref rca, .ref rpl, .ref rth, .ref rco, .ref rsh, .ref rsf, .ref rcr, .ref rep, .ref rby, .ref rli, .ref rls, .ref rla, .ref rcm, .ref rcs, .ref rpa, .ref rpm, .ref rpo, .ref rti, .ref rre, .ref rcl, .int (nI sz), .int (nI cs), .int (nI nx), .int (nI la)])), (rpx, .inl (cI, 30720, .inl (nF Px))), (rth, .inl (cZ, 96, .inl (nF Th))), (rca, .inl (cI, 6144, .inl (nF Ca))), (rpl, .inl (cI, 6, .inl (nF Pl))), (rti, .inl (cI, 64, .inl (nF Ti))), (rcl, .inl (cI, 64, .inl (nF Co))), (rcm, .inl (cI, 18741, .inl (nF (up Cm (6247 * v + (Cz v)) g1)))), (rcs, .inl (cI, 3, .inl (nF (up Cz v (Cz v + 1))))), (rsh, .inl (cI, 3, .inl Sh))]) (wr := [(rpa, .inl (cI, 24, .inl Pa1)), (rpm, .inl (cI, 24, .inl (nF Pm1))), (rpo, .inl (cI, 3, .inl (nF (up Po v q))))]) (w2 := fun u => [(mo, .inr (9, [.int cd, .ref rpx, .int nb, .ref rca, .ref rpl, .ref rth, .ref rco, .ref rsh, .ref rsf, .ref rcr, .ref rep, .ref rby, .ref rli, .ref rls, .ref rla, .ref rcm, .ref rcs, .ref rpa, .ref rpm, .ref rpo, .ref rti, .ref rre, .ref rcl, .int (nI sz), .int (nI cs), .int (nI u.2.1), .int (nI u.2.2.1)])), (rpx, .inl (cI, 30720, .inl (nF u.2.2.2.1))), (rth, .inl (cZ, 96, .inl (nF u.2.2.2.2.1))), (rca, .inl (cI, 6144, .inl (nF u.2.2.2.2.2.1))), (rpl, .inl (cI, 6, .inl (nF u.2.2.2.2.2.2.1))), (rti, .inl (cI, 64, .inl (nF u.2.2.2.2.2.2.2.1))), (rcl, .inl (cI, 64, .inl (nF u.2.2.2.2.2.2.2.2.1))), (rcm, .inl (cI, 18741, .inl (nF (up Cm (6247 * v + (Cz v)) g1)))), (rcs, .inl (cI, 3, .inl (nF u.2.2.2.2.2.2.2.2.2.1))), (rsh, .inl (cI, 3, .inl u.2.2.2.2.2.2.2.2.2.2)), (rpa, .inl (cI, 24, .inl Pa1)), (rpm, .inl (cI, 24, .inl (nF Pm1))), (rpo, .inl (cI, 3, .inl (nF (up Po v q))))]) [.int (nI v)] [] Bd ⟨gi_app (gi_c0 k_829 (gi_c0 k_831 (gi_c0 s_38 (gi_c0 k_10 gi_nil)))) (gi_tb0 k_832), rfl, by decide, by decide⟩ (show (parseMethodDescriptor "(I)Z").map (fun d => d.parameters.length) = some 1 by decide +kernel) (c_Mod_whole mo cd rpx nb rca rpl rth rco rsh rsf rcr rep rby rli rls rla rcm rcs rpa rpm rpo rti rre rcl sz cs nx la Px Th Ca Pl Ti Co (up Cm (6247 * v + (Cz v)) g1) (up Cz v (Cz v + 1)) Sh v (by omega) (bPx) (bTh) (bCa) (bPl) (bTi) (bCo) (up_lt (k := 6247 * v + Cz v) bCm hg1) (by rw [up_s]; omega) (by rw [up_s]; omega)) (by decide +kernel) ⟨Nat.le_of_ble_eq_true rfl, Nat.le_of_ble_eq_true rfl⟩ hG hP hD hS hA [0, 1, 2, 3, 4, 5, 6, 7, 8, 9] [10, 11, 12] [3, 4, 5, 6, 7, 8, 9, 10, 11, 12, 0, 1, 2] (by decide) rfl rfl (fun _ => rfl) (q0 := 0) rfl rfl rfl hl.1 rfl (Nat.le_of_ble_eq_true rfl) d_Mod_take_229 (fun r13 u15 H locs hp14 hP hD hS => ?_)
                obtain ⟨u2, u3, u4, u5, u6, u7, u8, u9, u10, u11, u12⟩ := u15
                try dsimp only at hp14
                have hP : va_P D classes [(mo, .inr (9, [.int cd, .ref rpx, .int nb, .ref rca, .ref rpl, .ref rth, .ref rco, .ref rsh, .ref rsf, .ref rcr, .ref rep, .ref rby, .ref rli, .ref rls, .ref rla, .ref rcm, .ref rcs, .ref rpa, .ref rpm, .ref rpo, .ref rti, .ref rre, .ref rcl, .int (nI sz), .int (nI cs), .int (nI u3), .int (nI u4)])), (rpx, .inl (cI, 30720, .inl (nF u5))), (rth, .inl (cZ, 96, .inl (nF u6))), (rca, .inl (cI, 6144, .inl (nF u7))), (rpl, .inl (cI, 6, .inl (nF u8))), (rti, .inl (cI, 64, .inl (nF u9))), (rcl, .inl (cI, 64, .inl (nF u10))), (rcm, .inl (cI, 18741, .inl (nF (up Cm (6247 * v + (Cz v)) g1)))), (rcs, .inl (cI, 3, .inl (nF u11))), (rsh, .inl (cI, 3, .inl u12)), (rpa, .inl (cI, 24, .inl Pa1)), (rpm, .inl (cI, 24, .inl (nF Pm1))), (rpo, .inl (cI, 3, .inl (nF (up Po v q))))] H := hP
                have hD : va_D AA [(mo, .inr (9, [.int cd, .ref rpx, .int nb, .ref rca, .ref rpl, .ref rth, .ref rco, .ref rsh, .ref rsf, .ref rcr, .ref rep, .ref rby, .ref rli, .ref rls, .ref rla, .ref rcm, .ref rcs, .ref rpa, .ref rpm, .ref rpo, .ref rti, .ref rre, .ref rcl, .int (nI sz), .int (nI cs), .int (nI u3), .int (nI u4)])), (rpx, .inl (cI, 30720, .inl (nF u5))), (rth, .inl (cZ, 96, .inl (nF u6))), (rca, .inl (cI, 6144, .inl (nF u7))), (rpl, .inl (cI, 6, .inl (nF u8))), (rti, .inl (cI, 64, .inl (nF u9))), (rcl, .inl (cI, 64, .inl (nF u10))), (rcm, .inl (cI, 18741, .inl (nF (up Cm (6247 * v + (Cz v)) g1)))), (rcs, .inl (cI, 3, .inl (nF u11))), (rsh, .inl (cI, 3, .inl u12)), (rpa, .inl (cI, 24, .inl Pa1)), (rpm, .inl (cI, 24, .inl (nF Pm1))), (rpo, .inl (cI, 3, .inl (nF (up Po v q))))] := hD
                obtain ⟨rfl, hp16⟩ := hp14
                obtain ⟨h17, h18, h19, h20, h21, h22, h23, h24, h25⟩ := hp16
                refine nv_if_eq (tgt := 239) hx hb d_Mod_take_232 (by decide) (by omega) (fun c_232 => ?_) (fun c_232 => ?_)
                · refine lv_iconst (v := nI 0) hx hb d_Mod_take_239 (by decide) ?_
                  have hR := hret ((nI 0)) (0, u3, u4, u5, u6, u7, u8, u9, u10, u11, u12, (up Cm (6247 * v + (Cz v)) g1), Pa1, Pm1, up Po v q) H locs 240 ls d_Mod_take_240 (by rfl)
                  try dsimp only at hR
                  exact hR (⟨rfl, by decide, fun j hj => (h18 j hj).trans (up_n _ _ hj), fun h => absurd h (by decide), h20, h21, h22, h23, h24, h25, up_lt (k := 6247 * v + Cz v) bCm hg1, bm1, up_lt bPo (by omega)⟩) hP hD hS
                · refine lv_iconst (v := nI 1) hx hb d_Mod_take_235 (by decide) ?_
                  refine lv_goto (tgt := 240) hx hb d_Mod_take_236 (by decide) ?_
                  have hR := hret ((nI 1)) (1, u3, u4, u5, u6, u7, u8, u9, u10, u11, u12, (up Cm (6247 * v + (Cz v)) g1), Pa1, Pm1, up Po v q) H locs 240 ls d_Mod_take_240 (by rfl)
                  try dsimp only at hR
                  exact hR (⟨rfl, by decide, fun j hj => (h18 j hj).trans (up_n _ _ hj), fun _ => by rw [h19 (by omega)]; decide, h20, h21, h22, h23, h24, h25, up_lt (k := 6247 * v + Cz v) bCm hg1, bm1, up_lt bPo (by omega)⟩) hP hD hS
            · refine lv_iconst (v := nI 0) hx hb d_Mod_take_212 (by decide) ?_
              have hR := hret ((nI 0)) (0, nx, la, Px, Th, Ca, Pl, Ti, Co, up Cz v (Cz v + 1), Sh, up Cm (6247 * v + (Cz v)) g1, Pa1, Pm1, up Po v q) H locs 213 ls d_Mod_take_213 (by rfl)
              try dsimp only at hR
              exact hR (⟨rfl, by decide, fun j hj => up_n _ _ hj, fun h => absurd h (by decide), bPx, bTh, bCa, bPl, bTi, bCo, up_lt (k := 6247 * v + Cz v) bCm hg1, bm1, up_lt bPo (by omega)⟩) hP hD hS
        · refine lv_iconst (v := nI 1) hx hb d_Mod_take_151 (by decide) ?_
          have hR := hret ((nI 1)) (1, nx, la, Px, Th, Ca, Pl, Ti, Co, up Cz v (Cz v + 1), Sh, up Cm (6247 * v + (Cz v)) g1, Pa1, Pm1, up Po v q) H locs 152 ls d_Mod_take_152 (by rfl)
          try dsimp only at hR
          exact hR (⟨rfl, by decide, fun j hj => up_n _ _ hj, fun _ => by rw [up_s]; omega, bPx, bTh, bCa, bPl, bTi, bCo, up_lt (k := 6247 * v + Cz v) bCm hg1, bm1, up_lt bPo (by omega)⟩) hP hD hS
      · refine lv_aload_n hx hb d_Mod_take_19 rfl (lv_at hl 3 rfl) ?_
        refine va_get (D := D) (ci := 9) (v := .ref rpa) (C := "TileScreenModel") (T := F_Mod) (N := 27) hx hb htb i_Mod hown hG.1 hP 0 rfl rfl 17 (by decide) (htb _ k_652) (fun _ h9 => h9) rfl d_Mod_take_20 ?_
        refine lv_bipush (v := nI 8) hx hb d_Mod_take_23 (by decide) ?_
        refine lv_iload_n hx hb d_Mod_take_25 rfl (lv_at hl 4 rfl) ?_
        refine nv_imul hx hb d_Mod_take_26 ?_
        refine lv_iload hx hb d_Mod_take_27 (lv_at hl 0 rfl) ?_
        refine nv_iadd hx hb d_Mod_take_29 ?_
        refine nr_iald hx hb hG.1 hP 10 0 rfl rfl (by omega) (by omega) d_Mod_take_30 ?_
        refine lv_iconst (v := nI 1) hx hb d_Mod_take_31 (by decide) ?_
        refine lv_isub hx hb d_Mod_take_32 ?_
        refine lv_istore (lv' := [(6, .int ((Pa1 (8 * v + k)) - (nI 1))), (5, .int (nI k)), (4, .int (nI q)), (3, .int (nI g1)), (0, .ref mo), (1, .int (nI v)), (2, .int (nI b0))]) hx hb d_Mod_take_33 hl (by decide) rfl (fun ls hl => ?_)
        refine lv_iload hx hb d_Mod_take_35 (lv_at hl 0 rfl) ?_
        refine lv_if_ne (tgt := 58) hx hb d_Mod_take_37 (by decide) (fun c_37 => ?_) (fun c_37 => ?_)
        · refine lv_aload_n hx hb d_Mod_take_58 rfl (lv_at hl 4 rfl) ?_
          refine va_get (D := D) (ci := 9) (v := .ref rpa) (C := "TileScreenModel") (T := F_Mod) (N := 27) hx hb htb i_Mod hown hG.1 hP 0 rfl rfl 17 (by decide) (htb _ k_652) (fun _ h9 => h9) rfl d_Mod_take_59 ?_
          refine lv_bipush (v := nI 8) hx hb d_Mod_take_62 (by decide) ?_
          refine lv_iload_n hx hb d_Mod_take_64 rfl (lv_at hl 5 rfl) ?_
          refine nv_imul hx hb d_Mod_take_65 ?_
          refine lv_iload hx hb d_Mod_take_66 (lv_at hl 2 rfl) ?_
          refine nv_iadd hx hb d_Mod_take_68 ?_
          refine lv_iload hx hb d_Mod_take_69 (lv_at hl 0 rfl) ?_
          refine nr_iast hx hb hG.1 hP hD hS 10 0 rfl rfl (by omega) (by omega) d_Mod_take_71 (fun H locs hP hD hS => ?_)
          have hP : va_P D classes [(mo, .inr (9, [.int cd, .ref rpx, .int nb, .ref rca, .ref rpl, .ref rth, .ref rco, .ref rsh, .ref rsf, .ref rcr, .ref rep, .ref rby, .ref rli, .ref rls, .ref rla, .ref rcm, .ref rcs, .ref rpa, .ref rpm, .ref rpo, .ref rti, .ref rre, .ref rcl, .int (nI sz), .int (nI cs), .int (nI nx), .int (nI la)])), (rpx, .inl (cI, 30720, .inl (nF Px))), (rth, .inl (cZ, 96, .inl (nF Th))), (rca, .inl (cI, 6144, .inl (nF Ca))), (rpl, .inl (cI, 6, .inl (nF Pl))), (rti, .inl (cI, 64, .inl (nF Ti))), (rcl, .inl (cI, 64, .inl (nF Co))), (rcm, .inl (cI, 18741, .inl (nF Cm))), (rcs, .inl (cI, 3, .inl (nF Cz))), (rsh, .inl (cI, 3, .inl Sh)), (rpa, .inl (cI, 24, .inl (upd Pa1 (8 * v + q) ((Pa1 (8 * v + k)) - (nI 1))))), (rpm, .inl (cI, 24, .inl (nF Pm1))), (rpo, .inl (cI, 3, .inl (nF Po)))] H := hP
          have hD : va_D AA [(mo, .inr (9, [.int cd, .ref rpx, .int nb, .ref rca, .ref rpl, .ref rth, .ref rco, .ref rsh, .ref rsf, .ref rcr, .ref rep, .ref rby, .ref rli, .ref rls, .ref rla, .ref rcm, .ref rcs, .ref rpa, .ref rpm, .ref rpo, .ref rti, .ref rre, .ref rcl, .int (nI sz), .int (nI cs), .int (nI nx), .int (nI la)])), (rpx, .inl (cI, 30720, .inl (nF Px))), (rth, .inl (cZ, 96, .inl (nF Th))), (rca, .inl (cI, 6144, .inl (nF Ca))), (rpl, .inl (cI, 6, .inl (nF Pl))), (rti, .inl (cI, 64, .inl (nF Ti))), (rcl, .inl (cI, 64, .inl (nF Co))), (rcm, .inl (cI, 18741, .inl (nF Cm))), (rcs, .inl (cI, 3, .inl (nF Cz))), (rsh, .inl (cI, 3, .inl Sh)), (rpa, .inl (cI, 24, .inl (upd Pa1 (8 * v + q) ((Pa1 (8 * v + k)) - (nI 1))))), (rpm, .inl (cI, 24, .inl (nF Pm1))), (rpo, .inl (cI, 3, .inl (nF Po)))] := hD
          refine lv_aload_n hx hb d_Mod_take_72 rfl (lv_at hl 4 rfl) ?_
          refine va_get (D := D) (ci := 9) (v := .ref rpm) (C := "TileScreenModel") (T := F_Mod) (N := 27) hx hb htb i_Mod hown hG.1 hP 0 rfl rfl 18 (by decide) (htb _ k_653) (fun _ h9 => h9) rfl d_Mod_take_73 ?_
          refine lv_bipush (v := nI 8) hx hb d_Mod_take_76 (by decide) ?_
          refine lv_iload_n hx hb d_Mod_take_78 rfl (lv_at hl 5 rfl) ?_
          refine nv_imul hx hb d_Mod_take_79 ?_
          refine lv_iload hx hb d_Mod_take_80 (lv_at hl 2 rfl) ?_
          refine nv_iadd hx hb d_Mod_take_82 ?_
          refine lv_aload_n hx hb d_Mod_take_83 rfl (lv_at hl 4 rfl) ?_
          refine va_get (D := D) (ci := 9) (v := .ref rpm) (C := "TileScreenModel") (T := F_Mod) (N := 27) hx hb htb i_Mod hown hG.1 hP 0 rfl rfl 18 (by decide) (htb _ k_653) (fun _ h9 => h9) rfl d_Mod_take_84 ?_
          refine lv_bipush (v := nI 8) hx hb d_Mod_take_87 (by decide) ?_
          refine lv_iload_n hx hb d_Mod_take_89 rfl (lv_at hl 5 rfl) ?_
          refine nv_imul hx hb d_Mod_take_90 ?_
          refine lv_iload hx hb d_Mod_take_91 (lv_at hl 1 rfl) ?_
          refine nv_iadd hx hb d_Mod_take_93 ?_
          refine nv_iald hx hb hG.1 hP 11 0 rfl rfl (by omega) (by omega) d_Mod_take_94 ?_
          refine nv_iast hx hb hG.1 hP hD hS 11 0 rfl rfl (by omega) (by omega) d_Mod_take_95 (fun H locs hP hD hS => ?_)
          have hP : va_P D classes [(mo, .inr (9, [.int cd, .ref rpx, .int nb, .ref rca, .ref rpl, .ref rth, .ref rco, .ref rsh, .ref rsf, .ref rcr, .ref rep, .ref rby, .ref rli, .ref rls, .ref rla, .ref rcm, .ref rcs, .ref rpa, .ref rpm, .ref rpo, .ref rti, .ref rre, .ref rcl, .int (nI sz), .int (nI cs), .int (nI nx), .int (nI la)])), (rpx, .inl (cI, 30720, .inl (nF Px))), (rth, .inl (cZ, 96, .inl (nF Th))), (rca, .inl (cI, 6144, .inl (nF Ca))), (rpl, .inl (cI, 6, .inl (nF Pl))), (rti, .inl (cI, 64, .inl (nF Ti))), (rcl, .inl (cI, 64, .inl (nF Co))), (rcm, .inl (cI, 18741, .inl (nF Cm))), (rcs, .inl (cI, 3, .inl (nF Cz))), (rsh, .inl (cI, 3, .inl Sh)), (rpa, .inl (cI, 24, .inl (upd Pa1 (8 * v + q) ((Pa1 (8 * v + k)) - (nI 1))))), (rpm, .inl (cI, 24, .inl (nF (up Pm1 (8 * v + q) (Pm1 (8 * v + k)))))), (rpo, .inl (cI, 3, .inl (nF Po)))] H := hP
          have hD : va_D AA [(mo, .inr (9, [.int cd, .ref rpx, .int nb, .ref rca, .ref rpl, .ref rth, .ref rco, .ref rsh, .ref rsf, .ref rcr, .ref rep, .ref rby, .ref rli, .ref rls, .ref rla, .ref rcm, .ref rcs, .ref rpa, .ref rpm, .ref rpo, .ref rti, .ref rre, .ref rcl, .int (nI sz), .int (nI cs), .int (nI nx), .int (nI la)])), (rpx, .inl (cI, 30720, .inl (nF Px))), (rth, .inl (cZ, 96, .inl (nF Th))), (rca, .inl (cI, 6144, .inl (nF Ca))), (rpl, .inl (cI, 6, .inl (nF Pl))), (rti, .inl (cI, 64, .inl (nF Ti))), (rcl, .inl (cI, 64, .inl (nF Co))), (rcm, .inl (cI, 18741, .inl (nF Cm))), (rcs, .inl (cI, 3, .inl (nF Cz))), (rsh, .inl (cI, 3, .inl Sh)), (rpa, .inl (cI, 24, .inl (upd Pa1 (8 * v + q) ((Pa1 (8 * v + k)) - (nI 1))))), (rpm, .inl (cI, 24, .inl (nF (up Pm1 (8 * v + q) (Pm1 (8 * v + k)))))), (rpo, .inl (cI, 3, .inl (nF Po)))] := hD
          refine lv_iinc (v := (nI (q + 1))) (lv' := [(4, .int (nI (q + 1))), (6, .int ((Pa1 (8 * v + k)) - (nI 1))), (5, .int (nI k)), (3, .int (nI g1)), (0, .ref mo), (1, .int (nI v)), (2, .int (nI b0))]) hx hb d_Mod_take_96 hl (k := 2) rfl (nI_add q 1) (by decide) rfl (fun ls hl => ?_)
          refine lv_iinc (v := (nI (k + 1))) (lv' := [(5, .int (nI (k + 1))), (4, .int (nI (q + 1))), (6, .int ((Pa1 (8 * v + k)) - (nI 1))), (3, .int (nI g1)), (0, .ref mo), (1, .int (nI v)), (2, .int (nI b0))]) hx hb d_Mod_take_99 hl (k := 2) rfl (nI_add k 1) (by decide) rfl (fun ls hl => ?_)
          refine lv_goto (tgt := 8) hx hb d_Mod_take_102 (by decide) ?_
          exact ih8 (k + 1) g1 (q + 1) (upd Pa1 (8 * v + q) ((Pa1 (8 * v + k)) - (nI 1))) (up Pm1 (8 * v + q) (Pm1 (8 * v + k))) (by omega) (by omega) (hg1) (up_lt bm1 (bm1 _)) (by omega) _ _ _ hP hD hS (lv_sub hl [0, 1, 3, 4, 5, 6] rfl)
        · refine lv_iload_n hx hb d_Mod_take_40 rfl (lv_at hl 3 rfl) ?_
          refine lv_aload_n hx hb d_Mod_take_41 rfl (lv_at hl 4 rfl) ?_
          refine va_get (D := D) (ci := 9) (v := .ref rpm) (C := "TileScreenModel") (T := F_Mod) (N := 27) hx hb htb i_Mod hown hG.1 hP 0 rfl rfl 18 (by decide) (htb _ k_653) (fun _ h9 => h9) rfl d_Mod_take_42 ?_
          refine lv_bipush (v := nI 8) hx hb d_Mod_take_45 (by decide) ?_
          refine lv_iload_n hx hb d_Mod_take_47 rfl (lv_at hl 5 rfl) ?_
          refine nv_imul hx hb d_Mod_take_48 ?_
          refine lv_iload hx hb d_Mod_take_49 (lv_at hl 1 rfl) ?_
          refine nv_iadd hx hb d_Mod_take_51 ?_
          refine nv_iald hx hb hG.1 hP 11 0 rfl rfl (by omega) (by omega) d_Mod_take_52 ?_
          refine nv_ixor hx hb d_Mod_take_53 ?_
          refine lv_istore_n (lv' := [(3, .int (nI (g1 ^^^ (Pm1 (8 * v + k))))), (6, .int ((Pa1 (8 * v + k)) - (nI 1))), (5, .int (nI k)), (4, .int (nI q)), (0, .ref mo), (1, .int (nI v)), (2, .int (nI b0))]) hx hb d_Mod_take_54 rfl hl (by decide) rfl (fun ls hl => ?_)
          refine lv_goto (tgt := 99) hx hb d_Mod_take_55 (by decide) ?_
          refine lv_iinc (v := (nI (k + 1))) (lv' := [(5, .int (nI (k + 1))), (3, .int (nI (g1 ^^^ (Pm1 (8 * v + k))))), (6, .int ((Pa1 (8 * v + k)) - (nI 1))), (4, .int (nI q)), (0, .ref mo), (1, .int (nI v)), (2, .int (nI b0))]) hx hb d_Mod_take_99 hl (k := 2) rfl (nI_add k 1) (by decide) rfl (fun ls hl => ?_)
          refine lv_goto (tgt := 8) hx hb d_Mod_take_102 (by decide) ?_
          exact ih8 (k + 1) (g1 ^^^ (Pm1 (8 * v + k))) q Pa1 Pm1 (by omega) (by omega) (xor_b hg1 (bm1 _)) (bm1) (by omega) _ _ _ hP hD hS (lv_sub hl [0, 3, 1, 4, 5, 6] rfl)
  exact lp_8 _ 0 b0 0 Pa Pm (Nat.zero_le _) (Nat.le_refl _) (hb0) (bPm) (Nat.lt_succ_self _) _ _ _ hP hD hS (lv_sub hl [0, 1, 2, 3, 4, 5] rfl)
end
