section
variable {l : Launch} {D : va_G} {cI cZ cL cV : ClassId}
def toldOf (W : Nat → Nat) : Nat := W 0 * 65536 + W 1 * 256 + W 2
theorem or3 {a b c : Nat} (hb : b < 256) (hc : c < 256) : (a * 2 ^ 16 ||| b * 2 ^ 8) ||| c = a * 65536 + b * 256 + c := by
  rw [or_add (w := 16) (show b * 2 ^ 8 < 2 ^ 16 by omega), show a * 2 ^ 16 + b * 2 ^ 8 = (a * 256 + b) * 2 ^ 8 by omega, or_add (w := 8) (by omega)]
  try omega
set_option maxHeartbeats 1600000 in
set_option maxRecDepth 100000 in
theorem c_Display_receive (a : Nat) (fr : Nat) (fn : Int64) (bk : Nat) (ca : Nat) (cm : Nat) (cz : Nat) (pp : Nat) (po : Nat) (e0 : Nat) (w0 : Nat) (Wc : Nat → Nat) (cb : Nat) (bp : Nat) (Bk : Nat → Nat) (P : Nat → Nat) (cf : Nat) (fp : Nat) (Fr : Nat → Nat) (ct : Nat) (pl : Nat) (us : Nat) (cp : Nat) (C : Nat → Nat) (v9 : Nat) (bWc : ∀ j, Wc j < 256) (bBk : ∀ j, Bk j < 65536) (bP : ∀ j, P j < 65536) (bFr : ∀ j, Fr j < 65536) (bC : ∀ j, C j < 65536) (hpl : pl < 16) (hus : us ≤ 16) (hcz : cz < 6247) (hv : v9 < 256) : CI (S := Nat × Int64 × Nat × Nat × Nat × Nat × (Nat → Nat) × (Nat → Nat) × (Nat → Nat) × (Nat → Nat) × Nat × Nat) l classes NW D (TYS cI cZ cL cV) y_Display_receive (.code y_Display_receive b_Display_receive 3 (some .boolean) :: TB) { frames := 5, cells := 0, slots := 0, locals := 130 } [.ref a, .int (nI v9)] [(a, .inr (6, [.ref fr, .long fn, .ref bk, .ref ca, .ref cm, .int (nI cz), .ref pp, .int (nI po), .int (nI e0), .int (nI w0)])), (cm, .inl (cI, 6247, .inl (nF Wc))), (bk, .inr (0, [.int (nI cb), .ref bp])), (bp, .inl (cI, 3072, .inl (nF Bk))), (pp, .inl (cI, 4, .inl (nF P))), (fr, .inr (0, [.int (nI cf), .ref fp])), (fp, .inl (cI, 3072, .inl (nF Fr))), (ca, .inr (1, [.ref ct, .int (nI pl), .int (nI us)])), (ct, .inr (0, [.int (nI 16), .ref cp])), (cp, .inl (cI, 1024, .inl (nF C)))] (fun r u => r = nI u.1 ∧ u.1 ≤ 1 ∧ (u.1 = 1 → u.2.2.1 < 6247) ∧ ((∀ j, u.2.2.2.2.2.2.1 j < 65536) ∧ (∀ j, u.2.2.2.2.2.2.2.1 j < 65536) ∧ (∀ j, u.2.2.2.2.2.2.2.2.1 j < 65536) ∧ (∀ j, u.2.2.2.2.2.2.2.2.2.1 j < 65536) ∧ u.2.2.2.2.2.2.2.2.2.2.1 < 16 ∧ u.2.2.2.2.2.2.2.2.2.2.2 ≤ 16)) (fun u => [(a, .inr (6, [.ref fr, .long u.2.1, .ref bk, .ref ca, .ref cm, .int (nI u.2.2.1), .ref pp, .int (nI u.2.2.2.1), .int (nI u.2.2.2.2.1), .int (nI u.2.2.2.2.2.1)])), (cm, .inl (cI, 6247, .inl (nF (up Wc cz v9)))), (bk, .inr (0, [.int (nI cb), .ref bp])), (bp, .inl (cI, 3072, .inl (nF u.2.2.2.2.2.2.1))), (pp, .inl (cI, 4, .inl (nF u.2.2.2.2.2.2.2.1))), (fr, .inr (0, [.int (nI cf), .ref fp])), (fp, .inl (cI, 3072, .inl (nF u.2.2.2.2.2.2.2.2.1))), (ca, .inr (1, [.ref ct, .int (nI u.2.2.2.2.2.2.2.2.2.2.1), .int (nI u.2.2.2.2.2.2.2.2.2.2.2)])), (ct, .inr (0, [.int (nI 16), .ref cp])), (cp, .inl (cI, 1024, .inl (nF u.2.2.2.2.2.2.2.2.2.1)))]) := by
  refine CI.of (by decide) (Nat.le_of_ble_eq_true rfl) ?_
  intro pr ev sT mM aR bW mE cO AA QQ ls Bd hG hA hP hD hS hl hret
  have Bd : bd pr cO b_Display_receive 3 sT aR TB "TileScreen$Display" mM := Bd
  obtain ⟨hx, hb, hml, hown, htb⟩ := id Bd
  have hl : lv_has ls 3 [(0, .ref a), (1, .int (nI v9))] := hl
  refine lv_aload_n hx hb d_Display_receive_0 rfl (lv_at hl 0 rfl) ?_
  refine va_get (D := D) (ci := 6) (v := .int (nI cz)) (C := "TileScreen$Display") (T := F_Display) (N := 10) hx hb htb i_Display hown hG.1 hP 0 rfl rfl 5 (by decide) (htb _ k_170) (fun _ h9 => h9) rfl d_Display_receive_1 ?_
  refine lv_sipush (v := nI 6247) hx hb d_Display_receive_4 (by decide) ?_
  refine nv_icmp_ge (tgt := 30) hx hb d_Display_receive_7 (by decide) (by omega) (by omega) (fun c_7 => ?_) (fun c_7 => ?_)
  · omega
  · refine lv_aload_n hx hb d_Display_receive_10 rfl (lv_at hl 0 rfl) ?_
    refine va_get (D := D) (ci := 6) (v := .ref cm) (C := "TileScreen$Display") (T := F_Display) (N := 10) hx hb htb i_Display hown hG.1 hP 0 rfl rfl 4 (by decide) (htb _ k_169) (fun _ h9 => h9) rfl d_Display_receive_11 ?_
    refine lv_aload_n hx hb d_Display_receive_14 rfl (lv_at hl 0 rfl) ?_
    refine va_get (D := D) (ci := 6) (v := .int (nI cz)) (C := "TileScreen$Display") (T := F_Display) (N := 10) hx hb htb i_Display hown hG.1 hP 0 rfl rfl 5 (by decide) (htb _ k_170) (fun _ h9 => h9) rfl d_Display_receive_15 ?_
    refine lv_iload_n hx hb d_Display_receive_18 rfl (lv_at hl 1 rfl) ?_
    refine nv_iast hx hb hG.1 hP hD hS 1 0 rfl rfl (by omega) (by omega) d_Display_receive_19 (fun H locs hP hD hS => ?_)
    have hP : va_P D classes [(a, .inr (6, [.ref fr, .long fn, .ref bk, .ref ca, .ref cm, .int (nI cz), .ref pp, .int (nI po), .int (nI e0), .int (nI w0)])), (cm, .inl (cI, 6247, .inl (nF (up Wc cz v9)))), (bk, .inr (0, [.int (nI cb), .ref bp])), (bp, .inl (cI, 3072, .inl (nF Bk))), (pp, .inl (cI, 4, .inl (nF P))), (fr, .inr (0, [.int (nI cf), .ref fp])), (fp, .inl (cI, 3072, .inl (nF Fr))), (ca, .inr (1, [.ref ct, .int (nI pl), .int (nI us)])), (ct, .inr (0, [.int (nI 16), .ref cp])), (cp, .inl (cI, 1024, .inl (nF C)))] H := hP
    have hD : va_D AA [(a, .inr (6, [.ref fr, .long fn, .ref bk, .ref ca, .ref cm, .int (nI cz), .ref pp, .int (nI po), .int (nI e0), .int (nI w0)])), (cm, .inl (cI, 6247, .inl (nF (up Wc cz v9)))), (bk, .inr (0, [.int (nI cb), .ref bp])), (bp, .inl (cI, 3072, .inl (nF Bk))), (pp, .inl (cI, 4, .inl (nF P))), (fr, .inr (0, [.int (nI cf), .ref fp])), (fp, .inl (cI, 3072, .inl (nF Fr))), (ca, .inr (1, [.ref ct, .int (nI pl), .int (nI us)])), (ct, .inr (0, [.int (nI 16), .ref cp])), (cp, .inl (cI, 1024, .inl (nF C)))] := hD
    refine lv_aload_n hx hb d_Display_receive_20 rfl (lv_at hl 0 rfl) ?_
    refine lv_dup hx hb d_Display_receive_21 rfl ?_
    refine va_get (D := D) (ci := 6) (v := .int (nI cz)) (C := "TileScreen$Display") (T := F_Display) (N := 10) hx hb htb i_Display hown hG.1 hP 0 rfl rfl 5 (by decide) (htb _ k_170) (fun _ h9 => h9) rfl d_Display_receive_22 ?_
    refine lv_iconst (v := nI 1) hx hb d_Display_receive_25 (by decide) ?_
    refine nv_iadd hx hb d_Display_receive_26 ?_
    refine va_put (D := D) (ci := 6) (v := .int (nI (cz + 1))) (ty := .int) (C := "TileScreen$Display") (T := F_Display) (N := 10) hx hb htb i_Display t_Display t_Display_ok n_Display hown hG.1 hP hD hS 0 rfl rfl 5 (by decide) (htb _ k_170) (fun _ h9 => h9) rfl (by decide +kernel) rfl rfl (Nat.le_of_ble_eq_true rfl) d_Display_receive_27 (fun H locs hP hD hS => ?_)
    have hP : va_P D classes [(a, .inr (6, [.ref fr, .long fn, .ref bk, .ref ca, .ref cm, .int (nI (cz + 1)), .ref pp, .int (nI po), .int (nI e0), .int (nI w0)])), (cm, .inl (cI, 6247, .inl (nF (up Wc cz v9)))), (bk, .inr (0, [.int (nI cb), .ref bp])), (bp, .inl (cI, 3072, .inl (nF Bk))), (pp, .inl (cI, 4, .inl (nF P))), (fr, .inr (0, [.int (nI cf), .ref fp])), (fp, .inl (cI, 3072, .inl (nF Fr))), (ca, .inr (1, [.ref ct, .int (nI pl), .int (nI us)])), (ct, .inr (0, [.int (nI 16), .ref cp])), (cp, .inl (cI, 1024, .inl (nF C)))] H := hP
    have hD : va_D AA [(a, .inr (6, [.ref fr, .long fn, .ref bk, .ref ca, .ref cm, .int (nI (cz + 1)), .ref pp, .int (nI po), .int (nI e0), .int (nI w0)])), (cm, .inl (cI, 6247, .inl (nF (up Wc cz v9)))), (bk, .inr (0, [.int (nI cb), .ref bp])), (bp, .inl (cI, 3072, .inl (nF Bk))), (pp, .inl (cI, 4, .inl (nF P))), (fr, .inr (0, [.int (nI cf), .ref fp])), (fp, .inl (cI, 3072, .inl (nF Fr))), (ca, .inr (1, [.ref ct, .int (nI pl), .int (nI us)])), (ct, .inr (0, [.int (nI 16), .ref cp])), (cp, .inl (cI, 1024, .inl (nF C)))] := hD
    refine lv_aload_n hx hb d_Display_receive_30 rfl (lv_at hl 0 rfl) ?_
    refine va_get (D := D) (ci := 6) (v := .int (nI (cz + 1))) (C := "TileScreen$Display") (T := F_Display) (N := 10) hx hb htb i_Display hown hG.1 hP 0 rfl rfl 5 (by decide) (htb _ k_170) (fun _ h9 => h9) rfl d_Display_receive_31 ?_
    refine lv_iconst (v := nI 3) hx hb d_Display_receive_34 (by decide) ?_
    refine nv_icmp_ge (tgt := 40) hx hb d_Display_receive_35 (by decide) (by omega) (by omega) (fun c_35 => ?_) (fun c_35 => ?_)
    · refine lv_aload_n hx hb d_Display_receive_40 rfl (lv_at hl 0 rfl) ?_
      refine va_get (D := D) (ci := 6) (v := .ref cm) (C := "TileScreen$Display") (T := F_Display) (N := 10) hx hb htb i_Display hown hG.1 hP 0 rfl rfl 4 (by decide) (htb _ k_169) (fun _ h9 => h9) rfl d_Display_receive_41 ?_
      refine lv_iconst (v := nI 0) hx hb d_Display_receive_44 (by decide) ?_
      refine nv_iald hx hb hG.1 hP 1 0 rfl rfl (by omega) (by omega) d_Display_receive_45 ?_
      refine lv_bipush (v := nI 16) hx hb d_Display_receive_46 (by decide) ?_
      refine nv_ishl hx hb (by decide) (by have := up_lt (k := cz) bWc hv 0; omega) d_Display_receive_48 ?_
      refine lv_aload_n hx hb d_Display_receive_49 rfl (lv_at hl 0 rfl) ?_
      refine va_get (D := D) (ci := 6) (v := .ref cm) (C := "TileScreen$Display") (T := F_Display) (N := 10) hx hb htb i_Display hown hG.1 hP 0 rfl rfl 4 (by decide) (htb _ k_169) (fun _ h9 => h9) rfl d_Display_receive_50 ?_
      refine lv_iconst (v := nI 1) hx hb d_Display_receive_53 (by decide) ?_
      refine nv_iald hx hb hG.1 hP 1 0 rfl rfl (by omega) (by omega) d_Display_receive_54 ?_
      refine lv_bipush (v := nI 8) hx hb d_Display_receive_55 (by decide) ?_
      refine nv_ishl hx hb (by decide) (by have := up_lt (k := cz) bWc hv 1; omega) d_Display_receive_57 ?_
      refine nv_ior (r := (up Wc cz v9) 0 * 2 ^ 16 ||| (up Wc cz v9) 1 * 2 ^ 8) hx hb rfl d_Display_receive_58 ?_
      refine lv_aload_n hx hb d_Display_receive_59 rfl (lv_at hl 0 rfl) ?_
      refine va_get (D := D) (ci := 6) (v := .ref cm) (C := "TileScreen$Display") (T := F_Display) (N := 10) hx hb htb i_Display hown hG.1 hP 0 rfl rfl 4 (by decide) (htb _ k_169) (fun _ h9 => h9) rfl d_Display_receive_60 ?_
      refine lv_iconst (v := nI 2) hx hb d_Display_receive_63 (by decide) ?_
      refine nv_iald hx hb hG.1 hP 1 0 rfl rfl (by omega) (by omega) d_Display_receive_64 ?_
      refine nv_ior (r := toldOf (up Wc cz v9)) hx hb (or3 (up_lt bWc hv 1) (up_lt bWc hv 2)) d_Display_receive_65 ?_
      refine lv_istore_n (lv' := [(2, .int (nI (toldOf (up Wc cz v9)))), (0, .ref a), (1, .int (nI v9))]) hx hb d_Display_receive_66 rfl hl (by decide) rfl (fun ls hl => ?_)
      refine lv_iload_n hx hb d_Display_receive_67 rfl (lv_at hl 0 rfl) ?_
      refine lv_iconst (v := nI 4) hx hb d_Display_receive_68 (by decide) ?_
      refine nv_icmp_lt (tgt := 79) hx hb d_Display_receive_69 (by decide) (by have h0 := up_lt (k := cz) bWc hv 0; have h1 := up_lt (k := cz) bWc hv 1; have h2 := up_lt (k := cz) bWc hv 2; show (up Wc cz v9) 0 * 65536 + (up Wc cz v9) 1 * 256 + (up Wc cz v9) 2 < _; omega) (by omega) (fun c_69 => ?_) (fun c_69 => ?_)
      · refine lv_iconst (v := nI 0) hx hb d_Display_receive_79 (by decide) ?_
        have hR := hret ((nI 0)) (0, fn, cz + 1, po, e0, w0, Bk, P, Fr, C, pl, us) H locs 80 ls d_Display_receive_80 (by first | rfl | decide)
        try dsimp only at hR
        exact hR (⟨rfl, by decide, fun h => absurd h (by decide), bBk, bP, bFr, bC, hpl, hus⟩) hP hD hS
      · refine lv_iload_n hx hb d_Display_receive_72 rfl (lv_at hl 0 rfl) ?_
        refine lv_sipush (v := nI 6244) hx hb d_Display_receive_73 (by decide) ?_
        refine nv_icmp_le (tgt := 81) hx hb d_Display_receive_76 (by decide) (by have h0 := up_lt (k := cz) bWc hv 0; have h1 := up_lt (k := cz) bWc hv 1; have h2 := up_lt (k := cz) bWc hv 2; show (up Wc cz v9) 0 * 65536 + (up Wc cz v9) 1 * 256 + (up Wc cz v9) 2 < _; omega) (by omega) (fun c_76 => ?_) (fun c_76 => ?_)
        · refine lv_aload_n hx hb d_Display_receive_81 rfl (lv_at hl 1 rfl) ?_
          refine va_get (D := D) (ci := 6) (v := .int (nI (cz + 1))) (C := "TileScreen$Display") (T := F_Display) (N := 10) hx hb htb i_Display hown hG.1 hP 0 rfl rfl 5 (by decide) (htb _ k_170) (fun _ h9 => h9) rfl d_Display_receive_82 ?_
          refine lv_iconst (v := nI 3) hx hb d_Display_receive_85 (by decide) ?_
          refine lv_iload_n hx hb d_Display_receive_86 rfl (lv_at hl 0 rfl) ?_
          refine nv_iadd hx hb d_Display_receive_87 ?_
          refine nv_icmp_lt (tgt := 98) hx hb d_Display_receive_88 (by decide) (by omega) (by omega) (fun c_88 => ?_) (fun c_88 => ?_)
          · refine lv_iconst (v := nI 1) hx hb d_Display_receive_98 (by decide) ?_
            refine lv_goto (tgt := 103) hx hb d_Display_receive_99 (by decide) ?_
            have hR := hret ((nI 1)) (1, fn, cz + 1, po, e0, w0, Bk, P, Fr, C, pl, us) H locs 103 ls d_Display_receive_103 (by first | rfl | decide)
            try dsimp only at hR
            exact hR (⟨rfl, by decide, fun _ => by omega, bBk, bP, bFr, bC, hpl, hus⟩) hP hD hS
          · refine lv_aload_n hx hb d_Display_receive_91 rfl (lv_at hl 1 rfl) ?_
            refine kV_i (wc := [(a, .inr (6, [.ref fr, .long fn, .ref bk, .ref ca, .ref cm, .int (nI (cz + 1)), .ref pp, .int (nI po), .int (nI e0), .int (nI w0)])), (cm, .inl (cI, 6247, .inl (nF (up Wc cz v9)))), (bk, .inr (0, [.int (nI cb), .ref bp])), (bp, .inl (cI, 3072, .inl (nF Bk))), (pp, .inl (cI, 4, .inl (nF P))), (fr, .inr (0, [.int (nI cf), .ref fp])), (fp, .inl (cI, 3072, .inl (nF Fr))), (ca, .inr (1, [.ref ct, .int (nI pl), .int (nI us)])), (ct, .inr (0, [.int (nI 16), .ref cp])), (cp, .inl (cI, 1024, .inl (nF C)))]) (wr := []) (w2 := fun u => [(a, .inr (6, [.ref fr, .long u.1, .ref bk, .ref ca, .ref cm, .int (nI u.2.1), .ref pp, .int (nI u.2.2.1), .int (nI u.2.2.2.1), .int (nI u.2.2.2.2.1)])), (cm, .inl (cI, 6247, .inl (nF (up Wc cz v9)))), (bk, .inr (0, [.int (nI cb), .ref bp])), (bp, .inl (cI, 3072, .inl (nF u.2.2.2.2.2.1))), (pp, .inl (cI, 4, .inl (nF u.2.2.2.2.2.2.1))), (fr, .inr (0, [.int (nI cf), .ref fp])), (fp, .inl (cI, 3072, .inl (nF u.2.2.2.2.2.2.2.1))), (ca, .inr (1, [.ref ct, .int (nI u.2.2.2.2.2.2.2.2.2.1), .int (nI u.2.2.2.2.2.2.2.2.2.2)])), (ct, .inr (0, [.int (nI 16), .ref cp])), (cp, .inl (cI, 1024, .inl (nF u.2.2.2.2.2.2.2.2.1)))]) [] [] Bd ⟨gi_app (gi_c0 k_444 (gi_c0 k_446 (gi_c0 s_10 (gi_c0 k_8 gi_nil)))) (gi_tb0 k_447), rfl, by decide, by decide⟩ (show (parseMethodDescriptor "()Z").map (fun d => d.parameters.length) = some 0 by decide +kernel) (c_Display_readUpdate a fr fn bk ca cm (cz + 1) pp po e0 w0 (up Wc cz v9) cb bp Bk P cf fp Fr ct pl us cp C (up_lt bWc hv) (bBk) (bP) (bFr) (bC) (hpl) (hus) (by omega) (by omega)) (by decide +kernel) ⟨Nat.le_of_ble_eq_true rfl, Nat.le_of_ble_eq_true rfl⟩ hG hP hD hS hA [0, 1, 2, 3, 4, 5, 6, 7, 8, 9] [] [0, 1, 2, 3, 4, 5, 6, 7, 8, 9] (by decide) rfl rfl (fun _ => rfl) (q0 := 0) rfl rfl rfl hl.1 rfl (Nat.le_of_ble_eq_true rfl) d_Display_receive_92 (fun r12 u14 H locs hp13 hP hD hS => ?_)
            obtain ⟨u1, u2, u3, u4, u5, u6, u7, u8, u9, u10, u11⟩ := u14
            try dsimp only at hp13
            have hP : va_P D classes [(a, .inr (6, [.ref fr, .long u1, .ref bk, .ref ca, .ref cm, .int (nI u2), .ref pp, .int (nI u3), .int (nI u4), .int (nI u5)])), (cm, .inl (cI, 6247, .inl (nF (up Wc cz v9)))), (bk, .inr (0, [.int (nI cb), .ref bp])), (bp, .inl (cI, 3072, .inl (nF u6))), (pp, .inl (cI, 4, .inl (nF u7))), (fr, .inr (0, [.int (nI cf), .ref fp])), (fp, .inl (cI, 3072, .inl (nF u8))), (ca, .inr (1, [.ref ct, .int (nI u10), .int (nI u11)])), (ct, .inr (0, [.int (nI 16), .ref cp])), (cp, .inl (cI, 1024, .inl (nF u9)))] H := hP
            have hD : va_D AA [(a, .inr (6, [.ref fr, .long u1, .ref bk, .ref ca, .ref cm, .int (nI u2), .ref pp, .int (nI u3), .int (nI u4), .int (nI u5)])), (cm, .inl (cI, 6247, .inl (nF (up Wc cz v9)))), (bk, .inr (0, [.int (nI cb), .ref bp])), (bp, .inl (cI, 3072, .inl (nF u6))), (pp, .inl (cI, 4, .inl (nF u7))), (fr, .inr (0, [.int (nI cf), .ref fp])), (fp, .inl (cI, 3072, .inl (nF u8))), (ca, .inr (1, [.ref ct, .int (nI u10), .int (nI u11)])), (ct, .inr (0, [.int (nI 16), .ref cp])), (cp, .inl (cI, 1024, .inl (nF u9)))] := hD
            obtain ⟨rfl, hp15⟩ := hp13
            obtain ⟨h16, h17, h18⟩ := hp15
            refine nv_if_eq (tgt := 102) hx hb d_Display_receive_95 (by decide) (bt_lt _) (fun c_95 => ?_) (fun c_95 => ?_)
            · refine lv_iconst (v := nI 0) hx hb d_Display_receive_102 (by decide) ?_
              have hR := hret ((nI 0)) (0, u1, u2, u3, u4, u5, u6, u7, u8, u9, u10, u11) H locs 103 ls d_Display_receive_103 (by first | rfl | decide)
              try dsimp only at hR
              exact hR (⟨rfl, by decide, fun h => absurd h (by decide), h18.1, h18.2.1, h18.2.2.1, h18.2.2.2.1, h18.2.2.2.2.1, h18.2.2.2.2.2⟩) hP hD hS
            · refine lv_iconst (v := nI 1) hx hb d_Display_receive_98 (by decide) ?_
              refine lv_goto (tgt := 103) hx hb d_Display_receive_99 (by decide) ?_
              obtain ⟨X, hd⟩ : ∃ X, dcd (up Wc cz v9) (cz + 1) Fr C pl us = some X := by cases q : dcd (up Wc cz v9) (cz + 1) Fr C pl us with
                | none => rw [q] at c_95; exact absurd rfl c_95
                | some X => exact ⟨X, rfl⟩
              obtain ⟨-, -, -, -, g6⟩ := h16 X hd
              have hR := hret ((nI 1)) (1, u1, u2, u3, u4, u5, u6, u7, u8, u9, u10, u11) H locs 103 ls d_Display_receive_103 (by first | rfl | decide)
              try dsimp only at hR
              exact hR (⟨rfl, by decide, fun _ => by rw [g6]; decide, h18.1, h18.2.1, h18.2.2.1, h18.2.2.2.1, h18.2.2.2.2.1, h18.2.2.2.2.2⟩) hP hD hS
        · refine lv_iconst (v := nI 0) hx hb d_Display_receive_79 (by decide) ?_
          have hR := hret ((nI 0)) (0, fn, cz + 1, po, e0, w0, Bk, P, Fr, C, pl, us) H locs 80 ls d_Display_receive_80 (by first | rfl | decide)
          try dsimp only at hR
          exact hR (⟨rfl, by decide, fun h => absurd h (by decide), bBk, bP, bFr, bC, hpl, hus⟩) hP hD hS
    · refine lv_iconst (v := nI 1) hx hb d_Display_receive_38 (by decide) ?_
      have hR := hret ((nI 1)) (1, fn, cz + 1, po, e0, w0, Bk, P, Fr, C, pl, us) H locs 39 ls d_Display_receive_39 (by first | rfl | decide)
      try dsimp only at hR
      exact hR (⟨rfl, by decide, fun _ => by omega, bBk, bP, bFr, bC, hpl, hus⟩) hP hD hS
end
