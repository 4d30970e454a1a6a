section
variable {l : Launch} {D : va_G} {cI cZ cL cV : ClassId}
def toldOf (W : Nat → Nat) : Nat := W 0 * 65536 + W 1 * 256 + W 2
/-- how many came, front picture, its number, cache, place, how many were put -/
abbrev RX : Type := Nat × (Nat → Nat) × Nat × (Nat → Nat) × Nat × Nat
/-- a viewer's state behind a byte, c bytes W having come; none if it breaks -/
def rcv (W : Nat → Nat) (c : Nat) (Fr : Nat → Nat) (fn : Nat) (C : Nat → Nat) (pl us : Nat) : Option RX :=
  if c < 3 then some (c, Fr, fn, C, pl, us) else if toldOf W < 4 ∨ 6244 < toldOf W then none else if c < 3 + toldOf W then some (c, Fr, fn, C, pl, us) else
  match dcd W c Fr C pl us with
  | none => none
  | some X => some (0, X.1, above fn (W 3 * 256 + W (3 + 1)), X.2.1, X.2.2.1, X.2.2.2.1)
theorem rcv_1 {W : Nat → Nat} {c fn pl us : Nat} {Fr C : Nat → Nat} (h : c < 3) : rcv W c Fr fn C pl us = some (c, Fr, fn, C, pl, us) := if_pos h
theorem rcv_2 {W : Nat → Nat} {c fn pl us : Nat} {Fr C : Nat → Nat} (h : 3 ≤ c) (ht : toldOf W < 4 ∨ 6244 < toldOf W) : rcv W c Fr fn C pl us = none := by
  unfold rcv
  rw [if_neg (by omega), if_pos ht]
theorem rcv_3 {W : Nat → Nat} {c fn pl us : Nat} {Fr C : Nat → Nat} (h : 3 ≤ c) (h1 : 4 ≤ toldOf W) (h2 : toldOf W ≤ 6244) (h3 : c < 3 + toldOf W) : rcv W c Fr fn C pl us = some (c, Fr, fn, C, pl, us) := by
  unfold rcv
  rw [if_neg (by omega), if_neg (by omega), if_pos h3]
theorem rcv_4 {W : Nat → Nat} {c fn pl us : Nat} {Fr C : Nat → Nat} (h : 3 ≤ c) (h1 : 4 ≤ toldOf W) (h2 : toldOf W ≤ 6244) (h3 : 3 + toldOf W ≤ c) (hd : dcd W c Fr C pl us = none) : rcv W c Fr fn C pl us = none := by
  unfold rcv
  rw [if_neg (by omega), if_neg (by omega), if_neg (by omega), hd]
theorem rcv_5 {W : Nat → Nat} {c fn pl us : Nat} {Fr C : Nat → Nat} {X : DX} (h : 3 ≤ c) (h1 : 4 ≤ toldOf W) (h2 : toldOf W ≤ 6244) (h3 : 3 + toldOf W ≤ c) (hd : dcd W c Fr C pl us = some X) : rcv W c Fr fn C pl us = some (0, X.1, above fn (W 3 * 256 + W (3 + 1)), X.2.1, X.2.2.1, X.2.2.2.1) := by
  unfold rcv
  rw [if_neg (by omega), if_neg (by omega), if_neg (by omega), hd]
theorem rcv_cz {W : Nat → Nat} {c fn pl us : Nat} {Fr C : Nat → Nat} {Y : RX} (h : rcv W c Fr fn C pl us = some Y) : Y.1 < 6247 := by
  unfold rcv at h
  split at h
  · cases h; show c < 6247; omega
  · split at h
    · cases h
    · split at h
      · cases h; show c < 6247; omega
      · split at h
        · cases h
        · cases h; show 0 < 6247; decide
theorem or3 {a b c : Nat} (hb : b < 256) (hc : c < 256) : (a * 2 ^ 16 ||| b * 2 ^ 8) ||| c = a * 65536 + b * 256 + c := by
  rw [or_add (w := 16) (show b * 2 ^ 8 < 2 ^ 16 by omega), show a * 2 ^ 16 + b * 2 ^ 8 = (a * 256 + b) * 2 ^ 8 by omega, or_add (w := 8) (by omega)]
  try omega
set_option maxHeartbeats 1600000 in
set_option maxRecDepth 100000 in
theorem c_Display_receive (a : Nat) (fr : Nat) (fn : Nat) (bk : Nat) (ca : Nat) (cm : Nat) (cz : Nat) (pp : Nat) (po : Nat) (e0 : Nat) (w0 : Nat) (Wc : Nat → Nat) (cb : Nat) (bp : Nat) (Bk : Nat → Nat) (P : Nat → Nat) (cf : Nat) (fp : Nat) (Fr : Nat → Nat) (ct : Nat) (pl : Nat) (us : Nat) (cp : Nat) (C : Nat → Nat) (v9 : Nat) (bWc : ∀ j, Wc j < 256) (bBk : ∀ j, Bk j < 65536) (bP : ∀ j, P j < 65536) (bFr : ∀ j, Fr j < 65536) (bC : ∀ j, C j < 65536) (hpl : pl < 16) (hus : us ≤ 16) (hcz : cz < 6247) (hfn : fn < 2 ^ 29) (hv : v9 < 256) : CI (S := Nat × Nat × Nat × Nat × Nat × (Nat → Nat) × (Nat → Nat) × (Nat → Nat) × (Nat → Nat) × Nat × Nat) l classes NW D (TYS cI cZ cL cV) y_Display_receive (.code y_Display_receive b_Display_receive 3 (some .boolean) :: TB) { frames := 5, cells := 0, slots := 0, locals := 130 } [.ref a, .int (nI v9)] [(a, .inr (6, [.ref fr, .int (nI fn), .ref bk, .ref ca, .ref cm, .int (nI cz), .ref pp, .int (nI po), .int (nI e0), .int (nI w0)])), (cm, .inl (cI, 6247, .inl (nF Wc))), (bk, .inr (0, [.int (nI cb), .ref bp])), (bp, .inl (cI, 3072, .inl (nF Bk))), (pp, .inl (cI, 4, .inl (nF P))), (fr, .inr (0, [.int (nI cf), .ref fp])), (fp, .inl (cI, 3072, .inl (nF Fr))), (ca, .inr (1, [.ref ct, .int (nI pl), .int (nI us)])), (ct, .inr (0, [.int (nI 16), .ref cp])), (cp, .inl (cI, 1024, .inl (nF C)))] (fun r u => r = nI ((rcv (up Wc cz v9) (cz + 1) Fr fn C pl us).isSome.toNat) ∧ (∀ Y, rcv (up Wc cz v9) (cz + 1) Fr fn C pl us = some Y → (u.2.1, u.2.2.2.2.2.2.2.1, u.1, u.2.2.2.2.2.2.2.2.1, u.2.2.2.2.2.2.2.2.2.1, u.2.2.2.2.2.2.2.2.2.2) = Y) ∧ (rcv (up Wc cz v9) (cz + 1) Fr fn C pl us = none → u.2.2.2.2.2.2.2.1 = Fr ∧ u.1 = fn) ∧ ((∀ j, u.2.2.2.2.2.1 j < 65536) ∧ (∀ j, u.2.2.2.2.2.2.1 j < 65536) ∧ (∀ j, u.2.2.2.2.2.2.2.1 j < 65536) ∧ (∀ j, u.2.2.2.2.2.2.2.2.1 j < 65536) ∧ u.2.2.2.2.2.2.2.2.2.1 < 16 ∧ u.2.2.2.2.2.2.2.2.2.2 ≤ 16)) (fun u => [(a, .inr (6, [.ref fr, .int (nI u.1), .ref bk, .ref ca, .ref cm, .int (nI u.2.1), .ref pp, .int (nI u.2.2.1), .int (nI u.2.2.2.1), .int (nI u.2.2.2.2.1)])), (cm, .inl (cI, 6247, .inl (nF (up Wc cz v9)))), (bk, .inr (0, [.int (nI cb), .ref bp])), (bp, .inl (cI, 3072, .inl (nF u.2.2.2.2.2.1))), (pp, .inl (cI, 4, .inl (nF u.2.2.2.2.2.2.1))), (fr, .inr (0, [.int (nI cf), .ref fp])), (fp, .inl (cI, 3072, .inl (nF u.2.2.2.2.2.2.2.1))), (ca, .inr (1, [.ref ct, .int (nI u.2.2.2.2.2.2.2.2.2.1), .int (nI u.2.2.2.2.2.2.2.2.2.2)])), (ct, .inr (0, [.int (nI 16), .ref cp])), (cp, .inl (cI, 1024, .inl (nF u.2.2.2.2.2.2.2.2.1)))]) := by
  refine CI.of (by decide) (Nat.le_of_ble_eq_true rfl) ?_
  intro pr ev sT mM aR bW mE cO AA QQ ls Bd hG hA hP hD hS hl hret
  have Bd : bd pr cO b_Display_receive 3 sT aR TB "TileScreen$Display" mM := Bd
  obtain ⟨hx, hb, hml, hown, htb⟩ := id Bd
  have hl : lv_has ls 3 [(0, .ref a), (1, .int (nI v9))] := hl
  refine lv_aload_n hx hb d_Display_receive_0 rfl (lv_at hl 0 rfl) ?_
  refine va_get (D := D) (ci := 6) (v := .int (nI cz)) (C := "TileScreen$Display") (T := F_Display) (N := 10) hx hb htb i_Display hown hG.1 hP 0 rfl rfl 5 (by decide) (htb _ k_170) (fun _ h9 => h9) rfl d_Display_receive_1 ?_
  refine lv_sipush (v := nI 6247) hx hb d_Display_receive_4 (by decide) ?_
  refine nv_icmp_ge (tgt := 30) hx hb d_Display_receive_7 (by decide) (by omega) (by omega) (fun c_7 => ?_) (fun c_7 => ?_)
  · omega
  · refine lv_aload_n hx hb d_Display_receive_10 rfl (lv_at hl 0 rfl) ?_
    refine va_get (D := D) (ci := 6) (v := .ref cm) (C := "TileScreen$Display") (T := F_Display) (N := 10) hx hb htb i_Display hown hG.1 hP 0 rfl rfl 4 (by decide) (htb _ k_169) (fun _ h9 => h9) rfl d_Display_receive_11 ?_
    refine lv_aload_n hx hb d_Display_receive_14 rfl (lv_at hl 0 rfl) ?_
    refine va_get (D := D) (ci := 6) (v := .int (nI cz)) (C := "TileScreen$Display") (T := F_Display) (N := 10) hx hb htb i_Display hown hG.1 hP 0 rfl rfl 5 (by decide) (htb _ k_170) (fun _ h9 => h9) rfl d_Display_receive_15 ?_
    refine lv_iload_n hx hb d_Display_receive_18 rfl (lv_at hl 1 rfl) ?_
    refine nv_iast hx hb hG.1 hP hD hS 1 0 rfl rfl (by omega) (by omega) d_Display_receive_19 (fun H locs hP hD hS => ?_)
    have hP : va_P D classes [(a, .inr (6, [.ref fr, .int (nI fn), .ref bk, .ref ca, .ref cm, .int (nI cz), .ref pp, .int (nI po), .int (nI e0), .int (nI w0)])), (cm, .inl (cI, 6247, .inl (nF (up Wc cz v9)))), (bk, .inr (0, [.int (nI cb), .ref bp])), (bp, .inl (cI, 3072, .inl (nF Bk))), (pp, .inl (cI, 4, .inl (nF P))), (fr, .inr (0, [.int (nI cf), .ref fp])), (fp, .inl (cI, 3072, .inl (nF Fr))), (ca, .inr (1, [.ref ct, .int (nI pl), .int (nI us)])), (ct, .inr (0, [.int (nI 16), .ref cp])), (cp, .inl (cI, 1024, .inl (nF C)))] H := hP
    have hD : va_D AA [(a, .inr (6, [.ref fr, .int (nI fn), .ref bk, .ref ca, .ref cm, .int (nI cz), .ref pp, .int (nI po), .int (nI e0), .int (nI w0)])), (cm, .inl (cI, 6247, .inl (nF (up Wc cz v9)))), (bk, .inr (0, [.int (nI cb), .ref bp])), (bp, .inl (cI, 3072, .inl (nF Bk))), (pp, .inl (cI, 4, .inl (nF P))), (fr, .inr (0, [.int (nI cf), .ref fp])), (fp, .inl (cI, 3072, .inl (nF Fr))), (ca, .inr (1, [.ref ct, .int (nI pl), .int (nI us)])), (ct, .inr (0, [.int (nI 16), .ref cp])), (cp, .inl (cI, 1024, .inl (nF C)))] := hD
    refine lv_aload_n hx hb d_Display_receive_20 rfl (lv_at hl 0 rfl) ?_
    refine lv_dup hx hb d_Display_receive_21 rfl ?_
    refine va_get (D := D) (ci := 6) (v := .int (nI cz)) (C := "TileScreen$Display") (T := F_Display) (N := 10) hx hb htb i_Display hown hG.1 hP 0 rfl rfl 5 (by decide) (htb _ k_170) (fun _ h9 => h9) rfl d_Display_receive_22 ?_
    refine lv_iconst (v := nI 1) hx hb d_Display_receive_25 (by decide) ?_
    refine nv_iadd hx hb d_Display_receive_26 ?_
    refine va_put (D := D) (ci := 6) (v := .int (nI (cz + 1))) (ty := .int) (C := "TileScreen$Display") (T := F_Display) (N := 10) hx hb htb i_Display t_Display t_Display_ok n_Display hown hG.1 hP hD hS 0 rfl rfl 5 (by decide) (htb _ k_170) (fun _ h9 => h9) rfl (by decide +kernel) rfl rfl (Nat.le_of_ble_eq_true rfl) d_Display_receive_27 (fun H locs hP hD hS => ?_)
    have hP : va_P D classes [(a, .inr (6, [.ref fr, .int (nI fn), .ref bk, .ref ca, .ref cm, .int (nI (cz + 1)), .ref pp, .int (nI po), .int (nI e0), .int (nI w0)])), (cm, .inl (cI, 6247, .inl (nF (up Wc cz v9)))), (bk, .inr (0, [.int (nI cb), .ref bp])), (bp, .inl (cI, 3072, .inl (nF Bk))), (pp, .inl (cI, 4, .inl (nF P))), (fr, .inr (0, [.int (nI cf), .ref fp])), (fp, .inl (cI, 3072, .inl (nF Fr))), (ca, .inr (1, [.ref ct, .int (nI pl), .int (nI us)])), (ct, .inr (0, [.int (nI 16), .ref cp])), (cp, .inl (cI, 1024, .inl (nF C)))] H := hP
    have hD : va_D AA [(a, .inr (6, [.ref fr, .int (nI fn), .ref bk, .ref ca, .ref cm, .int (nI (cz + 1)), .ref pp, .int (nI po), .int (nI e0), .int (nI w0)])), (cm, .inl (cI, 6247, .inl (nF (up Wc cz v9)))), (bk, .inr (0, [.int (nI cb), .ref bp])), (bp, .inl (cI, 3072, .inl (nF Bk))), (pp, .inl (cI, 4, .inl (nF P))), (fr, .inr (0, [.int (nI cf), .ref fp])), (fp, .inl (cI, 3072, .inl (nF Fr))), (ca, .inr (1, [.ref ct, .int (nI pl), .int (nI us)])), (ct, .inr (0, [.int (nI 16), .ref cp])), (cp, .inl (cI, 1024, .inl (nF C)))] := hD
    refine lv_aload_n hx hb d_Display_receive_30 rfl (lv_at hl 0 rfl) ?_
    refine va_get (D := D) (ci := 6) (v := .int (nI (cz + 1))) (C := "TileScreen$Display") (T := F_Display) (N := 10) hx hb htb i_Display hown hG.1 hP 0 rfl rfl 5 (by decide) (htb _ k_170) (fun _ h9 => h9) rfl d_Display_receive_31 ?_
    refine lv_iconst (v := nI 3) hx hb d_Display_receive_34 (by decide) ?_
    refine nv_icmp_ge (tgt := 40) hx hb d_Display_receive_35 (by decide) (by omega) (by omega) (fun c_35 => ?_) (fun c_35 => ?_)
    · refine lv_aload_n hx hb d_Display_receive_40 rfl (lv_at hl 0 rfl) ?_
      refine va_get (D := D) (ci := 6) (v := .ref cm) (C := "TileScreen$Display") (T := F_Display) (N := 10) hx hb htb i_Display hown hG.1 hP 0 rfl rfl 4 (by decide) (htb _ k_169) (fun _ h9 => h9) rfl d_Display_receive_41 ?_
      refine lv_iconst (v := nI 0) hx hb d_Display_receive_44 (by decide) ?_
      refine nv_iald hx hb hG.1 hP 1 0 rfl rfl (by omega) (by omega) d_Display_receive_45 ?_
      refine lv_bipush (v := nI 16) hx hb d_Display_receive_46 (by decide) ?_
      refine nv_ishl hx hb (by decide) (by have := up_lt (k := cz) bWc hv 0; omega) d_Display_receive_48 ?_
      refine lv_aload_n hx hb d_Display_receive_49 rfl (lv_at hl 0 rfl) ?_
      refine va_get (D := D) (ci := 6) (v := .ref cm) (C := "TileScreen$Display") (T := F_Display) (N := 10) hx hb htb i_Display hown hG.1 hP 0 rfl rfl 4 (by decide) (htb _ k_169) (fun _ h9 => h9) rfl d_Display_receive_50 ?_
      refine lv_iconst (v := nI 1) hx hb d_Display_receive_53 (by decide) ?_
      refine nv_iald hx hb hG.1 hP 1 0 rfl rfl (by omega) (by omega) d_Display_receive_54 ?_
      refine lv_bipush (v := nI 8) hx hb d_Display_receive_55 (by decide) ?_
      refine nv_ishl hx hb (by decide) (by have := up_lt (k := cz) bWc hv 1; omega) d_Display_receive_57 ?_
      refine nv_ior (r := (up Wc cz v9) 0 * 2 ^ 16 ||| (up Wc cz v9) 1 * 2 ^ 8) hx hb rfl d_Display_receive_58 ?_
      refine lv_aload_n hx hb d_Display_receive_59 rfl (lv_at hl 0 rfl) ?_
      refine va_get (D := D) (ci := 6) (v := .ref cm) (C := "TileScreen$Display") (T := F_Display) (N := 10) hx hb htb i_Display hown hG.1 hP 0 rfl rfl 4 (by decide) (htb _ k_169) (fun _ h9 => h9) rfl d_Display_receive_60 ?_
      refine lv_iconst (v := nI 2) hx hb d_Display_receive_63 (by decide) ?_
      refine nv_iald hx hb hG.1 hP 1 0 rfl rfl (by omega) (by omega) d_Display_receive_64 ?_
      refine nv_ior (r := toldOf (up Wc cz v9)) hx hb (or3 (up_lt bWc hv 1) (up_lt bWc hv 2)) d_Display_receive_65 ?_
      refine lv_istore_n (lv' := [(2, .int (nI (toldOf (up Wc cz v9)))), (0, .ref a), (1, .int (nI v9))]) hx hb d_Display_receive_66 rfl hl (by decide) rfl (fun ls hl => ?_)
      refine lv_iload_n hx hb d_Display_receive_67 rfl (lv_at hl 0 rfl) ?_
      refine lv_iconst (v := nI 4) hx hb d_Display_receive_68 (by decide) ?_
      refine nv_icmp_lt (tgt := 79) hx hb d_Display_receive_69 (by decide) (by have h0 := up_lt (k := cz) bWc hv 0; have h1 := up_lt (k := cz) bWc hv 1; have h2 := up_lt (k := cz) bWc hv 2; show (up Wc cz v9) 0 * 65536 + (up Wc cz v9) 1 * 256 + (up Wc cz v9) 2 < _; omega) (by omega) (fun c_69 => ?_) (fun c_69 => ?_)
      · refine lv_iconst (v := nI 0) hx hb d_Display_receive_79 (by decide) ?_
        have hN := rcv_2 (W := (up Wc cz v9)) (Fr := Fr) (fn := fn) (C := C) (pl := pl) (us := us) (show 3 ≤ cz + 1 by omega) (Or.inl c_69)
        have hR := hret ((nI 0)) (fn, cz + 1, po, e0, w0, Bk, P, Fr, C, pl, us) H locs 80 ls d_Display_receive_80 (by first | rfl | decide)
        try dsimp only at hR
        exact hR (⟨by rw [hN]; rfl, fun Y h => (by rw [hN] at h; cases h), fun _ => ⟨rfl, rfl⟩, bBk, bP, bFr, bC, hpl, hus⟩) hP hD hS
      · refine lv_iload_n hx hb d_Display_receive_72 rfl (lv_at hl 0 rfl) ?_
        refine lv_sipush (v := nI 6244) hx hb d_Display_receive_73 (by decide) ?_
        refine nv_icmp_le (tgt := 81) hx hb d_Display_receive_76 (by decide) (by have h0 := up_lt (k := cz) bWc hv 0; have h1 := up_lt (k := cz) bWc hv 1; have h2 := up_lt (k := cz) bWc hv 2; show (up Wc cz v9) 0 * 65536 + (up Wc cz v9) 1 * 256 + (up Wc cz v9) 2 < _; omega) (by omega) (fun c_76 => ?_) (fun c_76 => ?_)
        · refine lv_aload_n hx hb d_Display_receive_81 rfl (lv_at hl 1 rfl) ?_
          refine va_get (D := D) (ci := 6) (v := .int (nI (cz + 1))) (C := "TileScreen$Display") (T := F_Display) (N := 10) hx hb htb i_Display hown hG.1 hP 0 rfl rfl 5 (by decide) (htb _ k_170) (fun _ h9 => h9) rfl d_Display_receive_82 ?_
          refine lv_iconst (v := nI 3) hx hb d_Display_receive_85 (by decide) ?_
          refine lv_iload_n hx hb d_Display_receive_86 rfl (lv_at hl 0 rfl) ?_
          refine nv_iadd hx hb d_Display_receive_87 ?_
          refine nv_icmp_lt (tgt := 98) hx hb d_Display_receive_88 (by decide) (by omega) (by omega) (fun c_88 => ?_) (fun c_88 => ?_)
          · refine lv_iconst (v := nI 1) hx hb d_Display_receive_98 (by decide) ?_
            refine lv_goto (tgt := 103) hx hb d_Display_receive_99 (by decide) ?_
            have hN := rcv_3 (W := (up Wc cz v9)) (Fr := Fr) (fn := fn) (C := C) (pl := pl) (us := us) (show 3 ≤ cz + 1 by omega) c_69 c_76 c_88
            have hR := hret ((nI 1)) (fn, cz + 1, po, e0, w0, Bk, P, Fr, C, pl, us) H locs 103 ls d_Display_receive_103 (by first | rfl | decide)
            try dsimp only at hR
            exact hR (⟨by rw [hN]; rfl, fun Y h => (by rw [hN] at h; cases h; rfl), fun h => (by rw [hN] at h; cases h), bBk, bP, bFr, bC, hpl, hus⟩) hP hD hS
          · refine lv_aload_n hx hb d_Display_receive_91 rfl (lv_at hl 1 rfl) ?_
            refine kV_i (wc := [(a, .inr (6, [.ref fr, .int (nI fn), .ref bk, .ref ca, .ref cm, .int (nI (cz + 1)), .ref pp, .int (nI po), .int (nI e0), .int (nI w0)])), (cm, .inl (cI, 6247, .inl (nF (up Wc cz v9)))), (bk, .inr (0, [.int (nI cb), .ref bp])), (bp, .inl (cI, 3072, .inl (nF Bk))), (pp, .inl (cI, 4, .inl (nF P))), (fr, .inr (0, [.int (nI cf), .ref fp])), (fp, .inl (cI, 3072, .inl (nF Fr))), (ca, .inr (1, [.ref ct, .int (nI pl), .int (nI us)])), (ct, .inr (0, [.int (nI 16), .ref cp])), (cp, .inl (cI, 1024, .inl (nF C)))]) (wr := []) (w2 := fun u => [(a, .inr (6, [.ref fr, .int (nI u.1), .ref bk, .ref ca, .ref cm, .int (nI u.2.1), .ref pp, .int (nI u.2.2.1), .int (nI u.2.2.2.1), .int (nI u.2.2.2.2.1)])), (cm, .inl (cI, 6247, .inl (nF (up Wc cz v9)))), (bk, .inr (0, [.int (nI cb), .ref bp])), (bp, .inl (cI, 3072, .inl (nF u.2.2.2.2.2.1))), (pp, .inl (cI, 4, .inl (nF u.2.2.2.2.2.2.1))), (fr, .inr (0, [.int (nI cf), .ref fp])), (fp, .inl (cI, 3072, .inl (nF u.2.2.2.2.2.2.2.1))), (ca, .inr (1, [.ref ct, .int (nI u.2.2.2.2.2.2.2.2.2.1), .int (nI u.2.2.2.2.2.2.2.2.2.2)])), (ct, .inr (0, [.int (nI 16), .ref cp])), (cp, .inl (cI, 1024, .inl (nF u.2.2.2.2.2.2.2.2.1)))]) [] [] Bd ⟨gi_app (gi_c0 k_444 (gi_c0 k_446 (gi_c0 s_10 (gi_c0 k_8 gi_nil)))) (gi_tb0 k_447), rfl, by decide, by decide⟩ (show (parseMethodDescriptor "()Z").map (fun d => d.parameters.length) = some 0 by decide +kernel) (c_Display_readUpdate a fr fn bk ca cm (cz + 1) pp po e0 w0 (up Wc cz v9) cb bp Bk P cf fp Fr ct pl us cp C (up_lt bWc hv) (bBk) (bP) (bFr) (bC) (hpl) (hus) (by omega) (by omega) (hfn)) (by decide +kernel) ⟨Nat.le_of_ble_eq_true rfl, Nat.le_of_ble_eq_true rfl⟩ hG hP hD hS hA [0, 1, 2, 3, 4, 5, 6, 7, 8, 9] [] [0, 1, 2, 3, 4, 5, 6, 7, 8, 9] (by decide) rfl rfl (fun _ => rfl) (q0 := 0) rfl rfl rfl hl.1 rfl (Nat.le_of_ble_eq_true rfl) d_Display_receive_92 (fun r12 u14 H locs hp13 hP hD hS => ?_)
            obtain ⟨u1, u2, u3, u4, u5, u6, u7, u8, u9, u10, u11⟩ := u14
            try dsimp only at hp13
            have hP : va_P D classes [(a, .inr (6, [.ref fr, .int (nI u1), .ref bk, .ref ca, .ref cm, .int (nI u2), .ref pp, .int (nI u3), .int (nI u4), .int (nI u5)])), (cm, .inl (cI, 6247, .inl (nF (up Wc cz v9)))), (bk, .inr (0, [.int (nI cb), .ref bp])), (bp, .inl (cI, 3072, .inl (nF u6))), (pp, .inl (cI, 4, .inl (nF u7))), (fr, .inr (0, [.int (nI cf), .ref fp])), (fp, .inl (cI, 3072, .inl (nF u8))), (ca, .inr (1, [.ref ct, .int (nI u10), .int (nI u11)])), (ct, .inr (0, [.int (nI 16), .ref cp])), (cp, .inl (cI, 1024, .inl (nF u9)))] H := hP
            have hD : va_D AA [(a, .inr (6, [.ref fr, .int (nI u1), .ref bk, .ref ca, .ref cm, .int (nI u2), .ref pp, .int (nI u3), .int (nI u4), .int (nI u5)])), (cm, .inl (cI, 6247, .inl (nF (up Wc cz v9)))), (bk, .inr (0, [.int (nI cb), .ref bp])), (bp, .inl (cI, 3072, .inl (nF u6))), (pp, .inl (cI, 4, .inl (nF u7))), (fr, .inr (0, [.int (nI cf), .ref fp])), (fp, .inl (cI, 3072, .inl (nF u8))), (ca, .inr (1, [.ref ct, .int (nI u10), .int (nI u11)])), (ct, .inr (0, [.int (nI 16), .ref cp])), (cp, .inl (cI, 1024, .inl (nF u9)))] := hD
            obtain ⟨rfl, hp15⟩ := hp13
            obtain ⟨h16, h17, h18⟩ := hp15
            refine nv_if_eq (tgt := 102) hx hb d_Display_receive_95 (by decide) (bt_lt _) (fun c_95 => ?_) (fun c_95 => ?_)
            · refine lv_iconst (v := nI 0) hx hb d_Display_receive_102 (by decide) ?_
              have hd : dcd (up Wc cz v9) (cz + 1) Fr C pl us = none := by cases q : dcd (up Wc cz v9) (cz + 1) Fr C pl us with
                | none => rfl
                | some X => rw [q] at c_95; exact absurd c_95 Nat.one_ne_zero
              have hN := rcv_4 (fn := fn) (show 3 ≤ cz + 1 by omega) c_69 c_76 c_88 hd
              obtain ⟨g1, g2, g3⟩ := h17 hd
              have hR := hret ((nI 0)) (u1, u2, u3, u4, u5, u6, u7, u8, u9, u10, u11) H locs 103 ls d_Display_receive_103 (by first | rfl | decide)
              try dsimp only at hR
              exact hR (⟨by rw [hN]; rfl, fun Y h => (by rw [hN] at h; cases h), fun _ => ⟨g1, g2⟩, h18.1, h18.2.1, h18.2.2.1, h18.2.2.2.1, h18.2.2.2.2.1, h18.2.2.2.2.2⟩) hP hD hS
            · refine lv_iconst (v := nI 1) hx hb d_Display_receive_98 (by decide) ?_
              refine lv_goto (tgt := 103) hx hb d_Display_receive_99 (by decide) ?_
              obtain ⟨X, hd⟩ : ∃ X, dcd (up Wc cz v9) (cz + 1) Fr C pl us = some X := by cases q : dcd (up Wc cz v9) (cz + 1) Fr C pl us with
                | none => rw [q] at c_95; exact absurd rfl c_95
                | some X => exact ⟨X, rfl⟩
              have hN := rcv_5 (fn := fn) (show 3 ≤ cz + 1 by omega) c_69 c_76 c_88 hd
              obtain ⟨g1, g2, g3, g4, g5, g6⟩ := h16 X hd
              have hR := hret ((nI 1)) (u1, u2, u3, u4, u5, u6, u7, u8, u9, u10, u11) H locs 103 ls d_Display_receive_103 (by first | rfl | decide)
              try dsimp only at hR
              exact hR (⟨by rw [hN]; rfl, fun Y h => (by rw [hN] at h; cases h; rw [g1, g2, g3, g4, g5, g6]), fun h => (by rw [hN] at h; cases h), h18.1, h18.2.1, h18.2.2.1, h18.2.2.2.1, h18.2.2.2.2.1, h18.2.2.2.2.2⟩) hP hD hS
        · refine lv_iconst (v := nI 0) hx hb d_Display_receive_79 (by decide) ?_
          have hN := rcv_2 (W := (up Wc cz v9)) (Fr := Fr) (fn := fn) (C := C) (pl := pl) (us := us) (show 3 ≤ cz + 1 by omega) (Or.inr c_76)
          have hR := hret ((nI 0)) (fn, cz + 1, po, e0, w0, Bk, P, Fr, C, pl, us) H locs 80 ls d_Display_receive_80 (by first | rfl | decide)
          try dsimp only at hR
          exact hR (⟨by rw [hN]; rfl, fun Y h => (by rw [hN] at h; cases h), fun _ => ⟨rfl, rfl⟩, bBk, bP, bFr, bC, hpl, hus⟩) hP hD hS
    · refine lv_iconst (v := nI 1) hx hb d_Display_receive_38 (by decide) ?_
      have hN := rcv_1 (W := (up Wc cz v9)) (Fr := Fr) (fn := fn) (C := C) (pl := pl) (us := us) (show cz + 1 < 3 by omega)
      have hR := hret ((nI 1)) (fn, cz + 1, po, e0, w0, Bk, P, Fr, C, pl, us) H locs 39 ls d_Display_receive_39 (by first | rfl | decide)
      try dsimp only at hR
      exact hR (⟨by rw [hN]; rfl, fun Y h => (by rw [hN] at h; cases h; rfl), fun h => (by rw [hN] at h; cases h), bBk, bP, bFr, bC, hpl, hus⟩) hP hD hS
set_option maxHeartbeats 400000 in
set_option maxRecDepth 100000 in
theorem c_Display_forget (a : Nat) (fr : Nat) (fn : Nat) (bk : Nat) (ca : Nat) (cm : Nat) (cz : Nat) (pp : Nat) (po : Nat) (e0 : Nat) (w0 : Nat) (ct : Nat) (pl : Nat) (us : Nat) (cp : Nat) (C : Nat → Nat) : CV (S := Unit) l classes NW D (TYS cI cZ cL cV) y_Display_forget (.code y_Display_forget b_Display_forget 1 none :: TB) { frames := 1, cells := 0, slots := 0, locals := 20 } [.ref a] [(a, .inr (6, [.ref fr, .int (nI fn), .ref bk, .ref ca, .ref cm, .int (nI cz), .ref pp, .int (nI po), .int (nI e0), .int (nI w0)])), (ca, .inr (1, [.ref ct, .int (nI pl), .int (nI us)])), (ct, .inr (0, [.int (nI 16), .ref cp])), (cp, .inl (cI, 1024, .inl (nF C)))] (fun u => True) (fun u => [(a, .inr (6, [.ref fr, .int (nI fn), .ref bk, .ref ca, .ref cm, .int (nI 0), .ref pp, .int (nI po), .int (nI e0), .int (nI w0)])), (ca, .inr (1, [.ref ct, .int (nI 0), .int (nI 0)])), (ct, .inr (0, [.int (nI 16), .ref cp])), (cp, .inl (cI, 1024, .inl (nF C)))]) := by
  refine CV.of (by decide) (Nat.le_of_ble_eq_true rfl) ?_
  intro pr ev sT mM aR bW mE cO AA QQ ls Bd hG hA hP hD hS hl hnm hret
  have Bd : bd pr cO b_Display_forget 1 sT aR TB "TileScreen$Display" mM := Bd
  obtain ⟨hx, hb, hml, hown, htb⟩ := id Bd
  have hl : lv_has ls 1 [(0, .ref a)] := hl
  refine lv_aload_n hx hb d_Display_forget_0 rfl (lv_at hl 0 rfl) ?_
  refine lv_iconst (v := nI 0) hx hb d_Display_forget_1 (by decide) ?_
  refine va_put (D := D) (ci := 6) (v := .int (nI 0)) (ty := .int) (C := "TileScreen$Display") (T := F_Display) (N := 10) hx hb htb i_Display t_Display t_Display_ok n_Display hown hG.1 hP hD hS 0 rfl rfl 5 (by decide) (htb _ k_170) (fun _ h9 => h9) rfl (by decide +kernel) rfl rfl (Nat.le_of_ble_eq_true rfl) d_Display_forget_2 (fun H locs hP hD hS => ?_)
  have hP : va_P D classes [(a, .inr (6, [.ref fr, .int (nI fn), .ref bk, .ref ca, .ref cm, .int (nI 0), .ref pp, .int (nI po), .int (nI e0), .int (nI w0)])), (ca, .inr (1, [.ref ct, .int (nI pl), .int (nI us)])), (ct, .inr (0, [.int (nI 16), .ref cp])), (cp, .inl (cI, 1024, .inl (nF C)))] H := hP
  have hD : va_D AA [(a, .inr (6, [.ref fr, .int (nI fn), .ref bk, .ref ca, .ref cm, .int (nI 0), .ref pp, .int (nI po), .int (nI e0), .int (nI w0)])), (ca, .inr (1, [.ref ct, .int (nI pl), .int (nI us)])), (ct, .inr (0, [.int (nI 16), .ref cp])), (cp, .inl (cI, 1024, .inl (nF C)))] := hD
  refine lv_aload_n hx hb d_Display_forget_5 rfl (lv_at hl 0 rfl) ?_
  refine va_get (D := D) (ci := 6) (v := .ref ca) (C := "TileScreen$Display") (T := F_Display) (N := 10) hx hb htb i_Display hown hG.1 hP 0 rfl rfl 3 (by decide) (htb _ k_167) (fun _ h9 => h9) rfl d_Display_forget_6 ?_
  refine kV_v (wc := [(ca, .inr (1, [.ref ct, .int (nI pl), .int (nI us)])), (ct, .inr (0, [.int (nI 16), .ref cp])), (cp, .inl (cI, 1024, .inl (nF C)))]) (wr := [(a, .inr (6, [.ref fr, .int (nI fn), .ref bk, .ref ca, .ref cm, .int (nI 0), .ref pp, .int (nI po), .int (nI e0), .int (nI w0)]))]) (w2 := fun _ => [(a, .inr (6, [.ref fr, .int (nI fn), .ref bk, .ref ca, .ref cm, .int (nI 0), .ref pp, .int (nI po), .int (nI e0), .int (nI w0)])), (ca, .inr (1, [.ref ct, .int (nI 0), .int (nI 0)])), (ct, .inr (0, [.int (nI 16), .ref cp])), (cp, .inl (cI, 1024, .inl (nF C)))]) [] [] Bd ⟨gi_app (gi_c0 k_334 (gi_c0 k_315 (gi_c0 k_316 (gi_c0 k_5 gi_nil)))) (gi_tb0 k_317), rfl, by decide, by decide⟩ (show (parseMethodDescriptor "()V").map (fun d => d.parameters.length) = some 0 by decide +kernel) (c_Cache_clear ca ct cp pl us C ) (by decide +kernel) ⟨Nat.le_of_ble_eq_true rfl, Nat.le_of_ble_eq_true rfl⟩ hG hP hD hS hA [1, 2, 3] [0] [0, 1, 2, 3] (by decide) rfl rfl (fun _ => rfl) (q0 := 0) rfl rfl rfl hl.1 rfl (Nat.le_of_ble_eq_true rfl) d_Display_forget_9 (fun u2 H locs hp1 hP hD hS => ?_)
  have hP : va_P D classes [(a, .inr (6, [.ref fr, .int (nI fn), .ref bk, .ref ca, .ref cm, .int (nI 0), .ref pp, .int (nI po), .int (nI e0), .int (nI w0)])), (ca, .inr (1, [.ref ct, .int (nI 0), .int (nI 0)])), (ct, .inr (0, [.int (nI 16), .ref cp])), (cp, .inl (cI, 1024, .inl (nF C)))] H := hP
  have hD : va_D AA [(a, .inr (6, [.ref fr, .int (nI fn), .ref bk, .ref ca, .ref cm, .int (nI 0), .ref pp, .int (nI po), .int (nI e0), .int (nI w0)])), (ca, .inr (1, [.ref ct, .int (nI 0), .int (nI 0)])), (ct, .inr (0, [.int (nI 16), .ref cp])), (cp, .inl (cI, 1024, .inl (nF C)))] := hD
  exact hret () _ _ _ _ d_Display_forget_12 (trivial) hP hD hS
set_option maxHeartbeats 400000 in
set_option maxRecDepth 100000 in
theorem c_Display_init (a : Nat) : CV (S := Nat × Nat × Nat × Nat × Nat × Nat × Nat × Nat × Nat) l classes NW D (TYS cI cZ cL cV) y_Display_init (.code y_Display_init b_Display_init 1 none :: TB) { frames := 3, cells := 9, slots := 13428, locals := 53 } [.ref a] [(a, .inr (6, [.null, .int (nI 0), .null, .null, .null, .int (nI 0), .null, .int (nI 0), .int (nI 0), .int (nI 0)]))] (fun u => True) (fun u => [(a, .inr (6, [.ref u.1, .int (nI 0), .ref u.2.2.1, .ref u.2.2.2.2.1, .ref u.2.2.2.2.2.2.2.1, .int (nI 0), .ref u.2.2.2.2.2.2.2.2, .int (nI 0), .int (nI 0), .int (nI 0)])), (u.1, .inr (0, [.int (nI 48), .ref u.2.1])), (u.2.1, .inl (cI, 3072, .inl (nF (fun _ => 0)))), (u.2.2.1, .inr (0, [.int (nI 48), .ref u.2.2.2.1])), (u.2.2.2.1, .inl (cI, 3072, .inl (nF (fun _ => 0)))), (u.2.2.2.2.1, .inr (1, [.ref u.2.2.2.2.2.1, .int (nI 0), .int (nI 0)])), (u.2.2.2.2.2.1, .inr (0, [.int (nI 16), .ref u.2.2.2.2.2.2.1])), (u.2.2.2.2.2.2.1, .inl (cI, 1024, .inl (nF (fun _ => 0)))), (u.2.2.2.2.2.2.2.1, .inl (cI, 6247, .inl (nF (fun _ => 0)))), (u.2.2.2.2.2.2.2.2, .inl (cI, 4, .inl (nF (fun _ => 0))))]) := by
  refine CV.of (by decide) (Nat.le_of_ble_eq_true rfl) ?_
  intro pr ev sT mM aR bW mE cO AA QQ ls Bd hG hA hP hD hS hl hnm hret
  have Bd : bd pr cO b_Display_init 1 sT aR TB "TileScreen$Display" mM := Bd
  obtain ⟨hx, hb, hml, hown, htb⟩ := id Bd
  have hl : lv_has ls 1 [(0, .ref a)] := hl
  refine lv_aload_n hx hb d_Display_init_0 rfl (lv_at hl 0 rfl) ?_
  refine W.objInit hx hb hown (htb _ k_155) (htb _ k_24) (htb _ k_25) rfl (by rw [hml]; exact hl.1) rfl d_Display_init_1 (Nat.le_of_ble_eq_true rfl) (Nat.le_of_ble_eq_true rfl) ?_
  refine W.eq (g2 := F0 mM 4 ls []) rfl ?_
  refine lv_aload_n hx hb d_Display_init_4 rfl (lv_at hl 0 rfl) ?_
  refine va_new (ci := 0) (fs := [.int (nI 0), .null]) (C := "TileScreen$Tiles") (T := F_Tiles) (N := 2) hx hb htb i_Tiles t_Tiles t_Tiles_ok hown (htb _ k_156) (htb _ k_27) (htb _ k_2) hG.1 hP hD hS hA rfl (fun j hj => by rcases (show j = 0 ∨ j = 1 by omega) with rfl | rfl <;> rfl) (Nat.le_of_ble_eq_true rfl) (Nat.le_of_ble_eq_true rfl) d_Display_init_5 (fun q1 H hP hD hS => ?_)
  have hP : va_P D classes [(a, .inr (6, [.null, .int (nI 0), .null, .null, .null, .int (nI 0), .null, .int (nI 0), .int (nI 0), .int (nI 0)])), (q1, .inr (0, [.int (nI 0), .null]))] H := hP
  have hD : va_D AA [(a, .inr (6, [.null, .int (nI 0), .null, .null, .null, .int (nI 0), .null, .int (nI 0), .int (nI 0), .int (nI 0)])), (q1, .inr (0, [.int (nI 0), .null]))] := hD
  refine W.widen (k := 1) (n := 2) (Nat.le_of_ble_eq_true rfl) (Nat.le_of_ble_eq_true rfl) ?_
  refine lv_dup hx hb d_Display_init_8 rfl ?_
  refine lv_bipush (v := nI 48) hx hb d_Display_init_9 (by decide) ?_
  refine kI_v (wc := [(q1, .inr (0, [.int (nI 0), .null]))]) (wr := [(a, .inr (6, [.null, .int (nI 0), .null, .null, .null, .int (nI 0), .null, .int (nI 0), .int (nI 0), .int (nI 0)]))]) (w2 := fun u => [(a, .inr (6, [.null, .int (nI 0), .null, .null, .null, .int (nI 0), .null, .int (nI 0), .int (nI 0), .int (nI 0)])), (q1, .inr (0, [.int (nI 48), .ref u])), (u, .inl (cI, 3072, .inl (nF (fun _ => 0))))]) [.int (nI 48)] [.ref q1, .ref a] Bd ⟨gi_tb0 k_30, k_2, k_157, k_29, rfl, by decide, by decide⟩ (show (parseMethodDescriptor "(I)V").map (fun d => d.parameters.length) = some 1 by decide +kernel) (c_Tiles_init48 q1 ) (by decide +kernel) ⟨Nat.le_of_ble_eq_true rfl, Nat.le_of_ble_eq_true rfl⟩ hG hP hD hS hA [1] [0] [0, 1, 2] (by decide) rfl rfl (fun _ => rfl) hl.1 rfl (Nat.le_of_ble_eq_true rfl) d_Display_init_11 (fun u4 H locs hp3 hP hD hS => ?_)
  obtain ⟨u2, rfl⟩ : ∃ z9, z9 = u4 := ⟨_, rfl⟩
  try dsimp only at hp3
  have hP : va_P D classes [(a, .inr (6, [.null, .int (nI 0), .null, .null, .null, .int (nI 0), .null, .int (nI 0), .int (nI 0), .int (nI 0)])), (q1, .inr (0, [.int (nI 48), .ref u2])), (u2, .inl (cI, 3072, .inl (nF (fun _ => 0))))] H := hP
  have hD : va_D AA [(a, .inr (6, [.null, .int (nI 0), .null, .null, .null, .int (nI 0), .null, .int (nI 0), .int (nI 0), .int (nI 0)])), (q1, .inr (0, [.int (nI 48), .ref u2])), (u2, .inl (cI, 3072, .inl (nF (fun _ => 0))))] := hD
  refine W.widen (k := 2) (n := 3074) (Nat.le_of_ble_eq_true rfl) (Nat.le_of_ble_eq_true rfl) ?_
  refine va_putF (D := D) (ci := 6) (v := .ref q1) (ty := .object "TileScreen$Tiles") (C := "TileScreen$Display") (T := F_Display) (N := 10) hx hb htb i_Display t_Display t_Display_ok n_Display hown hG.1 hP hD hS 0 rfl rfl 0 (by decide) (htb _ k_160) (fun _ h9 => h9) rfl hnm rfl (by decide +kernel) rfl rfl (Nat.le_of_ble_eq_true rfl) d_Display_init_14 (fun H locs hP hD hS => ?_)
  have hP : va_P D classes [(a, .inr (6, [.ref q1, .int (nI 0), .null, .null, .null, .int (nI 0), .null, .int (nI 0), .int (nI 0), .int (nI 0)])), (q1, .inr (0, [.int (nI 48), .ref u2])), (u2, .inl (cI, 3072, .inl (nF (fun _ => 0))))] H := hP
  have hD : va_D AA [(a, .inr (6, [.ref q1, .int (nI 0), .null, .null, .null, .int (nI 0), .null, .int (nI 0), .int (nI 0), .int (nI 0)])), (q1, .inr (0, [.int (nI 48), .ref u2])), (u2, .inl (cI, 3072, .inl (nF (fun _ => 0))))] := hD
  refine lv_aload_n hx hb d_Display_init_17 rfl (lv_at hl 0 rfl) ?_
  refine va_new (ci := 0) (fs := [.int (nI 0), .null]) (C := "TileScreen$Tiles") (T := F_Tiles) (N := 2) hx hb htb i_Tiles t_Tiles t_Tiles_ok hown (htb _ k_156) (htb _ k_27) (htb _ k_2) hG.1 hP hD hS hA rfl (fun j hj => by rcases (show j = 0 ∨ j = 1 by omega) with rfl | rfl <;> rfl) (Nat.le_of_ble_eq_true rfl) (Nat.le_of_ble_eq_true rfl) d_Display_init_18 (fun q5 H hP hD hS => ?_)
  have hP : va_P D classes [(a, .inr (6, [.ref q1, .int (nI 0), .null, .null, .null, .int (nI 0), .null, .int (nI 0), .int (nI 0), .int (nI 0)])), (q1, .inr (0, [.int (nI 48), .ref u2])), (u2, .inl (cI, 3072, .inl (nF (fun _ => 0)))), (q5, .inr (0, [.int (nI 0), .null]))] H := hP
  have hD : va_D AA [(a, .inr (6, [.ref q1, .int (nI 0), .null, .null, .null, .int (nI 0), .null, .int (nI 0), .int (nI 0), .int (nI 0)])), (q1, .inr (0, [.int (nI 48), .ref u2])), (u2, .inl (cI, 3072, .inl (nF (fun _ => 0)))), (q5, .inr (0, [.int (nI 0), .null]))] := hD
  refine W.widen (k := 3) (n := 3076) (Nat.le_of_ble_eq_true rfl) (Nat.le_of_ble_eq_true rfl) ?_
  refine lv_dup hx hb d_Display_init_21 rfl ?_
  refine lv_bipush (v := nI 48) hx hb d_Display_init_22 (by decide) ?_
  refine kI_v (wc := [(q5, .inr (0, [.int (nI 0), .null]))]) (wr := [(a, .inr (6, [.ref q1, .int (nI 0), .null, .null, .null, .int (nI 0), .null, .int (nI 0), .int (nI 0), .int (nI 0)])), (q1, .inr (0, [.int (nI 48), .ref u2])), (u2, .inl (cI, 3072, .inl (nF (fun _ => 0))))]) (w2 := fun u => [(a, .inr (6, [.ref q1, .int (nI 0), .null, .null, .null, .int (nI 0), .null, .int (nI 0), .int (nI 0), .int (nI 0)])), (q1, .inr (0, [.int (nI 48), .ref u2])), (u2, .inl (cI, 3072, .inl (nF (fun _ => 0)))), (q5, .inr (0, [.int (nI 48), .ref u])), (u, .inl (cI, 3072, .inl (nF (fun _ => 0))))]) [.int (nI 48)] [.ref q5, .ref a] Bd ⟨gi_tb0 k_30, k_2, k_157, k_29, rfl, by decide, by decide⟩ (show (parseMethodDescriptor "(I)V").map (fun d => d.parameters.length) = some 1 by decide +kernel) (c_Tiles_init48 q5 ) (by decide +kernel) ⟨Nat.le_of_ble_eq_true rfl, Nat.le_of_ble_eq_true rfl⟩ hG hP hD hS hA [3] [0, 1, 2] [0, 1, 2, 3, 4] (by decide) rfl rfl (fun _ => rfl) hl.1 rfl (Nat.le_of_ble_eq_true rfl) d_Display_init_24 (fun u8 H locs hp7 hP hD hS => ?_)
  obtain ⟨u6, rfl⟩ : ∃ z9, z9 = u8 := ⟨_, rfl⟩
  try dsimp only at hp7
  have hP : va_P D classes [(a, .inr (6, [.ref q1, .int (nI 0), .null, .null, .null, .int (nI 0), .null, .int (nI 0), .int (nI 0), .int (nI 0)])), (q1, .inr (0, [.int (nI 48), .ref u2])), (u2, .inl (cI, 3072, .inl (nF (fun _ => 0)))), (q5, .inr (0, [.int (nI 48), .ref u6])), (u6, .inl (cI, 3072, .inl (nF (fun _ => 0))))] H := hP
  have hD : va_D AA [(a, .inr (6, [.ref q1, .int (nI 0), .null, .null, .null, .int (nI 0), .null, .int (nI 0), .int (nI 0), .int (nI 0)])), (q1, .inr (0, [.int (nI 48), .ref u2])), (u2, .inl (cI, 3072, .inl (nF (fun _ => 0)))), (q5, .inr (0, [.int (nI 48), .ref u6])), (u6, .inl (cI, 3072, .inl (nF (fun _ => 0))))] := hD
  refine W.widen (k := 4) (n := 6148) (Nat.le_of_ble_eq_true rfl) (Nat.le_of_ble_eq_true rfl) ?_
  refine va_putF (D := D) (ci := 6) (v := .ref q5) (ty := .object "TileScreen$Tiles") (C := "TileScreen$Display") (T := F_Display) (N := 10) hx hb htb i_Display t_Display t_Display_ok n_Display hown hG.1 hP hD hS 0 rfl rfl 2 (by decide) (htb _ k_166) (fun _ h9 => h9) rfl hnm rfl (by decide +kernel) rfl rfl (Nat.le_of_ble_eq_true rfl) d_Display_init_27 (fun H locs hP hD hS => ?_)
  have hP : va_P D classes [(a, .inr (6, [.ref q1, .int (nI 0), .ref q5, .null, .null, .int (nI 0), .null, .int (nI 0), .int (nI 0), .int (nI 0)])), (q1, .inr (0, [.int (nI 48), .ref u2])), (u2, .inl (cI, 3072, .inl (nF (fun _ => 0)))), (q5, .inr (0, [.int (nI 48), .ref u6])), (u6, .inl (cI, 3072, .inl (nF (fun _ => 0))))] H := hP
  have hD : va_D AA [(a, .inr (6, [.ref q1, .int (nI 0), .ref q5, .null, .null, .int (nI 0), .null, .int (nI 0), .int (nI 0), .int (nI 0)])), (q1, .inr (0, [.int (nI 48), .ref u2])), (u2, .inl (cI, 3072, .inl (nF (fun _ => 0)))), (q5, .inr (0, [.int (nI 48), .ref u6])), (u6, .inl (cI, 3072, .inl (nF (fun _ => 0))))] := hD
  refine lv_aload_n hx hb d_Display_init_30 rfl (lv_at hl 0 rfl) ?_
  refine va_new (ci := 1) (fs := [.null, .int (nI 0), .int (nI 0)]) (C := "TileScreen$Cache") (T := F_Cache) (N := 3) hx hb htb i_Cache t_Cache t_Cache_ok hown (htb _ k_158) (htb _ k_56) (htb _ k_5) hG.1 hP hD hS hA rfl (fun j hj => by rcases (show j = 0 ∨ j = 1 ∨ j = 2 by omega) with rfl | rfl | rfl <;> rfl) (Nat.le_of_ble_eq_true rfl) (Nat.le_of_ble_eq_true rfl) d_Display_init_31 (fun q9 H hP hD hS => ?_)
  have hP : va_P D classes [(a, .inr (6, [.ref q1, .int (nI 0), .ref q5, .null, .null, .int (nI 0), .null, .int (nI 0), .int (nI 0), .int (nI 0)])), (q1, .inr (0, [.int (nI 48), .ref u2])), (u2, .inl (cI, 3072, .inl (nF (fun _ => 0)))), (q5, .inr (0, [.int (nI 48), .ref u6])), (u6, .inl (cI, 3072, .inl (nF (fun _ => 0)))), (q9, .inr (1, [.null, .int (nI 0), .int (nI 0)]))] H := hP
  have hD : va_D AA [(a, .inr (6, [.ref q1, .int (nI 0), .ref q5, .null, .null, .int (nI 0), .null, .int (nI 0), .int (nI 0), .int (nI 0)])), (q1, .inr (0, [.int (nI 48), .ref u2])), (u2, .inl (cI, 3072, .inl (nF (fun _ => 0)))), (q5, .inr (0, [.int (nI 48), .ref u6])), (u6, .inl (cI, 3072, .inl (nF (fun _ => 0)))), (q9, .inr (1, [.null, .int (nI 0), .int (nI 0)]))] := hD
  refine W.widen (k := 5) (n := 6151) (Nat.le_of_ble_eq_true rfl) (Nat.le_of_ble_eq_true rfl) ?_
  refine lv_dup hx hb d_Display_init_34 rfl ?_
  refine kIN_v (wc := [(q9, .inr (1, [.null, .int (nI 0), .int (nI 0)]))]) (wr := [(a, .inr (6, [.ref q1, .int (nI 0), .ref q5, .null, .null, .int (nI 0), .null, .int (nI 0), .int (nI 0), .int (nI 0)])), (q1, .inr (0, [.int (nI 48), .ref u2])), (u2, .inl (cI, 3072, .inl (nF (fun _ => 0)))), (q5, .inr (0, [.int (nI 48), .ref u6])), (u6, .inl (cI, 3072, .inl (nF (fun _ => 0))))]) (w2 := fun u => [(a, .inr (6, [.ref q1, .int (nI 0), .ref q5, .null, .null, .int (nI 0), .null, .int (nI 0), .int (nI 0), .int (nI 0)])), (q1, .inr (0, [.int (nI 48), .ref u2])), (u2, .inl (cI, 3072, .inl (nF (fun _ => 0)))), (q5, .inr (0, [.int (nI 48), .ref u6])), (u6, .inl (cI, 3072, .inl (nF (fun _ => 0)))), (q9, .inr (1, [.ref u.1, .int (nI 0), .int (nI 0)])), (u.1, .inr (0, [.int (nI 16), .ref u.2])), (u.2, .inl (cI, 1024, .inl (nF (fun _ => 0))))]) [] [.ref q9, .ref a] Bd ⟨gi_tb0 k_59, k_5, k_159, k_58, rfl, by decide, by decide⟩ (show (parseMethodDescriptor "()V").map (fun d => d.parameters.length) = some 0 by decide +kernel) (c_Cache_init q9 ) (by decide +kernel) ⟨Nat.le_of_ble_eq_true rfl, Nat.le_of_ble_eq_true rfl⟩ hG hP hD hS hA [5] [0, 1, 2, 3, 4] [0, 1, 2, 3, 4, 5, 6, 7] (by decide) rfl rfl (fun _ => rfl) hl.1 rfl (Nat.le_of_ble_eq_true rfl) d_Display_init_35 (fun u13 H locs hp12 hP hD hS => ?_)
  obtain ⟨u10, u11⟩ := u13
  try dsimp only at hp12
  have hP : va_P D classes [(a, .inr (6, [.ref q1, .int (nI 0), .ref q5, .null, .null, .int (nI 0), .null, .int (nI 0), .int (nI 0), .int (nI 0)])), (q1, .inr (0, [.int (nI 48), .ref u2])), (u2, .inl (cI, 3072, .inl (nF (fun _ => 0)))), (q5, .inr (0, [.int (nI 48), .ref u6])), (u6, .inl (cI, 3072, .inl (nF (fun _ => 0)))), (q9, .inr (1, [.ref u10, .int (nI 0), .int (nI 0)])), (u10, .inr (0, [.int (nI 16), .ref u11])), (u11, .inl (cI, 1024, .inl (nF (fun _ => 0))))] H := hP
  have hD : va_D AA [(a, .inr (6, [.ref q1, .int (nI 0), .ref q5, .null, .null, .int (nI 0), .null, .int (nI 0), .int (nI 0), .int (nI 0)])), (q1, .inr (0, [.int (nI 48), .ref u2])), (u2, .inl (cI, 3072, .inl (nF (fun _ => 0)))), (q5, .inr (0, [.int (nI 48), .ref u6])), (u6, .inl (cI, 3072, .inl (nF (fun _ => 0)))), (q9, .inr (1, [.ref u10, .int (nI 0), .int (nI 0)])), (u10, .inr (0, [.int (nI 16), .ref u11])), (u11, .inl (cI, 1024, .inl (nF (fun _ => 0))))] := hD
  refine W.widen (k := 7) (n := 7177) (Nat.le_of_ble_eq_true rfl) (Nat.le_of_ble_eq_true rfl) ?_
  refine va_putF (D := D) (ci := 6) (v := .ref q9) (ty := .object "TileScreen$Cache") (C := "TileScreen$Display") (T := F_Display) (N := 10) hx hb htb i_Display t_Display t_Display_ok n_Display hown hG.1 hP hD hS 0 rfl rfl 3 (by decide) (htb _ k_167) (fun _ h9 => h9) rfl hnm rfl (by decide +kernel) rfl rfl (Nat.le_of_ble_eq_true rfl) d_Display_init_38 (fun H locs hP hD hS => ?_)
  have hP : va_P D classes [(a, .inr (6, [.ref q1, .int (nI 0), .ref q5, .ref q9, .null, .int (nI 0), .null, .int (nI 0), .int (nI 0), .int (nI 0)])), (q1, .inr (0, [.int (nI 48), .ref u2])), (u2, .inl (cI, 3072, .inl (nF (fun _ => 0)))), (q5, .inr (0, [.int (nI 48), .ref u6])), (u6, .inl (cI, 3072, .inl (nF (fun _ => 0)))), (q9, .inr (1, [.ref u10, .int (nI 0), .int (nI 0)])), (u10, .inr (0, [.int (nI 16), .ref u11])), (u11, .inl (cI, 1024, .inl (nF (fun _ => 0))))] H := hP
  have hD : va_D AA [(a, .inr (6, [.ref q1, .int (nI 0), .ref q5, .ref q9, .null, .int (nI 0), .null, .int (nI 0), .int (nI 0), .int (nI 0)])), (q1, .inr (0, [.int (nI 48), .ref u2])), (u2, .inl (cI, 3072, .inl (nF (fun _ => 0)))), (q5, .inr (0, [.int (nI 48), .ref u6])), (u6, .inl (cI, 3072, .inl (nF (fun _ => 0)))), (q9, .inr (1, [.ref u10, .int (nI 0), .int (nI 0)])), (u10, .inr (0, [.int (nI 16), .ref u11])), (u11, .inl (cI, 1024, .inl (nF (fun _ => 0))))] := hD
  refine lv_aload_n hx hb d_Display_init_41 rfl (lv_at hl 0 rfl) ?_
  refine lv_sipush (v := nI 6247) hx hb d_Display_init_42 (by decide) ?_
  refine nv_newi hx hb (htb _ k_39) hG.1 hP hD hS hA 0 rfl (Nat.le_of_ble_eq_true rfl) (Nat.le_of_ble_eq_true rfl) (Nat.le_of_ble_eq_true rfl) d_Display_init_45 (fun q14 H hP hD hS => ?_)
  have hP : va_P D classes [(a, .inr (6, [.ref q1, .int (nI 0), .ref q5, .ref q9, .null, .int (nI 0), .null, .int (nI 0), .int (nI 0), .int (nI 0)])), (q1, .inr (0, [.int (nI 48), .ref u2])), (u2, .inl (cI, 3072, .inl (nF (fun _ => 0)))), (q5, .inr (0, [.int (nI 48), .ref u6])), (u6, .inl (cI, 3072, .inl (nF (fun _ => 0)))), (q9, .inr (1, [.ref u10, .int (nI 0), .int (nI 0)])), (u10, .inr (0, [.int (nI 16), .ref u11])), (u11, .inl (cI, 1024, .inl (nF (fun _ => 0)))), (q14, .inl (cI, 6247, .inl (nF (fun _ => 0))))] H := hP
  have hD : va_D AA [(a, .inr (6, [.ref q1, .int (nI 0), .ref q5, .ref q9, .null, .int (nI 0), .null, .int (nI 0), .int (nI 0), .int (nI 0)])), (q1, .inr (0, [.int (nI 48), .ref u2])), (u2, .inl (cI, 3072, .inl (nF (fun _ => 0)))), (q5, .inr (0, [.int (nI 48), .ref u6])), (u6, .inl (cI, 3072, .inl (nF (fun _ => 0)))), (q9, .inr (1, [.ref u10, .int (nI 0), .int (nI 0)])), (u10, .inr (0, [.int (nI 16), .ref u11])), (u11, .inl (cI, 1024, .inl (nF (fun _ => 0)))), (q14, .inl (cI, 6247, .inl (nF (fun _ => 0))))] := hD
  refine W.widen (k := 8) (n := 13424) (Nat.le_of_ble_eq_true rfl) (Nat.le_of_ble_eq_true rfl) ?_
  refine va_putF (D := D) (ci := 6) (v := .ref q14) (ty := .array (.int)) (C := "TileScreen$Display") (T := F_Display) (N := 10) hx hb htb i_Display t_Display t_Display_ok n_Display hown hG.1 hP hD hS 0 rfl rfl 4 (by decide) (htb _ k_169) (fun _ h9 => h9) rfl hnm rfl (by decide +kernel) rfl rfl (Nat.le_of_ble_eq_true rfl) d_Display_init_47 (fun H locs hP hD hS => ?_)
  have hP : va_P D classes [(a, .inr (6, [.ref q1, .int (nI 0), .ref q5, .ref q9, .ref q14, .int (nI 0), .null, .int (nI 0), .int (nI 0), .int (nI 0)])), (q1, .inr (0, [.int (nI 48), .ref u2])), (u2, .inl (cI, 3072, .inl (nF (fun _ => 0)))), (q5, .inr (0, [.int (nI 48), .ref u6])), (u6, .inl (cI, 3072, .inl (nF (fun _ => 0)))), (q9, .inr (1, [.ref u10, .int (nI 0), .int (nI 0)])), (u10, .inr (0, [.int (nI 16), .ref u11])), (u11, .inl (cI, 1024, .inl (nF (fun _ => 0)))), (q14, .inl (cI, 6247, .inl (nF (fun _ => 0))))] H := hP
  have hD : va_D AA [(a, .inr (6, [.ref q1, .int (nI 0), .ref q5, .ref q9, .ref q14, .int (nI 0), .null, .int (nI 0), .int (nI 0), .int (nI 0)])), (q1, .inr (0, [.int (nI 48), .ref u2])), (u2, .inl (cI, 3072, .inl (nF (fun _ => 0)))), (q5, .inr (0, [.int (nI 48), .ref u6])), (u6, .inl (cI, 3072, .inl (nF (fun _ => 0)))), (q9, .inr (1, [.ref u10, .int (nI 0), .int (nI 0)])), (u10, .inr (0, [.int (nI 16), .ref u11])), (u11, .inl (cI, 1024, .inl (nF (fun _ => 0)))), (q14, .inl (cI, 6247, .inl (nF (fun _ => 0))))] := hD
  refine lv_aload_n hx hb d_Display_init_50 rfl (lv_at hl 0 rfl) ?_
  refine lv_iconst (v := nI 4) hx hb d_Display_init_51 (by decide) ?_
  refine nv_newi hx hb (htb _ k_39) hG.1 hP hD hS hA 0 rfl (Nat.le_of_ble_eq_true rfl) (Nat.le_of_ble_eq_true rfl) (Nat.le_of_ble_eq_true rfl) d_Display_init_52 (fun q15 H hP hD hS => ?_)
  have hP : va_P D classes [(a, .inr (6, [.ref q1, .int (nI 0), .ref q5, .ref q9, .ref q14, .int (nI 0), .null, .int (nI 0), .int (nI 0), .int (nI 0)])), (q1, .inr (0, [.int (nI 48), .ref u2])), (u2, .inl (cI, 3072, .inl (nF (fun _ => 0)))), (q5, .inr (0, [.int (nI 48), .ref u6])), (u6, .inl (cI, 3072, .inl (nF (fun _ => 0)))), (q9, .inr (1, [.ref u10, .int (nI 0), .int (nI 0)])), (u10, .inr (0, [.int (nI 16), .ref u11])), (u11, .inl (cI, 1024, .inl (nF (fun _ => 0)))), (q14, .inl (cI, 6247, .inl (nF (fun _ => 0)))), (q15, .inl (cI, 4, .inl (nF (fun _ => 0))))] H := hP
  have hD : va_D AA [(a, .inr (6, [.ref q1, .int (nI 0), .ref q5, .ref q9, .ref q14, .int (nI 0), .null, .int (nI 0), .int (nI 0), .int (nI 0)])), (q1, .inr (0, [.int (nI 48), .ref u2])), (u2, .inl (cI, 3072, .inl (nF (fun _ => 0)))), (q5, .inr (0, [.int (nI 48), .ref u6])), (u6, .inl (cI, 3072, .inl (nF (fun _ => 0)))), (q9, .inr (1, [.ref u10, .int (nI 0), .int (nI 0)])), (u10, .inr (0, [.int (nI 16), .ref u11])), (u11, .inl (cI, 1024, .inl (nF (fun _ => 0)))), (q14, .inl (cI, 6247, .inl (nF (fun _ => 0)))), (q15, .inl (cI, 4, .inl (nF (fun _ => 0))))] := hD
  refine W.widen (k := 9) (n := 13428) (Nat.le_of_ble_eq_true rfl) (Nat.le_of_ble_eq_true rfl) ?_
  refine va_putF (D := D) (ci := 6) (v := .ref q15) (ty := .array (.int)) (C := "TileScreen$Display") (T := F_Display) (N := 10) hx hb htb i_Display t_Display t_Display_ok n_Display hown hG.1 hP hD hS 0 rfl rfl 6 (by decide) (htb _ k_172) (fun _ h9 => h9) rfl hnm rfl (by decide +kernel) rfl rfl (Nat.le_of_ble_eq_true rfl) d_Display_init_54 (fun H locs hP hD hS => ?_)
  have hP : va_P D classes [(a, .inr (6, [.ref q1, .int (nI 0), .ref q5, .ref q9, .ref q14, .int (nI 0), .ref q15, .int (nI 0), .int (nI 0), .int (nI 0)])), (q1, .inr (0, [.int (nI 48), .ref u2])), (u2, .inl (cI, 3072, .inl (nF (fun _ => 0)))), (q5, .inr (0, [.int (nI 48), .ref u6])), (u6, .inl (cI, 3072, .inl (nF (fun _ => 0)))), (q9, .inr (1, [.ref u10, .int (nI 0), .int (nI 0)])), (u10, .inr (0, [.int (nI 16), .ref u11])), (u11, .inl (cI, 1024, .inl (nF (fun _ => 0)))), (q14, .inl (cI, 6247, .inl (nF (fun _ => 0)))), (q15, .inl (cI, 4, .inl (nF (fun _ => 0))))] H := hP
  have hD : va_D AA [(a, .inr (6, [.ref q1, .int (nI 0), .ref q5, .ref q9, .ref q14, .int (nI 0), .ref q15, .int (nI 0), .int (nI 0), .int (nI 0)])), (q1, .inr (0, [.int (nI 48), .ref u2])), (u2, .inl (cI, 3072, .inl (nF (fun _ => 0)))), (q5, .inr (0, [.int (nI 48), .ref u6])), (u6, .inl (cI, 3072, .inl (nF (fun _ => 0)))), (q9, .inr (1, [.ref u10, .int (nI 0), .int (nI 0)])), (u10, .inr (0, [.int (nI 16), .ref u11])), (u11, .inl (cI, 1024, .inl (nF (fun _ => 0)))), (q14, .inl (cI, 6247, .inl (nF (fun _ => 0)))), (q15, .inl (cI, 4, .inl (nF (fun _ => 0))))] := hD
  have hR := hret (q1, u2, q5, u6, q9, u10, u11, q14, q15) H locs 57 ls d_Display_init_57
  try dsimp only at hR
  exact hR (trivial) hP hD hS
end
