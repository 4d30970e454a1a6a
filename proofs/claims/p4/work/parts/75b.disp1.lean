section
variable {l : Launch} {D : va_G} {cI cZ cL cV : ClassId}
set_option maxHeartbeats 400000 in
set_option maxRecDepth 100000 in
theorem c_Display_readByte (a : Nat) (fr : Nat) (fn : Int64) (bk : Nat) (ca : Nat) (cm : Nat) (cz : Nat) (pp : Nat) (en : Nat) (x : Nat) (wg : Nat) (Wc : Nat → Nat) (he : en ≤ 6247) : CI (S := Unit) l classes NW D (TYS cI cZ cL cV) y_Display_readByte (.code y_Display_readByte b_Display_readByte 2 (some .int) :: TB) { frames := 0, cells := 0, slots := 0, locals := 0 } [.ref a] [(a, .inr (6, [.ref fr, .long fn, .ref bk, .ref ca, .ref cm, .int (nI cz), .ref pp, .int (nI (min x en)), .int (nI en), .int (nI (wq en x wg))])), (cm, .inl (cI, 6247, .inl (nF Wc)))] (fun r u => r = nI (rd Wc en x)) (fun u => [(a, .inr (6, [.ref fr, .long fn, .ref bk, .ref ca, .ref cm, .int (nI cz), .ref pp, .int (nI (min (x + 1) en)), .int (nI en), .int (nI (wq en (x + 1) wg))])), (cm, .inl (cI, 6247, .inl (nF Wc)))]) := by
  refine CI.of (by decide) (Nat.le_of_ble_eq_true rfl) ?_
  intro pr ev sT mM aR bW mE cO AA QQ ls Bd hG hA hP hD hS hl hret
  have Bd : bd pr cO b_Display_readByte 2 sT aR TB "TileScreen$Display" mM := Bd
  obtain ⟨hx, hb, hml, hown, htb⟩ := id Bd
  have hl : lv_has ls 2 [(0, .ref a)] := hl
  refine lv_aload_n hx hb d_Display_readByte_0 rfl (lv_at hl 0 rfl) ?_
  refine va_get (D := D) (ci := 6) (v := .int (nI (min x en))) (C := "TileScreen$Display") (T := F_Display) (N := 10) hx hb htb i_Display hown hG.1 hP 0 rfl rfl 7 (by decide) (htb _ k_173) (fun _ h9 => h9) rfl d_Display_readByte_1 ?_
  refine lv_aload_n hx hb d_Display_readByte_4 rfl (lv_at hl 0 rfl) ?_
  refine va_get (D := D) (ci := 6) (v := .int (nI en)) (C := "TileScreen$Display") (T := F_Display) (N := 10) hx hb htb i_Display hown hG.1 hP 0 rfl rfl 8 (by decide) (htb _ k_174) (fun _ h9 => h9) rfl d_Display_readByte_5 ?_
  refine nv_icmp_lt (tgt := 18) hx hb d_Display_readByte_8 (by decide) (by omega) (by omega) (fun c_8 => ?_) (fun c_8 => ?_)
  · refine lv_aload_n hx hb d_Display_readByte_18 rfl (lv_at hl 0 rfl) ?_
    refine va_get (D := D) (ci := 6) (v := .ref cm) (C := "TileScreen$Display") (T := F_Display) (N := 10) hx hb htb i_Display hown hG.1 hP 0 rfl rfl 4 (by decide) (htb _ k_169) (fun _ h9 => h9) rfl d_Display_readByte_19 ?_
    refine lv_aload_n hx hb d_Display_readByte_22 rfl (lv_at hl 0 rfl) ?_
    refine va_get (D := D) (ci := 6) (v := .int (nI (min x en))) (C := "TileScreen$Display") (T := F_Display) (N := 10) hx hb htb i_Display hown hG.1 hP 0 rfl rfl 7 (by decide) (htb _ k_173) (fun _ h9 => h9) rfl d_Display_readByte_23 ?_
    refine nv_iald hx hb hG.1 hP 1 0 rfl rfl (by omega) (by omega) d_Display_readByte_26 ?_
    refine lv_istore_n (lv' := [(1, .int (nI (Wc (min x en)))), (0, .ref a)]) hx hb d_Display_readByte_27 rfl hl (by decide) rfl (fun ls hl => ?_)
    refine lv_aload_n hx hb d_Display_readByte_28 rfl (lv_at hl 1 rfl) ?_
    refine lv_dup hx hb d_Display_readByte_29 rfl ?_
    refine va_get (D := D) (ci := 6) (v := .int (nI (min x en))) (C := "TileScreen$Display") (T := F_Display) (N := 10) hx hb htb i_Display hown hG.1 hP 0 rfl rfl 7 (by decide) (htb _ k_173) (fun _ h9 => h9) rfl d_Display_readByte_30 ?_
    refine lv_iconst (v := nI 1) hx hb d_Display_readByte_33 (by decide) ?_
    refine nv_iadd hx hb d_Display_readByte_34 ?_
    refine va_put (D := D) (ci := 6) (v := .int (nI (min x en + 1))) (ty := .int) (C := "TileScreen$Display") (T := F_Display) (N := 10) hx hb htb i_Display t_Display t_Display_ok n_Display hown hG.1 hP hD hS 0 rfl rfl 7 (by decide) (htb _ k_173) (fun _ h9 => h9) rfl (by decide +kernel) rfl rfl (Nat.le_of_ble_eq_true rfl) d_Display_readByte_35 (fun H locs hP hD hS => ?_)
    have hP : va_P D classes [(a, .inr (6, [.ref fr, .long fn, .ref bk, .ref ca, .ref cm, .int (nI cz), .ref pp, .int (nI (min x en + 1)), .int (nI en), .int (nI (wq en x wg))])), (cm, .inl (cI, 6247, .inl (nF Wc)))] H := hP
    have hD : va_D AA [(a, .inr (6, [.ref fr, .long fn, .ref bk, .ref ca, .ref cm, .int (nI cz), .ref pp, .int (nI (min x en + 1)), .int (nI en), .int (nI (wq en x wg))])), (cm, .inl (cI, 6247, .inl (nF Wc)))] := hD
    refine lv_iload_n hx hb d_Display_readByte_38 rfl (lv_at hl 0 rfl) ?_
    rw [show min (x + 1) en = min x en + 1 by omega, show wq en (x + 1) wg = wq en x wg by rw [wq_in (by omega), wq_in (by omega)]] at hret
    exact hret _ () _ _ _ _ d_Display_readByte_39 rfl (by rw [rd_in (by omega), show min x en = x by omega]) hP hD hS
  · refine lv_aload_n hx hb d_Display_readByte_11 rfl (lv_at hl 0 rfl) ?_
    refine lv_iconst (v := nI 1) hx hb d_Display_readByte_12 (by decide) ?_
    refine va_put (D := D) (ci := 6) (v := .int (nI 1)) (ty := .boolean) (C := "TileScreen$Display") (T := F_Display) (N := 10) hx hb htb i_Display t_Display t_Display_ok n_Display hown hG.1 hP hD hS 0 rfl rfl 9 (by decide) (htb _ k_175) (fun _ h9 => h9) rfl (by decide +kernel) (by decide) (by decide) (Nat.le_of_ble_eq_true rfl) d_Display_readByte_13 (fun H locs hP hD hS => ?_)
    have hP : va_P D classes [(a, .inr (6, [.ref fr, .long fn, .ref bk, .ref ca, .ref cm, .int (nI cz), .ref pp, .int (nI (min x en)), .int (nI en), .int (nI 1)])), (cm, .inl (cI, 6247, .inl (nF Wc)))] H := hP
    have hD : va_D AA [(a, .inr (6, [.ref fr, .long fn, .ref bk, .ref ca, .ref cm, .int (nI cz), .ref pp, .int (nI (min x en)), .int (nI en), .int (nI 1)])), (cm, .inl (cI, 6247, .inl (nF Wc)))] := hD
    refine lv_iconst (v := nI 0) hx hb d_Display_readByte_16 (by decide) ?_
    rw [show min (x + 1) en = min x en by omega, wq_out (show en < x + 1 by omega)] at hret
    exact hret _ () _ _ _ _ d_Display_readByte_17 rfl (by rw [rd_out (by omega)]) hP hD hS
set_option maxHeartbeats 400000 in
set_option maxRecDepth 100000 in
theorem c_Display_readColour (a : Nat) (fr : Nat) (fn : Int64) (bk : Nat) (ca : Nat) (cm : Nat) (cz : Nat) (pp : Nat) (en : Nat) (x : Nat) (wg : Nat) (Wc : Nat → Nat) (he : en ≤ 6247) (bWc : ∀ j, Wc j < 256) : CI (S := Unit) l classes NW D (TYS cI cZ cL cV) y_Display_readColour (.code y_Display_readColour b_Display_readColour 2 (some .int) :: TB) { frames := 1, cells := 0, slots := 0, locals := 21 } [.ref a] [(a, .inr (6, [.ref fr, .long fn, .ref bk, .ref ca, .ref cm, .int (nI cz), .ref pp, .int (nI (min x en)), .int (nI en), .int (nI (wq en x wg))])), (cm, .inl (cI, 6247, .inl (nF Wc)))] (fun r u => r = nI (pr2 Wc en x)) (fun u => [(a, .inr (6, [.ref fr, .long fn, .ref bk, .ref ca, .ref cm, .int (nI cz), .ref pp, .int (nI (min (x + 2) en)), .int (nI en), .int (nI (wq en (x + 2) wg))])), (cm, .inl (cI, 6247, .inl (nF Wc)))]) := by
  refine CI.of (by decide) (Nat.le_of_ble_eq_true rfl) ?_
  intro pr ev sT mM aR bW mE cO AA QQ ls Bd hG hA hP hD hS hl hret
  have Bd : bd pr cO b_Display_readColour 2 sT aR TB "TileScreen$Display" mM := Bd
  obtain ⟨hx, hb, hml, hown, htb⟩ := id Bd
  have hl : lv_has ls 2 [(0, .ref a)] := hl
  refine lv_aload_n hx hb d_Display_readColour_0 rfl (lv_at hl 0 rfl) ?_
  refine kV_i (wc := [(a, .inr (6, [.ref fr, .long fn, .ref bk, .ref ca, .ref cm, .int (nI cz), .ref pp, .int (nI (min x en)), .int (nI en), .int (nI (wq en x wg))])), (cm, .inl (cI, 6247, .inl (nF Wc)))]) (wr := []) (w2 := fun _ => [(a, .inr (6, [.ref fr, .long fn, .ref bk, .ref ca, .ref cm, .int (nI cz), .ref pp, .int (nI (min (x + 1) en)), .int (nI en), .int (nI (wq en (x + 1) wg))])), (cm, .inl (cI, 6247, .inl (nF Wc)))]) [] [] Bd ⟨gi_app (gi_c0 k_458 (gi_c0 k_460 (gi_c0 s_13 (gi_c0 k_8 gi_nil)))) (gi_tb0 k_461), rfl, by decide, by decide⟩ (show (parseMethodDescriptor "()I").map (fun d => d.parameters.length) = some 0 by decide +kernel) (c_Display_readByte a fr fn bk ca cm cz pp en x wg Wc (by omega)) (by decide +kernel) ⟨Nat.le_of_ble_eq_true rfl, Nat.le_of_ble_eq_true rfl⟩ hG hP hD hS hA [0, 1] [] [0, 1] (by decide) rfl rfl (fun _ => rfl) (q0 := 0) rfl rfl rfl hl.1 rfl (Nat.le_of_ble_eq_true rfl) d_Display_readColour_1 (fun r1 u3 H locs hp2 hP hD hS => ?_)
  have hP : va_P D classes [(a, .inr (6, [.ref fr, .long fn, .ref bk, .ref ca, .ref cm, .int (nI cz), .ref pp, .int (nI (min (x + 1) en)), .int (nI en), .int (nI (wq en (x + 1) wg))])), (cm, .inl (cI, 6247, .inl (nF Wc)))] H := hP
  have hD : va_D AA [(a, .inr (6, [.ref fr, .long fn, .ref bk, .ref ca, .ref cm, .int (nI cz), .ref pp, .int (nI (min (x + 1) en)), .int (nI en), .int (nI (wq en (x + 1) wg))])), (cm, .inl (cI, 6247, .inl (nF Wc)))] := hD
  subst hp2
  refine lv_istore_n (lv' := [(1, .int (nI (rd Wc en x))), (0, .ref a)]) hx hb d_Display_readColour_4 rfl hl (by decide) rfl (fun ls hl => ?_)
  refine lv_iload_n hx hb d_Display_readColour_5 rfl (lv_at hl 0 rfl) ?_
  refine lv_bipush (v := nI 8) hx hb d_Display_readColour_6 (by decide) ?_
  refine nv_ishl hx hb (by decide) (by have := rd_lt bWc en x; omega) d_Display_readColour_8 ?_
  refine lv_aload_n hx hb d_Display_readColour_9 rfl (lv_at hl 1 rfl) ?_
  refine kV_i (wc := [(a, .inr (6, [.ref fr, .long fn, .ref bk, .ref ca, .ref cm, .int (nI cz), .ref pp, .int (nI (min (x + 1) en)), .int (nI en), .int (nI (wq en (x + 1) wg))])), (cm, .inl (cI, 6247, .inl (nF Wc)))]) (wr := []) (w2 := fun _ => [(a, .inr (6, [.ref fr, .long fn, .ref bk, .ref ca, .ref cm, .int (nI cz), .ref pp, .int (nI (min ((x + 1) + 1) en)), .int (nI en), .int (nI (wq en ((x + 1) + 1) wg))])), (cm, .inl (cI, 6247, .inl (nF Wc)))]) [] [.int (nI ((rd Wc en x) * 2 ^ 8))] Bd ⟨gi_app (gi_c0 k_458 (gi_c0 k_460 (gi_c0 s_13 (gi_c0 k_8 gi_nil)))) (gi_tb0 k_461), rfl, by decide, by decide⟩ (show (parseMethodDescriptor "()I").map (fun d => d.parameters.length) = some 0 by decide +kernel) (c_Display_readByte a fr fn bk ca cm cz pp en (x + 1) wg Wc (by omega)) (by decide +kernel) ⟨Nat.le_of_ble_eq_true rfl, Nat.le_of_ble_eq_true rfl⟩ hG hP hD hS hA [0, 1] [] [0, 1] (by decide) rfl rfl (fun _ => rfl) (q0 := 0) rfl rfl rfl hl.1 rfl (Nat.le_of_ble_eq_true rfl) d_Display_readColour_10 (fun r4 u6 H locs hp5 hP hD hS => ?_)
  have hP : va_P D classes [(a, .inr (6, [.ref fr, .long fn, .ref bk, .ref ca, .ref cm, .int (nI cz), .ref pp, .int (nI (min ((x + 1) + 1) en)), .int (nI en), .int (nI (wq en ((x + 1) + 1) wg))])), (cm, .inl (cI, 6247, .inl (nF Wc)))] H := hP
  have hD : va_D AA [(a, .inr (6, [.ref fr, .long fn, .ref bk, .ref ca, .ref cm, .int (nI cz), .ref pp, .int (nI (min ((x + 1) + 1) en)), .int (nI en), .int (nI (wq en ((x + 1) + 1) wg))])), (cm, .inl (cI, 6247, .inl (nF Wc)))] := hD
  subst hp5
  refine nv_ior (r := pr2 Wc en x) hx hb (or_add (w := 8) (rd_lt bWc en (x + 1))) d_Display_readColour_13 ?_
  exact hret _ () _ _ _ _ d_Display_readColour_14 rfl (rfl) hP hD hS
set_option maxHeartbeats 400000 in
set_option maxRecDepth 100000 in
theorem c_Display_paint (a : Nat) (fr : Nat) (fn : Int64) (bk : Nat) (ca : Nat) (cm : Nat) (cz : Nat) (pp : Nat) (en : Nat) (x : Nat) (wg : Nat) (cb : Nat) (bp : Nat) (Bk : Nat → Nat) (t : Nat) (f : Nat) (n : Nat) (col : Nat) (ht : t < 48) (hfn : f + n ≤ 64) : CV (S := Unit) l classes NW D (TYS cI cZ cL cV) y_Display_paint (.code y_Display_paint b_Display_paint 6 none :: TB) { frames := 1, cells := 0, slots := 0, locals := 23 } [.ref a, .int (nI t), .int (nI f), .int (nI n), .int (nI col)] [(a, .inr (6, [.ref fr, .long fn, .ref bk, .ref ca, .ref cm, .int (nI cz), .ref pp, .int (nI (min x en)), .int (nI en), .int (nI (wq en x wg))])), (bk, .inr (0, [.int (nI cb), .ref bp])), (bp, .inl (cI, 3072, .inl (nF Bk)))] (fun u => True) (fun u => [(a, .inr (6, [.ref fr, .long fn, .ref bk, .ref ca, .ref cm, .int (nI cz), .ref pp, .int (nI (min x en)), .int (nI en), .int (nI (wq en x wg))])), (bk, .inr (0, [.int (nI cb), .ref bp])), (bp, .inl (cI, 3072, .inl (nF (pnt Bk (t * 64 + f) (t * 64 + f + n) col))))]) := by
  refine CV.of (by decide) (Nat.le_of_ble_eq_true rfl) ?_
  intro pr ev sT mM aR bW mE cO AA QQ ls Bd hG hA hP hD hS hl hnm hret
  have Bd : bd pr cO b_Display_paint 6 sT aR TB "TileScreen$Display" mM := Bd
  obtain ⟨hx, hb, hml, hown, htb⟩ := id Bd
  have hl : lv_has ls 6 [(0, .ref a), (1, .int (nI t)), (2, .int (nI f)), (3, .int (nI n)), (4, .int (nI col))] := hl
  refine lv_iload_n hx hb d_Display_paint_0 rfl (lv_at hl 2 rfl) ?_
  refine lv_istore (lv' := [(5, .int (nI f)), (0, .ref a), (1, .int (nI t)), (2, .int (nI f)), (3, .int (nI n)), (4, .int (nI col))]) hx hb d_Display_paint_1 hl (by decide) rfl (fun ls hl => ?_)
  have lp_3 : ∀ (nn : Nat) (k : Nat) (hk0 : f ≤ k) (hk : k ≤ f + n), f + n - k < nn → ∀ (H : Heap) (locs : List Loc) (ls : Array Slot), va_P D classes [(a, .inr (6, [.ref fr, .long fn, .ref bk, .ref ca, .ref cm, .int (nI cz), .ref pp, .int (nI (min x en)), .int (nI en), .int (nI (wq en x wg))])), (bk, .inr (0, [.int (nI cb), .ref bp])), (bp, .inl (cI, 3072, .inl (nF (pnt Bk (t * 64 + f) (t * 64 + k) col))))] H → va_D AA [(a, .inr (6, [.ref fr, .long fn, .ref bk, .ref ca, .ref cm, .int (nI cz), .ref pp, .int (nI (min x en)), .int (nI en), .int (nI (wq en x wg))])), (bk, .inr (0, [.int (nI cb), .ref bp])), (bp, .inl (cI, 3072, .inl (nF (pnt Bk (t * 64 + f) (t * 64 + k) col))))] → va_S AA sT.heap H locs → lv_has ls 6 [(5, .int (nI k)), (0, .ref a), (1, .int (nI t)), (2, .int (nI f)), (3, .int (nI n)), (4, .int (nI col))] → W pr l ev ({ frames := 1, cells := 0, slots := 0, locals := 23 } : Room) sT mM aR bW mE cO H locs 0 0 QQ (F0 mM 3 ls []) := by
    intro nn
    induction nn with
    | zero => intro k hk0 hk hm; exact absurd hm (Nat.not_lt_zero _)
    | succ nn ih3 =>
      intro k hk0 hk hm H locs ls hP hD hS hl
      refine lv_iload hx hb d_Display_paint_3 (lv_at hl 0 rfl) ?_
      refine lv_iload_n hx hb d_Display_paint_5 rfl (lv_at hl 3 rfl) ?_
      refine lv_iload_n hx hb d_Display_paint_6 rfl (lv_at hl 4 rfl) ?_
      refine nv_iadd hx hb d_Display_paint_7 ?_
      refine nv_icmp_ge (tgt := 29) hx hb d_Display_paint_8 (by decide) (by omega) (by omega) (fun c_8 => ?_) (fun c_8 => ?_)
      · obtain rfl : k = f + n := by omega
        rw [← Nat.add_assoc] at hP hD
        exact hret () _ _ _ _ d_Display_paint_29 (trivial) hP hD hS
      · refine lv_aload_n hx hb d_Display_paint_11 rfl (lv_at hl 1 rfl) ?_
        refine va_get (D := D) (ci := 6) (v := .ref bk) (C := "TileScreen$Display") (T := F_Display) (N := 10) hx hb htb i_Display hown hG.1 hP 0 rfl rfl 2 (by decide) (htb _ k_166) (fun _ h9 => h9) rfl d_Display_paint_12 ?_
        refine lv_iload_n hx hb d_Display_paint_15 rfl (lv_at hl 2 rfl) ?_
        refine lv_iload hx hb d_Display_paint_16 (lv_at hl 0 rfl) ?_
        refine lv_iload hx hb d_Display_paint_18 (lv_at hl 5 rfl) ?_
        refine kV_v (wc := [(bk, .inr (0, [.int (nI cb), .ref bp])), (bp, .inl (cI, 3072, .inl (nF (pnt Bk (t * 64 + f) (t * 64 + k) col))))]) (wr := [(a, .inr (6, [.ref fr, .long fn, .ref bk, .ref ca, .ref cm, .int (nI cz), .ref pp, .int (nI (min x en)), .int (nI en), .int (nI (wq en x wg))]))]) (w2 := fun _ => [(a, .inr (6, [.ref fr, .long fn, .ref bk, .ref ca, .ref cm, .int (nI cz), .ref pp, .int (nI (min x en)), .int (nI en), .int (nI (wq en x wg))])), (bk, .inr (0, [.int (nI cb), .ref bp])), (bp, .inl (cI, 3072, .inl (nF (up (pnt Bk (t * 64 + f) (t * 64 + k) col) (t * 64 + k) col))))]) [.int (nI t), .int (nI k), .int (nI col)] [] Bd ⟨gi_app (gi_c0 k_470 (gi_c0 k_272 (gi_c0 k_273 (gi_c0 k_2 gi_nil)))) (gi_tb0 k_274), rfl, by decide, by decide⟩ (show (parseMethodDescriptor "(III)V").map (fun d => d.parameters.length) = some 3 by decide +kernel) (c_Tiles_set bk bp cb 3072 (pnt Bk (t * 64 + f) (t * 64 + k) col) t k col (by omega) (by omega)) (by decide +kernel) ⟨Nat.le_of_ble_eq_true rfl, Nat.le_of_ble_eq_true rfl⟩ hG hP hD hS hA [1, 2] [0] [0, 1, 2] (by decide) rfl rfl (fun _ => rfl) (q0 := 0) rfl rfl rfl hl.1 rfl (Nat.le_of_ble_eq_true rfl) d_Display_paint_20 (fun u3 H locs hp2 hP hD hS => ?_)
        have hP : va_P D classes [(a, .inr (6, [.ref fr, .long fn, .ref bk, .ref ca, .ref cm, .int (nI cz), .ref pp, .int (nI (min x en)), .int (nI en), .int (nI (wq en x wg))])), (bk, .inr (0, [.int (nI cb), .ref bp])), (bp, .inl (cI, 3072, .inl (nF (up (pnt Bk (t * 64 + f) (t * 64 + k) col) (t * 64 + k) col))))] H := hP
        have hD : va_D AA [(a, .inr (6, [.ref fr, .long fn, .ref bk, .ref ca, .ref cm, .int (nI cz), .ref pp, .int (nI (min x en)), .int (nI en), .int (nI (wq en x wg))])), (bk, .inr (0, [.int (nI cb), .ref bp])), (bp, .inl (cI, 3072, .inl (nF (up (pnt Bk (t * 64 + f) (t * 64 + k) col) (t * 64 + k) col))))] := hD
        refine lv_iinc (v := (nI (k + 1))) (lv' := [(5, .int (nI (k + 1))), (0, .ref a), (1, .int (nI t)), (2, .int (nI f)), (3, .int (nI n)), (4, .int (nI col))]) hx hb d_Display_paint_23 hl (k := 0) rfl (nI_add k 1) (by decide) rfl (fun ls hl => ?_)
        refine lv_goto (tgt := 3) hx hb d_Display_paint_26 (by decide) ?_
        rw [pnt_s (show t * 64 + f ≤ t * 64 + k by omega)] at hP hD
        exact ih3 (k + 1) (by omega) (by omega) (by omega) _ _ _ hP hD hS (lv_sub hl [0, 1, 2, 3, 4, 5] rfl)
  rw [← pnt_0 Bk (t * 64 + f) col] at hP hD
  exact lp_3 _ f (Nat.le_refl f) (Nat.le_add_right f n) (Nat.lt_succ_self _) _ _ _ hP hD hS (lv_sub hl [0, 1, 2, 3, 4, 5] rfl)
set_option maxHeartbeats 400000 in
set_option maxRecDepth 100000 in
theorem c_Display_readRaw (a : Nat) (fr : Nat) (fn : Int64) (bk : Nat) (ca : Nat) (cm : Nat) (cz : Nat) (pp : Nat) (en : Nat) (x : Nat) (wg : Nat) (Wc : Nat → Nat) (cb : Nat) (bp : Nat) (Bk : Nat → Nat) (t : Nat) (he : en ≤ 6247) (bWc : ∀ j, Wc j < 256) (ht : t < 48) : CV (S := Unit) l classes NW D (TYS cI cZ cL cV) y_Display_readRaw (.code y_Display_readRaw b_Display_readRaw 3 none :: TB) { frames := 2, cells := 0, slots := 0, locals := 42 } [.ref a, .int (nI t)] [(a, .inr (6, [.ref fr, .long fn, .ref bk, .ref ca, .ref cm, .int (nI cz), .ref pp, .int (nI (min x en)), .int (nI en), .int (nI (wq en x wg))])), (cm, .inl (cI, 6247, .inl (nF Wc))), (bk, .inr (0, [.int (nI cb), .ref bp])), (bp, .inl (cI, 3072, .inl (nF Bk)))] (fun u => True) (fun u => [(a, .inr (6, [.ref fr, .long fn, .ref bk, .ref ca, .ref cm, .int (nI cz), .ref pp, .int (nI (min (x + 128) en)), .int (nI en), .int (nI (wq en (x + 128) wg))])), (cm, .inl (cI, 6247, .inl (nF Wc))), (bk, .inr (0, [.int (nI cb), .ref bp])), (bp, .inl (cI, 3072, .inl (nF (pset Bk (t * 64) 64 (fun k => pr2 Wc en (x + 2 * k))))))]) := by
  refine CV.of (by decide) (Nat.le_of_ble_eq_true rfl) ?_
  intro pr ev sT mM aR bW mE cO AA QQ ls Bd hG hA hP hD hS hl hnm hret
  have Bd : bd pr cO b_Display_readRaw 3 sT aR TB "TileScreen$Display" mM := Bd
  obtain ⟨hx, hb, hml, hown, htb⟩ := id Bd
  have hl : lv_has ls 3 [(0, .ref a), (1, .int (nI t))] := hl
  refine lv_iconst (v := nI 0) hx hb d_Display_readRaw_0 (by decide) ?_
  refine lv_istore_n (lv' := [(2, .int (nI 0)), (0, .ref a), (1, .int (nI t))]) hx hb d_Display_readRaw_1 rfl hl (by decide) rfl (fun ls hl => ?_)
  have lp_2 : ∀ (nn : Nat) (k : Nat) (x1 : Nat) (B1 : Nat → Nat) (hk : k ≤ 64) (hx1 : x1 = x + 2 * k) (hB : B1 = pset Bk (t * 64) k (fun k => pr2 Wc en (x + 2 * k))), 64 - k < nn → ∀ (H : Heap) (locs : List Loc) (ls : Array Slot), va_P D classes [(a, .inr (6, [.ref fr, .long fn, .ref bk, .ref ca, .ref cm, .int (nI cz), .ref pp, .int (nI (min x1 en)), .int (nI en), .int (nI (wq en x1 wg))])), (cm, .inl (cI, 6247, .inl (nF Wc))), (bk, .inr (0, [.int (nI cb), .ref bp])), (bp, .inl (cI, 3072, .inl (nF B1)))] H → va_D AA [(a, .inr (6, [.ref fr, .long fn, .ref bk, .ref ca, .ref cm, .int (nI cz), .ref pp, .int (nI (min x1 en)), .int (nI en), .int (nI (wq en x1 wg))])), (cm, .inl (cI, 6247, .inl (nF Wc))), (bk, .inr (0, [.int (nI cb), .ref bp])), (bp, .inl (cI, 3072, .inl (nF B1)))] → va_S AA sT.heap H locs → lv_has ls 3 [(2, .int (nI k)), (0, .ref a), (1, .int (nI t))] → W pr l ev ({ frames := 2, cells := 0, slots := 0, locals := 42 } : Room) sT mM aR bW mE cO H locs 0 0 QQ (F0 mM 2 ls []) := by
    intro nn
    induction nn with
    | zero => intro k x1 B1 hk hx1 hB hm; exact absurd hm (Nat.not_lt_zero _)
    | succ nn ih2 =>
      intro k x1 B1 hk hx1 hB hm H locs ls hP hD hS hl
      refine lv_iload_n hx hb d_Display_readRaw_2 rfl (lv_at hl 0 rfl) ?_
      refine lv_bipush (v := nI 64) hx hb d_Display_readRaw_3 (by decide) ?_
      refine nv_icmp_ge (tgt := 27) hx hb d_Display_readRaw_5 (by decide) (by omega) (by omega) (fun c_5 => ?_) (fun c_5 => ?_)
      · obtain rfl : k = 64 := by omega
        subst hx1
        subst hB
        exact hret () _ _ _ _ d_Display_readRaw_27 (trivial) hP hD hS
      · refine lv_aload_n hx hb d_Display_readRaw_8 rfl (lv_at hl 1 rfl) ?_
        refine va_get (D := D) (ci := 6) (v := .ref bk) (C := "TileScreen$Display") (T := F_Display) (N := 10) hx hb htb i_Display hown hG.1 hP 0 rfl rfl 2 (by decide) (htb _ k_166) (fun _ h9 => h9) rfl d_Display_readRaw_9 ?_
        refine lv_iload_n hx hb d_Display_readRaw_12 rfl (lv_at hl 2 rfl) ?_
        refine lv_iload_n hx hb d_Display_readRaw_13 rfl (lv_at hl 0 rfl) ?_
        refine lv_aload_n hx hb d_Display_readRaw_14 rfl (lv_at hl 1 rfl) ?_
        refine kV_i (wc := [(a, .inr (6, [.ref fr, .long fn, .ref bk, .ref ca, .ref cm, .int (nI cz), .ref pp, .int (nI (min x1 en)), .int (nI en), .int (nI (wq en x1 wg))])), (cm, .inl (cI, 6247, .inl (nF Wc)))]) (wr := [(bk, .inr (0, [.int (nI cb), .ref bp])), (bp, .inl (cI, 3072, .inl (nF B1)))]) (w2 := fun _ => [(a, .inr (6, [.ref fr, .long fn, .ref bk, .ref ca, .ref cm, .int (nI cz), .ref pp, .int (nI (min (x1 + 2) en)), .int (nI en), .int (nI (wq en (x1 + 2) wg))])), (cm, .inl (cI, 6247, .inl (nF Wc))), (bk, .inr (0, [.int (nI cb), .ref bp])), (bp, .inl (cI, 3072, .inl (nF B1)))]) [] [.int (nI k), .int (nI t), .ref bk] Bd ⟨gi_app (gi_c0 k_462 (gi_c0 k_464 (gi_c0 s_14 (gi_c0 k_8 gi_nil)))) (gi_tb0 k_465), rfl, by decide, by decide⟩ (show (parseMethodDescriptor "()I").map (fun d => d.parameters.length) = some 0 by decide +kernel) (c_Display_readColour a fr fn bk ca cm cz pp en x1 wg Wc (by omega) (bWc)) (by decide +kernel) ⟨Nat.le_of_ble_eq_true rfl, Nat.le_of_ble_eq_true rfl⟩ hG hP hD hS hA [0, 1] [2, 3] [2, 3, 0, 1] (by decide) rfl rfl (fun _ => rfl) (q0 := 0) rfl rfl rfl hl.1 rfl (Nat.le_of_ble_eq_true rfl) d_Display_readRaw_15 (fun r2 u4 H locs hp3 hP hD hS => ?_)
        have hP : va_P D classes [(a, .inr (6, [.ref fr, .long fn, .ref bk, .ref ca, .ref cm, .int (nI cz), .ref pp, .int (nI (min (x1 + 2) en)), .int (nI en), .int (nI (wq en (x1 + 2) wg))])), (cm, .inl (cI, 6247, .inl (nF Wc))), (bk, .inr (0, [.int (nI cb), .ref bp])), (bp, .inl (cI, 3072, .inl (nF B1)))] H := hP
        have hD : va_D AA [(a, .inr (6, [.ref fr, .long fn, .ref bk, .ref ca, .ref cm, .int (nI cz), .ref pp, .int (nI (min (x1 + 2) en)), .int (nI en), .int (nI (wq en (x1 + 2) wg))])), (cm, .inl (cI, 6247, .inl (nF Wc))), (bk, .inr (0, [.int (nI cb), .ref bp])), (bp, .inl (cI, 3072, .inl (nF B1)))] := hD
        subst hp3
        refine kV_v (wc := [(bk, .inr (0, [.int (nI cb), .ref bp])), (bp, .inl (cI, 3072, .inl (nF B1)))]) (wr := [(a, .inr (6, [.ref fr, .long fn, .ref bk, .ref ca, .ref cm, .int (nI cz), .ref pp, .int (nI (min (x1 + 2) en)), .int (nI en), .int (nI (wq en (x1 + 2) wg))])), (cm, .inl (cI, 6247, .inl (nF Wc)))]) (w2 := fun _ => [(a, .inr (6, [.ref fr, .long fn, .ref bk, .ref ca, .ref cm, .int (nI cz), .ref pp, .int (nI (min (x1 + 2) en)), .int (nI en), .int (nI (wq en (x1 + 2) wg))])), (cm, .inl (cI, 6247, .inl (nF Wc))), (bk, .inr (0, [.int (nI cb), .ref bp])), (bp, .inl (cI, 3072, .inl (nF (up B1 (t * 64 + k) (pr2 Wc en x1)))))]) [.int (nI t), .int (nI k), .int (nI (pr2 Wc en x1))] [] Bd ⟨gi_app (gi_c0 k_470 (gi_c0 k_272 (gi_c0 k_273 (gi_c0 k_2 gi_nil)))) (gi_tb0 k_274), rfl, by decide, by decide⟩ (show (parseMethodDescriptor "(III)V").map (fun d => d.parameters.length) = some 3 by decide +kernel) (c_Tiles_set bk bp cb 3072 B1 t k (pr2 Wc en x1) (by omega) (by omega)) (by decide +kernel) ⟨Nat.le_of_ble_eq_true rfl, Nat.le_of_ble_eq_true rfl⟩ hG hP hD hS hA [2, 3] [0, 1] [0, 1, 2, 3] (by decide) rfl rfl (fun _ => rfl) (q0 := 0) rfl rfl rfl hl.1 rfl (Nat.le_of_ble_eq_true rfl) d_Display_readRaw_18 (fun u6 H locs hp5 hP hD hS => ?_)
        have hP : va_P D classes [(a, .inr (6, [.ref fr, .long fn, .ref bk, .ref ca, .ref cm, .int (nI cz), .ref pp, .int (nI (min (x1 + 2) en)), .int (nI en), .int (nI (wq en (x1 + 2) wg))])), (cm, .inl (cI, 6247, .inl (nF Wc))), (bk, .inr (0, [.int (nI cb), .ref bp])), (bp, .inl (cI, 3072, .inl (nF (up B1 (t * 64 + k) (pr2 Wc en x1)))))] H := hP
        have hD : va_D AA [(a, .inr (6, [.ref fr, .long fn, .ref bk, .ref ca, .ref cm, .int (nI cz), .ref pp, .int (nI (min (x1 + 2) en)), .int (nI en), .int (nI (wq en (x1 + 2) wg))])), (cm, .inl (cI, 6247, .inl (nF Wc))), (bk, .inr (0, [.int (nI cb), .ref bp])), (bp, .inl (cI, 3072, .inl (nF (up B1 (t * 64 + k) (pr2 Wc en x1)))))] := hD
        refine lv_iinc (v := (nI (k + 1))) (lv' := [(2, .int (nI (k + 1))), (0, .ref a), (1, .int (nI t))]) hx hb d_Display_readRaw_21 hl (k := 0) rfl (nI_add k 1) (by decide) rfl (fun ls hl => ?_)
        refine lv_goto (tgt := 2) hx hb d_Display_readRaw_24 (by decide) ?_
        exact ih2 (k + 1) (x1 + 2) (up B1 (t * 64 + k) (pr2 Wc en x1)) (by omega) (by omega) (by rw [hB, hx1]; exact pset_s Bk (t * 64) k (fun k => pr2 Wc en (x + 2 * k))) (by omega) _ _ _ hP hD hS (lv_sub hl [0, 1, 2] rfl)
  exact lp_2 _ 0 x Bk (Nat.zero_le _) (rfl) ((pset_0 _ _ _).symm) (Nat.lt_succ_self _) _ _ _ hP hD hS (lv_sub hl [0, 1, 2] rfl)
set_option maxHeartbeats 400000 in
set_option maxRecDepth 100000 in
theorem c_Display_readColourCount (a : Nat) (fr : Nat) (fn : Int64) (bk : Nat) (ca : Nat) (cm : Nat) (cz : Nat) (pp : Nat) (en : Nat) (x : Nat) (wg : Nat) (Wc : Nat → Nat) (he : en ≤ 6247) (bWc : ∀ j, Wc j < 256) : CI (S := Nat × Nat) l classes NW D (TYS cI cZ cL cV) y_Display_readColourCount (.code y_Display_readColourCount b_Display_readColourCount 2 (some .int) :: TB) { frames := 1, cells := 0, slots := 0, locals := 21 } [.ref a] [(a, .inr (6, [.ref fr, .long fn, .ref bk, .ref ca, .ref cm, .int (nI cz), .ref pp, .int (nI (min x en)), .int (nI en), .int (nI (wq en x wg))])), (cm, .inl (cI, 6247, .inl (nF Wc)))] (fun r u => r = nI u.1 ∧ (((rd Wc en x = 3 ∨ rd Wc en x = 4) ∧ u.1 = rd Wc en x ∧ u.2 = wg) ∨ (¬ (rd Wc en x = 3 ∨ rd Wc en x = 4) ∧ u.1 = 0 ∧ u.2 = 1))) (fun u => [(a, .inr (6, [.ref fr, .long fn, .ref bk, .ref ca, .ref cm, .int (nI cz), .ref pp, .int (nI (min (x + 1) en)), .int (nI en), .int (nI (wq en (x + 1) u.2))])), (cm, .inl (cI, 6247, .inl (nF Wc)))]) := by
  refine CI.of (by decide) (Nat.le_of_ble_eq_true rfl) ?_
  intro pr ev sT mM aR bW mE cO AA QQ ls Bd hG hA hP hD hS hl hret
  have Bd : bd pr cO b_Display_readColourCount 2 sT aR TB "TileScreen$Display" mM := Bd
  obtain ⟨hx, hb, hml, hown, htb⟩ := id Bd
  have hl : lv_has ls 2 [(0, .ref a)] := hl
  refine lv_aload_n hx hb d_Display_readColourCount_0 rfl (lv_at hl 0 rfl) ?_
  refine kV_i (wc := [(a, .inr (6, [.ref fr, .long fn, .ref bk, .ref ca, .ref cm, .int (nI cz), .ref pp, .int (nI (min x en)), .int (nI en), .int (nI (wq en x wg))])), (cm, .inl (cI, 6247, .inl (nF Wc)))]) (wr := []) (w2 := fun _ => [(a, .inr (6, [.ref fr, .long fn, .ref bk, .ref ca, .ref cm, .int (nI cz), .ref pp, .int (nI (min (x + 1) en)), .int (nI en), .int (nI (wq en (x + 1) wg))])), (cm, .inl (cI, 6247, .inl (nF Wc)))]) [] [] Bd ⟨gi_app (gi_c0 k_458 (gi_c0 k_460 (gi_c0 s_13 (gi_c0 k_8 gi_nil)))) (gi_tb0 k_461), rfl, by decide, by decide⟩ (show (parseMethodDescriptor "()I").map (fun d => d.parameters.length) = some 0 by decide +kernel) (c_Display_readByte a fr fn bk ca cm cz pp en x wg Wc (by omega)) (by decide +kernel) ⟨Nat.le_of_ble_eq_true rfl, Nat.le_of_ble_eq_true rfl⟩ hG hP hD hS hA [0, 1] [] [0, 1] (by decide) rfl rfl (fun _ => rfl) (q0 := 0) rfl rfl rfl hl.1 rfl (Nat.le_of_ble_eq_true rfl) d_Display_readColourCount_1 (fun r1 u3 H locs hp2 hP hD hS => ?_)
  have hP : va_P D classes [(a, .inr (6, [.ref fr, .long fn, .ref bk, .ref ca, .ref cm, .int (nI cz), .ref pp, .int (nI (min (x + 1) en)), .int (nI en), .int (nI (wq en (x + 1) wg))])), (cm, .inl (cI, 6247, .inl (nF Wc)))] H := hP
  have hD : va_D AA [(a, .inr (6, [.ref fr, .long fn, .ref bk, .ref ca, .ref cm, .int (nI cz), .ref pp, .int (nI (min (x + 1) en)), .int (nI en), .int (nI (wq en (x + 1) wg))])), (cm, .inl (cI, 6247, .inl (nF Wc)))] := hD
  subst hp2
  refine lv_istore_n (lv' := [(1, .int (nI (rd Wc en x))), (0, .ref a)]) hx hb d_Display_readColourCount_4 rfl hl (by decide) rfl (fun ls hl => ?_)
  refine lv_iload_n hx hb d_Display_readColourCount_5 rfl (lv_at hl 0 rfl) ?_
  refine lv_iconst (v := nI 3) hx hb d_Display_readColourCount_6 (by decide) ?_
  refine nv_icmp_lt (tgt := 15) hx hb d_Display_readColourCount_7 (by decide) (Nat.lt_trans (rd_lt bWc en x) (by decide)) (by omega) (fun c_7 => ?_) (fun c_7 => ?_)
  · refine lv_aload_n hx hb d_Display_readColourCount_15 rfl (lv_at hl 1 rfl) ?_
    refine lv_iconst (v := nI 1) hx hb d_Display_readColourCount_16 (by decide) ?_
    refine va_put (D := D) (ci := 6) (v := .int (nI 1)) (ty := .boolean) (C := "TileScreen$Display") (T := F_Display) (N := 10) hx hb htb i_Display t_Display t_Display_ok n_Display hown hG.1 hP hD hS 0 rfl rfl 9 (by decide) (htb _ k_175) (fun _ h9 => h9) rfl (by decide +kernel) (by decide) (by decide) (Nat.le_of_ble_eq_true rfl) d_Display_readColourCount_17 (fun H locs hP hD hS => ?_)
    have hP : va_P D classes [(a, .inr (6, [.ref fr, .long fn, .ref bk, .ref ca, .ref cm, .int (nI cz), .ref pp, .int (nI (min (x + 1) en)), .int (nI en), .int (nI 1)])), (cm, .inl (cI, 6247, .inl (nF Wc)))] H := hP
    have hD : va_D AA [(a, .inr (6, [.ref fr, .long fn, .ref bk, .ref ca, .ref cm, .int (nI cz), .ref pp, .int (nI (min (x + 1) en)), .int (nI en), .int (nI 1)])), (cm, .inl (cI, 6247, .inl (nF Wc)))] := hD
    refine lv_iconst (v := nI 0) hx hb d_Display_readColourCount_20 (by decide) ?_
    have hP : va_P D classes [(a, .inr (6, [.ref fr, .long fn, .ref bk, .ref ca, .ref cm, .int (nI cz), .ref pp, .int (nI (min (x + 1) en)), .int (nI en), .int (nI (wq en (x + 1) 1))])), (cm, .inl (cI, 6247, .inl (nF Wc)))] H := by rw [wq_1]; exact hP
    have hD : va_D AA [(a, .inr (6, [.ref fr, .long fn, .ref bk, .ref ca, .ref cm, .int (nI cz), .ref pp, .int (nI (min (x + 1) en)), .int (nI en), .int (nI (wq en (x + 1) 1))])), (cm, .inl (cI, 6247, .inl (nF Wc)))] := by rw [wq_1]; exact hD
    have hR := hret ((nI 0)) (0, 1) H locs 21 ls d_Display_readColourCount_21 rfl
    try dsimp only at hR
    exact hR (⟨rfl, Or.inr ⟨by omega, rfl, rfl⟩⟩) hP hD hS
  · refine lv_iload_n hx hb d_Display_readColourCount_10 rfl (lv_at hl 0 rfl) ?_
    refine lv_iconst (v := nI 4) hx hb d_Display_readColourCount_11 (by decide) ?_
    refine nv_icmp_le (tgt := 22) hx hb d_Display_readColourCount_12 (by decide) (Nat.lt_trans (rd_lt bWc en x) (by decide)) (by omega) (fun c_12 => ?_) (fun c_12 => ?_)
    · refine lv_iload_n hx hb d_Display_readColourCount_22 rfl (lv_at hl 0 rfl) ?_
      have hR := hret ((nI (rd Wc en x))) (rd Wc en x, wg) H locs 23 ls d_Display_readColourCount_23 rfl
      try dsimp only at hR
      exact hR (⟨rfl, Or.inl ⟨by omega, rfl, rfl⟩⟩) hP hD hS
    · refine lv_aload_n hx hb d_Display_readColourCount_15 rfl (lv_at hl 1 rfl) ?_
      refine lv_iconst (v := nI 1) hx hb d_Display_readColourCount_16 (by decide) ?_
      refine va_put (D := D) (ci := 6) (v := .int (nI 1)) (ty := .boolean) (C := "TileScreen$Display") (T := F_Display) (N := 10) hx hb htb i_Display t_Display t_Display_ok n_Display hown hG.1 hP hD hS 0 rfl rfl 9 (by decide) (htb _ k_175) (fun _ h9 => h9) rfl (by decide +kernel) (by decide) (by decide) (Nat.le_of_ble_eq_true rfl) d_Display_readColourCount_17 (fun H locs hP hD hS => ?_)
      have hP : va_P D classes [(a, .inr (6, [.ref fr, .long fn, .ref bk, .ref ca, .ref cm, .int (nI cz), .ref pp, .int (nI (min (x + 1) en)), .int (nI en), .int (nI 1)])), (cm, .inl (cI, 6247, .inl (nF Wc)))] H := hP
      have hD : va_D AA [(a, .inr (6, [.ref fr, .long fn, .ref bk, .ref ca, .ref cm, .int (nI cz), .ref pp, .int (nI (min (x + 1) en)), .int (nI en), .int (nI 1)])), (cm, .inl (cI, 6247, .inl (nF Wc)))] := hD
      refine lv_iconst (v := nI 0) hx hb d_Display_readColourCount_20 (by decide) ?_
      have hP : va_P D classes [(a, .inr (6, [.ref fr, .long fn, .ref bk, .ref ca, .ref cm, .int (nI cz), .ref pp, .int (nI (min (x + 1) en)), .int (nI en), .int (nI (wq en (x + 1) 1))])), (cm, .inl (cI, 6247, .inl (nF Wc)))] H := by rw [wq_1]; exact hP
      have hD : va_D AA [(a, .inr (6, [.ref fr, .long fn, .ref bk, .ref ca, .ref cm, .int (nI cz), .ref pp, .int (nI (min (x + 1) en)), .int (nI en), .int (nI (wq en (x + 1) 1))])), (cm, .inl (cI, 6247, .inl (nF Wc)))] := by rw [wq_1]; exact hD
      have hR := hret ((nI 0)) (0, 1) H locs 21 ls d_Display_readColourCount_21 rfl
      try dsimp only at hR
      exact hR (⟨rfl, Or.inr ⟨by omega, rfl, rfl⟩⟩) hP hD hS
set_option maxHeartbeats 400000 in
set_option maxRecDepth 100000 in
theorem c_Display_readSource (a : Nat) (fr : Nat) (fn : Int64) (bk : Nat) (ca : Nat) (cm : Nat) (cz : Nat) (pp : Nat) (en : Nat) (x : Nat) (wg : Nat) (Wc : Nat → Nat) (cb : Nat) (bp : Nat) (Bk : Nat → Nat) (so : Nat) (cs9 : Nat) (sp : Nat) (n : Nat) (S : Nat → Nat) (t : Nat) (cnt : Nat) (he : en ≤ 6247) (bWc : ∀ j, Wc j < 256) (ht : t < 48) (hc : cnt * 64 ≤ n) (hn : n < 100000) : CV (S := Nat × (Nat → Nat)) l classes NW D (TYS cI cZ cL cV) y_Display_readSource (.code y_Display_readSource b_Display_readSource 5 none :: TB) { frames := 2, cells := 0, slots := 0, locals := 63 } [.ref a, .int (nI t), .ref so, .int (nI cnt)] [(a, .inr (6, [.ref fr, .long fn, .ref bk, .ref ca, .ref cm, .int (nI cz), .ref pp, .int (nI (min x en)), .int (nI en), .int (nI (wq en x wg))])), (cm, .inl (cI, 6247, .inl (nF Wc))), (bk, .inr (0, [.int (nI cb), .ref bp])), (bp, .inl (cI, 3072, .inl (nF Bk))), (so, .inr (0, [.int (nI cs9), .ref sp])), (sp, .inl (cI, n, .inl (nF S)))] (fun u => ((rd Wc en x < cnt ∧ u.1 = wg ∧ u.2 = pset Bk (t * 64) 64 (fun k => S (rd Wc en x * 64 + k))) ∨ (cnt ≤ rd Wc en x ∧ u.1 = 1 ∧ u.2 = Bk))) (fun u => [(a, .inr (6, [.ref fr, .long fn, .ref bk, .ref ca, .ref cm, .int (nI cz), .ref pp, .int (nI (min (x + 1) en)), .int (nI en), .int (nI (wq en (x + 1) u.1))])), (cm, .inl (cI, 6247, .inl (nF Wc))), (bk, .inr (0, [.int (nI cb), .ref bp])), (bp, .inl (cI, 3072, .inl (nF u.2))), (so, .inr (0, [.int (nI cs9), .ref sp])), (sp, .inl (cI, n, .inl (nF S)))]) := by
  refine CV.of (by decide) (Nat.le_of_ble_eq_true rfl) ?_
  intro pr ev sT mM aR bW mE cO AA QQ ls Bd hG hA hP hD hS hl hnm hret
  have Bd : bd pr cO b_Display_readSource 5 sT aR TB "TileScreen$Display" mM := Bd
  obtain ⟨hx, hb, hml, hown, htb⟩ := id Bd
  have hl : lv_has ls 5 [(0, .ref a), (1, .int (nI t)), (2, .ref so), (3, .int (nI cnt))] := hl
  refine lv_aload_n hx hb d_Display_readSource_0 rfl (lv_at hl 0 rfl) ?_
  refine kV_i (wc := [(a, .inr (6, [.ref fr, .long fn, .ref bk, .ref ca, .ref cm, .int (nI cz), .ref pp, .int (nI (min x en)), .int (nI en), .int (nI (wq en x wg))])), (cm, .inl (cI, 6247, .inl (nF Wc)))]) (wr := [(bk, .inr (0, [.int (nI cb), .ref bp])), (bp, .inl (cI, 3072, .inl (nF Bk))), (so, .inr (0, [.int (nI cs9), .ref sp])), (sp, .inl (cI, n, .inl (nF S)))]) (w2 := fun _ => [(a, .inr (6, [.ref fr, .long fn, .ref bk, .ref ca, .ref cm, .int (nI cz), .ref pp, .int (nI (min (x + 1) en)), .int (nI en), .int (nI (wq en (x + 1) wg))])), (cm, .inl (cI, 6247, .inl (nF Wc))), (bk, .inr (0, [.int (nI cb), .ref bp])), (bp, .inl (cI, 3072, .inl (nF Bk))), (so, .inr (0, [.int (nI cs9), .ref sp])), (sp, .inl (cI, n, .inl (nF S)))]) [] [] Bd ⟨gi_app (gi_c0 k_458 (gi_c0 k_460 (gi_c0 s_13 (gi_c0 k_8 gi_nil)))) (gi_tb0 k_461), rfl, by decide, by decide⟩ (show (parseMethodDescriptor "()I").map (fun d => d.parameters.length) = some 0 by decide +kernel) (c_Display_readByte a fr fn bk ca cm cz pp en x wg Wc (by omega)) (by decide +kernel) ⟨Nat.le_of_ble_eq_true rfl, Nat.le_of_ble_eq_true rfl⟩ hG hP hD hS hA [0, 1] [2, 3, 4, 5] [4, 5, 0, 1, 2, 3] (by decide) rfl rfl (fun _ => rfl) (q0 := 0) rfl rfl rfl hl.1 rfl (Nat.le_of_ble_eq_true rfl) d_Display_readSource_1 (fun r1 u3 H locs hp2 hP hD hS => ?_)
  have hP : va_P D classes [(a, .inr (6, [.ref fr, .long fn, .ref bk, .ref ca, .ref cm, .int (nI cz), .ref pp, .int (nI (min (x + 1) en)), .int (nI en), .int (nI (wq en (x + 1) wg))])), (cm, .inl (cI, 6247, .inl (nF Wc))), (bk, .inr (0, [.int (nI cb), .ref bp])), (bp, .inl (cI, 3072, .inl (nF Bk))), (so, .inr (0, [.int (nI cs9), .ref sp])), (sp, .inl (cI, n, .inl (nF S)))] H := hP
  have hD : va_D AA [(a, .inr (6, [.ref fr, .long fn, .ref bk, .ref ca, .ref cm, .int (nI cz), .ref pp, .int (nI (min (x + 1) en)), .int (nI en), .int (nI (wq en (x + 1) wg))])), (cm, .inl (cI, 6247, .inl (nF Wc))), (bk, .inr (0, [.int (nI cb), .ref bp])), (bp, .inl (cI, 3072, .inl (nF Bk))), (so, .inr (0, [.int (nI cs9), .ref sp])), (sp, .inl (cI, n, .inl (nF S)))] := hD
  subst hp2
  refine lv_istore (lv' := [(4, .int (nI (rd Wc en x))), (0, .ref a), (1, .int (nI t)), (2, .ref so), (3, .int (nI cnt))]) hx hb d_Display_readSource_4 hl (by decide) rfl (fun ls hl => ?_)
  refine lv_iload hx hb d_Display_readSource_6 (lv_at hl 0 rfl) ?_
  refine lv_iload_n hx hb d_Display_readSource_8 rfl (lv_at hl 4 rfl) ?_
  refine nv_icmp_ge (tgt := 26) hx hb d_Display_readSource_9 (by decide) (Nat.lt_trans (rd_lt bWc en x) (by decide)) (by omega) (fun c_9 => ?_) (fun c_9 => ?_)
  · refine lv_aload_n hx hb d_Display_readSource_26 rfl (lv_at hl 1 rfl) ?_
    refine lv_iconst (v := nI 1) hx hb d_Display_readSource_27 (by decide) ?_
    refine va_put (D := D) (ci := 6) (v := .int (nI 1)) (ty := .boolean) (C := "TileScreen$Display") (T := F_Display) (N := 10) hx hb htb i_Display t_Display t_Display_ok n_Display hown hG.1 hP hD hS 0 rfl rfl 9 (by decide) (htb _ k_175) (fun _ h9 => h9) rfl (by decide +kernel) (by decide) (by decide) (Nat.le_of_ble_eq_true rfl) d_Display_readSource_28 (fun H locs hP hD hS => ?_)
    have hP : va_P D classes [(a, .inr (6, [.ref fr, .long fn, .ref bk, .ref ca, .ref cm, .int (nI cz), .ref pp, .int (nI (min (x + 1) en)), .int (nI en), .int (nI 1)])), (cm, .inl (cI, 6247, .inl (nF Wc))), (bk, .inr (0, [.int (nI cb), .ref bp])), (bp, .inl (cI, 3072, .inl (nF Bk))), (so, .inr (0, [.int (nI cs9), .ref sp])), (sp, .inl (cI, n, .inl (nF S)))] H := hP
    have hD : va_D AA [(a, .inr (6, [.ref fr, .long fn, .ref bk, .ref ca, .ref cm, .int (nI cz), .ref pp, .int (nI (min (x + 1) en)), .int (nI en), .int (nI 1)])), (cm, .inl (cI, 6247, .inl (nF Wc))), (bk, .inr (0, [.int (nI cb), .ref bp])), (bp, .inl (cI, 3072, .inl (nF Bk))), (so, .inr (0, [.int (nI cs9), .ref sp])), (sp, .inl (cI, n, .inl (nF S)))] := hD
    have hP : va_P D classes [(a, .inr (6, [.ref fr, .long fn, .ref bk, .ref ca, .ref cm, .int (nI cz), .ref pp, .int (nI (min (x + 1) en)), .int (nI en), .int (nI (wq en (x + 1) 1))])), (cm, .inl (cI, 6247, .inl (nF Wc))), (bk, .inr (0, [.int (nI cb), .ref bp])), (bp, .inl (cI, 3072, .inl (nF Bk))), (so, .inr (0, [.int (nI cs9), .ref sp])), (sp, .inl (cI, n, .inl (nF S)))] H := by rw [wq_1]; exact hP
    have hD : va_D AA [(a, .inr (6, [.ref fr, .long fn, .ref bk, .ref ca, .ref cm, .int (nI cz), .ref pp, .int (nI (min (x + 1) en)), .int (nI en), .int (nI (wq en (x + 1) 1))])), (cm, .inl (cI, 6247, .inl (nF Wc))), (bk, .inr (0, [.int (nI cb), .ref bp])), (bp, .inl (cI, 3072, .inl (nF Bk))), (so, .inr (0, [.int (nI cs9), .ref sp])), (sp, .inl (cI, n, .inl (nF S)))] := by rw [wq_1]; exact hD
    have hR := hret (1, Bk) H locs 31 ls d_Display_readSource_31
    try dsimp only at hR
    exact hR (Or.inr ⟨c_9, rfl, rfl⟩) hP hD hS
  · refine lv_aload_n hx hb d_Display_readSource_12 rfl (lv_at hl 1 rfl) ?_
    refine va_get (D := D) (ci := 6) (v := .ref bk) (C := "TileScreen$Display") (T := F_Display) (N := 10) hx hb htb i_Display hown hG.1 hP 0 rfl rfl 2 (by decide) (htb _ k_166) (fun _ h9 => h9) rfl d_Display_readSource_13 ?_
    refine lv_iload_n hx hb d_Display_readSource_16 rfl (lv_at hl 2 rfl) ?_
    refine lv_aload_n hx hb d_Display_readSource_17 rfl (lv_at hl 3 rfl) ?_
    refine lv_iload hx hb d_Display_readSource_18 (lv_at hl 0 rfl) ?_
    refine kV_v (wc := [(bk, .inr (0, [.int (nI cb), .ref bp])), (bp, .inl (cI, 3072, .inl (nF Bk))), (so, .inr (0, [.int (nI cs9), .ref sp])), (sp, .inl (cI, n, .inl (nF S)))]) (wr := [(a, .inr (6, [.ref fr, .long fn, .ref bk, .ref ca, .ref cm, .int (nI cz), .ref pp, .int (nI (min (x + 1) en)), .int (nI en), .int (nI (wq en (x + 1) wg))])), (cm, .inl (cI, 6247, .inl (nF Wc)))]) (w2 := fun _ => [(a, .inr (6, [.ref fr, .long fn, .ref bk, .ref ca, .ref cm, .int (nI cz), .ref pp, .int (nI (min (x + 1) en)), .int (nI en), .int (nI (wq en (x + 1) wg))])), (cm, .inl (cI, 6247, .inl (nF Wc))), (bk, .inr (0, [.int (nI cb), .ref bp])), (bp, .inl (cI, 3072, .inl (nF (va_cpy S Bk ((rd Wc en x) * 64) (t * 64) 64)))), (so, .inr (0, [.int (nI cs9), .ref sp])), (sp, .inl (cI, n, .inl (nF S)))]) [.int (nI t), .ref so, .int (nI (rd Wc en x))] [] Bd ⟨gi_app (gi_c0 k_475 (gi_c0 k_418 (gi_c0 k_419 (gi_c0 k_2 gi_nil)))) (gi_tb0 k_420), rfl, by decide, by decide⟩ (show (parseMethodDescriptor "(ILTileScreen$Tiles;I)V").map (fun d => d.parameters.length) = some 3 by decide +kernel) (c_Tiles_take bk bp cb 3072 Bk so sp cs9 n S t (rd Wc en x) (by omega) (by omega) (by omega) (by omega)) (by decide +kernel) ⟨Nat.le_of_ble_eq_true rfl, Nat.le_of_ble_eq_true rfl⟩ hG hP hD hS hA [2, 3, 4, 5] [0, 1] [0, 1, 2, 3, 4, 5] (by decide) rfl rfl (fun _ => rfl) (q0 := 0) rfl rfl rfl hl.1 rfl (Nat.le_of_ble_eq_true rfl) d_Display_readSource_20 (fun u5 H locs hp4 hP hD hS => ?_)
    have hP : va_P D classes [(a, .inr (6, [.ref fr, .long fn, .ref bk, .ref ca, .ref cm, .int (nI cz), .ref pp, .int (nI (min (x + 1) en)), .int (nI en), .int (nI (wq en (x + 1) wg))])), (cm, .inl (cI, 6247, .inl (nF Wc))), (bk, .inr (0, [.int (nI cb), .ref bp])), (bp, .inl (cI, 3072, .inl (nF (va_cpy S Bk ((rd Wc en x) * 64) (t * 64) 64)))), (so, .inr (0, [.int (nI cs9), .ref sp])), (sp, .inl (cI, n, .inl (nF S)))] H := hP
    have hD : va_D AA [(a, .inr (6, [.ref fr, .long fn, .ref bk, .ref ca, .ref cm, .int (nI cz), .ref pp, .int (nI (min (x + 1) en)), .int (nI en), .int (nI (wq en (x + 1) wg))])), (cm, .inl (cI, 6247, .inl (nF Wc))), (bk, .inr (0, [.int (nI cb), .ref bp])), (bp, .inl (cI, 3072, .inl (nF (va_cpy S Bk ((rd Wc en x) * 64) (t * 64) 64)))), (so, .inr (0, [.int (nI cs9), .ref sp])), (sp, .inl (cI, n, .inl (nF S)))] := hD
    refine lv_goto (tgt := 31) hx hb d_Display_readSource_23 (by decide) ?_
    have hR := hret (wg, va_cpy S Bk ((rd Wc en x) * 64) (t * 64) 64) H locs 31 ls d_Display_readSource_31
    try dsimp only at hR
    exact hR (Or.inl ⟨c_9, rfl, rfl⟩) hP hD hS
end
