section
variable {l : Launch} {D : va_G} {cI cZ cL cV : ClassId}
theorem ln_lt {nc ru kd : Nat} (hc : nc ≤ 1000) (hr : ru ≤ 1000) : lenC nc ru kd < 2 ^ 31 := by
  unfold lenC
  split <;> omega
set_option maxHeartbeats 400000 in
set_option maxRecDepth 100000 in
theorem c_Line_add0 (a : Nat) (pp : Nat) (sz : Nat) (B : Nat → Nat) (x : Nat) (h0 : sz < 6247) : CV (S := Unit) l classes NW D (TYS cI cZ cL cV) y_Line_add (.code y_Line_add b_Line_add 2 none :: TB) { frames := 0, cells := 0, slots := 0, locals := 0 } [.ref a, .int (nI x)] [(a, .inr (2, [.ref pp, .int (nI 0), .int (nI sz)])), (pp, .inl (cI, 6247, .inl (nF B)))] (fun u => True) (fun u => [(a, .inr (2, [.ref pp, .int (nI 0), .int (nI (sz + 1))])), (pp, .inl (cI, 6247, .inl (nF (up B sz x))))]) := by
  refine CV.of (by decide) (Nat.le_of_ble_eq_true rfl) ?_
  intro pr ev sT mM aR bW mE cO AA QQ ls Bd hG hA hP hD hS hl hnm hret
  have Bd : bd pr cO b_Line_add 2 sT aR TB "TileScreen$Line" mM := Bd
  obtain ⟨hx, hb, hml, hown, htb⟩ := id Bd
  have hl : lv_has ls 2 [(0, .ref a), (1, .int (nI x))] := hl
  refine lv_aload_n hx hb d_Line_add_0 rfl (lv_at hl 0 rfl) ?_
  refine va_get (D := D) (ci := 2) (v := .int (nI 0)) (C := "TileScreen$Line") (T := F_Line) (N := 3) hx hb htb i_Line hown hG.1 hP 0 rfl rfl 1 (by decide) (htb _ k_86) (fun _ h9 => h9) rfl d_Line_add_1 ?_
  refine lv_aload_n hx hb d_Line_add_4 rfl (lv_at hl 0 rfl) ?_
  refine va_get (D := D) (ci := 2) (v := .int (nI sz)) (C := "TileScreen$Line") (T := F_Line) (N := 3) hx hb htb i_Line hown hG.1 hP 0 rfl rfl 2 (by decide) (htb _ k_87) (fun _ h9 => h9) rfl d_Line_add_5 ?_
  refine nv_iadd hx hb d_Line_add_8 ?_
  refine lv_aload_n hx hb d_Line_add_9 rfl (lv_at hl 0 rfl) ?_
  refine va_get (D := D) (ci := 2) (v := .ref pp) (C := "TileScreen$Line") (T := F_Line) (N := 3) hx hb htb i_Line hown hG.1 hP 0 rfl rfl 0 (by decide) (htb _ k_84) (fun _ h9 => h9) rfl d_Line_add_10 ?_
  refine va_alen (v := nI 6247) hx hb hG.1 hP 1 0 rfl rfl rfl d_Line_add_13 ?_
  refine nv_icmp_ge (tgt := 42) hx hb d_Line_add_14 (by decide) (by omega) (by omega) (fun c_14 => ?_) (fun c_14 => ?_)
  · omega
  · refine lv_aload_n hx hb d_Line_add_17 rfl (lv_at hl 0 rfl) ?_
    refine va_get (D := D) (ci := 2) (v := .ref pp) (C := "TileScreen$Line") (T := F_Line) (N := 3) hx hb htb i_Line hown hG.1 hP 0 rfl rfl 0 (by decide) (htb _ k_84) (fun _ h9 => h9) rfl d_Line_add_18 ?_
    refine lv_aload_n hx hb d_Line_add_21 rfl (lv_at hl 0 rfl) ?_
    refine va_get (D := D) (ci := 2) (v := .int (nI 0)) (C := "TileScreen$Line") (T := F_Line) (N := 3) hx hb htb i_Line hown hG.1 hP 0 rfl rfl 1 (by decide) (htb _ k_86) (fun _ h9 => h9) rfl d_Line_add_22 ?_
    refine lv_aload_n hx hb d_Line_add_25 rfl (lv_at hl 0 rfl) ?_
    refine va_get (D := D) (ci := 2) (v := .int (nI sz)) (C := "TileScreen$Line") (T := F_Line) (N := 3) hx hb htb i_Line hown hG.1 hP 0 rfl rfl 2 (by decide) (htb _ k_87) (fun _ h9 => h9) rfl d_Line_add_26 ?_
    refine nv_iadd hx hb d_Line_add_29 ?_
    refine nv_top (y := nI sz) (congrArg nI (Nat.zero_add sz)) ?_
    refine lv_iload_n hx hb d_Line_add_30 rfl (lv_at hl 1 rfl) ?_
    refine nv_iast hx hb hG.1 hP hD hS 1 0 rfl rfl (by omega) (by omega) d_Line_add_31 (fun H locs hP hD hS => ?_)
    have hP : va_P D classes [(a, .inr (2, [.ref pp, .int (nI 0), .int (nI sz)])), (pp, .inl (cI, 6247, .inl (nF (up B sz x))))] H := hP
    have hD : va_D AA [(a, .inr (2, [.ref pp, .int (nI 0), .int (nI sz)])), (pp, .inl (cI, 6247, .inl (nF (up B sz x))))] := hD
    refine lv_aload_n hx hb d_Line_add_32 rfl (lv_at hl 0 rfl) ?_
    refine lv_dup hx hb d_Line_add_33 rfl ?_
    refine va_get (D := D) (ci := 2) (v := .int (nI sz)) (C := "TileScreen$Line") (T := F_Line) (N := 3) hx hb htb i_Line hown hG.1 hP 0 rfl rfl 2 (by decide) (htb _ k_87) (fun _ h9 => h9) rfl d_Line_add_34 ?_
    refine lv_iconst (v := nI 1) hx hb d_Line_add_37 (by decide) ?_
    refine nv_iadd hx hb d_Line_add_38 ?_
    refine va_put (D := D) (ci := 2) (v := .int (nI (sz + 1))) (ty := .int) (C := "TileScreen$Line") (T := F_Line) (N := 3) hx hb htb i_Line t_Line t_Line_ok n_Line hown hG.1 hP hD hS 0 rfl rfl 2 (by decide) (htb _ k_87) (fun _ h9 => h9) rfl (by decide +kernel) rfl rfl (Nat.le_of_ble_eq_true rfl) d_Line_add_39 (fun H locs hP hD hS => ?_)
    have hP : va_P D classes [(a, .inr (2, [.ref pp, .int (nI 0), .int (nI (sz + 1))])), (pp, .inl (cI, 6247, .inl (nF (up B sz x))))] H := hP
    have hD : va_D AA [(a, .inr (2, [.ref pp, .int (nI 0), .int (nI (sz + 1))])), (pp, .inl (cI, 6247, .inl (nF (up B sz x))))] := hD
    exact hret () _ _ _ _ d_Line_add_42 (trivial) hP hD hS
set_option maxHeartbeats 400000 in
set_option maxRecDepth 100000 in
theorem c_Line_addPair0 (a : Nat) (pp : Nat) (sz : Nat) (B : Nat → Nat) (x : Nat) (h0 : sz + 1 < 6247) (hx1 : x < 2 ^ 31) : CV (S := Unit) l classes NW D (TYS cI cZ cL cV) y_Line_addPair (.code y_Line_addPair b_Line_addPair 2 none :: TB) { frames := 1, cells := 0, slots := 0, locals := 21 } [.ref a, .int (nI x)] [(a, .inr (2, [.ref pp, .int (nI 0), .int (nI sz)])), (pp, .inl (cI, 6247, .inl (nF B)))] (fun u => True) (fun u => [(a, .inr (2, [.ref pp, .int (nI 0), .int (nI (sz + 2))])), (pp, .inl (cI, 6247, .inl (nF (up (up B sz (x / 256 % 256)) (sz + 1) (x % 256)))))]) := by
  refine CV.of (by decide) (Nat.le_of_ble_eq_true rfl) ?_
  intro pr ev sT mM aR bW mE cO AA QQ ls Bd hG hA hP hD hS hl hnm hret
  have Bd : bd pr cO b_Line_addPair 2 sT aR TB "TileScreen$Line" mM := Bd
  obtain ⟨hx, hb, hml, hown, htb⟩ := id Bd
  have hl : lv_has ls 2 [(0, .ref a), (1, .int (nI x))] := hl
  refine lv_aload_n hx hb d_Line_addPair_0 rfl (lv_at hl 0 rfl) ?_
  refine lv_iload_n hx hb d_Line_addPair_1 rfl (lv_at hl 1 rfl) ?_
  refine lv_bipush (v := nI 8) hx hb d_Line_addPair_2 (by decide) ?_
  refine nv_ishr hx hb (by omega) (by omega) d_Line_addPair_4 ?_
  refine lv_sipush (v := nI 255) hx hb d_Line_addPair_5 (by decide) ?_
  refine nv_iandm hx hb 8 rfl d_Line_addPair_8 ?_
  refine kV_v (wc := [(a, .inr (2, [.ref pp, .int (nI 0), .int (nI sz)])), (pp, .inl (cI, 6247, .inl (nF B)))]) (wr := []) (w2 := fun _ => [(a, .inr (2, [.ref pp, .int (nI 0), .int (nI (sz + 1))])), (pp, .inl (cI, 6247, .inl (nF (up B sz ((x / 2 ^ 8) % 256)))))]) [.int (nI ((x / 2 ^ 8) % 256))] [] Bd ⟨gi_app (gi_c0 k_352 (gi_c0 k_345 (gi_c0 k_346 (gi_c0 k_6 gi_nil)))) (gi_tb0 k_347), rfl, by decide, by decide⟩ (show (parseMethodDescriptor "(I)V").map (fun d => d.parameters.length) = some 1 by decide +kernel) (c_Line_add0 a pp sz B ((x / 2 ^ 8) % 256) (by omega)) (by decide +kernel) ⟨Nat.le_of_ble_eq_true rfl, Nat.le_of_ble_eq_true rfl⟩ hG hP hD hS hA [0, 1] [] [0, 1] (by decide) rfl rfl (fun _ => rfl) (q0 := 0) rfl rfl rfl hl.1 rfl (Nat.le_of_ble_eq_true rfl) d_Line_addPair_9 (fun u2 H locs hp1 hP hD hS => ?_)
  have hP : va_P D classes [(a, .inr (2, [.ref pp, .int (nI 0), .int (nI (sz + 1))])), (pp, .inl (cI, 6247, .inl (nF (up B sz ((x / 2 ^ 8) % 256)))))] H := hP
  have hD : va_D AA [(a, .inr (2, [.ref pp, .int (nI 0), .int (nI (sz + 1))])), (pp, .inl (cI, 6247, .inl (nF (up B sz ((x / 2 ^ 8) % 256)))))] := hD
  refine lv_aload_n hx hb d_Line_addPair_12 rfl (lv_at hl 0 rfl) ?_
  refine lv_iload_n hx hb d_Line_addPair_13 rfl (lv_at hl 1 rfl) ?_
  refine lv_sipush (v := nI 255) hx hb d_Line_addPair_14 (by decide) ?_
  refine nv_iandm hx hb 8 rfl d_Line_addPair_17 ?_
  refine kV_v (wc := [(a, .inr (2, [.ref pp, .int (nI 0), .int (nI (sz + 1))])), (pp, .inl (cI, 6247, .inl (nF (up B sz ((x / 2 ^ 8) % 256)))))]) (wr := []) (w2 := fun _ => [(a, .inr (2, [.ref pp, .int (nI 0), .int (nI ((sz + 1) + 1))])), (pp, .inl (cI, 6247, .inl (nF (up (up B sz ((x / 2 ^ 8) % 256)) (sz + 1) (x % 256)))))]) [.int (nI (x % 256))] [] Bd ⟨gi_app (gi_c0 k_352 (gi_c0 k_345 (gi_c0 k_346 (gi_c0 k_6 gi_nil)))) (gi_tb0 k_347), rfl, by decide, by decide⟩ (show (parseMethodDescriptor "(I)V").map (fun d => d.parameters.length) = some 1 by decide +kernel) (c_Line_add0 a pp (sz + 1) (up B sz ((x / 2 ^ 8) % 256)) (x % 256) (by omega)) (by decide +kernel) ⟨Nat.le_of_ble_eq_true rfl, Nat.le_of_ble_eq_true rfl⟩ hG hP hD hS hA [0, 1] [] [0, 1] (by decide) rfl rfl (fun _ => rfl) (q0 := 0) rfl rfl rfl hl.1 rfl (Nat.le_of_ble_eq_true rfl) d_Line_addPair_18 (fun u4 H locs hp3 hP hD hS => ?_)
  have hP : va_P D classes [(a, .inr (2, [.ref pp, .int (nI 0), .int (nI ((sz + 1) + 1))])), (pp, .inl (cI, 6247, .inl (nF (up (up B sz ((x / 2 ^ 8) % 256)) (sz + 1) (x % 256)))))] H := hP
  have hD : va_D AA [(a, .inr (2, [.ref pp, .int (nI 0), .int (nI ((sz + 1) + 1))])), (pp, .inl (cI, 6247, .inl (nF (up (up B sz ((x / 2 ^ 8) % 256)) (sz + 1) (x % 256)))))] := hD
  exact hret () _ _ _ _ d_Line_addPair_21 (trivial) hP hD hS
set_option maxHeartbeats 400000 in
set_option maxRecDepth 100000 in
theorem c_Scr_sumOf (pp : Nat) (n : Nat) (B : Nat → Nat) (f : Nat) (e9 : Nat) (h0 : f ≤ e9) (h1 : e9 ≤ n) (hn : n < 100000) (bB : ∀ j, B j < 256) : CI (S := Unit) l classes NW D (TYS cI cZ cL cV) y_Scr_sumOf (.code y_Scr_sumOf b_Scr_sumOf 5 (some .int) :: TB) { frames := 0, cells := 0, slots := 0, locals := 0 } [.ref pp, .int (nI f), .int (nI e9)] [(pp, .inl (cI, n, .inl (nF B)))] (fun r u => r = nI (sumF B f (e9 - f) % 65536)) (fun u => [(pp, .inl (cI, n, .inl (nF B)))]) := by
  refine CI.of (by decide) (Nat.le_of_ble_eq_true rfl) ?_
  intro pr ev sT mM aR bW mE cO AA QQ ls Bd hG hA hP hD hS hl hret
  have Bd : bd pr cO b_Scr_sumOf 5 sT aR TB "TileScreen" mM := Bd
  obtain ⟨hx, hb, hml, hown, htb⟩ := id Bd
  have hl : lv_has ls 5 [(0, .ref pp), (1, .int (nI f)), (2, .int (nI e9))] := hl
  refine lv_iconst (v := nI 0) hx hb d_Scr_sumOf_0 (by decide) ?_
  refine lv_istore_n (lv' := [(3, .int (nI 0)), (0, .ref pp), (1, .int (nI f)), (2, .int (nI e9))]) hx hb d_Scr_sumOf_1 rfl hl (by decide) rfl (fun ls hl => ?_)
  refine lv_iload_n hx hb d_Scr_sumOf_2 rfl (lv_at hl 2 rfl) ?_
  refine lv_istore (lv' := [(4, .int (nI f)), (3, .int (nI 0)), (0, .ref pp), (1, .int (nI f)), (2, .int (nI e9))]) hx hb d_Scr_sumOf_3 hl (by decide) rfl (fun ls hl => ?_)
  have lp_5 : ∀ (nn : Nat) (k : Nat) (hk0 : f ≤ k) (hk : k ≤ e9), e9 - k < nn → ∀ (H : Heap) (locs : List Loc) (ls : Array Slot), va_P D classes [(pp, .inl (cI, n, .inl (nF B)))] H → va_D AA [(pp, .inl (cI, n, .inl (nF B)))] → va_S AA sT.heap H locs → lv_has ls 5 [(4, .int (nI k)), (3, .int (nI (sumF B f (k - f)))), (0, .ref pp), (1, .int (nI f)), (2, .int (nI e9))] → W pr l ev ({ frames := 0, cells := 0, slots := 0, locals := 0 } : Room) sT mM aR bW mE cO H locs 0 0 QQ (F0 mM 5 ls []) := by
    intro nn
    induction nn with
    | zero => intro k hk0 hk hm; exact absurd hm (Nat.not_lt_zero _)
    | succ nn ih5 =>
      intro k hk0 hk hm H locs ls hP hD hS hl
      refine lv_iload hx hb d_Scr_sumOf_5 (lv_at hl 0 rfl) ?_
      refine lv_iload_n hx hb d_Scr_sumOf_7 rfl (lv_at hl 4 rfl) ?_
      refine nv_icmp_ge (tgt := 24) hx hb d_Scr_sumOf_8 (by decide) (by omega) (by omega) (fun c_8 => ?_) (fun c_8 => ?_)
      · refine lv_iload_n hx hb d_Scr_sumOf_24 rfl (lv_at hl 1 rfl) ?_
        have hse : k = e9 := by omega
        refine lv_ldc (v := nI 65536) hx hb hown (htb _ k_264) d_Scr_sumOf_25 ?_
        refine nv_irem hx hb (by have := sumF_le bB f (k - f); omega) (by omega) (by omega) d_Scr_sumOf_27 ?_
        exact hret _ () _ _ _ _ d_Scr_sumOf_28 rfl (by rw [hse]) hP hD hS
      · refine lv_iload_n hx hb d_Scr_sumOf_11 rfl (lv_at hl 1 rfl) ?_
        refine lv_aload_n hx hb d_Scr_sumOf_12 rfl (lv_at hl 2 rfl) ?_
        refine lv_iload hx hb d_Scr_sumOf_13 (lv_at hl 0 rfl) ?_
        refine nv_iald hx hb hG.1 hP 0 0 rfl rfl (by omega) (by omega) d_Scr_sumOf_15 ?_
        refine nv_iadd hx hb d_Scr_sumOf_16 ?_
        refine lv_istore_n (lv' := [(3, .int (nI ((sumF B f (k - f)) + (B k)))), (4, .int (nI k)), (0, .ref pp), (1, .int (nI f)), (2, .int (nI e9))]) hx hb d_Scr_sumOf_17 rfl hl (by decide) rfl (fun ls hl => ?_)
        refine lv_iinc (v := (nI (k + 1))) (lv' := [(4, .int (nI (k + 1))), (3, .int (nI ((sumF B f (k - f)) + (B k)))), (0, .ref pp), (1, .int (nI f)), (2, .int (nI e9))]) hx hb d_Scr_sumOf_18 hl (k := 1) rfl (nI_add k 1) (by decide) rfl (fun ls hl => ?_)
        refine lv_goto (tgt := 5) hx hb d_Scr_sumOf_21 (by decide) ?_
        rw [← sumF_s B hk0] at hl
        exact ih5 (k + 1) (by omega) (by omega) (by omega) _ _ _ hP hD hS (lv_sub hl [0, 1, 2, 3, 4] rfl)
  rw [show nI 0 = nI (sumF B f (f - f)) by rw [Nat.sub_self]; rfl] at hl
  exact lp_5 _ f (Nat.le_refl f) (h0) (Nat.lt_succ_self _) _ _ _ hP hD hS (lv_sub hl [0, 1, 2, 3, 4] rfl)
set_option maxHeartbeats 400000 in
set_option maxRecDepth 100000 in
theorem c_Feed_isFit (a : Nat) (se : Nat) (sn : Int64) (ca : Nat) (li : Nat) (co : Nat) (lo : Nat) (tw : Int32) (en : Int32) (lp : Nat) (nc : Nat) (ru : Nat) (kd : Nat) (hk : kd < 7) (hc : nc ≤ 1000) : CI (S := Unit) l classes NW D (TYS cI cZ cL cV) y_Feed_isFit (.code y_Feed_isFit b_Feed_isFit 2 (some .boolean) :: TB) { frames := 0, cells := 0, slots := 0, locals := 0 } [.ref a, .int (nI kd)] [(a, .inr (5, [.ref se, .long sn, .ref ca, .ref li, .ref co, .ref lo, .int tw, .int en])), (lo, .inr (4, [.ref lp, .int (nI nc), .int (nI ru)]))] (fun r u => r = nI ((fitC nc tw en kd).toNat)) (fun u => [(a, .inr (5, [.ref se, .long sn, .ref ca, .ref li, .ref co, .ref lo, .int tw, .int en])), (lo, .inr (4, [.ref lp, .int (nI nc), .int (nI ru)]))]) := by
  refine CI.of (by decide) (Nat.le_of_ble_eq_true rfl) ?_
  intro pr ev sT mM aR bW mE cO AA QQ ls Bd hG hA hP hD hS hl hret
  have Bd : bd pr cO b_Feed_isFit 2 sT aR TB "TileScreen$Feed" mM := Bd
  obtain ⟨hx, hb, hml, hown, htb⟩ := id Bd
  have hl : lv_has ls 2 [(0, .ref a), (1, .int (nI kd))] := hl
  refine lv_iload_n hx hb d_Feed_isFit_0 rfl (lv_at hl 1 rfl) ?_
  rcases (show kd = 0 ∨ kd = 1 ∨ kd = 2 ∨ kd = 3 ∨ kd = 4 ∨ kd = 5 ∨ kd = 6 by omega) with rfl | rfl | rfl | rfl | rfl | rfl | rfl
  · refine lv_tableIn (off := 35) (tgt := 36) hx hb d_Feed_isFit_1 (by decide) (by decide) (by decide) (by decide) ?_
    refine lv_aload_n hx hb d_Feed_isFit_36 rfl (lv_at hl 0 rfl) ?_
    refine va_get (D := D) (ci := 5) (v := .ref lo) (C := "TileScreen$Feed") (T := F_Feed) (N := 8) hx hb htb i_Feed hown hG.1 hP 0 rfl rfl 5 (by decide) (htb _ k_130) (fun _ h9 => h9) rfl d_Feed_isFit_37 ?_
    refine va_getN (D := D) (ci := 4) (v := .int (nI nc)) (C := "TileScreen$Look") (T := F_Look) (N := 3) hx hb htb i_Look hown hG.1 hP 1 rfl rfl 1 (by decide) (va_Nw.use rfl (hG.2 _ k_106).2) (fun _ h9 => h9) rfl d_Feed_isFit_40 ?_
    refine lv_iconst (v := nI 1) hx hb d_Feed_isFit_43 (by decide) ?_
    refine nv_icmp_ne (tgt := 51) hx hb d_Feed_isFit_44 (by decide) (by omega) (by omega) (fun c_44 => ?_) (fun c_44 => ?_)
    · refine lv_iconst (v := nI 0) hx hb d_Feed_isFit_51 (by decide) ?_
      exact hret _ () _ _ _ _ d_Feed_isFit_52 (by first | rfl | decide) (by rw [show fitC nc tw en 0 = false from beq_false_of_ne c_44]; rfl) hP hD hS
    · refine lv_iconst (v := nI 1) hx hb d_Feed_isFit_47 (by decide) ?_
      refine lv_goto (tgt := 52) hx hb d_Feed_isFit_48 (by decide) ?_
      exact hret _ () _ _ _ _ d_Feed_isFit_52 (by first | rfl | decide) (by rw [show fitC nc tw en 0 = true from beq_iff_eq.mpr c_44]; rfl) hP hD hS
  · refine lv_tableIn (off := 52) (tgt := 53) hx hb d_Feed_isFit_1 (by decide) (by decide) (by decide) (by decide) ?_
    refine lv_aload_n hx hb d_Feed_isFit_53 rfl (lv_at hl 0 rfl) ?_
    refine va_get (D := D) (ci := 5) (v := .int tw) (C := "TileScreen$Feed") (T := F_Feed) (N := 8) hx hb htb i_Feed hown hG.1 hP 0 rfl rfl 6 (by decide) (htb _ k_131) (fun _ h9 => h9) rfl d_Feed_isFit_54 ?_
    refine lv_iconst (v := -1) hx hb d_Feed_isFit_57 (by decide) ?_
    refine lv_icmp_eq (tgt := 65) hx hb d_Feed_isFit_58 (by decide) (fun c_58 => ?_) (fun c_58 => ?_)
    · refine lv_iconst (v := nI 0) hx hb d_Feed_isFit_65 (by decide) ?_
      exact hret _ () _ _ _ _ d_Feed_isFit_66 (by first | rfl | decide) (by rw [c_58]; rfl) hP hD hS
    · refine lv_iconst (v := nI 1) hx hb d_Feed_isFit_61 (by decide) ?_
      refine lv_goto (tgt := 66) hx hb d_Feed_isFit_62 (by decide) ?_
      exact hret _ () _ _ _ _ d_Feed_isFit_66 (by first | rfl | decide) (by rw [show fitC nc tw en 1 = true from bne_iff_ne.mpr c_58]; rfl) hP hD hS
  · refine lv_tableIn (off := 66) (tgt := 67) hx hb d_Feed_isFit_1 (by decide) (by decide) (by decide) (by decide) ?_
    refine lv_aload_n hx hb d_Feed_isFit_67 rfl (lv_at hl 0 rfl) ?_
    refine va_get (D := D) (ci := 5) (v := .int en) (C := "TileScreen$Feed") (T := F_Feed) (N := 8) hx hb htb i_Feed hown hG.1 hP 0 rfl rfl 7 (by decide) (htb _ k_132) (fun _ h9 => h9) rfl d_Feed_isFit_68 ?_
    refine lv_iconst (v := -1) hx hb d_Feed_isFit_71 (by decide) ?_
    refine lv_icmp_eq (tgt := 79) hx hb d_Feed_isFit_72 (by decide) (fun c_72 => ?_) (fun c_72 => ?_)
    · refine lv_iconst (v := nI 0) hx hb d_Feed_isFit_79 (by decide) ?_
      exact hret _ () _ _ _ _ d_Feed_isFit_80 (by first | rfl | decide) (by rw [c_72]; rfl) hP hD hS
    · refine lv_iconst (v := nI 1) hx hb d_Feed_isFit_75 (by decide) ?_
      refine lv_goto (tgt := 80) hx hb d_Feed_isFit_76 (by decide) ?_
      exact hret _ () _ _ _ _ d_Feed_isFit_80 (by first | rfl | decide) (by rw [show fitC nc tw en 2 = true from bne_iff_ne.mpr c_72]; rfl) hP hD hS
  · refine lv_tableIn (off := 80) (tgt := 81) hx hb d_Feed_isFit_1 (by decide) (by decide) (by decide) (by decide) ?_
    refine lv_aload_n hx hb d_Feed_isFit_81 rfl (lv_at hl 0 rfl) ?_
    refine va_get (D := D) (ci := 5) (v := .ref lo) (C := "TileScreen$Feed") (T := F_Feed) (N := 8) hx hb htb i_Feed hown hG.1 hP 0 rfl rfl 5 (by decide) (htb _ k_130) (fun _ h9 => h9) rfl d_Feed_isFit_82 ?_
    refine va_getN (D := D) (ci := 4) (v := .int (nI nc)) (C := "TileScreen$Look") (T := F_Look) (N := 3) hx hb htb i_Look hown hG.1 hP 1 rfl rfl 1 (by decide) (va_Nw.use rfl (hG.2 _ k_106).2) (fun _ h9 => h9) rfl d_Feed_isFit_85 ?_
    refine lv_iconst (v := nI 2) hx hb d_Feed_isFit_88 (by decide) ?_
    refine nv_icmp_ne (tgt := 96) hx hb d_Feed_isFit_89 (by decide) (by omega) (by omega) (fun c_89 => ?_) (fun c_89 => ?_)
    · refine lv_iconst (v := nI 0) hx hb d_Feed_isFit_96 (by decide) ?_
      exact hret _ () _ _ _ _ d_Feed_isFit_97 (by first | rfl | decide) (by rw [show fitC nc tw en 3 = false from beq_false_of_ne c_89]; rfl) hP hD hS
    · refine lv_iconst (v := nI 1) hx hb d_Feed_isFit_92 (by decide) ?_
      refine lv_goto (tgt := 97) hx hb d_Feed_isFit_93 (by decide) ?_
      exact hret _ () _ _ _ _ d_Feed_isFit_97 (by first | rfl | decide) (by rw [show fitC nc tw en 3 = true from beq_iff_eq.mpr c_89]; rfl) hP hD hS
  · refine lv_tableIn (off := 97) (tgt := 98) hx hb d_Feed_isFit_1 (by decide) (by decide) (by decide) (by decide) ?_
    refine lv_aload_n hx hb d_Feed_isFit_98 rfl (lv_at hl 0 rfl) ?_
    refine va_get (D := D) (ci := 5) (v := .ref lo) (C := "TileScreen$Feed") (T := F_Feed) (N := 8) hx hb htb i_Feed hown hG.1 hP 0 rfl rfl 5 (by decide) (htb _ k_130) (fun _ h9 => h9) rfl d_Feed_isFit_99 ?_
    refine va_getN (D := D) (ci := 4) (v := .int (nI nc)) (C := "TileScreen$Look") (T := F_Look) (N := 3) hx hb htb i_Look hown hG.1 hP 1 rfl rfl 1 (by decide) (va_Nw.use rfl (hG.2 _ k_106).2) (fun _ h9 => h9) rfl d_Feed_isFit_102 ?_
    refine lv_iconst (v := nI 3) hx hb d_Feed_isFit_105 (by decide) ?_
    refine nv_icmp_lt (tgt := 124) hx hb d_Feed_isFit_106 (by decide) (by omega) (by omega) (fun c_106 => ?_) (fun c_106 => ?_)
    · refine lv_iconst (v := nI 0) hx hb d_Feed_isFit_124 (by decide) ?_
      exact hret _ () _ _ _ _ d_Feed_isFit_125 (by first | rfl | decide) (by rw [show fitC nc tw en 4 = false by simp only [fitC]; rw [beq_false_of_ne (show nc ≠ 3 by omega), beq_false_of_ne (show nc ≠ 4 by omega)]; rfl]; rfl) hP hD hS
    · refine lv_aload_n hx hb d_Feed_isFit_109 rfl (lv_at hl 0 rfl) ?_
      refine va_get (D := D) (ci := 5) (v := .ref lo) (C := "TileScreen$Feed") (T := F_Feed) (N := 8) hx hb htb i_Feed hown hG.1 hP 0 rfl rfl 5 (by decide) (htb _ k_130) (fun _ h9 => h9) rfl d_Feed_isFit_110 ?_
      refine va_getN (D := D) (ci := 4) (v := .int (nI nc)) (C := "TileScreen$Look") (T := F_Look) (N := 3) hx hb htb i_Look hown hG.1 hP 1 rfl rfl 1 (by decide) (va_Nw.use rfl (hG.2 _ k_106).2) (fun _ h9 => h9) rfl d_Feed_isFit_113 ?_
      refine lv_iconst (v := nI 4) hx hb d_Feed_isFit_116 (by decide) ?_
      refine nv_icmp_gt (tgt := 124) hx hb d_Feed_isFit_117 (by decide) (by omega) (by omega) (fun c_117 => ?_) (fun c_117 => ?_)
      · refine lv_iconst (v := nI 0) hx hb d_Feed_isFit_124 (by decide) ?_
        exact hret _ () _ _ _ _ d_Feed_isFit_125 (by first | rfl | decide) (by rw [show fitC nc tw en 4 = false by simp only [fitC]; rw [beq_false_of_ne (show nc ≠ 3 by omega), beq_false_of_ne (show nc ≠ 4 by omega)]; rfl]; rfl) hP hD hS
      · refine lv_iconst (v := nI 1) hx hb d_Feed_isFit_120 (by decide) ?_
        refine lv_goto (tgt := 125) hx hb d_Feed_isFit_121 (by decide) ?_
        exact hret _ () _ _ _ _ d_Feed_isFit_125 (by first | rfl | decide) (by rcases (show nc = 3 ∨ nc = 4 by omega) with rfl | rfl <;> rfl) hP hD hS
  · refine lv_tableOut (tgt := 126) hx hb d_Feed_isFit_1 (Or.inr (by decide)) (by decide) ?_
    refine lv_iconst (v := nI 1) hx hb d_Feed_isFit_126 (by decide) ?_
    exact hret _ () _ _ _ _ d_Feed_isFit_127 (by first | rfl | decide) (rfl) hP hD hS
  · refine lv_tableOut (tgt := 126) hx hb d_Feed_isFit_1 (Or.inr (by decide)) (by decide) ?_
    refine lv_iconst (v := nI 1) hx hb d_Feed_isFit_126 (by decide) ?_
    exact hret _ () _ _ _ _ d_Feed_isFit_127 (by first | rfl | decide) (rfl) hP hD hS
set_option maxHeartbeats 400000 in
set_option maxRecDepth 100000 in
theorem c_Feed_lengthOf (a : Nat) (se : Nat) (sn : Int64) (ca : Nat) (li : Nat) (co : Nat) (lo : Nat) (tw : Int32) (en : Int32) (lp : Nat) (nc : Nat) (ru : Nat) (kd : Nat) (hk : kd < 7) : CI (S := Unit) l classes NW D (TYS cI cZ cL cV) y_Feed_lengthOf (.code y_Feed_lengthOf b_Feed_lengthOf 2 (some .int) :: TB) { frames := 0, cells := 0, slots := 0, locals := 0 } [.ref a, .int (nI kd)] [(a, .inr (5, [.ref se, .long sn, .ref ca, .ref li, .ref co, .ref lo, .int tw, .int en])), (lo, .inr (4, [.ref lp, .int (nI nc), .int (nI ru)]))] (fun r u => r = nI (lenC nc ru kd)) (fun u => [(a, .inr (5, [.ref se, .long sn, .ref ca, .ref li, .ref co, .ref lo, .int tw, .int en])), (lo, .inr (4, [.ref lp, .int (nI nc), .int (nI ru)]))]) := by
  refine CI.of (by decide) (Nat.le_of_ble_eq_true rfl) ?_
  intro pr ev sT mM aR bW mE cO AA QQ ls Bd hG hA hP hD hS hl hret
  have Bd : bd pr cO b_Feed_lengthOf 2 sT aR TB "TileScreen$Feed" mM := Bd
  obtain ⟨hx, hb, hml, hown, htb⟩ := id Bd
  have hl : lv_has ls 2 [(0, .ref a), (1, .int (nI kd))] := hl
  refine lv_iload_n hx hb d_Feed_lengthOf_0 rfl (lv_at hl 1 rfl) ?_
  rcases (show kd = 0 ∨ kd = 1 ∨ kd = 2 ∨ kd = 3 ∨ kd = 4 ∨ kd = 5 ∨ kd = 6 by omega) with rfl | rfl | rfl | rfl | rfl | rfl | rfl
  · refine lv_tableIn (off := 39) (tgt := 40) hx hb d_Feed_lengthOf_1 (by decide) (by decide) (by decide) (by decide) ?_
    refine lv_iconst (v := nI 2) hx hb d_Feed_lengthOf_40 (by decide) ?_
    exact hret _ () _ _ _ _ d_Feed_lengthOf_41 rfl (rfl) hP hD hS
  · refine lv_tableIn (off := 41) (tgt := 42) hx hb d_Feed_lengthOf_1 (by decide) (by decide) (by decide) (by decide) ?_
    refine lv_iconst (v := nI 1) hx hb d_Feed_lengthOf_42 (by decide) ?_
    exact hret _ () _ _ _ _ d_Feed_lengthOf_43 rfl (rfl) hP hD hS
  · refine lv_tableIn (off := 41) (tgt := 42) hx hb d_Feed_lengthOf_1 (by decide) (by decide) (by decide) (by decide) ?_
    refine lv_iconst (v := nI 1) hx hb d_Feed_lengthOf_42 (by decide) ?_
    exact hret _ () _ _ _ _ d_Feed_lengthOf_43 rfl (rfl) hP hD hS
  · refine lv_tableIn (off := 43) (tgt := 44) hx hb d_Feed_lengthOf_1 (by decide) (by decide) (by decide) (by decide) ?_
    refine lv_bipush (v := nI 12) hx hb d_Feed_lengthOf_44 (by decide) ?_
    exact hret _ () _ _ _ _ d_Feed_lengthOf_46 rfl (rfl) hP hD hS
  · refine lv_tableIn (off := 46) (tgt := 47) hx hb d_Feed_lengthOf_1 (by decide) (by decide) (by decide) (by decide) ?_
    refine lv_iconst (v := nI 1) hx hb d_Feed_lengthOf_47 (by decide) ?_
    refine lv_iconst (v := nI 2) hx hb d_Feed_lengthOf_48 (by decide) ?_
    refine lv_aload_n hx hb d_Feed_lengthOf_49 rfl (lv_at hl 0 rfl) ?_
    refine va_get (D := D) (ci := 5) (v := .ref lo) (C := "TileScreen$Feed") (T := F_Feed) (N := 8) hx hb htb i_Feed hown hG.1 hP 0 rfl rfl 5 (by decide) (htb _ k_130) (fun _ h9 => h9) rfl d_Feed_lengthOf_50 ?_
    refine va_getN (D := D) (ci := 4) (v := .int (nI nc)) (C := "TileScreen$Look") (T := F_Look) (N := 3) hx hb htb i_Look hown hG.1 hP 1 rfl rfl 1 (by decide) (va_Nw.use rfl (hG.2 _ k_106).2) (fun _ h9 => h9) rfl d_Feed_lengthOf_53 ?_
    refine nv_imul hx hb d_Feed_lengthOf_56 ?_
    refine nv_iadd hx hb d_Feed_lengthOf_57 ?_
    refine lv_bipush (v := nI 16) hx hb d_Feed_lengthOf_58 (by decide) ?_
    refine nv_iadd hx hb d_Feed_lengthOf_60 ?_
    exact hret _ () _ _ _ _ d_Feed_lengthOf_61 rfl (rfl) hP hD hS
  · refine lv_tableIn (off := 61) (tgt := 62) hx hb d_Feed_lengthOf_1 (by decide) (by decide) (by decide) (by decide) ?_
    refine lv_iconst (v := nI 1) hx hb d_Feed_lengthOf_62 (by decide) ?_
    refine lv_iconst (v := nI 3) hx hb d_Feed_lengthOf_63 (by decide) ?_
    refine lv_aload_n hx hb d_Feed_lengthOf_64 rfl (lv_at hl 0 rfl) ?_
    refine va_get (D := D) (ci := 5) (v := .ref lo) (C := "TileScreen$Feed") (T := F_Feed) (N := 8) hx hb htb i_Feed hown hG.1 hP 0 rfl rfl 5 (by decide) (htb _ k_130) (fun _ h9 => h9) rfl d_Feed_lengthOf_65 ?_
    refine va_getN (D := D) (ci := 4) (v := .int (nI ru)) (C := "TileScreen$Look") (T := F_Look) (N := 3) hx hb htb i_Look hown hG.1 hP 1 rfl rfl 2 (by decide) (va_Nw.use rfl (hG.2 _ k_108).2) (fun _ h9 => h9) rfl d_Feed_lengthOf_68 ?_
    refine nv_imul hx hb d_Feed_lengthOf_71 ?_
    refine nv_iadd hx hb d_Feed_lengthOf_72 ?_
    exact hret _ () _ _ _ _ d_Feed_lengthOf_73 rfl (rfl) hP hD hS
  · refine lv_tableOut (tgt := 74) hx hb d_Feed_lengthOf_1 (Or.inr (by decide)) (by decide) ?_
    refine lv_sipush (v := nI 128) hx hb d_Feed_lengthOf_74 (by decide) ?_
    exact hret _ () _ _ _ _ d_Feed_lengthOf_77 rfl (rfl) hP hD hS
set_option maxHeartbeats 400000 in
set_option maxRecDepth 100000 in
theorem c_Feed_chooseKind (a : Nat) (se : Nat) (sn : Int64) (ca : Nat) (li : Nat) (co : Nat) (lo : Nat) (tw : Int32) (en : Int32) (lp : Nat) (nc : Nat) (ru : Nat) (hc : nc ≤ 1000) (hr9 : ru ≤ 1000) : CI (S := Nat) l classes NW D (TYS cI cZ cL cV) y_Feed_chooseKind (.code y_Feed_chooseKind b_Feed_chooseKind 3 (some .int) :: TB) { frames := 1, cells := 0, slots := 0, locals := 21 } [.ref a] [(a, .inr (5, [.ref se, .long sn, .ref ca, .ref li, .ref co, .ref lo, .int tw, .int en])), (lo, .inr (4, [.ref lp, .int (nI nc), .int (nI ru)]))] (fun r u => r = nI u ∧ isBest (fitC nc tw en) (lenC nc ru) u) (fun u => [(a, .inr (5, [.ref se, .long sn, .ref ca, .ref li, .ref co, .ref lo, .int tw, .int en])), (lo, .inr (4, [.ref lp, .int (nI nc), .int (nI ru)]))]) := by
  refine CI.of (by decide) (Nat.le_of_ble_eq_true rfl) ?_
  intro pr ev sT mM aR bW mE cO AA QQ ls Bd hG hA hP hD hS hl hret
  have Bd : bd pr cO b_Feed_chooseKind 3 sT aR TB "TileScreen$Feed" mM := Bd
  obtain ⟨hx, hb, hml, hown, htb⟩ := id Bd
  have hl : lv_has ls 3 [(0, .ref a)] := hl
  refine lv_bipush (v := nI 6) hx hb d_Feed_chooseKind_0 (by decide) ?_
  refine lv_istore_n (lv' := [(1, .int (nI 6)), (0, .ref a)]) hx hb d_Feed_chooseKind_2 rfl hl (by decide) rfl (fun ls hl => ?_)
  refine lv_bipush (v := nI 6) hx hb d_Feed_chooseKind_3 (by decide) ?_
  refine lv_istore_n (lv' := [(2, .int (nI 6)), (1, .int (nI 6)), (0, .ref a)]) hx hb d_Feed_chooseKind_5 rfl hl (by decide) rfl (fun ls hl => ?_)
  have lp_6 : ∀ (nn : Nat) (k9 : Nat) (z : Nat) (hb1 : z < 7) (hb2 : fitC nc tw en z = true) (hb3 : ∀ j, k9 ≤ j → j < 7 → fitC nc tw en j = true → lenC nc ru z < lenC nc ru j ∨ (lenC nc ru z = lenC nc ru j ∧ z ≤ j)) (hk9 : k9 ≤ 7) (hz : k9 ≤ z ∨ z = 6), k9 < nn → ∀ (H : Heap) (locs : List Loc) (ls : Array Slot), va_P D classes [(a, .inr (5, [.ref se, .long sn, .ref ca, .ref li, .ref co, .ref lo, .int tw, .int en])), (lo, .inr (4, [.ref lp, .int (nI nc), .int (nI ru)]))] H → va_D AA [(a, .inr (5, [.ref se, .long sn, .ref ca, .ref li, .ref co, .ref lo, .int tw, .int en])), (lo, .inr (4, [.ref lp, .int (nI nc), .int (nI ru)]))] → va_S AA sT.heap H locs → lv_has ls 3 [(2, .int (nI k9 + (-1))), (1, .int (nI z)), (0, .ref a)] → W pr l ev ({ frames := 1, cells := 0, slots := 0, locals := 21 } : Room) sT mM aR bW mE cO H locs 0 0 QQ (F0 mM 6 ls []) := by
    intro nn
    induction nn with
    | zero => intro k9 z hb1 hb2 hb3 hk9 hz hm; exact absurd hm (Nat.not_lt_zero _)
    | succ nn ih6 =>
      intro k9 z hb1 hb2 hb3 hk9 hz hm H locs ls hP hD hS hl
      refine lv_iload_n hx hb d_Feed_chooseKind_6 rfl (lv_at hl 0 rfl) ?_
      refine lv_if_lt (tgt := 39) hx hb d_Feed_chooseKind_7 (by decide) (fun c_7 => ?_) (fun c_7 => ?_)
      · refine lv_iload_n hx hb d_Feed_chooseKind_39 rfl (lv_at hl 1 rfl) ?_
        exact hret _ z _ _ _ _ d_Feed_chooseKind_40 rfl (⟨rfl, hb1, hb2, fun j h7 hf => hb3 j (by rw [show k9 = 0 by rcases Nat.eq_zero_or_pos k9 with q | q; exact q; (obtain ⟨k, rfl⟩ : ∃ k, k9 = k + 1 := ⟨k9 - 1, by omega⟩); rw [pk_m1] at c_7; exact absurd c_7 (nI_pos (by omega))]; exact Nat.zero_le j) h7 hf⟩) hP hD hS
      · obtain ⟨k, rfl⟩ : ∃ k, k9 = k + 1 := ⟨k9 - 1, by rcases Nat.eq_zero_or_pos k9 with q | q; (rw [q] at c_7; exact absurd (by decide) c_7); omega⟩
        rw [pk_m1] at hl
        refine lv_aload_n hx hb d_Feed_chooseKind_10 rfl (lv_at hl 2 rfl) ?_
        refine lv_iload_n hx hb d_Feed_chooseKind_11 rfl (lv_at hl 0 rfl) ?_
        refine kV_i (wc := [(a, .inr (5, [.ref se, .long sn, .ref ca, .ref li, .ref co, .ref lo, .int tw, .int en])), (lo, .inr (4, [.ref lp, .int (nI nc), .int (nI ru)]))]) (wr := []) (w2 := fun _ => [(a, .inr (5, [.ref se, .long sn, .ref ca, .ref li, .ref co, .ref lo, .int tw, .int en])), (lo, .inr (4, [.ref lp, .int (nI nc), .int (nI ru)]))]) [.int (nI k)] [] Bd ⟨gi_app (gi_c0 k_383 (gi_c0 k_385 (gi_c0 s_3 (gi_c0 k_4 gi_nil)))) (gi_tb0 k_386), rfl, by decide, by decide⟩ (show (parseMethodDescriptor "(I)Z").map (fun d => d.parameters.length) = some 1 by decide +kernel) (c_Feed_isFit a se sn ca li co lo tw en lp nc ru k (by omega) (by omega)) (by decide +kernel) ⟨Nat.le_of_ble_eq_true rfl, Nat.le_of_ble_eq_true rfl⟩ hG hP hD hS hA [0, 1] [] [0, 1] (by decide) rfl rfl (fun _ => rfl) (q0 := 0) rfl rfl rfl hl.1 rfl (Nat.le_of_ble_eq_true rfl) d_Feed_chooseKind_12 (fun r2 u4 H locs hp3 hP hD hS => ?_)
        have hP : va_P D classes [(a, .inr (5, [.ref se, .long sn, .ref ca, .ref li, .ref co, .ref lo, .int tw, .int en])), (lo, .inr (4, [.ref lp, .int (nI nc), .int (nI ru)]))] H := hP
        have hD : va_D AA [(a, .inr (5, [.ref se, .long sn, .ref ca, .ref li, .ref co, .ref lo, .int tw, .int en])), (lo, .inr (4, [.ref lp, .int (nI nc), .int (nI ru)]))] := hD
        subst hp3
        refine nv_if_eq (tgt := 33) hx hb d_Feed_chooseKind_15 (by decide) (bt_lt _) (fun c_15 => ?_) (fun c_15 => ?_)
        · refine lv_iinc (v := ((nI k) + (-1))) (lv' := [(2, .int ((nI k) + (-1))), (1, .int (nI z)), (0, .ref a)]) hx hb d_Feed_chooseKind_33 hl (k := 0) rfl (rfl) (by decide) rfl (fun ls hl => ?_)
          refine lv_goto (tgt := 6) hx hb d_Feed_chooseKind_36 (by decide) ?_
          exact ih6 k z (by omega) (hb2) (fun j hj h7 hf => (show j = k ∨ k + 1 ≤ j by omega).elim (fun q => by rw [q, bt0 c_15] at hf; exact absurd hf (by decide)) (fun q => hb3 j q h7 hf)) (by omega) (by omega) (by omega) _ _ _ hP hD hS (lv_sub hl [0, 1, 2] rfl)
        · refine lv_aload_n hx hb d_Feed_chooseKind_18 rfl (lv_at hl 2 rfl) ?_
          refine lv_iload_n hx hb d_Feed_chooseKind_19 rfl (lv_at hl 0 rfl) ?_
          refine kV_i (wc := [(a, .inr (5, [.ref se, .long sn, .ref ca, .ref li, .ref co, .ref lo, .int tw, .int en])), (lo, .inr (4, [.ref lp, .int (nI nc), .int (nI ru)]))]) (wr := []) (w2 := fun _ => [(a, .inr (5, [.ref se, .long sn, .ref ca, .ref li, .ref co, .ref lo, .int tw, .int en])), (lo, .inr (4, [.ref lp, .int (nI nc), .int (nI ru)]))]) [.int (nI k)] [] Bd ⟨gi_app (gi_c0 k_387 (gi_c0 k_389 (gi_c0 s_4 (gi_c0 k_4 gi_nil)))) (gi_tb0 k_390), rfl, by decide, by decide⟩ (show (parseMethodDescriptor "(I)I").map (fun d => d.parameters.length) = some 1 by decide +kernel) (c_Feed_lengthOf a se sn ca li co lo tw en lp nc ru k (by omega)) (by decide +kernel) ⟨Nat.le_of_ble_eq_true rfl, Nat.le_of_ble_eq_true rfl⟩ hG hP hD hS hA [0, 1] [] [0, 1] (by decide) rfl rfl (fun _ => rfl) (q0 := 0) rfl rfl rfl hl.1 rfl (Nat.le_of_ble_eq_true rfl) d_Feed_chooseKind_20 (fun r5 u7 H locs hp6 hP hD hS => ?_)
          have hP : va_P D classes [(a, .inr (5, [.ref se, .long sn, .ref ca, .ref li, .ref co, .ref lo, .int tw, .int en])), (lo, .inr (4, [.ref lp, .int (nI nc), .int (nI ru)]))] H := hP
          have hD : va_D AA [(a, .inr (5, [.ref se, .long sn, .ref ca, .ref li, .ref co, .ref lo, .int tw, .int en])), (lo, .inr (4, [.ref lp, .int (nI nc), .int (nI ru)]))] := hD
          subst hp6
          refine lv_aload_n hx hb d_Feed_chooseKind_23 rfl (lv_at hl 2 rfl) ?_
          refine lv_iload_n hx hb d_Feed_chooseKind_24 rfl (lv_at hl 1 rfl) ?_
          refine kV_i (wc := [(a, .inr (5, [.ref se, .long sn, .ref ca, .ref li, .ref co, .ref lo, .int tw, .int en])), (lo, .inr (4, [.ref lp, .int (nI nc), .int (nI ru)]))]) (wr := []) (w2 := fun _ => [(a, .inr (5, [.ref se, .long sn, .ref ca, .ref li, .ref co, .ref lo, .int tw, .int en])), (lo, .inr (4, [.ref lp, .int (nI nc), .int (nI ru)]))]) [.int (nI z)] [.int (nI (lenC nc ru k))] Bd ⟨gi_app (gi_c0 k_387 (gi_c0 k_389 (gi_c0 s_4 (gi_c0 k_4 gi_nil)))) (gi_tb0 k_390), rfl, by decide, by decide⟩ (show (parseMethodDescriptor "(I)I").map (fun d => d.parameters.length) = some 1 by decide +kernel) (c_Feed_lengthOf a se sn ca li co lo tw en lp nc ru z (by omega)) (by decide +kernel) ⟨Nat.le_of_ble_eq_true rfl, Nat.le_of_ble_eq_true rfl⟩ hG hP hD hS hA [0, 1] [] [0, 1] (by decide) rfl rfl (fun _ => rfl) (q0 := 0) rfl rfl rfl hl.1 rfl (Nat.le_of_ble_eq_true rfl) d_Feed_chooseKind_25 (fun r8 u10 H locs hp9 hP hD hS => ?_)
          have hP : va_P D classes [(a, .inr (5, [.ref se, .long sn, .ref ca, .ref li, .ref co, .ref lo, .int tw, .int en])), (lo, .inr (4, [.ref lp, .int (nI nc), .int (nI ru)]))] H := hP
          have hD : va_D AA [(a, .inr (5, [.ref se, .long sn, .ref ca, .ref li, .ref co, .ref lo, .int tw, .int en])), (lo, .inr (4, [.ref lp, .int (nI nc), .int (nI ru)]))] := hD
          subst hp9
          refine nv_icmp_gt (tgt := 33) hx hb d_Feed_chooseKind_28 (by decide) (ln_lt hc hr9) (ln_lt hc hr9) (fun c_28 => ?_) (fun c_28 => ?_)
          · refine lv_iinc (v := ((nI k) + (-1))) (lv' := [(2, .int ((nI k) + (-1))), (1, .int (nI z)), (0, .ref a)]) hx hb d_Feed_chooseKind_33 hl (k := 0) rfl (rfl) (by decide) rfl (fun ls hl => ?_)
            refine lv_goto (tgt := 6) hx hb d_Feed_chooseKind_36 (by decide) ?_
            exact ih6 k z (by omega) (hb2) (fun j hj h7 hf => (show j = k ∨ k + 1 ≤ j by omega).elim (fun q => by rw [q]; exact Or.inl c_28) (fun q => hb3 j q h7 hf)) (by omega) (by omega) (by omega) _ _ _ hP hD hS (lv_sub hl [0, 1, 2] rfl)
          · refine lv_iload_n hx hb d_Feed_chooseKind_31 rfl (lv_at hl 0 rfl) ?_
            refine lv_istore_n (lv' := [(1, .int (nI k)), (2, .int (nI k)), (0, .ref a)]) hx hb d_Feed_chooseKind_32 rfl hl (by decide) rfl (fun ls hl => ?_)
            refine lv_iinc (v := ((nI k) + (-1))) (lv' := [(2, .int ((nI k) + (-1))), (1, .int (nI k)), (0, .ref a)]) hx hb d_Feed_chooseKind_33 hl (k := 1) rfl (rfl) (by decide) rfl (fun ls hl => ?_)
            refine lv_goto (tgt := 6) hx hb d_Feed_chooseKind_36 (by decide) ?_
            exact ih6 k k (by omega) (bt1 c_15) (fun j hj h7 hf => (show j = k ∨ k + 1 ≤ j by omega).elim (fun q => by rw [q]; exact Or.inr ⟨rfl, Nat.le_refl _⟩) (fun q => by have := hb3 j q h7 hf; omega)) (by omega) (by omega) (by omega) _ _ _ hP hD hS (lv_sub hl [0, 1, 2] rfl)
  exact lp_6 _ 7 6 (by decide) (rfl) (fun j h1 h2 _ => absurd h1 (by omega)) (by decide) (Or.inr rfl) (Nat.lt_succ_self _) _ _ _ hP hD hS (lv_sub hl [0, 1, 2] rfl)
end
