section
variable {l : Launch} {D : va_G} {cI cZ cL cV : ClassId}
set_option maxHeartbeats 400000 in
set_option maxRecDepth 100000 in
theorem c_Look_indexOf (a : Nat) (pp : Nat) (nc : Nat) (ru : Nat) (P : Nat → Nat) (x : Nat) (bP : ∀ j, P j < 65536) (hx1 : x < 65536) (hc : nc ≤ 1000) : CI (S := Unit) l classes NW D (TYS cI cZ cL cV) y_Look_indexOf (.code y_Look_indexOf b_Look_indexOf 3 (some .int) :: TB) { frames := 0, cells := 0, slots := 0, locals := 0 } [.ref a, .int (nI x)] [(a, .inr (4, [.ref pp, .int (nI nc), .int (nI ru)])), (pp, .inl (cI, 4, .inl (nF P)))] (fun r u => isFind (fun i => P i == x) (min nc 4) r) (fun u => [(a, .inr (4, [.ref pp, .int (nI nc), .int (nI ru)])), (pp, .inl (cI, 4, .inl (nF P)))]) := by
  refine CI.of (by decide) (Nat.le_of_ble_eq_true rfl) ?_
  intro pr ev sT mM aR bW mE cO AA QQ ls Bd hG hA hP hD hS hl hret
  have Bd : bd pr cO b_Look_indexOf 3 sT aR TB "TileScreen$Look" mM := Bd
  obtain ⟨hx, hb, hml, hown, htb⟩ := id Bd
  have hl : lv_has ls 3 [(0, .ref a), (1, .int (nI x))] := hl
  refine lv_iconst (v := nI 0) hx hb d_Look_indexOf_0 (by decide) ?_
  refine lv_istore_n (lv' := [(2, .int (nI 0)), (0, .ref a), (1, .int (nI x))]) hx hb d_Look_indexOf_1 rfl hl (by decide) rfl (fun ls hl => ?_)
  have lp_2 : ∀ (nn : Nat) (k : Nat) (hk : k ≤ min nc 4) (hs : ∀ i, i < k → (P i == x) = false), 4 - k < nn → ∀ (H : Heap) (locs : List Loc) (ls : Array Slot), va_P D classes [(a, .inr (4, [.ref pp, .int (nI nc), .int (nI ru)])), (pp, .inl (cI, 4, .inl (nF P)))] H → va_D AA [(a, .inr (4, [.ref pp, .int (nI nc), .int (nI ru)])), (pp, .inl (cI, 4, .inl (nF P)))] → va_S AA sT.heap H locs → lv_has ls 3 [(2, .int (nI k)), (0, .ref a), (1, .int (nI x))] → W pr l ev ({ frames := 0, cells := 0, slots := 0, locals := 0 } : Room) sT mM aR bW mE cO H locs 0 0 QQ (F0 mM 2 ls []) := by
    intro nn
    induction nn with
    | zero => intro k hk hs hm; exact absurd hm (Nat.not_lt_zero _)
    | succ nn ih2 =>
      intro k hk hs hm H locs ls hP hD hS hl
      refine lv_iload_n hx hb d_Look_indexOf_2 rfl (lv_at hl 0 rfl) ?_
      refine lv_aload_n hx hb d_Look_indexOf_3 rfl (lv_at hl 1 rfl) ?_
      refine va_get (D := D) (ci := 4) (v := .int (nI nc)) (C := "TileScreen$Look") (T := F_Look) (N := 3) hx hb htb i_Look hown hG.1 hP 0 rfl rfl 1 (by decide) (htb _ k_105) (fun _ h9 => h9) rfl d_Look_indexOf_4 ?_
      refine nv_icmp_ge (tgt := 33) hx hb d_Look_indexOf_7 (by decide) (by omega) (by omega) (fun c_7 => ?_) (fun c_7 => ?_)
      · refine lv_iconst (v := -1) hx hb d_Look_indexOf_33 (by decide) ?_
        exact hret _ () _ _ _ _ d_Look_indexOf_34 rfl (Or.inl ⟨rfl, fun i hi => hs i (by omega)⟩) hP hD hS
      · refine lv_iload_n hx hb d_Look_indexOf_10 rfl (lv_at hl 0 rfl) ?_
        refine lv_iconst (v := nI 4) hx hb d_Look_indexOf_11 (by decide) ?_
        refine nv_icmp_ge (tgt := 33) hx hb d_Look_indexOf_12 (by decide) (by omega) (by omega) (fun c_12 => ?_) (fun c_12 => ?_)
        · refine lv_iconst (v := -1) hx hb d_Look_indexOf_33 (by decide) ?_
          exact hret _ () _ _ _ _ d_Look_indexOf_34 rfl (Or.inl ⟨rfl, fun i hi => hs i (by omega)⟩) hP hD hS
        · refine lv_aload_n hx hb d_Look_indexOf_15 rfl (lv_at hl 1 rfl) ?_
          refine va_get (D := D) (ci := 4) (v := .ref pp) (C := "TileScreen$Look") (T := F_Look) (N := 3) hx hb htb i_Look hown hG.1 hP 0 rfl rfl 0 (by decide) (htb _ k_103) (fun _ h9 => h9) rfl d_Look_indexOf_16 ?_
          refine lv_iload_n hx hb d_Look_indexOf_19 rfl (lv_at hl 0 rfl) ?_
          refine nv_iald hx hb hG.1 hP 1 0 rfl rfl (by omega) (by omega) d_Look_indexOf_20 ?_
          refine lv_iload_n hx hb d_Look_indexOf_21 rfl (lv_at hl 2 rfl) ?_
          refine nv_icmp_ne (tgt := 27) hx hb d_Look_indexOf_22 (by decide) (Nat.lt_trans (bP k) (by decide)) (Nat.lt_trans hx1 (by decide)) (fun c_22 => ?_) (fun c_22 => ?_)
          · refine lv_iinc (v := (nI (k + 1))) (lv' := [(2, .int (nI (k + 1))), (0, .ref a), (1, .int (nI x))]) hx hb d_Look_indexOf_27 hl (k := 0) rfl (nI_add k 1) (by decide) rfl (fun ls hl => ?_)
            refine lv_goto (tgt := 2) hx hb d_Look_indexOf_30 (by decide) ?_
            exact ih2 (k + 1) (by omega) (fun j hj => by rcases (show j < k ∨ j = k by omega) with q | q; exact hs j q; rw [q]; exact beq_false_of_ne c_22) (by omega) _ _ _ hP hD hS (lv_sub hl [0, 1, 2] rfl)
          · refine lv_iload_n hx hb d_Look_indexOf_25 rfl (lv_at hl 0 rfl) ?_
            exact hret _ () _ _ _ _ d_Look_indexOf_26 rfl (Or.inr ⟨k, by omega, rfl, beq_iff_eq.mpr c_22, hs⟩) hP hD hS
  exact lp_2 _ 0 (Nat.zero_le _) (fun j hj => absurd hj (Nat.not_lt_zero j)) (Nat.lt_succ_self _) _ _ _ hP hD hS (lv_sub hl [0, 1, 2] rfl)
set_option maxHeartbeats 400000 in
set_option maxRecDepth 100000 in
theorem c_Look_meet (a : Nat) (pp : Nat) (nc : Nat) (ru : Nat) (P : Nat → Nat) (x : Nat) (bP : ∀ j, P j < 65536) (hx1 : x < 65536) (hc : nc ≤ 1000) : CV (S := Unit) l classes NW D (TYS cI cZ cL cV) y_Look_meet (.code y_Look_meet b_Look_meet 2 none :: TB) { frames := 1, cells := 0, slots := 0, locals := 22 } [.ref a, .int (nI x)] [(a, .inr (4, [.ref pp, .int (nI nc), .int (nI ru)])), (pp, .inl (cI, 4, .inl (nF P)))] (fun u => True) (fun u => [(a, .inr (4, [.ref pp, .int (nI (meN P nc x)), .int (nI ru)])), (pp, .inl (cI, 4, .inl (nF (meP P nc x))))]) := by
  refine CV.of (by decide) (Nat.le_of_ble_eq_true rfl) ?_
  intro pr ev sT mM aR bW mE cO AA QQ ls Bd hG hA hP hD hS hl hnm hret
  have Bd : bd pr cO b_Look_meet 2 sT aR TB "TileScreen$Look" mM := Bd
  obtain ⟨hx, hb, hml, hown, htb⟩ := id Bd
  have hl : lv_has ls 2 [(0, .ref a), (1, .int (nI x))] := hl
  refine lv_aload_n hx hb d_Look_meet_0 rfl (lv_at hl 0 rfl) ?_
  refine lv_iload_n hx hb d_Look_meet_1 rfl (lv_at hl 1 rfl) ?_
  refine kV_i (wc := [(a, .inr (4, [.ref pp, .int (nI nc), .int (nI ru)])), (pp, .inl (cI, 4, .inl (nF P)))]) (wr := []) (w2 := fun _ => [(a, .inr (4, [.ref pp, .int (nI nc), .int (nI ru)])), (pp, .inl (cI, 4, .inl (nF P)))]) [.int (nI x)] [] Bd ⟨gi_app (gi_c0 k_370 (gi_c0 k_371 (gi_c0 k_372 (gi_c0 k_7 gi_nil)))) (gi_tb0 k_373), rfl, by decide, by decide⟩ (show (parseMethodDescriptor "(I)I").map (fun d => d.parameters.length) = some 1 by decide +kernel) (c_Look_indexOf a pp nc ru P x (bP) (hx1) (by omega)) (by decide +kernel) ⟨Nat.le_of_ble_eq_true rfl, Nat.le_of_ble_eq_true rfl⟩ hG hP hD hS hA [0, 1] [] [0, 1] (by decide) rfl rfl (fun _ => rfl) (q0 := 0) rfl rfl rfl hl.1 rfl (Nat.le_of_ble_eq_true rfl) d_Look_meet_2 (fun r1 u3 H locs hp2 hP hD hS => ?_)
  have hP : va_P D classes [(a, .inr (4, [.ref pp, .int (nI nc), .int (nI ru)])), (pp, .inl (cI, 4, .inl (nF P)))] H := hP
  have hD : va_D AA [(a, .inr (4, [.ref pp, .int (nI nc), .int (nI ru)])), (pp, .inl (cI, 4, .inl (nF P)))] := hD
  refine lv_iconst (v := -1) hx hb d_Look_meet_5 (by decide) ?_
  refine lv_icmp_eq (tgt := 10) hx hb d_Look_meet_6 (by decide) (fun c_6 => ?_) (fun c_6 => ?_)
  · refine lv_aload_n hx hb d_Look_meet_10 rfl (lv_at hl 0 rfl) ?_
    refine va_get (D := D) (ci := 4) (v := .int (nI nc)) (C := "TileScreen$Look") (T := F_Look) (N := 3) hx hb htb i_Look hown hG.1 hP 0 rfl rfl 1 (by decide) (htb _ k_105) (fun _ h9 => h9) rfl d_Look_meet_11 ?_
    refine lv_iconst (v := nI 4) hx hb d_Look_meet_14 (by decide) ?_
    refine nv_icmp_ge (tgt := 28) hx hb d_Look_meet_15 (by decide) (by omega) (by omega) (fun c_15 => ?_) (fun c_15 => ?_)
    · refine lv_aload_n hx hb d_Look_meet_28 rfl (lv_at hl 0 rfl) ?_
      refine lv_dup hx hb d_Look_meet_29 rfl ?_
      refine va_get (D := D) (ci := 4) (v := .int (nI nc)) (C := "TileScreen$Look") (T := F_Look) (N := 3) hx hb htb i_Look hown hG.1 hP 0 rfl rfl 1 (by decide) (htb _ k_105) (fun _ h9 => h9) rfl d_Look_meet_30 ?_
      refine lv_iconst (v := nI 1) hx hb d_Look_meet_33 (by decide) ?_
      refine nv_iadd hx hb d_Look_meet_34 ?_
      refine va_put (D := D) (ci := 4) (v := .int (nI (nc + 1))) (ty := .int) (C := "TileScreen$Look") (T := F_Look) (N := 3) hx hb htb i_Look t_Look t_Look_ok n_Look hown hG.1 hP hD hS 0 rfl rfl 1 (by decide) (htb _ k_105) (fun _ h9 => h9) rfl (by decide +kernel) rfl rfl (Nat.le_of_ble_eq_true rfl) d_Look_meet_35 (fun H locs hP hD hS => ?_)
      have hP : va_P D classes [(a, .inr (4, [.ref pp, .int (nI (nc + 1)), .int (nI ru)])), (pp, .inl (cI, 4, .inl (nF P)))] H := hP
      have hD : va_D AA [(a, .inr (4, [.ref pp, .int (nI (nc + 1)), .int (nI ru)])), (pp, .inl (cI, 4, .inl (nF P)))] := hD
      have hi : ¬ inPal P nc x = true := by rw [(inPal_find hp2).mp c_6]; decide
      rw [show meN P nc x = nc + 1 from if_neg hi, show meP P nc x = P from (if_neg hi).trans (if_neg (by omega))] at hret
      exact hret () _ _ _ _ d_Look_meet_38 (trivial) hP hD hS
    · refine lv_aload_n hx hb d_Look_meet_18 rfl (lv_at hl 0 rfl) ?_
      refine va_get (D := D) (ci := 4) (v := .ref pp) (C := "TileScreen$Look") (T := F_Look) (N := 3) hx hb htb i_Look hown hG.1 hP 0 rfl rfl 0 (by decide) (htb _ k_103) (fun _ h9 => h9) rfl d_Look_meet_19 ?_
      refine lv_aload_n hx hb d_Look_meet_22 rfl (lv_at hl 0 rfl) ?_
      refine va_get (D := D) (ci := 4) (v := .int (nI nc)) (C := "TileScreen$Look") (T := F_Look) (N := 3) hx hb htb i_Look hown hG.1 hP 0 rfl rfl 1 (by decide) (htb _ k_105) (fun _ h9 => h9) rfl d_Look_meet_23 ?_
      refine lv_iload_n hx hb d_Look_meet_26 rfl (lv_at hl 1 rfl) ?_
      refine nv_iast hx hb hG.1 hP hD hS 1 0 rfl rfl (by omega) (by omega) d_Look_meet_27 (fun H locs hP hD hS => ?_)
      have hP : va_P D classes [(a, .inr (4, [.ref pp, .int (nI nc), .int (nI ru)])), (pp, .inl (cI, 4, .inl (nF (up P nc x))))] H := hP
      have hD : va_D AA [(a, .inr (4, [.ref pp, .int (nI nc), .int (nI ru)])), (pp, .inl (cI, 4, .inl (nF (up P nc x))))] := hD
      refine lv_aload_n hx hb d_Look_meet_28 rfl (lv_at hl 0 rfl) ?_
      refine lv_dup hx hb d_Look_meet_29 rfl ?_
      refine va_get (D := D) (ci := 4) (v := .int (nI nc)) (C := "TileScreen$Look") (T := F_Look) (N := 3) hx hb htb i_Look hown hG.1 hP 0 rfl rfl 1 (by decide) (htb _ k_105) (fun _ h9 => h9) rfl d_Look_meet_30 ?_
      refine lv_iconst (v := nI 1) hx hb d_Look_meet_33 (by decide) ?_
      refine nv_iadd hx hb d_Look_meet_34 ?_
      refine va_put (D := D) (ci := 4) (v := .int (nI (nc + 1))) (ty := .int) (C := "TileScreen$Look") (T := F_Look) (N := 3) hx hb htb i_Look t_Look t_Look_ok n_Look hown hG.1 hP hD hS 0 rfl rfl 1 (by decide) (htb _ k_105) (fun _ h9 => h9) rfl (by decide +kernel) rfl rfl (Nat.le_of_ble_eq_true rfl) d_Look_meet_35 (fun H locs hP hD hS => ?_)
      have hP : va_P D classes [(a, .inr (4, [.ref pp, .int (nI (nc + 1)), .int (nI ru)])), (pp, .inl (cI, 4, .inl (nF (up P nc x))))] H := hP
      have hD : va_D AA [(a, .inr (4, [.ref pp, .int (nI (nc + 1)), .int (nI ru)])), (pp, .inl (cI, 4, .inl (nF (up P nc x))))] := hD
      have hi : ¬ inPal P nc x = true := by rw [(inPal_find hp2).mp c_6]; decide
      rw [show meN P nc x = nc + 1 from if_neg hi, show meP P nc x = up P nc x from (if_neg hi).trans (if_pos c_15)] at hret
      exact hret () _ _ _ _ d_Look_meet_38 (trivial) hP hD hS
  · have hi : inPal P nc x = true := by cases q : inPal P nc x; exact absurd ((inPal_find hp2).mpr q) c_6; rfl
    rw [show meN P nc x = nc from if_pos hi, show meP P nc x = P from if_pos hi] at hret
    exact hret () _ _ _ _ d_Look_meet_9 (trivial) hP hD hS
set_option maxHeartbeats 400000 in
set_option maxRecDepth 100000 in
theorem c_Look_study (a : Nat) (pp : Nat) (nc : Nat) (ru : Nat) (P : Nat → Nat) (b : Nat) (qq : Nat) (cnt : Nat) (n : Nat) (F : Nat → Nat) (t : Nat) (bP : ∀ j, P j < 65536) (bF : ∀ j, F j < 65536) (ht : t * 64 + 64 ≤ n) (hn : n < 2 ^ 31) : CV (S := Unit) l classes NW D (TYS cI cZ cL cV) y_Look_study (.code y_Look_study b_Look_study 6 none :: TB) { frames := 2, cells := 0, slots := 0, locals := 43 } [.ref a, .ref b, .int (nI t)] [(a, .inr (4, [.ref pp, .int (nI nc), .int (nI ru)])), (pp, .inl (cI, 4, .inl (nF P))), (b, .inr (0, [.int (nI cnt), .ref qq])), (qq, .inl (cI, n, .inl (nF F)))] (fun u => True) (fun u => [(a, .inr (4, [.ref pp, .int (nI ((stu (fun j => F (t * 64 + j)) P 64).2)), .int (nI (runsN (fun j => F (t * 64 + j)) 64))])), (pp, .inl (cI, 4, .inl (nF ((stu (fun j => F (t * 64 + j)) P 64).1)))), (b, .inr (0, [.int (nI cnt), .ref qq])), (qq, .inl (cI, n, .inl (nF F)))]) := by
  refine CV.of (by decide) (Nat.le_of_ble_eq_true rfl) ?_
  intro pr ev sT mM aR bW mE cO AA QQ ls Bd hG hA hP hD hS hl hnm hret
  have Bd : bd pr cO b_Look_study 6 sT aR TB "TileScreen$Look" mM := Bd
  obtain ⟨hx, hb, hml, hown, htb⟩ := id Bd
  have hl : lv_has ls 6 [(0, .ref a), (1, .ref b), (2, .int (nI t))] := hl
  refine lv_aload_n hx hb d_Look_study_0 rfl (lv_at hl 0 rfl) ?_
  refine lv_iconst (v := nI 0) hx hb d_Look_study_1 (by decide) ?_
  refine va_put (D := D) (ci := 4) (v := .int (nI 0)) (ty := .int) (C := "TileScreen$Look") (T := F_Look) (N := 3) hx hb htb i_Look t_Look t_Look_ok n_Look hown hG.1 hP hD hS 0 rfl rfl 1 (by decide) (htb _ k_105) (fun _ h9 => h9) rfl (by decide +kernel) rfl rfl (Nat.le_of_ble_eq_true rfl) d_Look_study_2 (fun H locs hP hD hS => ?_)
  have hP : va_P D classes [(a, .inr (4, [.ref pp, .int (nI 0), .int (nI ru)])), (pp, .inl (cI, 4, .inl (nF P))), (b, .inr (0, [.int (nI cnt), .ref qq])), (qq, .inl (cI, n, .inl (nF F)))] H := hP
  have hD : va_D AA [(a, .inr (4, [.ref pp, .int (nI 0), .int (nI ru)])), (pp, .inl (cI, 4, .inl (nF P))), (b, .inr (0, [.int (nI cnt), .ref qq])), (qq, .inl (cI, n, .inl (nF F)))] := hD
  refine lv_aload_n hx hb d_Look_study_5 rfl (lv_at hl 0 rfl) ?_
  refine lv_iconst (v := nI 0) hx hb d_Look_study_6 (by decide) ?_
  refine va_put (D := D) (ci := 4) (v := .int (nI 0)) (ty := .int) (C := "TileScreen$Look") (T := F_Look) (N := 3) hx hb htb i_Look t_Look t_Look_ok n_Look hown hG.1 hP hD hS 0 rfl rfl 2 (by decide) (htb _ k_107) (fun _ h9 => h9) rfl (by decide +kernel) rfl rfl (Nat.le_of_ble_eq_true rfl) d_Look_study_7 (fun H locs hP hD hS => ?_)
  have hP : va_P D classes [(a, .inr (4, [.ref pp, .int (nI 0), .int (nI 0)])), (pp, .inl (cI, 4, .inl (nF P))), (b, .inr (0, [.int (nI cnt), .ref qq])), (qq, .inl (cI, n, .inl (nF F)))] H := hP
  have hD : va_D AA [(a, .inr (4, [.ref pp, .int (nI 0), .int (nI 0)])), (pp, .inl (cI, 4, .inl (nF P))), (b, .inr (0, [.int (nI cnt), .ref qq])), (qq, .inl (cI, n, .inl (nF F)))] := hD
  refine lv_iconst (v := -1) hx hb d_Look_study_10 (by decide) ?_
  refine lv_istore_n (lv' := [(3, .int (-1)), (0, .ref a), (1, .ref b), (2, .int (nI t))]) hx hb d_Look_study_11 rfl hl (by decide) rfl (fun ls hl => ?_)
  refine lv_iconst (v := nI 0) hx hb d_Look_study_12 (by decide) ?_
  refine lv_istore (lv' := [(4, .int (nI 0)), (3, .int (-1)), (0, .ref a), (1, .ref b), (2, .int (nI t))]) hx hb d_Look_study_13 hl (by decide) rfl (fun ls hl => ?_)
  have lp_15 : ∀ (nn : Nat) (k : Nat) (hk : k ≤ 64), 64 - k < nn → ∀ (H : Heap) (locs : List Loc) (ls : Array Slot), va_P D classes [(a, .inr (4, [.ref pp, .int (nI ((stu (fun j => F (t * 64 + j)) P k).2)), .int (nI (runsN (fun j => F (t * 64 + j)) k))])), (pp, .inl (cI, 4, .inl (nF ((stu (fun j => F (t * 64 + j)) P k).1)))), (b, .inr (0, [.int (nI cnt), .ref qq])), (qq, .inl (cI, n, .inl (nF F)))] H → va_D AA [(a, .inr (4, [.ref pp, .int (nI ((stu (fun j => F (t * 64 + j)) P k).2)), .int (nI (runsN (fun j => F (t * 64 + j)) k))])), (pp, .inl (cI, 4, .inl (nF ((stu (fun j => F (t * 64 + j)) P k).1)))), (b, .inr (0, [.int (nI cnt), .ref qq])), (qq, .inl (cI, n, .inl (nF F)))] → va_S AA sT.heap H locs → lv_has ls 6 [(4, .int (nI k)), (3, .int (bef (fun j => F (t * 64 + j)) k)), (0, .ref a), (1, .ref b), (2, .int (nI t))] → W pr l ev ({ frames := 2, cells := 0, slots := 0, locals := 43 } : Room) sT mM aR bW mE cO H locs 0 0 QQ (F0 mM 15 ls []) := by
    intro nn
    induction nn with
    | zero => intro k hk hm; exact absurd hm (Nat.not_lt_zero _)
    | succ nn ih15 =>
      intro k hk hm H locs ls hP hD hS hl
      have hru := runsN_le (fun j => F (t * 64 + j)) k
      refine lv_iload hx hb d_Look_study_15 (lv_at hl 0 rfl) ?_
      refine lv_bipush (v := nI 64) hx hb d_Look_study_17 (by decide) ?_
      refine nv_icmp_ge (tgt := 62) hx hb d_Look_study_19 (by decide) (by omega) (by omega) (fun c_19 => ?_) (fun c_19 => ?_)
      · obtain rfl : k = 64 := by omega
        exact hret () _ _ _ _ d_Look_study_62 (trivial) hP hD hS
      · refine lv_aload_n hx hb d_Look_study_22 rfl (lv_at hl 3 rfl) ?_
        refine lv_iload_n hx hb d_Look_study_23 rfl (lv_at hl 4 rfl) ?_
        refine lv_iload hx hb d_Look_study_24 (lv_at hl 0 rfl) ?_
        refine kV_i (wc := [(b, .inr (0, [.int (nI cnt), .ref qq])), (qq, .inl (cI, n, .inl (nF F)))]) (wr := [(a, .inr (4, [.ref pp, .int (nI ((stu (fun j => F (t * 64 + j)) P k).2)), .int (nI (runsN (fun j => F (t * 64 + j)) k))])), (pp, .inl (cI, 4, .inl (nF ((stu (fun j => F (t * 64 + j)) P k).1))))]) (w2 := fun _ => [(a, .inr (4, [.ref pp, .int (nI ((stu (fun j => F (t * 64 + j)) P k).2)), .int (nI (runsN (fun j => F (t * 64 + j)) k))])), (pp, .inl (cI, 4, .inl (nF ((stu (fun j => F (t * 64 + j)) P k).1)))), (b, .inr (0, [.int (nI cnt), .ref qq])), (qq, .inl (cI, n, .inl (nF F)))]) [.int (nI t), .int (nI k)] [] Bd ⟨gi_app (gi_c0 k_365 (gi_c0 k_290 (gi_c0 k_291 (gi_c0 k_2 gi_nil)))) (gi_tb0 k_292), rfl, by decide, by decide⟩ (show (parseMethodDescriptor "(II)I").map (fun d => d.parameters.length) = some 2 by decide +kernel) (c_Tiles_get b qq cnt n F t k (by omega) (by omega)) (by decide +kernel) ⟨Nat.le_of_ble_eq_true rfl, Nat.le_of_ble_eq_true rfl⟩ hG hP hD hS hA [2, 3] [0, 1] [0, 1, 2, 3] (by decide) rfl rfl (fun _ => rfl) (q0 := 0) rfl rfl rfl hl.1 rfl (Nat.le_of_ble_eq_true rfl) d_Look_study_26 (fun r2 u4 H locs hp3 hP hD hS => ?_)
        have hP : va_P D classes [(a, .inr (4, [.ref pp, .int (nI ((stu (fun j => F (t * 64 + j)) P k).2)), .int (nI (runsN (fun j => F (t * 64 + j)) k))])), (pp, .inl (cI, 4, .inl (nF ((stu (fun j => F (t * 64 + j)) P k).1)))), (b, .inr (0, [.int (nI cnt), .ref qq])), (qq, .inl (cI, n, .inl (nF F)))] H := hP
        have hD : va_D AA [(a, .inr (4, [.ref pp, .int (nI ((stu (fun j => F (t * 64 + j)) P k).2)), .int (nI (runsN (fun j => F (t * 64 + j)) k))])), (pp, .inl (cI, 4, .inl (nF ((stu (fun j => F (t * 64 + j)) P k).1)))), (b, .inr (0, [.int (nI cnt), .ref qq])), (qq, .inl (cI, n, .inl (nF F)))] := hD
        subst hp3
        refine lv_istore (lv' := [(5, .int (nI (F (t * 64 + k)))), (4, .int (nI k)), (3, .int (bef (fun j => F (t * 64 + j)) k)), (0, .ref a), (1, .ref b), (2, .int (nI t))]) hx hb d_Look_study_29 hl (by decide) rfl (fun ls hl => ?_)
        refine lv_iload hx hb d_Look_study_31 (lv_at hl 0 rfl) ?_
        refine lv_iload_n hx hb d_Look_study_33 rfl (lv_at hl 2 rfl) ?_
        refine lv_icmp_eq (tgt := 53) hx hb d_Look_study_34 (by decide) (fun c_34 => ?_) (fun c_34 => ?_)
        · refine lv_iload hx hb d_Look_study_53 (lv_at hl 0 rfl) ?_
          refine lv_istore_n (lv' := [(3, .int (nI (F (t * 64 + k)))), (5, .int (nI (F (t * 64 + k)))), (4, .int (nI k)), (0, .ref a), (1, .ref b), (2, .int (nI t))]) hx hb d_Look_study_55 rfl hl (by decide) rfl (fun ls hl => ?_)
          refine lv_iinc (v := (nI (k + 1))) (lv' := [(4, .int (nI (k + 1))), (3, .int (nI (F (t * 64 + k)))), (5, .int (nI (F (t * 64 + k)))), (0, .ref a), (1, .ref b), (2, .int (nI t))]) hx hb d_Look_study_56 hl (k := 2) rfl (nI_add k 1) (by decide) rfl (fun ls hl => ?_)
          refine lv_goto (tgt := 15) hx hb d_Look_study_59 (by decide) ?_
          rw [show nI (F (t * 64 + k)) = bef (fun j => F (t * 64 + j)) (k + 1) from rfl] at hl
          have hq : sameP (fun j => F (t * 64 + j)) k = true := (bef_iff (T := (fun j => F (t * 64 + j))) (fun j => bF _) k).mp c_34
          rw [← stu_t (P0 := P) hq, ← runsN_t hq] at hP hD
          exact ih15 (k + 1) (by omega) (by omega) _ _ _ hP hD hS (lv_sub hl [0, 1, 3, 4, 5] rfl)
        · refine lv_aload_n hx hb d_Look_study_37 rfl (lv_at hl 3 rfl) ?_
          refine lv_dup hx hb d_Look_study_38 rfl ?_
          refine va_get (D := D) (ci := 4) (v := .int (nI (runsN (fun j => F (t * 64 + j)) k))) (C := "TileScreen$Look") (T := F_Look) (N := 3) hx hb htb i_Look hown hG.1 hP 0 rfl rfl 2 (by decide) (htb _ k_107) (fun _ h9 => h9) rfl d_Look_study_39 ?_
          refine lv_iconst (v := nI 1) hx hb d_Look_study_42 (by decide) ?_
          refine nv_iadd hx hb d_Look_study_43 ?_
          refine va_put (D := D) (ci := 4) (v := .int (nI (runsN (fun j => F (t * 64 + j)) k + 1))) (ty := .int) (C := "TileScreen$Look") (T := F_Look) (N := 3) hx hb htb i_Look t_Look t_Look_ok n_Look hown hG.1 hP hD hS 0 rfl rfl 2 (by decide) (htb _ k_107) (fun _ h9 => h9) rfl (by decide +kernel) rfl rfl (Nat.le_of_ble_eq_true rfl) d_Look_study_44 (fun H locs hP hD hS => ?_)
          have hP : va_P D classes [(a, .inr (4, [.ref pp, .int (nI ((stu (fun j => F (t * 64 + j)) P k).2)), .int (nI (runsN (fun j => F (t * 64 + j)) k + 1))])), (pp, .inl (cI, 4, .inl (nF ((stu (fun j => F (t * 64 + j)) P k).1)))), (b, .inr (0, [.int (nI cnt), .ref qq])), (qq, .inl (cI, n, .inl (nF F)))] H := hP
          have hD : va_D AA [(a, .inr (4, [.ref pp, .int (nI ((stu (fun j => F (t * 64 + j)) P k).2)), .int (nI (runsN (fun j => F (t * 64 + j)) k + 1))])), (pp, .inl (cI, 4, .inl (nF ((stu (fun j => F (t * 64 + j)) P k).1)))), (b, .inr (0, [.int (nI cnt), .ref qq])), (qq, .inl (cI, n, .inl (nF F)))] := hD
          refine lv_aload_n hx hb d_Look_study_47 rfl (lv_at hl 3 rfl) ?_
          refine lv_iload hx hb d_Look_study_48 (lv_at hl 0 rfl) ?_
          refine kV_v (wc := [(a, .inr (4, [.ref pp, .int (nI ((stu (fun j => F (t * 64 + j)) P k).2)), .int (nI (runsN (fun j => F (t * 64 + j)) k + 1))])), (pp, .inl (cI, 4, .inl (nF ((stu (fun j => F (t * 64 + j)) P k).1))))]) (wr := [(b, .inr (0, [.int (nI cnt), .ref qq])), (qq, .inl (cI, n, .inl (nF F)))]) (w2 := fun _ => [(a, .inr (4, [.ref pp, .int (nI (meN ((stu (fun j => F (t * 64 + j)) P k).1) ((stu (fun j => F (t * 64 + j)) P k).2) (F (t * 64 + k)))), .int (nI (runsN (fun j => F (t * 64 + j)) k + 1))])), (pp, .inl (cI, 4, .inl (nF (meP ((stu (fun j => F (t * 64 + j)) P k).1) ((stu (fun j => F (t * 64 + j)) P k).2) (F (t * 64 + k)))))), (b, .inr (0, [.int (nI cnt), .ref qq])), (qq, .inl (cI, n, .inl (nF F)))]) [.int (nI (F (t * 64 + k)))] [] Bd ⟨gi_app (gi_c0 k_366 (gi_c0 k_368 (gi_c0 s_1 (gi_c0 k_7 gi_nil)))) (gi_tb0 k_369), rfl, by decide, by decide⟩ (show (parseMethodDescriptor "(I)V").map (fun d => d.parameters.length) = some 1 by decide +kernel) (c_Look_meet a pp ((stu (fun j => F (t * 64 + j)) P k).2) (runsN (fun j => F (t * 64 + j)) k + 1) ((stu (fun j => F (t * 64 + j)) P k).1) (F (t * 64 + k)) (stu_lt (fun j => bF _) bP k) (bF _) (Nat.le_trans (stu_le _ _ k) (by omega))) (by decide +kernel) ⟨Nat.le_of_ble_eq_true rfl, Nat.le_of_ble_eq_true rfl⟩ hG hP hD hS hA [0, 1] [2, 3] [2, 3, 0, 1] (by decide) rfl rfl (fun _ => rfl) (q0 := 0) rfl rfl rfl hl.1 rfl (Nat.le_of_ble_eq_true rfl) d_Look_study_50 (fun u6 H locs hp5 hP hD hS => ?_)
          have hP : va_P D classes [(a, .inr (4, [.ref pp, .int (nI (meN ((stu (fun j => F (t * 64 + j)) P k).1) ((stu (fun j => F (t * 64 + j)) P k).2) (F (t * 64 + k)))), .int (nI (runsN (fun j => F (t * 64 + j)) k + 1))])), (pp, .inl (cI, 4, .inl (nF (meP ((stu (fun j => F (t * 64 + j)) P k).1) ((stu (fun j => F (t * 64 + j)) P k).2) (F (t * 64 + k)))))), (b, .inr (0, [.int (nI cnt), .ref qq])), (qq, .inl (cI, n, .inl (nF F)))] H := hP
          have hD : va_D AA [(a, .inr (4, [.ref pp, .int (nI (meN ((stu (fun j => F (t * 64 + j)) P k).1) ((stu (fun j => F (t * 64 + j)) P k).2) (F (t * 64 + k)))), .int (nI (runsN (fun j => F (t * 64 + j)) k + 1))])), (pp, .inl (cI, 4, .inl (nF (meP ((stu (fun j => F (t * 64 + j)) P k).1) ((stu (fun j => F (t * 64 + j)) P k).2) (F (t * 64 + k)))))), (b, .inr (0, [.int (nI cnt), .ref qq])), (qq, .inl (cI, n, .inl (nF F)))] := hD
          refine lv_iload hx hb d_Look_study_53 (lv_at hl 0 rfl) ?_
          refine lv_istore_n (lv' := [(3, .int (nI (F (t * 64 + k)))), (5, .int (nI (F (t * 64 + k)))), (4, .int (nI k)), (0, .ref a), (1, .ref b), (2, .int (nI t))]) hx hb d_Look_study_55 rfl hl (by decide) rfl (fun ls hl => ?_)
          refine lv_iinc (v := (nI (k + 1))) (lv' := [(4, .int (nI (k + 1))), (3, .int (nI (F (t * 64 + k)))), (5, .int (nI (F (t * 64 + k)))), (0, .ref a), (1, .ref b), (2, .int (nI t))]) hx hb d_Look_study_56 hl (k := 2) rfl (nI_add k 1) (by decide) rfl (fun ls hl => ?_)
          refine lv_goto (tgt := 15) hx hb d_Look_study_59 (by decide) ?_
          rw [show nI (F (t * 64 + k)) = bef (fun j => F (t * 64 + j)) (k + 1) from rfl] at hl
          have hq : ¬ sameP (fun j => F (t * 64 + j)) k = true := fun q => c_34 ((bef_iff (T := (fun j => F (t * 64 + j))) (fun j => bF _) k).mpr q)
          have e1 := stu_f (P0 := P) hq
          have e2 : (stu (fun j => F (t * 64 + j)) P (k + 1)).2 = meN (stu (fun j => F (t * 64 + j)) P k).1 (stu (fun j => F (t * 64 + j)) P k).2 (F (t * 64 + k)) := by rw [e1]
          have e3 : (stu (fun j => F (t * 64 + j)) P (k + 1)).1 = meP (stu (fun j => F (t * 64 + j)) P k).1 (stu (fun j => F (t * 64 + j)) P k).2 (F (t * 64 + k)) := by rw [e1]
          rw [← e2, ← e3, ← runsN_f hq] at hP hD
          exact ih15 (k + 1) (by omega) (by omega) _ _ _ hP hD hS (lv_sub hl [0, 1, 3, 4, 5] rfl)
  exact lp_15 _ 0 (Nat.zero_le _) (Nat.lt_succ_self _) _ _ _ hP hD hS (lv_sub hl [0, 1, 2, 3, 4] rfl)
end
