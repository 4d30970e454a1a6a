section
variable {l : Launch} {D : va_G} {cI cZ cL cV : ClassId}
abbrev y_Math_max : MethodName := ⟨"java/lang/Math", "max", "(II)I"⟩
abbrev b_Math_max : ByteArray := prog_15_method_65_code
theorem d_Math_max_0 : decode b_Math_max 0 = .ok (.iload_n 0, 1) := by decide +kernel
theorem d_Math_max_1 : decode b_Math_max 1 = .ok (.iload_n 1, 1) := by decide +kernel
theorem d_Math_max_2 : decode b_Math_max 2 = .ok (.if_icmp .lt 7, 3) := by decide +kernel
theorem d_Math_max_5 : decode b_Math_max 5 = .ok (.iload_n 0, 1) := by decide +kernel
theorem d_Math_max_6 : decode b_Math_max 6 = .ok (.goto 4, 3) := by decide +kernel
theorem d_Math_max_9 : decode b_Math_max 9 = .ok (.iload_n 1, 1) := by decide +kernel
theorem d_Math_max_10 : decode b_Math_max 10 = .ok (.ireturn, 1) := by decide +kernel
set_option maxHeartbeats 400000 in
set_option maxRecDepth 100000 in
theorem c_Math_max (a : Nat) (b : Nat) (ha : a < 2 ^ 31) (hb9 : b < 2 ^ 31) : CI (S := Unit) l classes NW D (TYS cI cZ cL cV) y_Math_max (.code y_Math_max b_Math_max 2 (some .int) :: TB) { frames := 0, cells := 0, slots := 0, locals := 0 } [.int (nI a), .int (nI b)] [] (fun r u => r = nI (max a b)) (fun u => []) := by
  refine CI.ofF (by decide +kernel) (Nat.le_of_ble_eq_true rfl) ?_
  intro pr ev sT mM aR bW mE cO AA QQ ls Bd hG hA hP hD hS hl hret
  have Bd : bd pr cO b_Math_max 2 sT aR TB "java/lang/Math" mM := Bd
  obtain ⟨hx, hb, hml, hown, htb⟩ := id Bd
  have hl : lv_has ls 2 [(0, .int (nI a)), (1, .int (nI b))] := hl
  refine lv_iload_n hx hb d_Math_max_0 rfl (lv_at hl 0 rfl) ?_
  refine lv_iload_n hx hb d_Math_max_1 rfl (lv_at hl 1 rfl) ?_
  refine nv_icmp_lt (tgt := 9) hx hb d_Math_max_2 (by decide) (by omega) (by omega) (fun c_2 => ?_) (fun c_2 => ?_)
  · refine lv_iload_n hx hb d_Math_max_9 rfl (lv_at hl 1 rfl) ?_
    exact hret _ () _ _ _ _ d_Math_max_10 rfl (by rw [show max a b = b by omega]) hP hD hS
  · refine lv_iload_n hx hb d_Math_max_5 rfl (lv_at hl 0 rfl) ?_
    refine lv_goto (tgt := 10) hx hb d_Math_max_6 (by decide) ?_
    exact hret _ () _ _ _ _ d_Math_max_10 rfl (by rw [show max a b = a by omega]) hP hD hS
set_option maxHeartbeats 400000 in
set_option maxRecDepth 100000 in
theorem c_Cache_init (a : Nat) : CV (S := Nat × Nat) l classes NW D (TYS cI cZ cL cV) y_Cache_init (.code y_Cache_init b_Cache_init 1 none :: TB) { frames := 2, cells := 2, slots := 1026, locals := 33 } [.ref a] [(a, .inr (1, [.null, .int (nI 0), .int (nI 0)]))] (fun u => True) (fun u => [(a, .inr (1, [.ref u.1, .int (nI 0), .int (nI 0)])), (u.1, .inr (0, [.int (nI 16), .ref u.2])), (u.2, .inl (cI, 1024, .inl (nF (fun _ => 0))))]) := by
  refine CV.of (by decide) (Nat.le_of_ble_eq_true rfl) ?_
  intro pr ev sT mM aR bW mE cO AA QQ ls Bd hG hA hP hD hS hl hnm hret
  have Bd : bd pr cO b_Cache_init 1 sT aR TB "TileScreen$Cache" mM := Bd
  obtain ⟨hx, hb, hml, hown, htb⟩ := id Bd
  have hl : lv_has ls 1 [(0, .ref a)] := hl
  refine lv_aload_n hx hb d_Cache_init_0 rfl (lv_at hl 0 rfl) ?_
  refine W.objInit hx hb hown (htb _ k_60) (htb _ k_24) (htb _ k_25) rfl (by rw [hml]; exact hl.1) rfl d_Cache_init_1 (Nat.le_of_ble_eq_true rfl) (Nat.le_of_ble_eq_true rfl) ?_
  refine W.eq (g2 := F0 mM 4 ls []) rfl ?_
  refine lv_aload_n hx hb d_Cache_init_4 rfl (lv_at hl 0 rfl) ?_
  refine va_new (ci := 0) (fs := [.int (nI 0), .null]) (C := "TileScreen$Tiles") (T := F_Tiles) (N := 2) hx hb htb i_Tiles t_Tiles t_Tiles_ok hown (htb _ k_61) (htb _ k_27) (htb _ k_2) hG.1 hP hD hS hA rfl (fun j hj => by rcases (show j = 0 ∨ j = 1 by omega) with rfl | rfl <;> rfl) (Nat.le_of_ble_eq_true rfl) (Nat.le_of_ble_eq_true rfl) d_Cache_init_5 (fun q1 H hP hD hS => ?_)
  have hP : va_P D classes [(a, .inr (1, [.null, .int (nI 0), .int (nI 0)])), (q1, .inr (0, [.int (nI 0), .null]))] H := hP
  have hD : va_D AA [(a, .inr (1, [.null, .int (nI 0), .int (nI 0)])), (q1, .inr (0, [.int (nI 0), .null]))] := hD
  refine W.widen (k := 1) (n := 2) (Nat.le_of_ble_eq_true rfl) (Nat.le_of_ble_eq_true rfl) ?_
  refine lv_dup hx hb d_Cache_init_8 rfl ?_
  refine lv_bipush (v := nI 16) hx hb d_Cache_init_9 (by decide) ?_
  refine kI_v (wc := [(q1, .inr (0, [.int (nI 0), .null]))]) (wr := [(a, .inr (1, [.null, .int (nI 0), .int (nI 0)]))]) (w2 := fun u => [(a, .inr (1, [.null, .int (nI 0), .int (nI 0)])), (q1, .inr (0, [.int (nI 16), .ref u])), (u, .inl (cI, 1024, .inl (nF (fun _ => 0))))]) [.int (nI 16)] [.ref q1, .ref a] Bd ⟨gi_tb0 k_30, k_2, k_62, k_29, rfl, by decide, by decide⟩ (show (parseMethodDescriptor "(I)V").map (fun d => d.parameters.length) = some 1 by decide +kernel) (c_Tiles_init16 q1 ) (by decide +kernel) ⟨Nat.le_of_ble_eq_true rfl, Nat.le_of_ble_eq_true rfl⟩ hG hP hD hS hA [1] [0] [0, 1, 2] (by decide) rfl rfl (fun _ => rfl) hl.1 rfl (Nat.le_of_ble_eq_true rfl) d_Cache_init_11 (fun u4 H locs hp3 hP hD hS => ?_)
  obtain ⟨u2, rfl⟩ : ∃ z9, z9 = u4 := ⟨_, rfl⟩
  try dsimp only at hp3
  have hP : va_P D classes [(a, .inr (1, [.null, .int (nI 0), .int (nI 0)])), (q1, .inr (0, [.int (nI 16), .ref u2])), (u2, .inl (cI, 1024, .inl (nF (fun _ => 0))))] H := hP
  have hD : va_D AA [(a, .inr (1, [.null, .int (nI 0), .int (nI 0)])), (q1, .inr (0, [.int (nI 16), .ref u2])), (u2, .inl (cI, 1024, .inl (nF (fun _ => 0))))] := hD
  refine W.widen (k := 2) (n := 1026) (Nat.le_of_ble_eq_true rfl) (Nat.le_of_ble_eq_true rfl) ?_
  refine va_putF (D := D) (ci := 1) (v := .ref q1) (ty := .object "TileScreen$Tiles") (C := "TileScreen$Cache") (T := F_Cache) (N := 3) hx hb htb i_Cache t_Cache t_Cache_ok n_Cache hown hG.1 hP hD hS 0 rfl rfl 0 (by decide) (htb _ k_63) (fun _ h9 => h9) rfl hnm rfl (by decide +kernel) rfl rfl (Nat.le_of_ble_eq_true rfl) d_Cache_init_14 (fun H locs hP hD hS => ?_)
  have hP : va_P D classes [(a, .inr (1, [.ref q1, .int (nI 0), .int (nI 0)])), (q1, .inr (0, [.int (nI 16), .ref u2])), (u2, .inl (cI, 1024, .inl (nF (fun _ => 0))))] H := hP
  have hD : va_D AA [(a, .inr (1, [.ref q1, .int (nI 0), .int (nI 0)])), (q1, .inr (0, [.int (nI 16), .ref u2])), (u2, .inl (cI, 1024, .inl (nF (fun _ => 0))))] := hD
  have hR := hret (q1, u2) H locs 17 ls d_Cache_init_17
  try dsimp only at hR
  exact hR (trivial) hP hD hS
set_option maxHeartbeats 400000 in
set_option maxRecDepth 100000 in
theorem c_Cache_clear (a : Nat) (tt : Nat) (pp : Nat) (pl : Nat) (us : Nat) (F : Nat → Nat) : CV (S := Unit) l classes NW D (TYS cI cZ cL cV) y_Cache_clear (.code y_Cache_clear b_Cache_clear 1 none :: TB) { frames := 0, cells := 0, slots := 0, locals := 0 } [.ref a] [(a, .inr (1, [.ref tt, .int (nI pl), .int (nI us)])), (tt, .inr (0, [.int (nI 16), .ref pp])), (pp, .inl (cI, 1024, .inl (nF F)))] (fun u => True) (fun u => [(a, .inr (1, [.ref tt, .int (nI 0), .int (nI 0)])), (tt, .inr (0, [.int (nI 16), .ref pp])), (pp, .inl (cI, 1024, .inl (nF F)))]) := by
  refine CV.of (by decide) (Nat.le_of_ble_eq_true rfl) ?_
  intro pr ev sT mM aR bW mE cO AA QQ ls Bd hG hA hP hD hS hl hnm hret
  have Bd : bd pr cO b_Cache_clear 1 sT aR TB "TileScreen$Cache" mM := Bd
  obtain ⟨hx, hb, hml, hown, htb⟩ := id Bd
  have hl : lv_has ls 1 [(0, .ref a)] := hl
  refine lv_aload_n hx hb d_Cache_clear_0 rfl (lv_at hl 0 rfl) ?_
  refine lv_iconst (v := nI 0) hx hb d_Cache_clear_1 (by decide) ?_
  refine va_put (D := D) (ci := 1) (v := .int (nI 0)) (ty := .int) (C := "TileScreen$Cache") (T := F_Cache) (N := 3) hx hb htb i_Cache t_Cache t_Cache_ok n_Cache hown hG.1 hP hD hS 0 rfl rfl 1 (by decide) (htb _ k_66) (fun _ h9 => h9) rfl (by decide +kernel) rfl rfl (Nat.le_of_ble_eq_true rfl) d_Cache_clear_2 (fun H locs hP hD hS => ?_)
  have hP : va_P D classes [(a, .inr (1, [.ref tt, .int (nI 0), .int (nI us)])), (tt, .inr (0, [.int (nI 16), .ref pp])), (pp, .inl (cI, 1024, .inl (nF F)))] H := hP
  have hD : va_D AA [(a, .inr (1, [.ref tt, .int (nI 0), .int (nI us)])), (tt, .inr (0, [.int (nI 16), .ref pp])), (pp, .inl (cI, 1024, .inl (nF F)))] := hD
  refine lv_aload_n hx hb d_Cache_clear_5 rfl (lv_at hl 0 rfl) ?_
  refine lv_iconst (v := nI 0) hx hb d_Cache_clear_6 (by decide) ?_
  refine va_put (D := D) (ci := 1) (v := .int (nI 0)) (ty := .int) (C := "TileScreen$Cache") (T := F_Cache) (N := 3) hx hb htb i_Cache t_Cache t_Cache_ok n_Cache hown hG.1 hP hD hS 0 rfl rfl 2 (by decide) (htb _ k_68) (fun _ h9 => h9) rfl (by decide +kernel) rfl rfl (Nat.le_of_ble_eq_true rfl) d_Cache_clear_7 (fun H locs hP hD hS => ?_)
  have hP : va_P D classes [(a, .inr (1, [.ref tt, .int (nI 0), .int (nI 0)])), (tt, .inr (0, [.int (nI 16), .ref pp])), (pp, .inl (cI, 1024, .inl (nF F)))] H := hP
  have hD : va_D AA [(a, .inr (1, [.ref tt, .int (nI 0), .int (nI 0)])), (tt, .inr (0, [.int (nI 16), .ref pp])), (pp, .inl (cI, 1024, .inl (nF F)))] := hD
  exact hret () _ _ _ _ d_Cache_clear_10 (trivial) hP hD hS
set_option maxHeartbeats 400000 in
set_option maxRecDepth 100000 in
theorem c_Cache_put (a : Nat) (tt : Nat) (pp : Nat) (pl : Nat) (us : Nat) (F : Nat → Nat) (b : Nat) (qq : Nat) (cnt : Nat) (n : Nat) (G : Nat → Nat) (t : Nat) (hp : pl < 16) (hu : us ≤ 16) (ht : t * 64 + 64 ≤ n) (hn : n < 2 ^ 31) : CV (S := Unit) l classes NW D (TYS cI cZ cL cV) y_Cache_put (.code y_Cache_put b_Cache_put 3 none :: TB) { frames := 2, cells := 0, slots := 0, locals := 63 } [.ref a, .ref b, .int (nI t)] [(a, .inr (1, [.ref tt, .int (nI pl), .int (nI us)])), (tt, .inr (0, [.int (nI 16), .ref pp])), (pp, .inl (cI, 1024, .inl (nF F))), (b, .inr (0, [.int (nI cnt), .ref qq])), (qq, .inl (cI, n, .inl (nF G)))] (fun u => True) (fun u => [(a, .inr (1, [.ref tt, .int (nI ((pl + 1) % 16)), .int (nI (max us (pl + 1)))])), (tt, .inr (0, [.int (nI 16), .ref pp])), (pp, .inl (cI, 1024, .inl (nF (va_cpy G F (t * 64) (pl * 64) 64)))), (b, .inr (0, [.int (nI cnt), .ref qq])), (qq, .inl (cI, n, .inl (nF G)))]) := by
  refine CV.of (by decide) (Nat.le_of_ble_eq_true rfl) ?_
  intro pr ev sT mM aR bW mE cO AA QQ ls Bd hG hA hP hD hS hl hnm hret
  have Bd : bd pr cO b_Cache_put 3 sT aR TB "TileScreen$Cache" mM := Bd
  obtain ⟨hx, hb, hml, hown, htb⟩ := id Bd
  have hl : lv_has ls 3 [(0, .ref a), (1, .ref b), (2, .int (nI t))] := hl
  refine lv_aload_n hx hb d_Cache_put_0 rfl (lv_at hl 0 rfl) ?_
  refine va_get (D := D) (ci := 1) (v := .ref tt) (C := "TileScreen$Cache") (T := F_Cache) (N := 3) hx hb htb i_Cache hown hG.1 hP 0 rfl rfl 0 (by decide) (htb _ k_63) (fun _ h9 => h9) rfl d_Cache_put_1 ?_
  refine lv_aload_n hx hb d_Cache_put_4 rfl (lv_at hl 0 rfl) ?_
  refine va_get (D := D) (ci := 1) (v := .int (nI pl)) (C := "TileScreen$Cache") (T := F_Cache) (N := 3) hx hb htb i_Cache hown hG.1 hP 0 rfl rfl 1 (by decide) (htb _ k_66) (fun _ h9 => h9) rfl d_Cache_put_5 ?_
  refine lv_aload_n hx hb d_Cache_put_8 rfl (lv_at hl 1 rfl) ?_
  refine lv_iload_n hx hb d_Cache_put_9 rfl (lv_at hl 2 rfl) ?_
  refine kV_v (wc := [(tt, .inr (0, [.int (nI 16), .ref pp])), (pp, .inl (cI, 1024, .inl (nF F))), (b, .inr (0, [.int (nI cnt), .ref qq])), (qq, .inl (cI, n, .inl (nF G)))]) (wr := [(a, .inr (1, [.ref tt, .int (nI pl), .int (nI us)]))]) (w2 := fun _ => [(a, .inr (1, [.ref tt, .int (nI pl), .int (nI us)])), (tt, .inr (0, [.int (nI 16), .ref pp])), (pp, .inl (cI, 1024, .inl (nF (va_cpy G F (t * 64) (pl * 64) 64)))), (b, .inr (0, [.int (nI cnt), .ref qq])), (qq, .inl (cI, n, .inl (nF G)))]) [.int (nI pl), .ref b, .int (nI t)] [] Bd ⟨gi_app (gi_c0 k_417 (gi_c0 k_418 (gi_c0 k_419 (gi_c0 k_2 gi_nil)))) (gi_tb0 k_420), rfl, by decide, by decide⟩ (show (parseMethodDescriptor "(ILTileScreen$Tiles;I)V").map (fun d => d.parameters.length) = some 3 by decide +kernel) (c_Tiles_take tt pp 16 1024 F b qq cnt n G pl t (by omega) (by omega) (by omega) (by omega)) (by decide +kernel) ⟨Nat.le_of_ble_eq_true rfl, Nat.le_of_ble_eq_true rfl⟩ hG hP hD hS hA [1, 2, 3, 4] [0] [0, 1, 2, 3, 4] (by decide) rfl rfl (fun _ => rfl) (q0 := 0) rfl rfl rfl hl.1 rfl (Nat.le_of_ble_eq_true rfl) d_Cache_put_10 (fun u2 H locs hp1 hP hD hS => ?_)
  have hP : va_P D classes [(a, .inr (1, [.ref tt, .int (nI pl), .int (nI us)])), (tt, .inr (0, [.int (nI 16), .ref pp])), (pp, .inl (cI, 1024, .inl (nF (va_cpy G F (t * 64) (pl * 64) 64)))), (b, .inr (0, [.int (nI cnt), .ref qq])), (qq, .inl (cI, n, .inl (nF G)))] H := hP
  have hD : va_D AA [(a, .inr (1, [.ref tt, .int (nI pl), .int (nI us)])), (tt, .inr (0, [.int (nI 16), .ref pp])), (pp, .inl (cI, 1024, .inl (nF (va_cpy G F (t * 64) (pl * 64) 64)))), (b, .inr (0, [.int (nI cnt), .ref qq])), (qq, .inl (cI, n, .inl (nF G)))] := hD
  refine lv_aload_n hx hb d_Cache_put_13 rfl (lv_at hl 0 rfl) ?_
  refine lv_aload_n hx hb d_Cache_put_14 rfl (lv_at hl 0 rfl) ?_
  refine va_get (D := D) (ci := 1) (v := .int (nI us)) (C := "TileScreen$Cache") (T := F_Cache) (N := 3) hx hb htb i_Cache hown hG.1 hP 0 rfl rfl 2 (by decide) (htb _ k_68) (fun _ h9 => h9) rfl d_Cache_put_15 ?_
  refine lv_aload_n hx hb d_Cache_put_18 rfl (lv_at hl 0 rfl) ?_
  refine va_get (D := D) (ci := 1) (v := .int (nI pl)) (C := "TileScreen$Cache") (T := F_Cache) (N := 3) hx hb htb i_Cache hown hG.1 hP 0 rfl rfl 1 (by decide) (htb _ k_66) (fun _ h9 => h9) rfl d_Cache_put_19 ?_
  refine lv_iconst (v := nI 1) hx hb d_Cache_put_22 (by decide) ?_
  refine nv_iadd hx hb d_Cache_put_23 ?_
  refine kSO_i (wc := []) (wr := [(a, .inr (1, [.ref tt, .int (nI pl), .int (nI us)])), (tt, .inr (0, [.int (nI 16), .ref pp])), (pp, .inl (cI, 1024, .inl (nF (va_cpy G F (t * 64) (pl * 64) 64)))), (b, .inr (0, [.int (nI cnt), .ref qq])), (qq, .inl (cI, n, .inl (nF G)))]) (w2 := fun _ => [(a, .inr (1, [.ref tt, .int (nI pl), .int (nI us)])), (tt, .inr (0, [.int (nI 16), .ref pp])), (pp, .inl (cI, 1024, .inl (nF (va_cpy G F (t * 64) (pl * 64) 64)))), (b, .inr (0, [.int (nI cnt), .ref qq])), (qq, .inl (cI, n, .inl (nF G)))]) [.int (nI us), .int (nI (pl + 1))] [.ref a] Bd ⟨gi_tb0 k_423, k_422, k_17, k_421, by decide, by decide⟩ (show (parseMethodDescriptor "(II)I").map (fun d => d.parameters.length) = some 2 by decide +kernel) (c_Math_max us (pl + 1) (by omega) (by omega)) (by decide +kernel) ⟨Nat.le_of_ble_eq_true rfl, Nat.le_of_ble_eq_true rfl⟩ hG hP hD hS hA [] [0, 1, 2, 3, 4] [0, 1, 2, 3, 4] (by decide) rfl rfl (fun _ => rfl) hl.1 rfl (Nat.le_of_ble_eq_true rfl) d_Cache_put_24 (fun r3 u5 H locs hp4 hP hD hS => ?_)
  have hP : va_P D classes [(a, .inr (1, [.ref tt, .int (nI pl), .int (nI us)])), (tt, .inr (0, [.int (nI 16), .ref pp])), (pp, .inl (cI, 1024, .inl (nF (va_cpy G F (t * 64) (pl * 64) 64)))), (b, .inr (0, [.int (nI cnt), .ref qq])), (qq, .inl (cI, n, .inl (nF G)))] H := hP
  have hD : va_D AA [(a, .inr (1, [.ref tt, .int (nI pl), .int (nI us)])), (tt, .inr (0, [.int (nI 16), .ref pp])), (pp, .inl (cI, 1024, .inl (nF (va_cpy G F (t * 64) (pl * 64) 64)))), (b, .inr (0, [.int (nI cnt), .ref qq])), (qq, .inl (cI, n, .inl (nF G)))] := hD
  subst hp4
  refine va_put (D := D) (ci := 1) (v := .int (nI (max us (pl + 1)))) (ty := .int) (C := "TileScreen$Cache") (T := F_Cache) (N := 3) hx hb htb i_Cache t_Cache t_Cache_ok n_Cache hown hG.1 hP hD hS 0 rfl rfl 2 (by decide) (htb _ k_68) (fun _ h9 => h9) rfl (by decide +kernel) rfl rfl (Nat.le_of_ble_eq_true rfl) d_Cache_put_27 (fun H locs hP hD hS => ?_)
  have hP : va_P D classes [(a, .inr (1, [.ref tt, .int (nI pl), .int (nI (max us (pl + 1)))])), (tt, .inr (0, [.int (nI 16), .ref pp])), (pp, .inl (cI, 1024, .inl (nF (va_cpy G F (t * 64) (pl * 64) 64)))), (b, .inr (0, [.int (nI cnt), .ref qq])), (qq, .inl (cI, n, .inl (nF G)))] H := hP
  have hD : va_D AA [(a, .inr (1, [.ref tt, .int (nI pl), .int (nI (max us (pl + 1)))])), (tt, .inr (0, [.int (nI 16), .ref pp])), (pp, .inl (cI, 1024, .inl (nF (va_cpy G F (t * 64) (pl * 64) 64)))), (b, .inr (0, [.int (nI cnt), .ref qq])), (qq, .inl (cI, n, .inl (nF G)))] := hD
  refine lv_aload_n hx hb d_Cache_put_30 rfl (lv_at hl 0 rfl) ?_
  refine lv_aload_n hx hb d_Cache_put_31 rfl (lv_at hl 0 rfl) ?_
  refine va_get (D := D) (ci := 1) (v := .int (nI pl)) (C := "TileScreen$Cache") (T := F_Cache) (N := 3) hx hb htb i_Cache hown hG.1 hP 0 rfl rfl 1 (by decide) (htb _ k_66) (fun _ h9 => h9) rfl d_Cache_put_32 ?_
  refine lv_iconst (v := nI 1) hx hb d_Cache_put_35 (by decide) ?_
  refine nv_iadd hx hb d_Cache_put_36 ?_
  refine lv_bipush (v := nI 16) hx hb d_Cache_put_37 (by decide) ?_
  refine nv_irem hx hb (by omega) (by omega) (by omega) d_Cache_put_39 ?_
  refine va_put (D := D) (ci := 1) (v := .int (nI ((pl + 1) % 16))) (ty := .int) (C := "TileScreen$Cache") (T := F_Cache) (N := 3) hx hb htb i_Cache t_Cache t_Cache_ok n_Cache hown hG.1 hP hD hS 0 rfl rfl 1 (by decide) (htb _ k_66) (fun _ h9 => h9) rfl (by decide +kernel) rfl rfl (Nat.le_of_ble_eq_true rfl) d_Cache_put_40 (fun H locs hP hD hS => ?_)
  have hP : va_P D classes [(a, .inr (1, [.ref tt, .int (nI ((pl + 1) % 16)), .int (nI (max us (pl + 1)))])), (tt, .inr (0, [.int (nI 16), .ref pp])), (pp, .inl (cI, 1024, .inl (nF (va_cpy G F (t * 64) (pl * 64) 64)))), (b, .inr (0, [.int (nI cnt), .ref qq])), (qq, .inl (cI, n, .inl (nF G)))] H := hP
  have hD : va_D AA [(a, .inr (1, [.ref tt, .int (nI ((pl + 1) % 16)), .int (nI (max us (pl + 1)))])), (tt, .inr (0, [.int (nI 16), .ref pp])), (pp, .inl (cI, 1024, .inl (nF (va_cpy G F (t * 64) (pl * 64) 64)))), (b, .inr (0, [.int (nI cnt), .ref qq])), (qq, .inl (cI, n, .inl (nF G)))] := hD
  exact hret () _ _ _ _ d_Cache_put_43 (trivial) hP hD hS
set_option maxHeartbeats 400000 in
set_option maxRecDepth 100000 in
theorem c_Line_init (a : Nat) : CV (S := Nat) l classes NW D (TYS cI cZ cL cV) y_Line_init (.code y_Line_init b_Line_init 1 none :: TB) { frames := 1, cells := 1, slots := 6247, locals := 12 } [.ref a] [(a, .inr (2, [.null, .int (nI 0), .int (nI 0)]))] (fun u => True) (fun u => [(a, .inr (2, [.ref u, .int (nI 0), .int (nI 0)])), (u, .inl (cI, 6247, .inl (nF (fun _ => 0))))]) := by
  refine CV.of (by decide) (Nat.le_of_ble_eq_true rfl) ?_
  intro pr ev sT mM aR bW mE cO AA QQ ls Bd hG hA hP hD hS hl hnm hret
  have Bd : bd pr cO b_Line_init 1 sT aR TB "TileScreen$Line" mM := Bd
  obtain ⟨hx, hb, hml, hown, htb⟩ := id Bd
  have hl : lv_has ls 1 [(0, .ref a)] := hl
  refine lv_aload_n hx hb d_Line_init_0 rfl (lv_at hl 0 rfl) ?_
  refine W.objInit hx hb hown (htb _ k_83) (htb _ k_24) (htb _ k_25) rfl (by rw [hml]; exact hl.1) rfl d_Line_init_1 (Nat.le_of_ble_eq_true rfl) (Nat.le_of_ble_eq_true rfl) ?_
  refine W.eq (g2 := F0 mM 4 ls []) rfl ?_
  refine lv_aload_n hx hb d_Line_init_4 rfl (lv_at hl 0 rfl) ?_
  refine lv_sipush (v := nI 6247) hx hb d_Line_init_5 (by decide) ?_
  refine nv_newi hx hb (htb _ k_39) hG.1 hP hD hS hA 0 rfl (Nat.le_of_ble_eq_true rfl) (Nat.le_of_ble_eq_true rfl) (Nat.le_of_ble_eq_true rfl) d_Line_init_8 (fun q1 H hP hD hS => ?_)
  have hP : va_P D classes [(a, .inr (2, [.null, .int (nI 0), .int (nI 0)])), (q1, .inl (cI, 6247, .inl (nF (fun _ => 0))))] H := hP
  have hD : va_D AA [(a, .inr (2, [.null, .int (nI 0), .int (nI 0)])), (q1, .inl (cI, 6247, .inl (nF (fun _ => 0))))] := hD
  refine W.widen (k := 1) (n := 6247) (Nat.le_of_ble_eq_true rfl) (Nat.le_of_ble_eq_true rfl) ?_
  refine va_putF (D := D) (ci := 2) (v := .ref q1) (ty := .array (.int)) (C := "TileScreen$Line") (T := F_Line) (N := 3) hx hb htb i_Line t_Line t_Line_ok n_Line hown hG.1 hP hD hS 0 rfl rfl 0 (by decide) (htb _ k_84) (fun _ h9 => h9) rfl hnm rfl (by decide +kernel) rfl rfl (Nat.le_of_ble_eq_true rfl) d_Line_init_10 (fun H locs hP hD hS => ?_)
  have hP : va_P D classes [(a, .inr (2, [.ref q1, .int (nI 0), .int (nI 0)])), (q1, .inl (cI, 6247, .inl (nF (fun _ => 0))))] H := hP
  have hD : va_D AA [(a, .inr (2, [.ref q1, .int (nI 0), .int (nI 0)])), (q1, .inl (cI, 6247, .inl (nF (fun _ => 0))))] := hD
  exact hret q1 _ _ _ _ d_Line_init_13 (trivial) hP hD hS
set_option maxHeartbeats 400000 in
set_option maxRecDepth 100000 in
theorem c_Line_clear (a : Nat) (pp : Nat) (fi : Nat) (sz : Nat) (B : Nat → Nat) : CV (S := Unit) l classes NW D (TYS cI cZ cL cV) y_Line_clear (.code y_Line_clear b_Line_clear 1 none :: TB) { frames := 0, cells := 0, slots := 0, locals := 0 } [.ref a] [(a, .inr (2, [.ref pp, .int (nI fi), .int (nI sz)])), (pp, .inl (cI, 6247, .inl (nF B)))] (fun u => True) (fun u => [(a, .inr (2, [.ref pp, .int (nI 0), .int (nI 0)])), (pp, .inl (cI, 6247, .inl (nF B)))]) := by
  refine CV.of (by decide) (Nat.le_of_ble_eq_true rfl) ?_
  intro pr ev sT mM aR bW mE cO AA QQ ls Bd hG hA hP hD hS hl hnm hret
  have Bd : bd pr cO b_Line_clear 1 sT aR TB "TileScreen$Line" mM := Bd
  obtain ⟨hx, hb, hml, hown, htb⟩ := id Bd
  have hl : lv_has ls 1 [(0, .ref a)] := hl
  refine lv_aload_n hx hb d_Line_clear_0 rfl (lv_at hl 0 rfl) ?_
  refine lv_iconst (v := nI 0) hx hb d_Line_clear_1 (by decide) ?_
  refine va_put (D := D) (ci := 2) (v := .int (nI 0)) (ty := .int) (C := "TileScreen$Line") (T := F_Line) (N := 3) hx hb htb i_Line t_Line t_Line_ok n_Line hown hG.1 hP hD hS 0 rfl rfl 1 (by decide) (htb _ k_86) (fun _ h9 => h9) rfl (by decide +kernel) rfl rfl (Nat.le_of_ble_eq_true rfl) d_Line_clear_2 (fun H locs hP hD hS => ?_)
  have hP : va_P D classes [(a, .inr (2, [.ref pp, .int (nI 0), .int (nI sz)])), (pp, .inl (cI, 6247, .inl (nF B)))] H := hP
  have hD : va_D AA [(a, .inr (2, [.ref pp, .int (nI 0), .int (nI sz)])), (pp, .inl (cI, 6247, .inl (nF B)))] := hD
  refine lv_aload_n hx hb d_Line_clear_5 rfl (lv_at hl 0 rfl) ?_
  refine lv_iconst (v := nI 0) hx hb d_Line_clear_6 (by decide) ?_
  refine va_put (D := D) (ci := 2) (v := .int (nI 0)) (ty := .int) (C := "TileScreen$Line") (T := F_Line) (N := 3) hx hb htb i_Line t_Line t_Line_ok n_Line hown hG.1 hP hD hS 0 rfl rfl 2 (by decide) (htb _ k_87) (fun _ h9 => h9) rfl (by decide +kernel) rfl rfl (Nat.le_of_ble_eq_true rfl) d_Line_clear_7 (fun H locs hP hD hS => ?_)
  have hP : va_P D classes [(a, .inr (2, [.ref pp, .int (nI 0), .int (nI 0)])), (pp, .inl (cI, 6247, .inl (nF B)))] H := hP
  have hD : va_D AA [(a, .inr (2, [.ref pp, .int (nI 0), .int (nI 0)])), (pp, .inl (cI, 6247, .inl (nF B)))] := hD
  exact hret () _ _ _ _ d_Line_clear_10 (trivial) hP hD hS
set_option maxHeartbeats 400000 in
set_option maxRecDepth 100000 in
theorem c_Line_add (a : Nat) (pp : Nat) (fi : Nat) (sz : Nat) (B : Nat → Nat) (x : Nat) (h0 : fi + sz < 6247) : CV (S := Unit) l classes NW D (TYS cI cZ cL cV) y_Line_add (.code y_Line_add b_Line_add 2 none :: TB) { frames := 0, cells := 0, slots := 0, locals := 0 } [.ref a, .int (nI x)] [(a, .inr (2, [.ref pp, .int (nI fi), .int (nI sz)])), (pp, .inl (cI, 6247, .inl (nF B)))] (fun u => True) (fun u => [(a, .inr (2, [.ref pp, .int (nI fi), .int (nI (sz + 1))])), (pp, .inl (cI, 6247, .inl (nF (up B (fi + sz) x))))]) := by
  refine CV.of (by decide) (Nat.le_of_ble_eq_true rfl) ?_
  intro pr ev sT mM aR bW mE cO AA QQ ls Bd hG hA hP hD hS hl hnm hret
  have Bd : bd pr cO b_Line_add 2 sT aR TB "TileScreen$Line" mM := Bd
  obtain ⟨hx, hb, hml, hown, htb⟩ := id Bd
  have hl : lv_has ls 2 [(0, .ref a), (1, .int (nI x))] := hl
  refine lv_aload_n hx hb d_Line_add_0 rfl (lv_at hl 0 rfl) ?_
  refine va_get (D := D) (ci := 2) (v := .int (nI fi)) (C := "TileScreen$Line") (T := F_Line) (N := 3) hx hb htb i_Line hown hG.1 hP 0 rfl rfl 1 (by decide) (htb _ k_86) (fun _ h9 => h9) rfl d_Line_add_1 ?_
  refine lv_aload_n hx hb d_Line_add_4 rfl (lv_at hl 0 rfl) ?_
  refine va_get (D := D) (ci := 2) (v := .int (nI sz)) (C := "TileScreen$Line") (T := F_Line) (N := 3) hx hb htb i_Line hown hG.1 hP 0 rfl rfl 2 (by decide) (htb _ k_87) (fun _ h9 => h9) rfl d_Line_add_5 ?_
  refine nv_iadd hx hb d_Line_add_8 ?_
  refine lv_aload_n hx hb d_Line_add_9 rfl (lv_at hl 0 rfl) ?_
  refine va_get (D := D) (ci := 2) (v := .ref pp) (C := "TileScreen$Line") (T := F_Line) (N := 3) hx hb htb i_Line hown hG.1 hP 0 rfl rfl 0 (by decide) (htb _ k_84) (fun _ h9 => h9) rfl d_Line_add_10 ?_
  refine va_alen (v := nI 6247) hx hb hG.1 hP 1 0 rfl rfl rfl d_Line_add_13 ?_
  refine nv_icmp_ge (tgt := 42) hx hb d_Line_add_14 (by decide) (by omega) (by omega) (fun c_14 => ?_) (fun c_14 => ?_)
  · omega
  · refine lv_aload_n hx hb d_Line_add_17 rfl (lv_at hl 0 rfl) ?_
    refine va_get (D := D) (ci := 2) (v := .ref pp) (C := "TileScreen$Line") (T := F_Line) (N := 3) hx hb htb i_Line hown hG.1 hP 0 rfl rfl 0 (by decide) (htb _ k_84) (fun _ h9 => h9) rfl d_Line_add_18 ?_
    refine lv_aload_n hx hb d_Line_add_21 rfl (lv_at hl 0 rfl) ?_
    refine va_get (D := D) (ci := 2) (v := .int (nI fi)) (C := "TileScreen$Line") (T := F_Line) (N := 3) hx hb htb i_Line hown hG.1 hP 0 rfl rfl 1 (by decide) (htb _ k_86) (fun _ h9 => h9) rfl d_Line_add_22 ?_
    refine lv_aload_n hx hb d_Line_add_25 rfl (lv_at hl 0 rfl) ?_
    refine va_get (D := D) (ci := 2) (v := .int (nI sz)) (C := "TileScreen$Line") (T := F_Line) (N := 3) hx hb htb i_Line hown hG.1 hP 0 rfl rfl 2 (by decide) (htb _ k_87) (fun _ h9 => h9) rfl d_Line_add_26 ?_
    refine nv_iadd hx hb d_Line_add_29 ?_
    refine lv_iload_n hx hb d_Line_add_30 rfl (lv_at hl 1 rfl) ?_
    refine nv_iast hx hb hG.1 hP hD hS 1 0 rfl rfl (by omega) (by omega) d_Line_add_31 (fun H locs hP hD hS => ?_)
    have hP : va_P D classes [(a, .inr (2, [.ref pp, .int (nI fi), .int (nI sz)])), (pp, .inl (cI, 6247, .inl (nF (up B (fi + sz) x))))] H := hP
    have hD : va_D AA [(a, .inr (2, [.ref pp, .int (nI fi), .int (nI sz)])), (pp, .inl (cI, 6247, .inl (nF (up B (fi + sz) x))))] := hD
    refine lv_aload_n hx hb d_Line_add_32 rfl (lv_at hl 0 rfl) ?_
    refine lv_dup hx hb d_Line_add_33 rfl ?_
    refine va_get (D := D) (ci := 2) (v := .int (nI sz)) (C := "TileScreen$Line") (T := F_Line) (N := 3) hx hb htb i_Line hown hG.1 hP 0 rfl rfl 2 (by decide) (htb _ k_87) (fun _ h9 => h9) rfl d_Line_add_34 ?_
    refine lv_iconst (v := nI 1) hx hb d_Line_add_37 (by decide) ?_
    refine nv_iadd hx hb d_Line_add_38 ?_
    refine va_put (D := D) (ci := 2) (v := .int (nI (sz + 1))) (ty := .int) (C := "TileScreen$Line") (T := F_Line) (N := 3) hx hb htb i_Line t_Line t_Line_ok n_Line hown hG.1 hP hD hS 0 rfl rfl 2 (by decide) (htb _ k_87) (fun _ h9 => h9) rfl (by decide +kernel) rfl rfl (Nat.le_of_ble_eq_true rfl) d_Line_add_39 (fun H locs hP hD hS => ?_)
    have hP : va_P D classes [(a, .inr (2, [.ref pp, .int (nI fi), .int (nI (sz + 1))])), (pp, .inl (cI, 6247, .inl (nF (up B (fi + sz) x))))] H := hP
    have hD : va_D AA [(a, .inr (2, [.ref pp, .int (nI fi), .int (nI (sz + 1))])), (pp, .inl (cI, 6247, .inl (nF (up B (fi + sz) x))))] := hD
    exact hret () _ _ _ _ d_Line_add_42 (trivial) hP hD hS
set_option maxHeartbeats 400000 in
set_option maxRecDepth 100000 in
theorem c_Line_addPair (a : Nat) (pp : Nat) (fi : Nat) (sz : Nat) (B : Nat → Nat) (x : Nat) (h0 : fi + sz + 1 < 6247) (hx1 : x < 2 ^ 31) : CV (S := Unit) l classes NW D (TYS cI cZ cL cV) y_Line_addPair (.code y_Line_addPair b_Line_addPair 2 none :: TB) { frames := 1, cells := 0, slots := 0, locals := 21 } [.ref a, .int (nI x)] [(a, .inr (2, [.ref pp, .int (nI fi), .int (nI sz)])), (pp, .inl (cI, 6247, .inl (nF B)))] (fun u => True) (fun u => [(a, .inr (2, [.ref pp, .int (nI fi), .int (nI (sz + 2))])), (pp, .inl (cI, 6247, .inl (nF (up (up B (fi + sz) (x / 256 % 256)) (fi + sz + 1) (x % 256)))))]) := by
  refine CV.of (by decide) (Nat.le_of_ble_eq_true rfl) ?_
  intro pr ev sT mM aR bW mE cO AA QQ ls Bd hG hA hP hD hS hl hnm hret
  have Bd : bd pr cO b_Line_addPair 2 sT aR TB "TileScreen$Line" mM := Bd
  obtain ⟨hx, hb, hml, hown, htb⟩ := id Bd
  have hl : lv_has ls 2 [(0, .ref a), (1, .int (nI x))] := hl
  refine lv_aload_n hx hb d_Line_addPair_0 rfl (lv_at hl 0 rfl) ?_
  refine lv_iload_n hx hb d_Line_addPair_1 rfl (lv_at hl 1 rfl) ?_
  refine lv_bipush (v := nI 8) hx hb d_Line_addPair_2 (by decide) ?_
  refine nv_ishr hx hb (by omega) (by omega) d_Line_addPair_4 ?_
  refine lv_sipush (v := nI 255) hx hb d_Line_addPair_5 (by decide) ?_
  refine nv_iandm hx hb 8 rfl d_Line_addPair_8 ?_
  refine kV_v (wc := [(a, .inr (2, [.ref pp, .int (nI fi), .int (nI sz)])), (pp, .inl (cI, 6247, .inl (nF B)))]) (wr := []) (w2 := fun _ => [(a, .inr (2, [.ref pp, .int (nI fi), .int (nI (sz + 1))])), (pp, .inl (cI, 6247, .inl (nF (up B (fi + sz) ((x / 2 ^ 8) % 256)))))]) [.int (nI ((x / 2 ^ 8) % 256))] [] Bd ⟨gi_app (gi_c0 k_352 (gi_c0 k_345 (gi_c0 k_346 (gi_c0 k_6 gi_nil)))) (gi_tb0 k_347), rfl, by decide, by decide⟩ (show (parseMethodDescriptor "(I)V").map (fun d => d.parameters.length) = some 1 by decide +kernel) (c_Line_add a pp fi sz B ((x / 2 ^ 8) % 256) (by omega)) (by decide +kernel) ⟨Nat.le_of_ble_eq_true rfl, Nat.le_of_ble_eq_true rfl⟩ hG hP hD hS hA [0, 1] [] [0, 1] (by decide) rfl rfl (fun _ => rfl) (q0 := 0) rfl rfl rfl hl.1 rfl (Nat.le_of_ble_eq_true rfl) d_Line_addPair_9 (fun u2 H locs hp1 hP hD hS => ?_)
  have hP : va_P D classes [(a, .inr (2, [.ref pp, .int (nI fi), .int (nI (sz + 1))])), (pp, .inl (cI, 6247, .inl (nF (up B (fi + sz) ((x / 2 ^ 8) % 256)))))] H := hP
  have hD : va_D AA [(a, .inr (2, [.ref pp, .int (nI fi), .int (nI (sz + 1))])), (pp, .inl (cI, 6247, .inl (nF (up B (fi + sz) ((x / 2 ^ 8) % 256)))))] := hD
  refine lv_aload_n hx hb d_Line_addPair_12 rfl (lv_at hl 0 rfl) ?_
  refine lv_iload_n hx hb d_Line_addPair_13 rfl (lv_at hl 1 rfl) ?_
  refine lv_sipush (v := nI 255) hx hb d_Line_addPair_14 (by decide) ?_
  refine nv_iandm hx hb 8 rfl d_Line_addPair_17 ?_
  refine kV_v (wc := [(a, .inr (2, [.ref pp, .int (nI fi), .int (nI (sz + 1))])), (pp, .inl (cI, 6247, .inl (nF (up B (fi + sz) ((x / 2 ^ 8) % 256)))))]) (wr := []) (w2 := fun _ => [(a, .inr (2, [.ref pp, .int (nI fi), .int (nI ((sz + 1) + 1))])), (pp, .inl (cI, 6247, .inl (nF (up (up B (fi + sz) ((x / 2 ^ 8) % 256)) (fi + (sz + 1)) (x % 256)))))]) [.int (nI (x % 256))] [] Bd ⟨gi_app (gi_c0 k_352 (gi_c0 k_345 (gi_c0 k_346 (gi_c0 k_6 gi_nil)))) (gi_tb0 k_347), rfl, by decide, by decide⟩ (show (parseMethodDescriptor "(I)V").map (fun d => d.parameters.length) = some 1 by decide +kernel) (c_Line_add a pp fi (sz + 1) (up B (fi + sz) ((x / 2 ^ 8) % 256)) (x % 256) (by omega)) (by decide +kernel) ⟨Nat.le_of_ble_eq_true rfl, Nat.le_of_ble_eq_true rfl⟩ hG hP hD hS hA [0, 1] [] [0, 1] (by decide) rfl rfl (fun _ => rfl) (q0 := 0) rfl rfl rfl hl.1 rfl (Nat.le_of_ble_eq_true rfl) d_Line_addPair_18 (fun u4 H locs hp3 hP hD hS => ?_)
  have hP : va_P D classes [(a, .inr (2, [.ref pp, .int (nI fi), .int (nI ((sz + 1) + 1))])), (pp, .inl (cI, 6247, .inl (nF (up (up B (fi + sz) ((x / 2 ^ 8) % 256)) (fi + (sz + 1)) (x % 256)))))] H := hP
  have hD : va_D AA [(a, .inr (2, [.ref pp, .int (nI fi), .int (nI ((sz + 1) + 1))])), (pp, .inl (cI, 6247, .inl (nF (up (up B (fi + sz) ((x / 2 ^ 8) % 256)) (fi + (sz + 1)) (x % 256)))))] := hD
  exact hret () _ _ _ _ d_Line_addPair_21 (trivial) hP hD hS
set_option maxHeartbeats 400000 in
set_option maxRecDepth 100000 in
theorem c_Line_set (a : Nat) (pp : Nat) (fi : Nat) (sz : Nat) (B : Nat → Nat) (k : Nat) (x : Nat) (h0 : k < sz) (h1 : fi + sz ≤ 6247) : CV (S := Unit) l classes NW D (TYS cI cZ cL cV) y_Line_set (.code y_Line_set b_Line_set 3 none :: TB) { frames := 0, cells := 0, slots := 0, locals := 0 } [.ref a, .int (nI k), .int (nI x)] [(a, .inr (2, [.ref pp, .int (nI fi), .int (nI sz)])), (pp, .inl (cI, 6247, .inl (nF B)))] (fun u => True) (fun u => [(a, .inr (2, [.ref pp, .int (nI fi), .int (nI sz)])), (pp, .inl (cI, 6247, .inl (nF (up B (fi + k) x))))]) := by
  refine CV.of (by decide) (Nat.le_of_ble_eq_true rfl) ?_
  intro pr ev sT mM aR bW mE cO AA QQ ls Bd hG hA hP hD hS hl hnm hret
  have Bd : bd pr cO b_Line_set 3 sT aR TB "TileScreen$Line" mM := Bd
  obtain ⟨hx, hb, hml, hown, htb⟩ := id Bd
  have hl : lv_has ls 3 [(0, .ref a), (1, .int (nI k)), (2, .int (nI x))] := hl
  refine lv_iload_n hx hb d_Line_set_0 rfl (lv_at hl 1 rfl) ?_
  refine nv_if_ltF hx hb 24 d_Line_set_1 (by decide) (by omega) ?_
  refine lv_iload_n hx hb d_Line_set_4 rfl (lv_at hl 1 rfl) ?_
  refine lv_aload_n hx hb d_Line_set_5 rfl (lv_at hl 0 rfl) ?_
  refine va_get (D := D) (ci := 2) (v := .int (nI sz)) (C := "TileScreen$Line") (T := F_Line) (N := 3) hx hb htb i_Line hown hG.1 hP 0 rfl rfl 2 (by decide) (htb _ k_87) (fun _ h9 => h9) rfl d_Line_set_6 ?_
  refine nv_icmp_ge (tgt := 24) hx hb d_Line_set_9 (by decide) (by omega) (by omega) (fun c_9 => ?_) (fun c_9 => ?_)
  · omega
  · refine lv_aload_n hx hb d_Line_set_12 rfl (lv_at hl 0 rfl) ?_
    refine va_get (D := D) (ci := 2) (v := .ref pp) (C := "TileScreen$Line") (T := F_Line) (N := 3) hx hb htb i_Line hown hG.1 hP 0 rfl rfl 0 (by decide) (htb _ k_84) (fun _ h9 => h9) rfl d_Line_set_13 ?_
    refine lv_aload_n hx hb d_Line_set_16 rfl (lv_at hl 0 rfl) ?_
    refine va_get (D := D) (ci := 2) (v := .int (nI fi)) (C := "TileScreen$Line") (T := F_Line) (N := 3) hx hb htb i_Line hown hG.1 hP 0 rfl rfl 1 (by decide) (htb _ k_86) (fun _ h9 => h9) rfl d_Line_set_17 ?_
    refine lv_iload_n hx hb d_Line_set_20 rfl (lv_at hl 1 rfl) ?_
    refine nv_iadd hx hb d_Line_set_21 ?_
    refine lv_iload_n hx hb d_Line_set_22 rfl (lv_at hl 2 rfl) ?_
    refine nv_iast hx hb hG.1 hP hD hS 1 0 rfl rfl (by omega) (by omega) d_Line_set_23 (fun H locs hP hD hS => ?_)
    have hP : va_P D classes [(a, .inr (2, [.ref pp, .int (nI fi), .int (nI sz)])), (pp, .inl (cI, 6247, .inl (nF (up B (fi + k) x))))] H := hP
    have hD : va_D AA [(a, .inr (2, [.ref pp, .int (nI fi), .int (nI sz)])), (pp, .inl (cI, 6247, .inl (nF (up B (fi + k) x))))] := hD
    exact hret () _ _ _ _ d_Line_set_24 (trivial) hP hD hS
set_option maxHeartbeats 400000 in
set_option maxRecDepth 100000 in
theorem c_Line_get (a : Nat) (pp : Nat) (fi : Nat) (sz : Nat) (B : Nat → Nat) (k : Int32) (h1 : fi + sz ≤ 6247) : CI (S := Unit) l classes NW D (TYS cI cZ cL cV) y_Line_get (.code y_Line_get b_Line_get 2 (some .int) :: TB) { frames := 0, cells := 0, slots := 0, locals := 0 } [.ref a, .int k] [(a, .inr (2, [.ref pp, .int (nI fi), .int (nI sz)])), (pp, .inl (cI, 6247, .inl (nF B)))] (fun r u => (((∃ j, j < sz ∧ k = nI j ∧ r = nI (B (fi + j))) ∨ ((∀ j, j < sz → k ≠ nI j) ∧ r = -1)))) (fun u => [(a, .inr (2, [.ref pp, .int (nI fi), .int (nI sz)])), (pp, .inl (cI, 6247, .inl (nF B)))]) := by
  refine CI.of (by decide) (Nat.le_of_ble_eq_true rfl) ?_
  intro pr ev sT mM aR bW mE cO AA QQ ls Bd hG hA hP hD hS hl hret
  have Bd : bd pr cO b_Line_get 2 sT aR TB "TileScreen$Line" mM := Bd
  obtain ⟨hx, hb, hml, hown, htb⟩ := id Bd
  have hl : lv_has ls 2 [(0, .ref a), (1, .int k)] := hl
  refine lv_iload_n hx hb d_Line_get_0 rfl (lv_at hl 1 rfl) ?_
  refine lv_if_lt (tgt := 26) hx hb d_Line_get_1 (by decide) (fun c_1 => ?_) (fun c_1 => ?_)
  · refine lv_iconst (v := -1) hx hb d_Line_get_26 (by decide) ?_
    exact hret _ () _ _ _ _ d_Line_get_27 rfl (Or.inr ⟨fun j hj q => absurd (q ▸ c_1) (nI_pos (by omega)), rfl⟩) hP hD hS
  · refine lv_iload_n hx hb d_Line_get_4 rfl (lv_at hl 1 rfl) ?_
    refine lv_aload_n hx hb d_Line_get_5 rfl (lv_at hl 0 rfl) ?_
    refine va_get (D := D) (ci := 2) (v := .int (nI sz)) (C := "TileScreen$Line") (T := F_Line) (N := 3) hx hb htb i_Line hown hG.1 hP 0 rfl rfl 2 (by decide) (htb _ k_87) (fun _ h9 => h9) rfl d_Line_get_6 ?_
    refine lv_icmp_ge (tgt := 26) hx hb d_Line_get_9 (by decide) (fun c_9 => ?_) (fun c_9 => ?_)
    · refine lv_iconst (v := -1) hx hb d_Line_get_26 (by decide) ?_
      exact hret _ () _ _ _ _ d_Line_get_27 rfl (Or.inr ⟨fun j hj q => absurd ((nI_leI (by omega) (by omega)).mp (q ▸ c_9)) (by omega), rfl⟩) hP hD hS
    · obtain ⟨j, hj, rfl⟩ : ∃ j, j < sz ∧ k = nI j := (pk_ix k (show sz < 2 ^ 31 by omega)).resolve_left c_1 |>.resolve_left c_9
      refine lv_aload_n hx hb d_Line_get_12 rfl (lv_at hl 0 rfl) ?_
      refine va_get (D := D) (ci := 2) (v := .ref pp) (C := "TileScreen$Line") (T := F_Line) (N := 3) hx hb htb i_Line hown hG.1 hP 0 rfl rfl 0 (by decide) (htb _ k_84) (fun _ h9 => h9) rfl d_Line_get_13 ?_
      refine lv_aload_n hx hb d_Line_get_16 rfl (lv_at hl 0 rfl) ?_
      refine va_get (D := D) (ci := 2) (v := .int (nI fi)) (C := "TileScreen$Line") (T := F_Line) (N := 3) hx hb htb i_Line hown hG.1 hP 0 rfl rfl 1 (by decide) (htb _ k_86) (fun _ h9 => h9) rfl d_Line_get_17 ?_
      refine lv_iload_n hx hb d_Line_get_20 rfl (lv_at hl 1 rfl) ?_
      refine nv_iadd hx hb d_Line_get_21 ?_
      refine nv_iald hx hb hG.1 hP 1 0 rfl rfl (by omega) (by omega) d_Line_get_22 ?_
      refine lv_goto (tgt := 27) hx hb d_Line_get_23 (by decide) ?_
      exact hret _ () _ _ _ _ d_Line_get_27 rfl (Or.inl ⟨j, hj, rfl, rfl⟩) hP hD hS
set_option maxHeartbeats 400000 in
set_option maxRecDepth 100000 in
theorem c_Line_removeFirst (a : Nat) (pp : Nat) (fi : Nat) (sz : Nat) (B : Nat → Nat) (h0 : 0 < sz) (h1 : fi + sz ≤ 6247) : CI (S := Unit) l classes NW D (TYS cI cZ cL cV) y_Line_removeFirst (.code y_Line_removeFirst b_Line_removeFirst 2 (some .int) :: TB) { frames := 0, cells := 0, slots := 0, locals := 0 } [.ref a] [(a, .inr (2, [.ref pp, .int (nI fi), .int (nI sz)])), (pp, .inl (cI, 6247, .inl (nF B)))] (fun r u => r = nI (B fi)) (fun u => [(a, .inr (2, [.ref pp, .int (nI (fi + 1)), .int (nI (sz - 1))])), (pp, .inl (cI, 6247, .inl (nF B)))]) := by
  refine CI.of (by decide) (Nat.le_of_ble_eq_true rfl) ?_
  intro pr ev sT mM aR bW mE cO AA QQ ls Bd hG hA hP hD hS hl hret
  have Bd : bd pr cO b_Line_removeFirst 2 sT aR TB "TileScreen$Line" mM := Bd
  obtain ⟨hx, hb, hml, hown, htb⟩ := id Bd
  have hl : lv_has ls 2 [(0, .ref a)] := hl
  refine lv_aload_n hx hb d_Line_removeFirst_0 rfl (lv_at hl 0 rfl) ?_
  refine va_get (D := D) (ci := 2) (v := .int (nI sz)) (C := "TileScreen$Line") (T := F_Line) (N := 3) hx hb htb i_Line hown hG.1 hP 0 rfl rfl 2 (by decide) (htb _ k_87) (fun _ h9 => h9) rfl d_Line_removeFirst_1 ?_
  refine nv_if_ne (tgt := 9) hx hb d_Line_removeFirst_4 (by decide) (by omega) (fun c_4 => ?_) (fun c_4 => ?_)
  · refine lv_aload_n hx hb d_Line_removeFirst_9 rfl (lv_at hl 0 rfl) ?_
    refine va_get (D := D) (ci := 2) (v := .ref pp) (C := "TileScreen$Line") (T := F_Line) (N := 3) hx hb htb i_Line hown hG.1 hP 0 rfl rfl 0 (by decide) (htb _ k_84) (fun _ h9 => h9) rfl d_Line_removeFirst_10 ?_
    refine lv_aload_n hx hb d_Line_removeFirst_13 rfl (lv_at hl 0 rfl) ?_
    refine va_get (D := D) (ci := 2) (v := .int (nI fi)) (C := "TileScreen$Line") (T := F_Line) (N := 3) hx hb htb i_Line hown hG.1 hP 0 rfl rfl 1 (by decide) (htb _ k_86) (fun _ h9 => h9) rfl d_Line_removeFirst_14 ?_
    refine nv_iald hx hb hG.1 hP 1 0 rfl rfl (by omega) (by omega) d_Line_removeFirst_17 ?_
    refine lv_istore_n (lv' := [(1, .int (nI (B fi))), (0, .ref a)]) hx hb d_Line_removeFirst_18 rfl hl (by decide) rfl (fun ls hl => ?_)
    refine lv_aload_n hx hb d_Line_removeFirst_19 rfl (lv_at hl 1 rfl) ?_
    refine lv_dup hx hb d_Line_removeFirst_20 rfl ?_
    refine va_get (D := D) (ci := 2) (v := .int (nI fi)) (C := "TileScreen$Line") (T := F_Line) (N := 3) hx hb htb i_Line hown hG.1 hP 0 rfl rfl 1 (by decide) (htb _ k_86) (fun _ h9 => h9) rfl d_Line_removeFirst_21 ?_
    refine lv_iconst (v := nI 1) hx hb d_Line_removeFirst_24 (by decide) ?_
    refine nv_iadd hx hb d_Line_removeFirst_25 ?_
    refine va_put (D := D) (ci := 2) (v := .int (nI (fi + 1))) (ty := .int) (C := "TileScreen$Line") (T := F_Line) (N := 3) hx hb htb i_Line t_Line t_Line_ok n_Line hown hG.1 hP hD hS 0 rfl rfl 1 (by decide) (htb _ k_86) (fun _ h9 => h9) rfl (by decide +kernel) rfl rfl (Nat.le_of_ble_eq_true rfl) d_Line_removeFirst_26 (fun H locs hP hD hS => ?_)
    have hP : va_P D classes [(a, .inr (2, [.ref pp, .int (nI (fi + 1)), .int (nI sz)])), (pp, .inl (cI, 6247, .inl (nF B)))] H := hP
    have hD : va_D AA [(a, .inr (2, [.ref pp, .int (nI (fi + 1)), .int (nI sz)])), (pp, .inl (cI, 6247, .inl (nF B)))] := hD
    refine lv_aload_n hx hb d_Line_removeFirst_29 rfl (lv_at hl 1 rfl) ?_
    refine lv_dup hx hb d_Line_removeFirst_30 rfl ?_
    refine va_get (D := D) (ci := 2) (v := .int (nI sz)) (C := "TileScreen$Line") (T := F_Line) (N := 3) hx hb htb i_Line hown hG.1 hP 0 rfl rfl 2 (by decide) (htb _ k_87) (fun _ h9 => h9) rfl d_Line_removeFirst_31 ?_
    refine lv_iconst (v := nI 1) hx hb d_Line_removeFirst_34 (by decide) ?_
    refine nv_isub hx hb (by omega) d_Line_removeFirst_35 ?_
    refine va_put (D := D) (ci := 2) (v := .int (nI (sz - 1))) (ty := .int) (C := "TileScreen$Line") (T := F_Line) (N := 3) hx hb htb i_Line t_Line t_Line_ok n_Line hown hG.1 hP hD hS 0 rfl rfl 2 (by decide) (htb _ k_87) (fun _ h9 => h9) rfl (by decide +kernel) rfl rfl (Nat.le_of_ble_eq_true rfl) d_Line_removeFirst_36 (fun H locs hP hD hS => ?_)
    have hP : va_P D classes [(a, .inr (2, [.ref pp, .int (nI (fi + 1)), .int (nI (sz - 1))])), (pp, .inl (cI, 6247, .inl (nF B)))] H := hP
    have hD : va_D AA [(a, .inr (2, [.ref pp, .int (nI (fi + 1)), .int (nI (sz - 1))])), (pp, .inl (cI, 6247, .inl (nF B)))] := hD
    refine lv_iload_n hx hb d_Line_removeFirst_39 rfl (lv_at hl 0 rfl) ?_
    exact hret _ () _ _ _ _ d_Line_removeFirst_40 rfl (rfl) hP hD hS
  · omega
set_option maxHeartbeats 400000 in
set_option maxRecDepth 100000 in
theorem c_Poisons_init (a : Nat) : CV (S := Nat × Nat) l classes NW D (TYS cI cZ cL cV) y_Poisons_init (.code y_Poisons_init b_Poisons_init 1 none :: TB) { frames := 1, cells := 2, slots := 16, locals := 12 } [.ref a] [(a, .inr (3, [.null, .null, .int (nI 0)]))] (fun u => True) (fun u => [(a, .inr (3, [.ref u.1, .ref u.2, .int (nI 0)])), (u.1, .inl (cI, 8, .inl (nF (fun _ => 0)))), (u.2, .inl (cI, 8, .inl (nF (fun _ => 0))))]) := by
  refine CV.of (by decide) (Nat.le_of_ble_eq_true rfl) ?_
  intro pr ev sT mM aR bW mE cO AA QQ ls Bd hG hA hP hD hS hl hnm hret
  have Bd : bd pr cO b_Poisons_init 1 sT aR TB "TileScreen$Poisons" mM := Bd
  obtain ⟨hx, hb, hml, hown, htb⟩ := id Bd
  have hl : lv_has ls 1 [(0, .ref a)] := hl
  refine lv_aload_n hx hb d_Poisons_init_0 rfl (lv_at hl 0 rfl) ?_
  refine W.objInit hx hb hown (htb _ k_202) (htb _ k_24) (htb _ k_25) rfl (by rw [hml]; exact hl.1) rfl d_Poisons_init_1 (Nat.le_of_ble_eq_true rfl) (Nat.le_of_ble_eq_true rfl) ?_
  refine W.eq (g2 := F0 mM 4 ls []) rfl ?_
  refine lv_aload_n hx hb d_Poisons_init_4 rfl (lv_at hl 0 rfl) ?_
  refine lv_bipush (v := nI 8) hx hb d_Poisons_init_5 (by decide) ?_
  refine nv_newi hx hb (htb _ k_39) hG.1 hP hD hS hA 0 rfl (Nat.le_of_ble_eq_true rfl) (Nat.le_of_ble_eq_true rfl) (Nat.le_of_ble_eq_true rfl) d_Poisons_init_7 (fun q1 H hP hD hS => ?_)
  have hP : va_P D classes [(a, .inr (3, [.null, .null, .int (nI 0)])), (q1, .inl (cI, 8, .inl (nF (fun _ => 0))))] H := hP
  have hD : va_D AA [(a, .inr (3, [.null, .null, .int (nI 0)])), (q1, .inl (cI, 8, .inl (nF (fun _ => 0))))] := hD
  refine W.widen (k := 1) (n := 8) (Nat.le_of_ble_eq_true rfl) (Nat.le_of_ble_eq_true rfl) ?_
  refine va_putF (D := D) (ci := 3) (v := .ref q1) (ty := .array (.int)) (C := "TileScreen$Poisons") (T := F_Poisons) (N := 3) hx hb htb i_Poisons t_Poisons t_Poisons_ok n_Poisons hown hG.1 hP hD hS 0 rfl rfl 0 (by decide) (htb _ k_203) (fun _ h9 => h9) rfl hnm rfl (by decide +kernel) rfl rfl (Nat.le_of_ble_eq_true rfl) d_Poisons_init_9 (fun H locs hP hD hS => ?_)
  have hP : va_P D classes [(a, .inr (3, [.ref q1, .null, .int (nI 0)])), (q1, .inl (cI, 8, .inl (nF (fun _ => 0))))] H := hP
  have hD : va_D AA [(a, .inr (3, [.ref q1, .null, .int (nI 0)])), (q1, .inl (cI, 8, .inl (nF (fun _ => 0))))] := hD
  refine lv_aload_n hx hb d_Poisons_init_12 rfl (lv_at hl 0 rfl) ?_
  refine lv_bipush (v := nI 8) hx hb d_Poisons_init_13 (by decide) ?_
  refine nv_newi hx hb (htb _ k_39) hG.1 hP hD hS hA 0 rfl (Nat.le_of_ble_eq_true rfl) (Nat.le_of_ble_eq_true rfl) (Nat.le_of_ble_eq_true rfl) d_Poisons_init_15 (fun q2 H hP hD hS => ?_)
  have hP : va_P D classes [(a, .inr (3, [.ref q1, .null, .int (nI 0)])), (q1, .inl (cI, 8, .inl (nF (fun _ => 0)))), (q2, .inl (cI, 8, .inl (nF (fun _ => 0))))] H := hP
  have hD : va_D AA [(a, .inr (3, [.ref q1, .null, .int (nI 0)])), (q1, .inl (cI, 8, .inl (nF (fun _ => 0)))), (q2, .inl (cI, 8, .inl (nF (fun _ => 0))))] := hD
  refine W.widen (k := 2) (n := 16) (Nat.le_of_ble_eq_true rfl) (Nat.le_of_ble_eq_true rfl) ?_
  refine va_putF (D := D) (ci := 3) (v := .ref q2) (ty := .array (.int)) (C := "TileScreen$Poisons") (T := F_Poisons) (N := 3) hx hb htb i_Poisons t_Poisons t_Poisons_ok n_Poisons hown hG.1 hP hD hS 0 rfl rfl 1 (by decide) (htb _ k_204) (fun _ h9 => h9) rfl hnm rfl (by decide +kernel) rfl rfl (Nat.le_of_ble_eq_true rfl) d_Poisons_init_17 (fun H locs hP hD hS => ?_)
  have hP : va_P D classes [(a, .inr (3, [.ref q1, .ref q2, .int (nI 0)])), (q1, .inl (cI, 8, .inl (nF (fun _ => 0)))), (q2, .inl (cI, 8, .inl (nF (fun _ => 0))))] H := hP
  have hD : va_D AA [(a, .inr (3, [.ref q1, .ref q2, .int (nI 0)])), (q1, .inl (cI, 8, .inl (nF (fun _ => 0)))), (q2, .inl (cI, 8, .inl (nF (fun _ => 0))))] := hD
  have hR := hret (q1, q2) H locs 20 ls d_Poisons_init_20
  try dsimp only at hR
  exact hR (trivial) hP hD hS
set_option maxHeartbeats 400000 in
set_option maxRecDepth 100000 in
theorem c_Poisons_add (a : Nat) (pp : Nat) (qq : Nat) (cn : Nat) (q1 : Nat → Nat) (w1 : Nat → Nat) (n : Nat) (x : Nat) (hc : cn ≤ 8) : CV (S := Unit) l classes NW D (TYS cI cZ cL cV) y_Poisons_add (.code y_Poisons_add b_Poisons_add 3 none :: TB) { frames := 0, cells := 0, slots := 0, locals := 0 } [.ref a, .int (nI n), .int (nI x)] [(a, .inr (3, [.ref pp, .ref qq, .int (nI cn)])), (pp, .inl (cI, 8, .inl (nF q1))), (qq, .inl (cI, 8, .inl (nF w1)))] (fun u => True) (fun u => [(a, .inr (3, [.ref pp, .ref qq, .int (nI (min (cn + 1) 8))])), (pp, .inl (cI, 8, .inl (nF (up q1 (min cn 7) n)))), (qq, .inl (cI, 8, .inl (nF (up w1 (min cn 7) x))))]) := by
  refine CV.of (by decide) (Nat.le_of_ble_eq_true rfl) ?_
  intro pr ev sT mM aR bW mE cO AA QQ ls Bd hG hA hP hD hS hl hnm hret
  have Bd : bd pr cO b_Poisons_add 3 sT aR TB "TileScreen$Poisons" mM := Bd
  obtain ⟨hx, hb, hml, hown, htb⟩ := id Bd
  have hl : lv_has ls 3 [(0, .ref a), (1, .int (nI n)), (2, .int (nI x))] := hl
  refine lv_aload_n hx hb d_Poisons_add_0 rfl (lv_at hl 0 rfl) ?_
  refine va_get (D := D) (ci := 3) (v := .int (nI cn)) (C := "TileScreen$Poisons") (T := F_Poisons) (N := 3) hx hb htb i_Poisons hown hG.1 hP 0 rfl rfl 2 (by decide) (htb _ k_205) (fun _ h9 => h9) rfl d_Poisons_add_1 ?_
  refine lv_bipush (v := nI 8) hx hb d_Poisons_add_4 (by decide) ?_
  refine nv_icmp_ge (tgt := 19) hx hb d_Poisons_add_6 (by decide) (by omega) (by omega) (fun c_6 => ?_) (fun c_6 => ?_)
  · refine lv_aload_n hx hb d_Poisons_add_19 rfl (lv_at hl 0 rfl) ?_
    refine va_get (D := D) (ci := 3) (v := .ref pp) (C := "TileScreen$Poisons") (T := F_Poisons) (N := 3) hx hb htb i_Poisons hown hG.1 hP 0 rfl rfl 0 (by decide) (htb _ k_203) (fun _ h9 => h9) rfl d_Poisons_add_20 ?_
    refine lv_aload_n hx hb d_Poisons_add_23 rfl (lv_at hl 0 rfl) ?_
    refine va_get (D := D) (ci := 3) (v := .int (nI cn)) (C := "TileScreen$Poisons") (T := F_Poisons) (N := 3) hx hb htb i_Poisons hown hG.1 hP 0 rfl rfl 2 (by decide) (htb _ k_205) (fun _ h9 => h9) rfl d_Poisons_add_24 ?_
    refine lv_iconst (v := nI 1) hx hb d_Poisons_add_27 (by decide) ?_
    refine nv_isub hx hb (by omega) d_Poisons_add_28 ?_
    refine lv_iload_n hx hb d_Poisons_add_29 rfl (lv_at hl 1 rfl) ?_
    refine nv_iast hx hb hG.1 hP hD hS 1 0 rfl rfl (by omega) (by omega) d_Poisons_add_30 (fun H locs hP hD hS => ?_)
    have hP : va_P D classes [(a, .inr (3, [.ref pp, .ref qq, .int (nI cn)])), (pp, .inl (cI, 8, .inl (nF (up q1 (cn - 1) n)))), (qq, .inl (cI, 8, .inl (nF w1)))] H := hP
    have hD : va_D AA [(a, .inr (3, [.ref pp, .ref qq, .int (nI cn)])), (pp, .inl (cI, 8, .inl (nF (up q1 (cn - 1) n)))), (qq, .inl (cI, 8, .inl (nF w1)))] := hD
    refine lv_aload_n hx hb d_Poisons_add_31 rfl (lv_at hl 0 rfl) ?_
    refine va_get (D := D) (ci := 3) (v := .ref qq) (C := "TileScreen$Poisons") (T := F_Poisons) (N := 3) hx hb htb i_Poisons hown hG.1 hP 0 rfl rfl 1 (by decide) (htb _ k_204) (fun _ h9 => h9) rfl d_Poisons_add_32 ?_
    refine lv_aload_n hx hb d_Poisons_add_35 rfl (lv_at hl 0 rfl) ?_
    refine va_get (D := D) (ci := 3) (v := .int (nI cn)) (C := "TileScreen$Poisons") (T := F_Poisons) (N := 3) hx hb htb i_Poisons hown hG.1 hP 0 rfl rfl 2 (by decide) (htb _ k_205) (fun _ h9 => h9) rfl d_Poisons_add_36 ?_
    refine lv_iconst (v := nI 1) hx hb d_Poisons_add_39 (by decide) ?_
    refine nv_isub hx hb (by omega) d_Poisons_add_40 ?_
    refine lv_iload_n hx hb d_Poisons_add_41 rfl (lv_at hl 2 rfl) ?_
    refine nv_iast hx hb hG.1 hP hD hS 2 0 rfl rfl (by omega) (by omega) d_Poisons_add_42 (fun H locs hP hD hS => ?_)
    have hP : va_P D classes [(a, .inr (3, [.ref pp, .ref qq, .int (nI cn)])), (pp, .inl (cI, 8, .inl (nF (up q1 (cn - 1) n)))), (qq, .inl (cI, 8, .inl (nF (up w1 (cn - 1) x))))] H := hP
    have hD : va_D AA [(a, .inr (3, [.ref pp, .ref qq, .int (nI cn)])), (pp, .inl (cI, 8, .inl (nF (up q1 (cn - 1) n)))), (qq, .inl (cI, 8, .inl (nF (up w1 (cn - 1) x))))] := hD
    rw [show min (cn + 1) 8 = cn by omega, show min cn 7 = cn - 1 by omega] at hret
    exact hret () _ _ _ _ d_Poisons_add_43 (trivial) hP hD hS
  · refine lv_aload_n hx hb d_Poisons_add_9 rfl (lv_at hl 0 rfl) ?_
    refine lv_dup hx hb d_Poisons_add_10 rfl ?_
    refine va_get (D := D) (ci := 3) (v := .int (nI cn)) (C := "TileScreen$Poisons") (T := F_Poisons) (N := 3) hx hb htb i_Poisons hown hG.1 hP 0 rfl rfl 2 (by decide) (htb _ k_205) (fun _ h9 => h9) rfl d_Poisons_add_11 ?_
    refine lv_iconst (v := nI 1) hx hb d_Poisons_add_14 (by decide) ?_
    refine nv_iadd hx hb d_Poisons_add_15 ?_
    refine va_put (D := D) (ci := 3) (v := .int (nI (cn + 1))) (ty := .int) (C := "TileScreen$Poisons") (T := F_Poisons) (N := 3) hx hb htb i_Poisons t_Poisons t_Poisons_ok n_Poisons hown hG.1 hP hD hS 0 rfl rfl 2 (by decide) (htb _ k_205) (fun _ h9 => h9) rfl (by decide +kernel) rfl rfl (Nat.le_of_ble_eq_true rfl) d_Poisons_add_16 (fun H locs hP hD hS => ?_)
    have hP : va_P D classes [(a, .inr (3, [.ref pp, .ref qq, .int (nI (cn + 1))])), (pp, .inl (cI, 8, .inl (nF q1))), (qq, .inl (cI, 8, .inl (nF w1)))] H := hP
    have hD : va_D AA [(a, .inr (3, [.ref pp, .ref qq, .int (nI (cn + 1))])), (pp, .inl (cI, 8, .inl (nF q1))), (qq, .inl (cI, 8, .inl (nF w1)))] := hD
    refine lv_aload_n hx hb d_Poisons_add_19 rfl (lv_at hl 0 rfl) ?_
    refine va_get (D := D) (ci := 3) (v := .ref pp) (C := "TileScreen$Poisons") (T := F_Poisons) (N := 3) hx hb htb i_Poisons hown hG.1 hP 0 rfl rfl 0 (by decide) (htb _ k_203) (fun _ h9 => h9) rfl d_Poisons_add_20 ?_
    refine lv_aload_n hx hb d_Poisons_add_23 rfl (lv_at hl 0 rfl) ?_
    refine va_get (D := D) (ci := 3) (v := .int (nI (cn + 1))) (C := "TileScreen$Poisons") (T := F_Poisons) (N := 3) hx hb htb i_Poisons hown hG.1 hP 0 rfl rfl 2 (by decide) (htb _ k_205) (fun _ h9 => h9) rfl d_Poisons_add_24 ?_
    refine lv_iconst (v := nI 1) hx hb d_Poisons_add_27 (by decide) ?_
    refine nv_isub hx hb (by omega) d_Poisons_add_28 ?_
    refine lv_iload_n hx hb d_Poisons_add_29 rfl (lv_at hl 1 rfl) ?_
    refine nv_iast hx hb hG.1 hP hD hS 1 0 rfl rfl (by omega) (by omega) d_Poisons_add_30 (fun H locs hP hD hS => ?_)
    have hP : va_P D classes [(a, .inr (3, [.ref pp, .ref qq, .int (nI (cn + 1))])), (pp, .inl (cI, 8, .inl (nF (up q1 ((cn + 1) - 1) n)))), (qq, .inl (cI, 8, .inl (nF w1)))] H := hP
    have hD : va_D AA [(a, .inr (3, [.ref pp, .ref qq, .int (nI (cn + 1))])), (pp, .inl (cI, 8, .inl (nF (up q1 ((cn + 1) - 1) n)))), (qq, .inl (cI, 8, .inl (nF w1)))] := hD
    refine lv_aload_n hx hb d_Poisons_add_31 rfl (lv_at hl 0 rfl) ?_
    refine va_get (D := D) (ci := 3) (v := .ref qq) (C := "TileScreen$Poisons") (T := F_Poisons) (N := 3) hx hb htb i_Poisons hown hG.1 hP 0 rfl rfl 1 (by decide) (htb _ k_204) (fun _ h9 => h9) rfl d_Poisons_add_32 ?_
    refine lv_aload_n hx hb d_Poisons_add_35 rfl (lv_at hl 0 rfl) ?_
    refine va_get (D := D) (ci := 3) (v := .int (nI (cn + 1))) (C := "TileScreen$Poisons") (T := F_Poisons) (N := 3) hx hb htb i_Poisons hown hG.1 hP 0 rfl rfl 2 (by decide) (htb _ k_205) (fun _ h9 => h9) rfl d_Poisons_add_36 ?_
    refine lv_iconst (v := nI 1) hx hb d_Poisons_add_39 (by decide) ?_
    refine nv_isub hx hb (by omega) d_Poisons_add_40 ?_
    refine lv_iload_n hx hb d_Poisons_add_41 rfl (lv_at hl 2 rfl) ?_
    refine nv_iast hx hb hG.1 hP hD hS 2 0 rfl rfl (by omega) (by omega) d_Poisons_add_42 (fun H locs hP hD hS => ?_)
    have hP : va_P D classes [(a, .inr (3, [.ref pp, .ref qq, .int (nI (cn + 1))])), (pp, .inl (cI, 8, .inl (nF (up q1 ((cn + 1) - 1) n)))), (qq, .inl (cI, 8, .inl (nF (up w1 ((cn + 1) - 1) x))))] H := hP
    have hD : va_D AA [(a, .inr (3, [.ref pp, .ref qq, .int (nI (cn + 1))])), (pp, .inl (cI, 8, .inl (nF (up q1 ((cn + 1) - 1) n)))), (qq, .inl (cI, 8, .inl (nF (up w1 ((cn + 1) - 1) x))))] := hD
    rw [show min (cn + 1) 8 = cn + 1 by omega, show min cn 7 = cn + 1 - 1 by omega] at hret
    exact hret () _ _ _ _ d_Poisons_add_43 (trivial) hP hD hS
set_option maxHeartbeats 400000 in
set_option maxRecDepth 100000 in
theorem c_Poisons_spoil (a : Nat) (pp : Nat) (qq : Nat) (cn : Nat) (q1 : Nat → Nat) (w1 : Nat → Nat) (x : Nat) (hc : cn ≤ 8) (bq : ∀ j, q1 j < 20000) (bq0 : ∀ j, j < cn → 0 < q1 j) : CI (S := Unit) l classes NW D (TYS cI cZ cL cV) y_Poisons_spoil (.code y_Poisons_spoil b_Poisons_spoil 5 (some .int) :: TB) { frames := 0, cells := 0, slots := 0, locals := 0 } [.ref a, .int (nI x)] [(a, .inr (3, [.ref pp, .ref qq, .int (nI cn)])), (pp, .inl (cI, 8, .inl (nF q1))), (qq, .inl (cI, 8, .inl (nF w1)))] (fun r u => r = nI (cmX q1 w1 x cn)) (fun u => [(a, .inr (3, [.ref pp, .ref qq, .int (nI (kpN q1 cn))])), (pp, .inl (cI, 8, .inl (nF (cmA q1 cn)))), (qq, .inl (cI, 8, .inl (nF (cmM q1 w1 cn))))]) := by
  refine CI.of (by decide) (Nat.le_of_ble_eq_true rfl) ?_
  intro pr ev sT mM aR bW mE cO AA QQ ls Bd hG hA hP hD hS hl hret
  have Bd : bd pr cO b_Poisons_spoil 5 sT aR TB "TileScreen$Poisons" mM := Bd
  obtain ⟨hx, hb, hml, hown, htb⟩ := id Bd
  have hl : lv_has ls 5 [(0, .ref a), (1, .int (nI x))] := hl
  refine lv_iload_n hx hb d_Poisons_spoil_0 rfl (lv_at hl 1 rfl) ?_
  refine lv_istore_n (lv' := [(2, .int (nI x)), (0, .ref a), (1, .int (nI x))]) hx hb d_Poisons_spoil_1 rfl hl (by decide) rfl (fun ls hl => ?_)
  refine lv_iconst (v := nI 0) hx hb d_Poisons_spoil_2 (by decide) ?_
  refine lv_istore_n (lv' := [(3, .int (nI 0)), (2, .int (nI x)), (0, .ref a), (1, .int (nI x))]) hx hb d_Poisons_spoil_3 rfl hl (by decide) rfl (fun ls hl => ?_)
  refine lv_iconst (v := nI 0) hx hb d_Poisons_spoil_4 (by decide) ?_
  refine lv_istore (lv' := [(4, .int (nI 0)), (3, .int (nI 0)), (2, .int (nI x)), (0, .ref a), (1, .int (nI x))]) hx hb d_Poisons_spoil_5 hl (by decide) rfl (fun ls hl => ?_)
  have lp_7 : ∀ (nn : Nat) (k : Nat) (hk : k ≤ cn), cn - k < nn → ∀ (H : Heap) (locs : List Loc) (ls : Array Slot), va_P D classes [(a, .inr (3, [.ref pp, .ref qq, .int (nI cn)])), (pp, .inl (cI, 8, .inl (nF (cmA q1 k)))), (qq, .inl (cI, 8, .inl (nF (cmM q1 w1 k))))] H → va_D AA [(a, .inr (3, [.ref pp, .ref qq, .int (nI cn)])), (pp, .inl (cI, 8, .inl (nF (cmA q1 k)))), (qq, .inl (cI, 8, .inl (nF (cmM q1 w1 k))))] → va_S AA sT.heap H locs → lv_has ls 5 [(4, .int (nI k)), (3, .int (nI (kpN q1 k))), (2, .int (nI (cmX q1 w1 x k))), (0, .ref a), (1, .int (nI x))] → W pr l ev ({ frames := 0, cells := 0, slots := 0, locals := 0 } : Room) sT mM aR bW mE cO H locs 0 0 QQ (F0 mM 7 ls []) := by
    intro nn
    induction nn with
    | zero => intro k hk hm; exact absurd hm (Nat.not_lt_zero _)
    | succ nn ih7 =>
      intro k hk hm H locs ls hP hD hS hl
      have hkp := kpN_le q1 k
      refine lv_iload hx hb d_Poisons_spoil_7 (lv_at hl 0 rfl) ?_
      refine lv_aload_n hx hb d_Poisons_spoil_9 rfl (lv_at hl 3 rfl) ?_
      refine va_get (D := D) (ci := 3) (v := .int (nI cn)) (C := "TileScreen$Poisons") (T := F_Poisons) (N := 3) hx hb htb i_Poisons hown hG.1 hP 0 rfl rfl 2 (by decide) (htb _ k_205) (fun _ h9 => h9) rfl d_Poisons_spoil_10 ?_
      refine nv_icmp_ge (tgt := 77) hx hb d_Poisons_spoil_13 (by decide) (by omega) (by omega) (fun c_13 => ?_) (fun c_13 => ?_)
      · refine lv_aload_n hx hb d_Poisons_spoil_77 rfl (lv_at hl 3 rfl) ?_
        refine lv_iload_n hx hb d_Poisons_spoil_78 rfl (lv_at hl 1 rfl) ?_
        refine va_put (D := D) (ci := 3) (v := .int (nI (kpN q1 k))) (ty := .int) (C := "TileScreen$Poisons") (T := F_Poisons) (N := 3) hx hb htb i_Poisons t_Poisons t_Poisons_ok n_Poisons hown hG.1 hP hD hS 0 rfl rfl 2 (by decide) (htb _ k_205) (fun _ h9 => h9) rfl (by decide +kernel) rfl rfl (Nat.le_of_ble_eq_true rfl) d_Poisons_spoil_79 (fun H locs hP hD hS => ?_)
        have hP : va_P D classes [(a, .inr (3, [.ref pp, .ref qq, .int (nI (kpN q1 k))])), (pp, .inl (cI, 8, .inl (nF (cmA q1 k)))), (qq, .inl (cI, 8, .inl (nF (cmM q1 w1 k))))] H := hP
        have hD : va_D AA [(a, .inr (3, [.ref pp, .ref qq, .int (nI (kpN q1 k))])), (pp, .inl (cI, 8, .inl (nF (cmA q1 k)))), (qq, .inl (cI, 8, .inl (nF (cmM q1 w1 k))))] := hD
        refine lv_iload_n hx hb d_Poisons_spoil_82 rfl (lv_at hl 2 rfl) ?_
        obtain rfl : k = cn := by omega
        exact hret _ () _ _ _ _ d_Poisons_spoil_83 rfl (rfl) hP hD hS
      · refine lv_aload_n hx hb d_Poisons_spoil_16 rfl (lv_at hl 3 rfl) ?_
        refine va_get (D := D) (ci := 3) (v := .ref pp) (C := "TileScreen$Poisons") (T := F_Poisons) (N := 3) hx hb htb i_Poisons hown hG.1 hP 0 rfl rfl 0 (by decide) (htb _ k_203) (fun _ h9 => h9) rfl d_Poisons_spoil_17 ?_
        refine lv_iload hx hb d_Poisons_spoil_20 (lv_at hl 0 rfl) ?_
        refine nv_iald hx hb hG.1 hP 1 0 rfl rfl (by omega) (by omega) d_Poisons_spoil_22 ?_
        refine nv_top (y := nI (q1 k)) (congrArg nI (cmA_at q1 k)) ?_
        refine lv_iconst (v := nI 1) hx hb d_Poisons_spoil_23 (by decide) ?_
        refine nv_icmp_ne (tgt := 40) hx hb d_Poisons_spoil_24 (by decide) (Nat.lt_trans (bq k) (by decide)) (by omega) (fun c_24 => ?_) (fun c_24 => ?_)
        · refine lv_aload_n hx hb d_Poisons_spoil_40 rfl (lv_at hl 3 rfl) ?_
          refine va_get (D := D) (ci := 3) (v := .ref pp) (C := "TileScreen$Poisons") (T := F_Poisons) (N := 3) hx hb htb i_Poisons hown hG.1 hP 0 rfl rfl 0 (by decide) (htb _ k_203) (fun _ h9 => h9) rfl d_Poisons_spoil_41 ?_
          refine lv_iload_n hx hb d_Poisons_spoil_44 rfl (lv_at hl 1 rfl) ?_
          refine lv_aload_n hx hb d_Poisons_spoil_45 rfl (lv_at hl 3 rfl) ?_
          refine va_get (D := D) (ci := 3) (v := .ref pp) (C := "TileScreen$Poisons") (T := F_Poisons) (N := 3) hx hb htb i_Poisons hown hG.1 hP 0 rfl rfl 0 (by decide) (htb _ k_203) (fun _ h9 => h9) rfl d_Poisons_spoil_46 ?_
          refine lv_iload hx hb d_Poisons_spoil_49 (lv_at hl 0 rfl) ?_
          refine nv_iald hx hb hG.1 hP 1 0 rfl rfl (by omega) (by omega) d_Poisons_spoil_51 ?_
          refine nv_top (y := nI (q1 k)) (congrArg nI (cmA_at q1 k)) ?_
          refine lv_iconst (v := nI 1) hx hb d_Poisons_spoil_52 (by decide) ?_
          refine nv_isub hx hb (bq0 k c_13) d_Poisons_spoil_53 ?_
          refine nv_iast hx hb hG.1 hP hD hS 1 0 rfl rfl (by omega) (by omega) d_Poisons_spoil_54 (fun H locs hP hD hS => ?_)
          have hP : va_P D classes [(a, .inr (3, [.ref pp, .ref qq, .int (nI cn)])), (pp, .inl (cI, 8, .inl (nF (up (cmA q1 k) (kpN q1 k) ((q1 k) - 1))))), (qq, .inl (cI, 8, .inl (nF (cmM q1 w1 k))))] H := hP
          have hD : va_D AA [(a, .inr (3, [.ref pp, .ref qq, .int (nI cn)])), (pp, .inl (cI, 8, .inl (nF (up (cmA q1 k) (kpN q1 k) ((q1 k) - 1))))), (qq, .inl (cI, 8, .inl (nF (cmM q1 w1 k))))] := hD
          refine lv_aload_n hx hb d_Poisons_spoil_55 rfl (lv_at hl 3 rfl) ?_
          refine va_get (D := D) (ci := 3) (v := .ref qq) (C := "TileScreen$Poisons") (T := F_Poisons) (N := 3) hx hb htb i_Poisons hown hG.1 hP 0 rfl rfl 1 (by decide) (htb _ k_204) (fun _ h9 => h9) rfl d_Poisons_spoil_56 ?_
          refine lv_iload_n hx hb d_Poisons_spoil_59 rfl (lv_at hl 1 rfl) ?_
          refine lv_aload_n hx hb d_Poisons_spoil_60 rfl (lv_at hl 3 rfl) ?_
          refine va_get (D := D) (ci := 3) (v := .ref qq) (C := "TileScreen$Poisons") (T := F_Poisons) (N := 3) hx hb htb i_Poisons hown hG.1 hP 0 rfl rfl 1 (by decide) (htb _ k_204) (fun _ h9 => h9) rfl d_Poisons_spoil_61 ?_
          refine lv_iload hx hb d_Poisons_spoil_64 (lv_at hl 0 rfl) ?_
          refine nv_iald hx hb hG.1 hP 2 0 rfl rfl (by omega) (by omega) d_Poisons_spoil_66 ?_
          refine nv_top (y := nI (w1 k)) (congrArg nI (cmM_hi q1 w1 k k (kpN_le q1 k))) ?_
          refine nv_iast hx hb hG.1 hP hD hS 2 0 rfl rfl (by omega) (by omega) d_Poisons_spoil_67 (fun H locs hP hD hS => ?_)
          have hP : va_P D classes [(a, .inr (3, [.ref pp, .ref qq, .int (nI cn)])), (pp, .inl (cI, 8, .inl (nF (up (cmA q1 k) (kpN q1 k) ((q1 k) - 1))))), (qq, .inl (cI, 8, .inl (nF (up (cmM q1 w1 k) (kpN q1 k) (w1 k)))))] H := hP
          have hD : va_D AA [(a, .inr (3, [.ref pp, .ref qq, .int (nI cn)])), (pp, .inl (cI, 8, .inl (nF (up (cmA q1 k) (kpN q1 k) ((q1 k) - 1))))), (qq, .inl (cI, 8, .inl (nF (up (cmM q1 w1 k) (kpN q1 k) (w1 k)))))] := hD
          refine lv_iinc (v := (nI (kpN q1 k + 1))) (lv' := [(3, .int (nI (kpN q1 k + 1))), (4, .int (nI k)), (2, .int (nI (cmX q1 w1 x k))), (0, .ref a), (1, .int (nI x))]) hx hb d_Poisons_spoil_68 hl (k := 1) rfl (nI_add (kpN q1 k) 1) (by decide) rfl (fun ls hl => ?_)
          refine lv_iinc (v := (nI (k + 1))) (lv' := [(4, .int (nI (k + 1))), (3, .int (nI (kpN q1 k + 1))), (2, .int (nI (cmX q1 w1 x k))), (0, .ref a), (1, .int (nI x))]) hx hb d_Poisons_spoil_71 hl (k := 1) rfl (nI_add k 1) (by decide) rfl (fun ls hl => ?_)
          refine lv_goto (tgt := 7) hx hb d_Poisons_spoil_74 (by decide) ?_
          rw [← cmA_2 c_24, ← cmM_2 c_24] at hP hD
          rw [← kpN_2 c_24, ← cmX_2 (w := w1) (x := x) c_24] at hl
          exact ih7 (k + 1) (by omega) (by omega) _ _ _ hP hD hS (lv_sub hl [0, 1, 2, 3, 4] rfl)
        · refine lv_iload_n hx hb d_Poisons_spoil_27 rfl (lv_at hl 2 rfl) ?_
          refine lv_aload_n hx hb d_Poisons_spoil_28 rfl (lv_at hl 3 rfl) ?_
          refine va_get (D := D) (ci := 3) (v := .ref qq) (C := "TileScreen$Poisons") (T := F_Poisons) (N := 3) hx hb htb i_Poisons hown hG.1 hP 0 rfl rfl 1 (by decide) (htb _ k_204) (fun _ h9 => h9) rfl d_Poisons_spoil_29 ?_
          refine lv_iload hx hb d_Poisons_spoil_32 (lv_at hl 0 rfl) ?_
          refine nv_iald hx hb hG.1 hP 2 0 rfl rfl (by omega) (by omega) d_Poisons_spoil_34 ?_
          refine nv_top (y := nI (w1 k)) (congrArg nI (cmM_at q1 w1 k)) ?_
          refine nv_ixor hx hb d_Poisons_spoil_35 ?_
          refine lv_istore_n (lv' := [(2, .int (nI ((cmX q1 w1 x k) ^^^ (w1 k)))), (4, .int (nI k)), (3, .int (nI (kpN q1 k))), (0, .ref a), (1, .int (nI x))]) hx hb d_Poisons_spoil_36 rfl hl (by decide) rfl (fun ls hl => ?_)
          refine lv_goto (tgt := 71) hx hb d_Poisons_spoil_37 (by decide) ?_
          refine lv_iinc (v := (nI (k + 1))) (lv' := [(4, .int (nI (k + 1))), (2, .int (nI ((cmX q1 w1 x k) ^^^ (w1 k)))), (3, .int (nI (kpN q1 k))), (0, .ref a), (1, .int (nI x))]) hx hb d_Poisons_spoil_71 hl (k := 1) rfl (nI_add k 1) (by decide) rfl (fun ls hl => ?_)
          refine lv_goto (tgt := 7) hx hb d_Poisons_spoil_74 (by decide) ?_
          rw [← cmA_1 c_24, ← cmM_1 c_24] at hP hD
          rw [← kpN_1 c_24, ← cmX_1 c_24] at hl
          exact ih7 (k + 1) (by omega) (by omega) _ _ _ hP hD hS (lv_sub hl [0, 2, 1, 3, 4] rfl)
  exact lp_7 _ 0 (Nat.zero_le _) (Nat.lt_succ_self _) _ _ _ hP hD hS (lv_sub hl [0, 1, 2, 3, 4] rfl)
end
