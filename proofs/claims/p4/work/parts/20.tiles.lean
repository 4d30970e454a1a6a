section
variable {l : Launch} {D : va_G} {cI cZ cL cV : ClassId}
set_option maxHeartbeats 400000 in
set_option maxRecDepth 100000 in
theorem c_Tiles_init48 (a : Nat) : CV (S := Nat) l classes NW D (TYS cI cZ cL cV) y_Tiles_init (.code y_Tiles_init b_Tiles_init 2 none :: TB) { frames := 1, cells := 1, slots := 3072, locals := 12 } [.ref a, .int (nI 48)] [(a, .inr (0, [.int (nI 0), .null]))] (fun u => True) (fun u => [(a, .inr (0, [.int (nI 48), .ref u])), (u, .inl (cI, 3072, .inl (nF (fun _ => 0))))]) := by
  refine CV.of (by decide) (Nat.le_of_ble_eq_true rfl) ?_
  intro pr ev sT mM aR bW mE cO AA QQ ls Bd hG hA hP hD hS hl hnm hret
  have Bd : bd pr cO b_Tiles_init 2 sT aR TB "TileScreen$Tiles" mM := Bd
  obtain ⟨hx, hb, hml, hown, htb⟩ := id Bd
  have hl : lv_has ls 2 [(0, .ref a), (1, .int (nI 48))] := hl
  refine lv_aload_n hx hb d_Tiles_init_0 rfl (lv_at hl 0 rfl) ?_
  refine W.objInit hx hb hown (htb _ k_31) (htb _ k_24) (htb _ k_25) rfl (by rw [hml]; exact hl.1) rfl d_Tiles_init_1 (Nat.le_of_ble_eq_true rfl) (Nat.le_of_ble_eq_true rfl) ?_
  refine W.eq (g2 := F0 mM 4 ls []) rfl ?_
  refine lv_aload_n hx hb d_Tiles_init_4 rfl (lv_at hl 0 rfl) ?_
  refine lv_iload_n hx hb d_Tiles_init_5 rfl (lv_at hl 1 rfl) ?_
  refine va_putF (D := D) (ci := 0) (v := .int (nI 48)) (ty := .int) (C := "TileScreen$Tiles") (T := F_Tiles) (N := 2) hx hb htb i_Tiles t_Tiles t_Tiles_ok n_Tiles hown hG.1 hP hD hS 0 rfl rfl 0 (by decide) (htb _ k_32) (fun _ h9 => h9) rfl hnm rfl (by decide +kernel) rfl rfl (Nat.le_of_ble_eq_true rfl) d_Tiles_init_6 (fun H locs hP hD hS => ?_)
  have hP : va_P D classes [(a, .inr (0, [.int (nI 48), .null]))] H := hP
  have hD : va_D AA [(a, .inr (0, [.int (nI 48), .null]))] := hD
  refine lv_aload_n hx hb d_Tiles_init_9 rfl (lv_at hl 0 rfl) ?_
  refine lv_iload_n hx hb d_Tiles_init_10 rfl (lv_at hl 1 rfl) ?_
  refine lv_bipush (v := nI 64) hx hb d_Tiles_init_11 (by decide) ?_
  refine nv_imul hx hb d_Tiles_init_13 ?_
  refine nv_top (y := nI 3072) rfl ?_
  refine nv_newi hx hb (htb _ k_39) hG.1 hP hD hS hA 0 rfl (Nat.le_of_ble_eq_true rfl) (Nat.le_of_ble_eq_true rfl) (Nat.le_of_ble_eq_true rfl) d_Tiles_init_14 (fun q1 H hP hD hS => ?_)
  have hP : va_P D classes [(a, .inr (0, [.int (nI 48), .null])), (q1, .inl (cI, 3072, .inl (nF (fun _ => 0))))] H := hP
  have hD : va_D AA [(a, .inr (0, [.int (nI 48), .null])), (q1, .inl (cI, 3072, .inl (nF (fun _ => 0))))] := hD
  refine W.widen (k := 1) (n := 3072) (Nat.le_of_ble_eq_true rfl) (Nat.le_of_ble_eq_true rfl) ?_
  refine va_putF (D := D) (ci := 0) (v := .ref q1) (ty := .array (.int)) (C := "TileScreen$Tiles") (T := F_Tiles) (N := 2) hx hb htb i_Tiles t_Tiles t_Tiles_ok n_Tiles hown hG.1 hP hD hS 0 rfl rfl 1 (by decide) (htb _ k_33) (fun _ h9 => h9) rfl hnm rfl (by decide +kernel) rfl rfl (Nat.le_of_ble_eq_true rfl) d_Tiles_init_16 (fun H locs hP hD hS => ?_)
  have hP : va_P D classes [(a, .inr (0, [.int (nI 48), .ref q1])), (q1, .inl (cI, 3072, .inl (nF (fun _ => 0))))] H := hP
  have hD : va_D AA [(a, .inr (0, [.int (nI 48), .ref q1])), (q1, .inl (cI, 3072, .inl (nF (fun _ => 0))))] := hD
  exact hret q1 _ _ _ _ d_Tiles_init_19 (trivial) hP hD hS
set_option maxHeartbeats 400000 in
set_option maxRecDepth 100000 in
theorem c_Tiles_init16 (a : Nat) : CV (S := Nat) l classes NW D (TYS cI cZ cL cV) y_Tiles_init (.code y_Tiles_init b_Tiles_init 2 none :: TB) { frames := 1, cells := 1, slots := 1024, locals := 12 } [.ref a, .int (nI 16)] [(a, .inr (0, [.int (nI 0), .null]))] (fun u => True) (fun u => [(a, .inr (0, [.int (nI 16), .ref u])), (u, .inl (cI, 1024, .inl (nF (fun _ => 0))))]) := by
  refine CV.of (by decide) (Nat.le_of_ble_eq_true rfl) ?_
  intro pr ev sT mM aR bW mE cO AA QQ ls Bd hG hA hP hD hS hl hnm hret
  have Bd : bd pr cO b_Tiles_init 2 sT aR TB "TileScreen$Tiles" mM := Bd
  obtain ⟨hx, hb, hml, hown, htb⟩ := id Bd
  have hl : lv_has ls 2 [(0, .ref a), (1, .int (nI 16))] := hl
  refine lv_aload_n hx hb d_Tiles_init_0 rfl (lv_at hl 0 rfl) ?_
  refine W.objInit hx hb hown (htb _ k_31) (htb _ k_24) (htb _ k_25) rfl (by rw [hml]; exact hl.1) rfl d_Tiles_init_1 (Nat.le_of_ble_eq_true rfl) (Nat.le_of_ble_eq_true rfl) ?_
  refine W.eq (g2 := F0 mM 4 ls []) rfl ?_
  refine lv_aload_n hx hb d_Tiles_init_4 rfl (lv_at hl 0 rfl) ?_
  refine lv_iload_n hx hb d_Tiles_init_5 rfl (lv_at hl 1 rfl) ?_
  refine va_putF (D := D) (ci := 0) (v := .int (nI 16)) (ty := .int) (C := "TileScreen$Tiles") (T := F_Tiles) (N := 2) hx hb htb i_Tiles t_Tiles t_Tiles_ok n_Tiles hown hG.1 hP hD hS 0 rfl rfl 0 (by decide) (htb _ k_32) (fun _ h9 => h9) rfl hnm rfl (by decide +kernel) rfl rfl (Nat.le_of_ble_eq_true rfl) d_Tiles_init_6 (fun H locs hP hD hS => ?_)
  have hP : va_P D classes [(a, .inr (0, [.int (nI 16), .null]))] H := hP
  have hD : va_D AA [(a, .inr (0, [.int (nI 16), .null]))] := hD
  refine lv_aload_n hx hb d_Tiles_init_9 rfl (lv_at hl 0 rfl) ?_
  refine lv_iload_n hx hb d_Tiles_init_10 rfl (lv_at hl 1 rfl) ?_
  refine lv_bipush (v := nI 64) hx hb d_Tiles_init_11 (by decide) ?_
  refine nv_imul hx hb d_Tiles_init_13 ?_
  refine nv_top (y := nI 1024) rfl ?_
  refine nv_newi hx hb (htb _ k_39) hG.1 hP hD hS hA 0 rfl (Nat.le_of_ble_eq_true rfl) (Nat.le_of_ble_eq_true rfl) (Nat.le_of_ble_eq_true rfl) d_Tiles_init_14 (fun q1 H hP hD hS => ?_)
  have hP : va_P D classes [(a, .inr (0, [.int (nI 16), .null])), (q1, .inl (cI, 1024, .inl (nF (fun _ => 0))))] H := hP
  have hD : va_D AA [(a, .inr (0, [.int (nI 16), .null])), (q1, .inl (cI, 1024, .inl (nF (fun _ => 0))))] := hD
  refine W.widen (k := 1) (n := 1024) (Nat.le_of_ble_eq_true rfl) (Nat.le_of_ble_eq_true rfl) ?_
  refine va_putF (D := D) (ci := 0) (v := .ref q1) (ty := .array (.int)) (C := "TileScreen$Tiles") (T := F_Tiles) (N := 2) hx hb htb i_Tiles t_Tiles t_Tiles_ok n_Tiles hown hG.1 hP hD hS 0 rfl rfl 1 (by decide) (htb _ k_33) (fun _ h9 => h9) rfl hnm rfl (by decide +kernel) rfl rfl (Nat.le_of_ble_eq_true rfl) d_Tiles_init_16 (fun H locs hP hD hS => ?_)
  have hP : va_P D classes [(a, .inr (0, [.int (nI 16), .ref q1])), (q1, .inl (cI, 1024, .inl (nF (fun _ => 0))))] H := hP
  have hD : va_D AA [(a, .inr (0, [.int (nI 16), .ref q1])), (q1, .inl (cI, 1024, .inl (nF (fun _ => 0))))] := hD
  exact hret q1 _ _ _ _ d_Tiles_init_19 (trivial) hP hD hS
set_option maxHeartbeats 400000 in
set_option maxRecDepth 100000 in
theorem c_Tiles_get (a : Nat) (pp : Nat) (cnt : Nat) (n : Nat) (F : Nat → Nat) (t : Nat) (k : Nat) (h0 : t * 64 + k < n) (hn : n < 2 ^ 31) : CI (S := Unit) l classes NW D (TYS cI cZ cL cV) y_Tiles_get (.code y_Tiles_get b_Tiles_get 3 (some .int) :: TB) { frames := 0, cells := 0, slots := 0, locals := 0 } [.ref a, .int (nI t), .int (nI k)] [(a, .inr (0, [.int (nI cnt), .ref pp])), (pp, .inl (cI, n, .inl (nF F)))] (fun r u => r = nI (F (t * 64 + k))) (fun u => [(a, .inr (0, [.int (nI cnt), .ref pp])), (pp, .inl (cI, n, .inl (nF F)))]) := by
  refine CI.of (by decide) (Nat.le_of_ble_eq_true rfl) ?_
  intro pr ev sT mM aR bW mE cO AA QQ ls Bd hG hA hP hD hS hl hret
  have Bd : bd pr cO b_Tiles_get 3 sT aR TB "TileScreen$Tiles" mM := Bd
  obtain ⟨hx, hb, hml, hown, htb⟩ := id Bd
  have hl : lv_has ls 3 [(0, .ref a), (1, .int (nI t)), (2, .int (nI k))] := hl
  refine lv_aload_n hx hb d_Tiles_get_0 rfl (lv_at hl 0 rfl) ?_
  refine va_get (D := D) (ci := 0) (v := .ref pp) (C := "TileScreen$Tiles") (T := F_Tiles) (N := 2) hx hb htb i_Tiles hown hG.1 hP 0 rfl rfl 1 (by decide) (htb _ k_33) (fun _ h9 => h9) rfl d_Tiles_get_1 ?_
  refine lv_iload_n hx hb d_Tiles_get_4 rfl (lv_at hl 1 rfl) ?_
  refine lv_bipush (v := nI 64) hx hb d_Tiles_get_5 (by decide) ?_
  refine nv_imul hx hb d_Tiles_get_7 ?_
  refine lv_iload_n hx hb d_Tiles_get_8 rfl (lv_at hl 2 rfl) ?_
  refine nv_iadd hx hb d_Tiles_get_9 ?_
  refine nv_iald hx hb hG.1 hP 1 0 rfl rfl (by omega) (by omega) d_Tiles_get_10 ?_
  exact hret _ () _ _ _ _ d_Tiles_get_11 rfl (rfl) hP hD hS
set_option maxHeartbeats 400000 in
set_option maxRecDepth 100000 in
theorem c_Tiles_set (a : Nat) (pp : Nat) (cnt : Nat) (n : Nat) (F : Nat → Nat) (t : Nat) (k : Nat) (x : Nat) (h0 : t * 64 + k < n) (hn : n < 2 ^ 31) : CV (S := Unit) l classes NW D (TYS cI cZ cL cV) y_Tiles_set (.code y_Tiles_set b_Tiles_set 4 none :: TB) { frames := 0, cells := 0, slots := 0, locals := 0 } [.ref a, .int (nI t), .int (nI k), .int (nI x)] [(a, .inr (0, [.int (nI cnt), .ref pp])), (pp, .inl (cI, n, .inl (nF F)))] (fun u => True) (fun u => [(a, .inr (0, [.int (nI cnt), .ref pp])), (pp, .inl (cI, n, .inl (nF (up F (t * 64 + k) x))))]) := by
  refine CV.of (by decide) (Nat.le_of_ble_eq_true rfl) ?_
  intro pr ev sT mM aR bW mE cO AA QQ ls Bd hG hA hP hD hS hl hnm hret
  have Bd : bd pr cO b_Tiles_set 4 sT aR TB "TileScreen$Tiles" mM := Bd
  obtain ⟨hx, hb, hml, hown, htb⟩ := id Bd
  have hl : lv_has ls 4 [(0, .ref a), (1, .int (nI t)), (2, .int (nI k)), (3, .int (nI x))] := hl
  refine lv_aload_n hx hb d_Tiles_set_0 rfl (lv_at hl 0 rfl) ?_
  refine va_get (D := D) (ci := 0) (v := .ref pp) (C := "TileScreen$Tiles") (T := F_Tiles) (N := 2) hx hb htb i_Tiles hown hG.1 hP 0 rfl rfl 1 (by decide) (htb _ k_33) (fun _ h9 => h9) rfl d_Tiles_set_1 ?_
  refine lv_iload_n hx hb d_Tiles_set_4 rfl (lv_at hl 1 rfl) ?_
  refine lv_bipush (v := nI 64) hx hb d_Tiles_set_5 (by decide) ?_
  refine nv_imul hx hb d_Tiles_set_7 ?_
  refine lv_iload_n hx hb d_Tiles_set_8 rfl (lv_at hl 2 rfl) ?_
  refine nv_iadd hx hb d_Tiles_set_9 ?_
  refine lv_iload_n hx hb d_Tiles_set_10 rfl (lv_at hl 3 rfl) ?_
  refine nv_iast hx hb hG.1 hP hD hS 1 0 rfl rfl (by omega) (by omega) d_Tiles_set_11 (fun H locs hP hD hS => ?_)
  have hP : va_P D classes [(a, .inr (0, [.int (nI cnt), .ref pp])), (pp, .inl (cI, n, .inl (nF (up F (t * 64 + k) x))))] H := hP
  have hD : va_D AA [(a, .inr (0, [.int (nI cnt), .ref pp])), (pp, .inl (cI, n, .inl (nF (up F (t * 64 + k) x))))] := hD
  exact hret () _ _ _ _ d_Tiles_set_12 (trivial) hP hD hS
set_option maxHeartbeats 400000 in
set_option maxRecDepth 100000 in
theorem c_Tiles_take (a : Nat) (pp : Nat) (cnt : Nat) (n : Nat) (F : Nat → Nat) (b : Nat) (qq : Nat) (cnt2 : Nat) (n2 : Nat) (G : Nat → Nat) (t : Nat) (f : Nat) (h0 : t * 64 + 64 ≤ n) (h1 : f * 64 + 64 ≤ n2) (hn : n < 2 ^ 31) (hn2 : n2 < 2 ^ 31) : CV (S := Unit) l classes NW D (TYS cI cZ cL cV) y_Tiles_take (.code y_Tiles_take b_Tiles_take 4 none :: TB) { frames := 1, cells := 0, slots := 0, locals := 40 } [.ref a, .int (nI t), .ref b, .int (nI f)] [(a, .inr (0, [.int (nI cnt), .ref pp])), (pp, .inl (cI, n, .inl (nF F))), (b, .inr (0, [.int (nI cnt2), .ref qq])), (qq, .inl (cI, n2, .inl (nF G)))] (fun u => True) (fun u => [(a, .inr (0, [.int (nI cnt), .ref pp])), (pp, .inl (cI, n, .inl (nF (va_cpy G F (f * 64) (t * 64) 64)))), (b, .inr (0, [.int (nI cnt2), .ref qq])), (qq, .inl (cI, n2, .inl (nF G)))]) := by
  refine CV.of (by decide) (Nat.le_of_ble_eq_true rfl) ?_
  intro pr ev sT mM aR bW mE cO AA QQ ls Bd hG hA hP hD hS hl hnm hret
  have Bd : bd pr cO b_Tiles_take 4 sT aR TB "TileScreen$Tiles" mM := Bd
  obtain ⟨hx, hb, hml, hown, htb⟩ := id Bd
  have hl : lv_has ls 4 [(0, .ref a), (1, .int (nI t)), (2, .ref b), (3, .int (nI f))] := hl
  refine lv_aload_n hx hb d_Tiles_take_0 rfl (lv_at hl 2 rfl) ?_
  refine va_get (D := D) (ci := 0) (v := .ref qq) (C := "TileScreen$Tiles") (T := F_Tiles) (N := 2) hx hb htb i_Tiles hown hG.1 hP 2 rfl rfl 1 (by decide) (htb _ k_33) (fun _ h9 => h9) rfl d_Tiles_take_1 ?_
  refine lv_iload_n hx hb d_Tiles_take_4 rfl (lv_at hl 3 rfl) ?_
  refine lv_bipush (v := nI 64) hx hb d_Tiles_take_5 (by decide) ?_
  refine nv_imul hx hb d_Tiles_take_7 ?_
  refine lv_aload_n hx hb d_Tiles_take_8 rfl (lv_at hl 0 rfl) ?_
  refine va_get (D := D) (ci := 0) (v := .ref pp) (C := "TileScreen$Tiles") (T := F_Tiles) (N := 2) hx hb htb i_Tiles hown hG.1 hP 0 rfl rfl 1 (by decide) (htb _ k_33) (fun _ h9 => h9) rfl d_Tiles_take_9 ?_
  refine lv_iload_n hx hb d_Tiles_take_12 rfl (lv_at hl 1 rfl) ?_
  refine lv_bipush (v := nI 64) hx hb d_Tiles_take_13 (by decide) ?_
  refine nv_imul hx hb d_Tiles_take_15 ?_
  refine lv_bipush (v := nI 64) hx hb d_Tiles_take_16 (by decide) ?_
  refine nv_copy hx hb (by rw [hml]; exact hl.1.symm) hown (htb _ k_283) (htb _ k_285) (htb _ k_284) (htb _ k_11) hG.1 hP hD hS 3 1 0 rfl rfl rfl (by omega) (by omega) (by omega) (by omega) (Nat.le_of_ble_eq_true rfl) (Nat.le_of_ble_eq_true rfl) d_Tiles_take_18 (fun H locs hP hD hS => ?_)
  have hP : va_P D classes [(a, .inr (0, [.int (nI cnt), .ref pp])), (pp, .inl (cI, n, .inl (nF (va_cpy G F (f * 64) (t * 64) 64)))), (b, .inr (0, [.int (nI cnt2), .ref qq])), (qq, .inl (cI, n2, .inl (nF G)))] H := hP
  have hD : va_D AA [(a, .inr (0, [.int (nI cnt), .ref pp])), (pp, .inl (cI, n, .inl (nF (va_cpy G F (f * 64) (t * 64) 64)))), (b, .inr (0, [.int (nI cnt2), .ref qq])), (qq, .inl (cI, n2, .inl (nF G)))] := hD
  exact hret () _ _ _ _ d_Tiles_take_21 (trivial) hP hD hS
set_option maxHeartbeats 400000 in
set_option maxRecDepth 100000 in
theorem c_Tiles_takeAll (a : Nat) (pp : Nat) (cnt : Nat) (n : Nat) (F : Nat → Nat) (b : Nat) (qq : Nat) (cnt2 : Nat) (G : Nat → Nat) (hn : n < 2 ^ 31) : CV (S := Unit) l classes NW D (TYS cI cZ cL cV) y_Tiles_takeAll (.code y_Tiles_takeAll b_Tiles_takeAll 2 none :: TB) { frames := 1, cells := 0, slots := 0, locals := 40 } [.ref a, .ref b] [(a, .inr (0, [.int (nI cnt), .ref pp])), (pp, .inl (cI, n, .inl (nF F))), (b, .inr (0, [.int (nI cnt2), .ref qq])), (qq, .inl (cI, n, .inl (nF G)))] (fun u => True) (fun u => [(a, .inr (0, [.int (nI cnt), .ref pp])), (pp, .inl (cI, n, .inl (nF G))), (b, .inr (0, [.int (nI cnt2), .ref qq])), (qq, .inl (cI, n, .inl (nF G)))]) := by
  refine CV.of (by decide) (Nat.le_of_ble_eq_true rfl) ?_
  intro pr ev sT mM aR bW mE cO AA QQ ls Bd hG hA hP hD hS hl hnm hret
  have Bd : bd pr cO b_Tiles_takeAll 2 sT aR TB "TileScreen$Tiles" mM := Bd
  obtain ⟨hx, hb, hml, hown, htb⟩ := id Bd
  have hl : lv_has ls 2 [(0, .ref a), (1, .ref b)] := hl
  refine lv_aload_n hx hb d_Tiles_takeAll_0 rfl (lv_at hl 1 rfl) ?_
  refine va_get (D := D) (ci := 0) (v := .ref qq) (C := "TileScreen$Tiles") (T := F_Tiles) (N := 2) hx hb htb i_Tiles hown hG.1 hP 2 rfl rfl 1 (by decide) (htb _ k_33) (fun _ h9 => h9) rfl d_Tiles_takeAll_1 ?_
  refine lv_iconst (v := nI 0) hx hb d_Tiles_takeAll_4 (by decide) ?_
  refine lv_aload_n hx hb d_Tiles_takeAll_5 rfl (lv_at hl 0 rfl) ?_
  refine va_get (D := D) (ci := 0) (v := .ref pp) (C := "TileScreen$Tiles") (T := F_Tiles) (N := 2) hx hb htb i_Tiles hown hG.1 hP 0 rfl rfl 1 (by decide) (htb _ k_33) (fun _ h9 => h9) rfl d_Tiles_takeAll_6 ?_
  refine lv_iconst (v := nI 0) hx hb d_Tiles_takeAll_9 (by decide) ?_
  refine lv_aload_n hx hb d_Tiles_takeAll_10 rfl (lv_at hl 0 rfl) ?_
  refine va_get (D := D) (ci := 0) (v := .ref pp) (C := "TileScreen$Tiles") (T := F_Tiles) (N := 2) hx hb htb i_Tiles hown hG.1 hP 0 rfl rfl 1 (by decide) (htb _ k_33) (fun _ h9 => h9) rfl d_Tiles_takeAll_11 ?_
  refine va_alen (v := nI n) hx hb hG.1 hP 1 0 rfl rfl rfl d_Tiles_takeAll_14 ?_
  refine nv_copy hx hb (by rw [hml]; exact hl.1.symm) hown (htb _ k_283) (htb _ k_285) (htb _ k_284) (htb _ k_11) hG.1 hP hD hS 3 1 0 rfl rfl rfl (by omega) (by omega) (by omega) (by omega) (Nat.le_of_ble_eq_true rfl) (Nat.le_of_ble_eq_true rfl) d_Tiles_takeAll_15 (fun H locs hP hD hS => ?_)
  have hP : va_P D classes [(a, .inr (0, [.int (nI cnt), .ref pp])), (pp, .inl (cI, n, .inl (nF (va_cpy G F 0 0 n)))), (b, .inr (0, [.int (nI cnt2), .ref qq])), (qq, .inl (cI, n, .inl (nF G)))] H := hP
  have hD : va_D AA [(a, .inr (0, [.int (nI cnt), .ref pp])), (pp, .inl (cI, n, .inl (nF (va_cpy G F 0 0 n)))), (b, .inr (0, [.int (nI cnt2), .ref qq])), (qq, .inl (cI, n, .inl (nF G)))] := hD
  have hP := hP_arr (G := G) hP (q0 := 1) rfl (fun j hj => by rw [pk_cpy_in (Nat.zero_le j) (by omega)]; congr 1; omega)
  have hD := hD.set (p := 1) (e := .inl (cI, n, .inl (nF G))) rfl
  exact hret () _ _ _ _ d_Tiles_takeAll_18 (trivial) hP hD hS
set_option maxHeartbeats 400000 in
set_option maxRecDepth 100000 in
theorem c_Tiles_isSame (a : Nat) (pp : Nat) (cnt : Nat) (n : Nat) (F : Nat → Nat) (b : Nat) (qq : Nat) (cnt2 : Nat) (n2 : Nat) (G : Nat → Nat) (t : Nat) (f : Nat) (h0 : t * 64 + 64 ≤ n) (h1 : f * 64 + 64 ≤ n2) (hn : n < 2 ^ 31) (hn2 : n2 < 2 ^ 31) (bF : ∀ j, F j < 65536) (bG : ∀ j, G j < 65536) : CI (S := Unit) l classes NW D (TYS cI cZ cL cV) y_Tiles_isSame (.code y_Tiles_isSame b_Tiles_isSame 7 (some .boolean) :: TB) { frames := 0, cells := 0, slots := 0, locals := 0 } [.ref a, .int (nI t), .ref b, .int (nI f)] [(a, .inr (0, [.int (nI cnt), .ref pp])), (pp, .inl (cI, n, .inl (nF F))), (b, .inr (0, [.int (nI cnt2), .ref qq])), (qq, .inl (cI, n2, .inl (nF G)))] (fun r u => r = nI ((sameB F (t * 64) G (f * 64)).toNat)) (fun u => [(a, .inr (0, [.int (nI cnt), .ref pp])), (pp, .inl (cI, n, .inl (nF F))), (b, .inr (0, [.int (nI cnt2), .ref qq])), (qq, .inl (cI, n2, .inl (nF G)))]) := by
  refine CI.of (by decide) (Nat.le_of_ble_eq_true rfl) ?_
  intro pr ev sT mM aR bW mE cO AA QQ ls Bd hG hA hP hD hS hl hret
  have Bd : bd pr cO b_Tiles_isSame 7 sT aR TB "TileScreen$Tiles" mM := Bd
  obtain ⟨hx, hb, hml, hown, htb⟩ := id Bd
  have hl : lv_has ls 7 [(0, .ref a), (1, .int (nI t)), (2, .ref b), (3, .int (nI f))] := hl
  refine lv_iload_n hx hb d_Tiles_isSame_0 rfl (lv_at hl 1 rfl) ?_
  refine lv_bipush (v := nI 64) hx hb d_Tiles_isSame_1 (by decide) ?_
  refine nv_imul hx hb d_Tiles_isSame_3 ?_
  refine lv_istore (lv' := [(4, .int (nI (t * 64))), (0, .ref a), (1, .int (nI t)), (2, .ref b), (3, .int (nI f))]) hx hb d_Tiles_isSame_4 hl (by decide) rfl (fun ls hl => ?_)
  refine lv_iload_n hx hb d_Tiles_isSame_6 rfl (lv_at hl 4 rfl) ?_
  refine lv_bipush (v := nI 64) hx hb d_Tiles_isSame_7 (by decide) ?_
  refine nv_imul hx hb d_Tiles_isSame_9 ?_
  refine lv_istore (lv' := [(5, .int (nI (f * 64))), (4, .int (nI (t * 64))), (0, .ref a), (1, .int (nI t)), (2, .ref b), (3, .int (nI f))]) hx hb d_Tiles_isSame_10 hl (by decide) rfl (fun ls hl => ?_)
  refine lv_iconst (v := nI 0) hx hb d_Tiles_isSame_12 (by decide) ?_
  refine lv_istore (lv' := [(6, .int (nI 0)), (5, .int (nI (f * 64))), (4, .int (nI (t * 64))), (0, .ref a), (1, .int (nI t)), (2, .ref b), (3, .int (nI f))]) hx hb d_Tiles_isSame_13 hl (by decide) rfl (fun ls hl => ?_)
  have lp_15 : ∀ (nn : Nat) (k : Nat) (hk : k ≤ 64) (hs : ∀ j, j < k → F (t * 64 + j) = G (f * 64 + j)), 64 - k < nn → ∀ (H : Heap) (locs : List Loc) (ls : Array Slot), va_P D classes [(a, .inr (0, [.int (nI cnt), .ref pp])), (pp, .inl (cI, n, .inl (nF F))), (b, .inr (0, [.int (nI cnt2), .ref qq])), (qq, .inl (cI, n2, .inl (nF G)))] H → va_D AA [(a, .inr (0, [.int (nI cnt), .ref pp])), (pp, .inl (cI, n, .inl (nF F))), (b, .inr (0, [.int (nI cnt2), .ref qq])), (qq, .inl (cI, n2, .inl (nF G)))] → va_S AA sT.heap H locs → lv_has ls 7 [(6, .int (nI k)), (5, .int (nI (f * 64))), (4, .int (nI (t * 64))), (0, .ref a), (1, .int (nI t)), (2, .ref b), (3, .int (nI f))] → W pr l ev ({ frames := 0, cells := 0, slots := 0, locals := 0 } : Room) sT mM aR bW mE cO H locs 0 0 QQ (F0 mM 15 ls []) := by
    intro nn
    induction nn with
    | zero => intro k hk hs hm; exact absurd hm (Nat.not_lt_zero _)
    | succ nn ih15 =>
      intro k hk hs hm H locs ls hP hD hS hl
      refine lv_iload hx hb d_Tiles_isSame_15 (lv_at hl 0 rfl) ?_
      refine lv_bipush (v := nI 64) hx hb d_Tiles_isSame_17 (by decide) ?_
      refine nv_icmp_ge (tgt := 53) hx hb d_Tiles_isSame_19 (by decide) (by omega) (by omega) (fun c_19 => ?_) (fun c_19 => ?_)
      · refine lv_iconst (v := nI 1) hx hb d_Tiles_isSame_53 (by decide) ?_
        exact hret _ () _ _ _ _ d_Tiles_isSame_54 (by first | rfl | decide) (by rw [sameB_t (fun j hj => hs j (by omega))]; rfl) hP hD hS
      · refine lv_aload_n hx hb d_Tiles_isSame_22 rfl (lv_at hl 3 rfl) ?_
        refine va_get (D := D) (ci := 0) (v := .ref pp) (C := "TileScreen$Tiles") (T := F_Tiles) (N := 2) hx hb htb i_Tiles hown hG.1 hP 0 rfl rfl 1 (by decide) (htb _ k_33) (fun _ h9 => h9) rfl d_Tiles_isSame_23 ?_
        refine lv_iload hx hb d_Tiles_isSame_26 (lv_at hl 2 rfl) ?_
        refine lv_iload hx hb d_Tiles_isSame_28 (lv_at hl 0 rfl) ?_
        refine nv_iadd hx hb d_Tiles_isSame_30 ?_
        refine nv_iald hx hb hG.1 hP 1 0 rfl rfl (by omega) (by omega) d_Tiles_isSame_31 ?_
        refine lv_aload_n hx hb d_Tiles_isSame_32 rfl (lv_at hl 5 rfl) ?_
        refine va_get (D := D) (ci := 0) (v := .ref qq) (C := "TileScreen$Tiles") (T := F_Tiles) (N := 2) hx hb htb i_Tiles hown hG.1 hP 2 rfl rfl 1 (by decide) (htb _ k_33) (fun _ h9 => h9) rfl d_Tiles_isSame_33 ?_
        refine lv_iload hx hb d_Tiles_isSame_36 (lv_at hl 1 rfl) ?_
        refine lv_iload hx hb d_Tiles_isSame_38 (lv_at hl 0 rfl) ?_
        refine nv_iadd hx hb d_Tiles_isSame_40 ?_
        refine nv_iald hx hb hG.1 hP 3 0 rfl rfl (by omega) (by omega) d_Tiles_isSame_41 ?_
        refine nv_icmp_eq (tgt := 47) hx hb d_Tiles_isSame_42 (by decide) (Nat.lt_trans (bF _) (by decide)) (Nat.lt_trans (bG _) (by decide)) (fun c_42 => ?_) (fun c_42 => ?_)
        · refine lv_iinc (v := (nI (k + 1))) (lv' := [(6, .int (nI (k + 1))), (5, .int (nI (f * 64))), (4, .int (nI (t * 64))), (0, .ref a), (1, .int (nI t)), (2, .ref b), (3, .int (nI f))]) hx hb d_Tiles_isSame_47 hl (k := 0) rfl (nI_add k 1) (by decide) rfl (fun ls hl => ?_)
          refine lv_goto (tgt := 15) hx hb d_Tiles_isSame_50 (by decide) ?_
          exact ih15 (k + 1) (by omega) (fun j hj => by rcases (show j < k ∨ j = k by omega) with q | q; exact hs j q; rw [q]; exact c_42) (by omega) _ _ _ hP hD hS (lv_sub hl [0, 1, 2, 3, 4, 5, 6] rfl)
        · refine lv_iconst (v := nI 0) hx hb d_Tiles_isSame_45 (by decide) ?_
          exact hret _ () _ _ _ _ d_Tiles_isSame_46 (by first | rfl | decide) (by rw [sameB_f (k := k) (by omega) c_42]; rfl) hP hD hS
  exact lp_15 _ 0 (Nat.zero_le _) (fun j hj => absurd hj (Nat.not_lt_zero j)) (Nat.lt_succ_self _) _ _ _ hP hD hS (lv_sub hl [0, 1, 2, 3, 4, 5, 6] rfl)
set_option maxHeartbeats 400000 in
set_option maxRecDepth 100000 in
theorem c_Tiles_find (a : Nat) (pp : Nat) (cnt : Nat) (n : Nat) (F : Nat → Nat) (b : Nat) (qq : Nat) (cnt2 : Nat) (n2 : Nat) (G : Nat → Nat) (m : Nat) (f : Nat) (h0 : m * 64 ≤ n) (h1 : f * 64 + 64 ≤ n2) (hn : n < 2 ^ 31) (hn2 : n2 < 2 ^ 31) (bF : ∀ j, F j < 65536) (bG : ∀ j, G j < 65536) : CI (S := Unit) l classes NW D (TYS cI cZ cL cV) y_Tiles_find (.code y_Tiles_find b_Tiles_find 5 (some .int) :: TB) { frames := 1, cells := 0, slots := 0, locals := 26 } [.ref a, .int (nI m), .ref b, .int (nI f)] [(a, .inr (0, [.int (nI cnt), .ref pp])), (pp, .inl (cI, n, .inl (nF F))), (b, .inr (0, [.int (nI cnt2), .ref qq])), (qq, .inl (cI, n2, .inl (nF G)))] (fun r u => isFind (fun i => sameB F (i * 64) G (f * 64)) m r) (fun u => [(a, .inr (0, [.int (nI cnt), .ref pp])), (pp, .inl (cI, n, .inl (nF F))), (b, .inr (0, [.int (nI cnt2), .ref qq])), (qq, .inl (cI, n2, .inl (nF G)))]) := by
  refine CI.of (by decide) (Nat.le_of_ble_eq_true rfl) ?_
  intro pr ev sT mM aR bW mE cO AA QQ ls Bd hG hA hP hD hS hl hret
  have Bd : bd pr cO b_Tiles_find 5 sT aR TB "TileScreen$Tiles" mM := Bd
  obtain ⟨hx, hb, hml, hown, htb⟩ := id Bd
  have hl : lv_has ls 5 [(0, .ref a), (1, .int (nI m)), (2, .ref b), (3, .int (nI f))] := hl
  refine lv_iconst (v := nI 0) hx hb d_Tiles_find_0 (by decide) ?_
  refine lv_istore (lv' := [(4, .int (nI 0)), (0, .ref a), (1, .int (nI m)), (2, .ref b), (3, .int (nI f))]) hx hb d_Tiles_find_1 hl (by decide) rfl (fun ls hl => ?_)
  have lp_3 : ∀ (nn : Nat) (k : Nat) (hk : k ≤ m) (hs : ∀ i, i < k → sameB F (i * 64) G (f * 64) = false), m - k < nn → ∀ (H : Heap) (locs : List Loc) (ls : Array Slot), va_P D classes [(a, .inr (0, [.int (nI cnt), .ref pp])), (pp, .inl (cI, n, .inl (nF F))), (b, .inr (0, [.int (nI cnt2), .ref qq])), (qq, .inl (cI, n2, .inl (nF G)))] H → va_D AA [(a, .inr (0, [.int (nI cnt), .ref pp])), (pp, .inl (cI, n, .inl (nF F))), (b, .inr (0, [.int (nI cnt2), .ref qq])), (qq, .inl (cI, n2, .inl (nF G)))] → va_S AA sT.heap H locs → lv_has ls 5 [(4, .int (nI k)), (0, .ref a), (1, .int (nI m)), (2, .ref b), (3, .int (nI f))] → W pr l ev ({ frames := 1, cells := 0, slots := 0, locals := 26 } : Room) sT mM aR bW mE cO H locs 0 0 QQ (F0 mM 3 ls []) := by
    intro nn
    induction nn with
    | zero => intro k hk hs hm; exact absurd hm (Nat.not_lt_zero _)
    | succ nn ih3 =>
      intro k hk hs hm H locs ls hP hD hS hl
      refine lv_iload hx hb d_Tiles_find_3 (lv_at hl 0 rfl) ?_
      refine lv_iload_n hx hb d_Tiles_find_5 rfl (lv_at hl 2 rfl) ?_
      refine nv_icmp_ge (tgt := 29) hx hb d_Tiles_find_6 (by decide) (by omega) (by omega) (fun c_6 => ?_) (fun c_6 => ?_)
      · refine lv_iconst (v := -1) hx hb d_Tiles_find_29 (by decide) ?_
        exact hret _ () _ _ _ _ d_Tiles_find_30 rfl (Or.inl ⟨rfl, fun i hi => hs i (by omega)⟩) hP hD hS
      · refine lv_aload_n hx hb d_Tiles_find_9 rfl (lv_at hl 1 rfl) ?_
        refine lv_iload hx hb d_Tiles_find_10 (lv_at hl 0 rfl) ?_
        refine lv_aload_n hx hb d_Tiles_find_12 rfl (lv_at hl 3 rfl) ?_
        refine lv_iload_n hx hb d_Tiles_find_13 rfl (lv_at hl 4 rfl) ?_
        refine kV_i (wc := [(a, .inr (0, [.int (nI cnt), .ref pp])), (pp, .inl (cI, n, .inl (nF F))), (b, .inr (0, [.int (nI cnt2), .ref qq])), (qq, .inl (cI, n2, .inl (nF G)))]) (wr := []) (w2 := fun _ => [(a, .inr (0, [.int (nI cnt), .ref pp])), (pp, .inl (cI, n, .inl (nF F))), (b, .inr (0, [.int (nI cnt2), .ref qq])), (qq, .inl (cI, n2, .inl (nF G)))]) [.int (nI k), .ref b, .int (nI f)] [] Bd ⟨gi_app (gi_c0 k_378 (gi_c0 k_354 (gi_c0 k_355 (gi_c0 k_2 gi_nil)))) (gi_tb0 k_356), rfl, by decide, by decide⟩ (show (parseMethodDescriptor "(ILTileScreen$Tiles;I)Z").map (fun d => d.parameters.length) = some 3 by decide +kernel) (c_Tiles_isSame a pp cnt n F b qq cnt2 n2 G k f (by omega) (by omega) (by omega) (by omega) (bF) (bG)) (by decide +kernel) ⟨Nat.le_of_ble_eq_true rfl, Nat.le_of_ble_eq_true rfl⟩ hG hP hD hS hA [0, 1, 2, 3] [] [0, 1, 2, 3] (by decide) rfl rfl (fun _ => rfl) (q0 := 0) rfl rfl rfl hl.1 rfl (Nat.le_of_ble_eq_true rfl) d_Tiles_find_14 (fun r2 u4 H locs hp3 hP hD hS => ?_)
        have hP : va_P D classes [(a, .inr (0, [.int (nI cnt), .ref pp])), (pp, .inl (cI, n, .inl (nF F))), (b, .inr (0, [.int (nI cnt2), .ref qq])), (qq, .inl (cI, n2, .inl (nF G)))] H := hP
        have hD : va_D AA [(a, .inr (0, [.int (nI cnt), .ref pp])), (pp, .inl (cI, n, .inl (nF F))), (b, .inr (0, [.int (nI cnt2), .ref qq])), (qq, .inl (cI, n2, .inl (nF G)))] := hD
        subst hp3
        refine nv_if_eq (tgt := 23) hx hb d_Tiles_find_17 (by decide) (bt_lt _) (fun c_17 => ?_) (fun c_17 => ?_)
        · refine lv_iinc (v := (nI (k + 1))) (lv' := [(4, .int (nI (k + 1))), (0, .ref a), (1, .int (nI m)), (2, .ref b), (3, .int (nI f))]) hx hb d_Tiles_find_23 hl (k := 0) rfl (nI_add k 1) (by decide) rfl (fun ls hl => ?_)
          refine lv_goto (tgt := 3) hx hb d_Tiles_find_26 (by decide) ?_
          exact ih3 (k + 1) (by omega) (fun j hj => by rcases (show j < k ∨ j = k by omega) with q | q; exact hs j q; rw [q]; exact bt0 c_17) (by omega) _ _ _ hP hD hS (lv_sub hl [0, 1, 2, 3, 4] rfl)
        · refine lv_iload hx hb d_Tiles_find_20 (lv_at hl 0 rfl) ?_
          exact hret _ () _ _ _ _ d_Tiles_find_22 rfl (Or.inr ⟨k, by omega, rfl, bt1 c_17, hs⟩) hP hD hS
  exact lp_3 _ 0 (Nat.zero_le _) (fun j hj => absurd hj (Nat.not_lt_zero j)) (Nat.lt_succ_self _) _ _ _ hP hD hS (lv_sub hl [0, 1, 2, 3, 4] rfl)
set_option maxHeartbeats 400000 in
set_option maxRecDepth 100000 in
theorem c_Tiles_countOther (a : Nat) (pp : Nat) (cnt : Nat) (n : Nat) (F : Nat → Nat) (b : Nat) (qq : Nat) (cnt2 : Nat) (n2 : Nat) (G : Nat → Nat) (h0 : cnt * 64 ≤ n) (h1 : cnt * 64 ≤ n2) (hn : n < 2 ^ 31) (hn2 : n2 < 2 ^ 31) (bF : ∀ j, F j < 65536) (bG : ∀ j, G j < 65536) : CI (S := Unit) l classes NW D (TYS cI cZ cL cV) y_Tiles_countOther (.code y_Tiles_countOther b_Tiles_countOther 4 (some .int) :: TB) { frames := 1, cells := 0, slots := 0, locals := 26 } [.ref a, .ref b] [(a, .inr (0, [.int (nI cnt), .ref pp])), (pp, .inl (cI, n, .inl (nF F))), (b, .inr (0, [.int (nI cnt2), .ref qq])), (qq, .inl (cI, n2, .inl (nF G)))] (fun r u => r = nI (cntN (fun i => sameB F (i * 64) G (i * 64)) cnt)) (fun u => [(a, .inr (0, [.int (nI cnt), .ref pp])), (pp, .inl (cI, n, .inl (nF F))), (b, .inr (0, [.int (nI cnt2), .ref qq])), (qq, .inl (cI, n2, .inl (nF G)))]) := by
  refine CI.of (by decide) (Nat.le_of_ble_eq_true rfl) ?_
  intro pr ev sT mM aR bW mE cO AA QQ ls Bd hG hA hP hD hS hl hret
  have Bd : bd pr cO b_Tiles_countOther 4 sT aR TB "TileScreen$Tiles" mM := Bd
  obtain ⟨hx, hb, hml, hown, htb⟩ := id Bd
  have hl : lv_has ls 4 [(0, .ref a), (1, .ref b)] := hl
  refine lv_iconst (v := nI 0) hx hb d_Tiles_countOther_0 (by decide) ?_
  refine lv_istore_n (lv' := [(2, .int (nI 0)), (0, .ref a), (1, .ref b)]) hx hb d_Tiles_countOther_1 rfl hl (by decide) rfl (fun ls hl => ?_)
  refine lv_iconst (v := nI 0) hx hb d_Tiles_countOther_2 (by decide) ?_
  refine lv_istore_n (lv' := [(3, .int (nI 0)), (2, .int (nI 0)), (0, .ref a), (1, .ref b)]) hx hb d_Tiles_countOther_3 rfl hl (by decide) rfl (fun ls hl => ?_)
  have lp_4 : ∀ (nn : Nat) (k : Nat) (d : Nat) (hk : k ≤ cnt) (hd : d = cntN (fun i => sameB F (i * 64) G (i * 64)) k), cnt - k < nn → ∀ (H : Heap) (locs : List Loc) (ls : Array Slot), va_P D classes [(a, .inr (0, [.int (nI cnt), .ref pp])), (pp, .inl (cI, n, .inl (nF F))), (b, .inr (0, [.int (nI cnt2), .ref qq])), (qq, .inl (cI, n2, .inl (nF G)))] H → va_D AA [(a, .inr (0, [.int (nI cnt), .ref pp])), (pp, .inl (cI, n, .inl (nF F))), (b, .inr (0, [.int (nI cnt2), .ref qq])), (qq, .inl (cI, n2, .inl (nF G)))] → va_S AA sT.heap H locs → lv_has ls 4 [(3, .int (nI k)), (2, .int (nI d)), (0, .ref a), (1, .ref b)] → W pr l ev ({ frames := 1, cells := 0, slots := 0, locals := 26 } : Room) sT mM aR bW mE cO H locs 0 0 QQ (F0 mM 4 ls []) := by
    intro nn
    induction nn with
    | zero => intro k d hk hd hm; exact absurd hm (Nat.not_lt_zero _)
    | succ nn ih4 =>
      intro k d hk hd hm H locs ls hP hD hS hl
      refine lv_iload_n hx hb d_Tiles_countOther_4 rfl (lv_at hl 0 rfl) ?_
      refine lv_aload_n hx hb d_Tiles_countOther_5 rfl (lv_at hl 2 rfl) ?_
      refine va_get (D := D) (ci := 0) (v := .int (nI cnt)) (C := "TileScreen$Tiles") (T := F_Tiles) (N := 2) hx hb htb i_Tiles hown hG.1 hP 0 rfl rfl 0 (by decide) (htb _ k_32) (fun _ h9 => h9) rfl d_Tiles_countOther_6 ?_
      refine nv_icmp_ge (tgt := 31) hx hb d_Tiles_countOther_9 (by decide) (by omega) (by omega) (fun c_9 => ?_) (fun c_9 => ?_)
      · refine lv_iload_n hx hb d_Tiles_countOther_31 rfl (lv_at hl 1 rfl) ?_
        exact hret _ () _ _ _ _ d_Tiles_countOther_32 rfl (by rw [hd, show k = cnt by omega]) hP hD hS
      · refine lv_aload_n hx hb d_Tiles_countOther_12 rfl (lv_at hl 2 rfl) ?_
        refine lv_iload_n hx hb d_Tiles_countOther_13 rfl (lv_at hl 0 rfl) ?_
        refine lv_aload_n hx hb d_Tiles_countOther_14 rfl (lv_at hl 3 rfl) ?_
        refine lv_iload_n hx hb d_Tiles_countOther_15 rfl (lv_at hl 0 rfl) ?_
        refine kV_i (wc := [(a, .inr (0, [.int (nI cnt), .ref pp])), (pp, .inl (cI, n, .inl (nF F))), (b, .inr (0, [.int (nI cnt2), .ref qq])), (qq, .inl (cI, n2, .inl (nF G)))]) (wr := []) (w2 := fun _ => [(a, .inr (0, [.int (nI cnt), .ref pp])), (pp, .inl (cI, n, .inl (nF F))), (b, .inr (0, [.int (nI cnt2), .ref qq])), (qq, .inl (cI, n2, .inl (nF G)))]) [.int (nI k), .ref b, .int (nI k)] [] Bd ⟨gi_app (gi_c0 k_378 (gi_c0 k_354 (gi_c0 k_355 (gi_c0 k_2 gi_nil)))) (gi_tb0 k_356), rfl, by decide, by decide⟩ (show (parseMethodDescriptor "(ILTileScreen$Tiles;I)Z").map (fun d => d.parameters.length) = some 3 by decide +kernel) (c_Tiles_isSame a pp cnt n F b qq cnt2 n2 G k k (by omega) (by omega) (by omega) (by omega) (bF) (bG)) (by decide +kernel) ⟨Nat.le_of_ble_eq_true rfl, Nat.le_of_ble_eq_true rfl⟩ hG hP hD hS hA [0, 1, 2, 3] [] [0, 1, 2, 3] (by decide) rfl rfl (fun _ => rfl) (q0 := 0) rfl rfl rfl hl.1 rfl (Nat.le_of_ble_eq_true rfl) d_Tiles_countOther_16 (fun r2 u4 H locs hp3 hP hD hS => ?_)
        have hP : va_P D classes [(a, .inr (0, [.int (nI cnt), .ref pp])), (pp, .inl (cI, n, .inl (nF F))), (b, .inr (0, [.int (nI cnt2), .ref qq])), (qq, .inl (cI, n2, .inl (nF G)))] H := hP
        have hD : va_D AA [(a, .inr (0, [.int (nI cnt), .ref pp])), (pp, .inl (cI, n, .inl (nF F))), (b, .inr (0, [.int (nI cnt2), .ref qq])), (qq, .inl (cI, n2, .inl (nF G)))] := hD
        subst hp3
        refine nv_if_ne (tgt := 25) hx hb d_Tiles_countOther_19 (by decide) (bt_lt _) (fun c_19 => ?_) (fun c_19 => ?_)
        · refine lv_iinc (v := (nI (k + 1))) (lv' := [(3, .int (nI (k + 1))), (2, .int (nI d)), (0, .ref a), (1, .ref b)]) hx hb d_Tiles_countOther_25 hl (k := 0) rfl (nI_add k 1) (by decide) rfl (fun ls hl => ?_)
          refine lv_goto (tgt := 4) hx hb d_Tiles_countOther_28 (by decide) ?_
          exact ih4 (k + 1) d (by omega) (hd.trans (cntN_t (P := fun i => sameB F (i * 64) G (i * 64)) (bt1 c_19)).symm) (by omega) _ _ _ hP hD hS (lv_sub hl [0, 1, 2, 3] rfl)
        · refine lv_iinc (v := (nI (d + 1))) (lv' := [(2, .int (nI (d + 1))), (3, .int (nI k)), (0, .ref a), (1, .ref b)]) hx hb d_Tiles_countOther_22 hl (k := 1) rfl (nI_add d 1) (by decide) rfl (fun ls hl => ?_)
          refine lv_iinc (v := (nI (k + 1))) (lv' := [(3, .int (nI (k + 1))), (2, .int (nI (d + 1))), (0, .ref a), (1, .ref b)]) hx hb d_Tiles_countOther_25 hl (k := 1) rfl (nI_add k 1) (by decide) rfl (fun ls hl => ?_)
          refine lv_goto (tgt := 4) hx hb d_Tiles_countOther_28 (by decide) ?_
          exact ih4 (k + 1) (d + 1) (by omega) (by rw [hd]; exact (cntN_f (P := fun i => sameB F (i * 64) G (i * 64)) (bt0 c_19)).symm) (by omega) _ _ _ hP hD hS (lv_sub hl [0, 1, 2, 3] rfl)
  exact lp_4 _ 0 0 (Nat.zero_le _) (rfl) (Nat.lt_succ_self _) _ _ _ hP hD hS (lv_sub hl [0, 1, 2, 3] rfl)
end
