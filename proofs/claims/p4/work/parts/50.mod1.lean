section
variable {l : Launch} {D : va_G} {cI cZ cL cV : ClassId}
set_option maxHeartbeats 400000 in
set_option maxRecDepth 100000 in
theorem c_Mod_spot (p : Nat) (t : Nat) (k : Nat) (hp : p < 10) (ht : t < 48) (hk : k < 64) : CI (S := Unit) l classes NW D (TYS cI cZ cL cV) y_Mod_spot (.code y_Mod_spot b_Mod_spot 3 (some .int) :: TB) { frames := 0, cells := 0, slots := 0, locals := 0 } [.int (nI p), .int (nI t), .int (nI k)] [] (fun r u => r = nI (3072 * p + 64 * (t / 8 * 8 + k / 8) + t % 8 * 8 + k % 8)) (fun u => []) := by
  refine CI.of (by decide) (Nat.le_of_ble_eq_true rfl) ?_
  intro pr ev sT mM aR bW mE cO AA QQ ls Bd hG hA hP hD hS hl hret
  have Bd : bd pr cO b_Mod_spot 3 sT aR TB "TileScreenModel" mM := Bd
  obtain ⟨hx, hb, hml, hown, htb⟩ := id Bd
  have hl : lv_has ls 3 [(0, .int (nI p)), (1, .int (nI t)), (2, .int (nI k))] := hl
  refine lv_sipush (v := nI 3072) hx hb d_Mod_spot_0 (by decide) ?_
  refine lv_iload_n hx hb d_Mod_spot_3 rfl (lv_at hl 0 rfl) ?_
  refine nv_imul hx hb d_Mod_spot_4 ?_
  refine lv_bipush (v := nI 64) hx hb d_Mod_spot_5 (by decide) ?_
  refine lv_iload_n hx hb d_Mod_spot_7 rfl (lv_at hl 1 rfl) ?_
  refine lv_bipush (v := nI 8) hx hb d_Mod_spot_8 (by decide) ?_
  refine nv_idiv hx hb (by omega) (by omega) (by omega) d_Mod_spot_10 ?_
  refine lv_bipush (v := nI 8) hx hb d_Mod_spot_11 (by decide) ?_
  refine nv_imul hx hb d_Mod_spot_13 ?_
  refine lv_iload_n hx hb d_Mod_spot_14 rfl (lv_at hl 2 rfl) ?_
  refine lv_bipush (v := nI 8) hx hb d_Mod_spot_15 (by decide) ?_
  refine nv_idiv hx hb (by omega) (by omega) (by omega) d_Mod_spot_17 ?_
  refine nv_iadd hx hb d_Mod_spot_18 ?_
  refine nv_imul hx hb d_Mod_spot_19 ?_
  refine nv_iadd hx hb d_Mod_spot_20 ?_
  refine lv_iload_n hx hb d_Mod_spot_21 rfl (lv_at hl 1 rfl) ?_
  refine lv_bipush (v := nI 8) hx hb d_Mod_spot_22 (by decide) ?_
  refine nv_irem hx hb (by omega) (by omega) (by omega) d_Mod_spot_24 ?_
  refine lv_bipush (v := nI 8) hx hb d_Mod_spot_25 (by decide) ?_
  refine nv_imul hx hb d_Mod_spot_27 ?_
  refine nv_iadd hx hb d_Mod_spot_28 ?_
  refine lv_iload_n hx hb d_Mod_spot_29 rfl (lv_at hl 2 rfl) ?_
  refine lv_bipush (v := nI 8) hx hb d_Mod_spot_30 (by decide) ?_
  refine nv_irem hx hb (by omega) (by omega) (by omega) d_Mod_spot_32 ?_
  refine nv_iadd hx hb d_Mod_spot_33 ?_
  exact hret _ () _ _ _ _ d_Mod_spot_34 rfl (rfl) hP hD hS
set_option maxHeartbeats 400000 in
set_option maxRecDepth 100000 in
theorem c_Mod_isViewer (v : Int32) : CI (S := Unit) l classes NW D (TYS cI cZ cL cV) y_Mod_isViewer (.code y_Mod_isViewer b_Mod_isViewer 1 (some .boolean) :: TB) { frames := 0, cells := 0, slots := 0, locals := 0 } [.int v] [] (fun r u => r = nI ((cB (vwP v)).toNat)) (fun u => []) := by
  refine CI.of (by decide) (Nat.le_of_ble_eq_true rfl) ?_
  intro pr ev sT mM aR bW mE cO AA QQ ls Bd hG hA hP hD hS hl hret
  have Bd : bd pr cO b_Mod_isViewer 1 sT aR TB "TileScreenModel" mM := Bd
  obtain ⟨hx, hb, hml, hown, htb⟩ := id Bd
  have hl : lv_has ls 1 [(0, .int v)] := hl
  refine lv_iload_n hx hb d_Mod_isViewer_0 rfl (lv_at hl 0 rfl) ?_
  refine lv_if_lt (tgt := 13) hx hb d_Mod_isViewer_1 (by decide) (fun c_1 => ?_) (fun c_1 => ?_)
  · refine lv_iconst (v := nI 0) hx hb d_Mod_isViewer_13 (by decide) ?_
    exact hret _ () _ _ _ _ d_Mod_isViewer_14 (by first | rfl | decide) (by rw [cB_f (fun ⟨k, h1, h2⟩ => n0 (by omega) (h2 ▸ c_1))]; rfl) hP hD hS
  · refine lv_iload_n hx hb d_Mod_isViewer_4 rfl (lv_at hl 0 rfl) ?_
    refine lv_iconst (v := nI 3) hx hb d_Mod_isViewer_5 (by decide) ?_
    refine lv_icmp_ge (tgt := 13) hx hb d_Mod_isViewer_6 (by decide) (fun c_6 => ?_) (fun c_6 => ?_)
    · refine lv_iconst (v := nI 0) hx hb d_Mod_isViewer_13 (by decide) ?_
      exact hret _ () _ _ _ _ d_Mod_isViewer_14 (by first | rfl | decide) (by rw [cB_f (fun ⟨k, h1, h2⟩ => absurd (nle (by decide) (by omega) (h2 ▸ c_6)) (by omega))]; rfl) hP hD hS
    · refine lv_iconst (v := nI 1) hx hb d_Mod_isViewer_9 (by decide) ?_
      refine lv_goto (tgt := 14) hx hb d_Mod_isViewer_10 (by decide) ?_
      exact hret _ () _ _ _ _ d_Mod_isViewer_14 (by first | rfl | decide) (by rw [cB_t (P := vwP v) (ge_lt (by decide) c_1 c_6)]; rfl) hP hD hS
set_option maxHeartbeats 400000 in
set_option maxRecDepth 100000 in
theorem c_Mod_isColour (v : Int32) : CI (S := Unit) l classes NW D (TYS cI cZ cL cV) y_Mod_isColour (.code y_Mod_isColour b_Mod_isColour 1 (some .boolean) :: TB) { frames := 0, cells := 0, slots := 0, locals := 0 } [.int v] [] (fun r u => r = nI ((cB (coP v)).toNat)) (fun u => []) := by
  refine CI.of (by decide) (Nat.le_of_ble_eq_true rfl) ?_
  intro pr ev sT mM aR bW mE cO AA QQ ls Bd hG hA hP hD hS hl hret
  have Bd : bd pr cO b_Mod_isColour 1 sT aR TB "TileScreenModel" mM := Bd
  obtain ⟨hx, hb, hml, hown, htb⟩ := id Bd
  have hl : lv_has ls 1 [(0, .int v)] := hl
  refine lv_iload_n hx hb d_Mod_isColour_0 rfl (lv_at hl 0 rfl) ?_
  refine lv_if_lt (tgt := 14) hx hb d_Mod_isColour_1 (by decide) (fun c_1 => ?_) (fun c_1 => ?_)
  · refine lv_iconst (v := nI 0) hx hb d_Mod_isColour_14 (by decide) ?_
    exact hret _ () _ _ _ _ d_Mod_isColour_15 (by first | rfl | decide) (by rw [cB_f (fun ⟨k, h1, h2⟩ => n0 (by omega) (h2 ▸ c_1))]; rfl) hP hD hS
  · refine lv_iload_n hx hb d_Mod_isColour_4 rfl (lv_at hl 0 rfl) ?_
    refine lv_ldc (v := nI 65536) hx hb hown (htb _ k_728) d_Mod_isColour_5 ?_
    refine lv_icmp_ge (tgt := 14) hx hb d_Mod_isColour_7 (by decide) (fun c_7 => ?_) (fun c_7 => ?_)
    · refine lv_iconst (v := nI 0) hx hb d_Mod_isColour_14 (by decide) ?_
      exact hret _ () _ _ _ _ d_Mod_isColour_15 (by first | rfl | decide) (by rw [cB_f (fun ⟨k, h1, h2⟩ => absurd (nle (by decide) (by omega) (h2 ▸ c_7)) (by omega))]; rfl) hP hD hS
    · refine lv_iconst (v := nI 1) hx hb d_Mod_isColour_10 (by decide) ?_
      refine lv_goto (tgt := 15) hx hb d_Mod_isColour_11 (by decide) ?_
      exact hret _ () _ _ _ _ d_Mod_isColour_15 (by first | rfl | decide) (by rw [cB_t (P := coP v) (ge_lt (by decide) c_1 c_7)]; rfl) hP hD hS
set_option maxHeartbeats 400000 in
set_option maxRecDepth 100000 in
theorem c_Mod_isRect (x : Int32) (y : Int32) (w : Int32) (h : Int32) : CI (S := Unit) l classes NW D (TYS cI cZ cL cV) y_Mod_isRect (.code y_Mod_isRect b_Mod_isRect 4 (some .boolean) :: TB) { frames := 0, cells := 0, slots := 0, locals := 0 } [.int x, .int y, .int w, .int h] [] (fun r u => r = nI ((cB (reP x y w h)).toNat)) (fun u => []) := by
  refine CI.of (by decide) (Nat.le_of_ble_eq_true rfl) ?_
  intro pr ev sT mM aR bW mE cO AA QQ ls Bd hG hA hP hD hS hl hret
  have Bd : bd pr cO b_Mod_isRect 4 sT aR TB "TileScreenModel" mM := Bd
  obtain ⟨hx, hb, hml, hown, htb⟩ := id Bd
  have hl : lv_has ls 4 [(0, .int x), (1, .int y), (2, .int w), (3, .int h)] := hl
  refine lv_iload_n hx hb d_Mod_isRect_0 rfl (lv_at hl 0 rfl) ?_
  refine lv_if_lt (tgt := 50) hx hb d_Mod_isRect_1 (by decide) (fun c_1 => ?_) (fun c_1 => ?_)
  · refine lv_iconst (v := nI 0) hx hb d_Mod_isRect_50 (by decide) ?_
    exact hret _ () _ _ _ _ d_Mod_isRect_51 (by first | rfl | decide) (by rw [cB_f (fun ⟨a1, b1, c1, d1, e1, e2, e3, e4, g1, g2, g3, g4⟩ => n0 (by omega) (e1 ▸ c_1))]; rfl) hP hD hS
  · refine lv_iload_n hx hb d_Mod_isRect_4 rfl (lv_at hl 1 rfl) ?_
    refine lv_if_lt (tgt := 50) hx hb d_Mod_isRect_5 (by decide) (fun c_5 => ?_) (fun c_5 => ?_)
    · refine lv_iconst (v := nI 0) hx hb d_Mod_isRect_50 (by decide) ?_
      exact hret _ () _ _ _ _ d_Mod_isRect_51 (by first | rfl | decide) (by rw [cB_f (fun ⟨a1, b1, c1, d1, e1, e2, e3, e4, g1, g2, g3, g4⟩ => n0 (by omega) (e2 ▸ c_5))]; rfl) hP hD hS
    · refine lv_iload_n hx hb d_Mod_isRect_8 rfl (lv_at hl 2 rfl) ?_
      refine lv_iconst (v := nI 1) hx hb d_Mod_isRect_9 (by decide) ?_
      refine lv_icmp_lt (tgt := 50) hx hb d_Mod_isRect_10 (by decide) (fun c_10 => ?_) (fun c_10 => ?_)
      · refine lv_iconst (v := nI 0) hx hb d_Mod_isRect_50 (by decide) ?_
        exact hret _ () _ _ _ _ d_Mod_isRect_51 (by first | rfl | decide) (by rw [cB_f (fun ⟨a1, b1, c1, d1, e1, e2, e3, e4, g1, g2, g3, g4⟩ => absurd (nlt (by omega) (by decide) (e3 ▸ c_10)) (by omega))]; rfl) hP hD hS
      · refine lv_iload_n hx hb d_Mod_isRect_13 rfl (lv_at hl 3 rfl) ?_
        refine lv_iconst (v := nI 1) hx hb d_Mod_isRect_14 (by decide) ?_
        refine lv_icmp_lt (tgt := 50) hx hb d_Mod_isRect_15 (by decide) (fun c_15 => ?_) (fun c_15 => ?_)
        · refine lv_iconst (v := nI 0) hx hb d_Mod_isRect_50 (by decide) ?_
          exact hret _ () _ _ _ _ d_Mod_isRect_51 (by first | rfl | decide) (by rw [cB_f (fun ⟨a1, b1, c1, d1, e1, e2, e3, e4, g1, g2, g3, g4⟩ => absurd (nlt (by omega) (by decide) (e4 ▸ c_15)) (by omega))]; rfl) hP hD hS
        · refine lv_iload_n hx hb d_Mod_isRect_18 rfl (lv_at hl 2 rfl) ?_
          refine lv_bipush (v := nI 64) hx hb d_Mod_isRect_19 (by decide) ?_
          refine lv_icmp_gt (tgt := 50) hx hb d_Mod_isRect_21 (by decide) (fun c_21 => ?_) (fun c_21 => ?_)
          · refine lv_iconst (v := nI 0) hx hb d_Mod_isRect_50 (by decide) ?_
            exact hret _ () _ _ _ _ d_Mod_isRect_51 (by first | rfl | decide) (by rw [cB_f (fun ⟨a1, b1, c1, d1, e1, e2, e3, e4, g1, g2, g3, g4⟩ => absurd (nlt (by decide) (by omega) (e3 ▸ c_21)) (by omega))]; rfl) hP hD hS
          · refine lv_iload_n hx hb d_Mod_isRect_24 rfl (lv_at hl 3 rfl) ?_
            refine lv_bipush (v := nI 48) hx hb d_Mod_isRect_25 (by decide) ?_
            refine lv_icmp_gt (tgt := 50) hx hb d_Mod_isRect_27 (by decide) (fun c_27 => ?_) (fun c_27 => ?_)
            · refine lv_iconst (v := nI 0) hx hb d_Mod_isRect_50 (by decide) ?_
              exact hret _ () _ _ _ _ d_Mod_isRect_51 (by first | rfl | decide) (by rw [cB_f (fun ⟨a1, b1, c1, d1, e1, e2, e3, e4, g1, g2, g3, g4⟩ => absurd (nlt (by decide) (by omega) (e4 ▸ c_27)) (by omega))]; rfl) hP hD hS
            · obtain ⟨cc9, hc1, hc2, rfl⟩ := i_rng (by decide) c_10 c_21
              obtain ⟨dd9, hd1, hd2, rfl⟩ := i_rng (by decide) c_15 c_27
              refine lv_iload_n hx hb d_Mod_isRect_30 rfl (lv_at hl 0 rfl) ?_
              refine lv_bipush (v := nI 64) hx hb d_Mod_isRect_31 (by decide) ?_
              refine lv_iload_n hx hb d_Mod_isRect_33 rfl (lv_at hl 2 rfl) ?_
              refine nv_isub hx hb (by omega) d_Mod_isRect_34 ?_
              refine lv_icmp_gt (tgt := 50) hx hb d_Mod_isRect_35 (by decide) (fun c_35 => ?_) (fun c_35 => ?_)
              · refine lv_iconst (v := nI 0) hx hb d_Mod_isRect_50 (by decide) ?_
                exact hret _ () _ _ _ _ d_Mod_isRect_51 (by first | rfl | decide) (by rw [cB_f (fun ⟨a1, b1, c1, d1, e1, e2, e3, e4, g1, g2, g3, g4⟩ => absurd (nlt (by omega) (by omega) (e1 ▸ c_35)) (by have := neq (by omega) (by omega) e3; omega))]; rfl) hP hD hS
              · refine lv_iload_n hx hb d_Mod_isRect_38 rfl (lv_at hl 1 rfl) ?_
                refine lv_bipush (v := nI 48) hx hb d_Mod_isRect_39 (by decide) ?_
                refine lv_iload_n hx hb d_Mod_isRect_41 rfl (lv_at hl 3 rfl) ?_
                refine nv_isub hx hb (by omega) d_Mod_isRect_42 ?_
                refine lv_icmp_gt (tgt := 50) hx hb d_Mod_isRect_43 (by decide) (fun c_43 => ?_) (fun c_43 => ?_)
                · refine lv_iconst (v := nI 0) hx hb d_Mod_isRect_50 (by decide) ?_
                  exact hret _ () _ _ _ _ d_Mod_isRect_51 (by first | rfl | decide) (by rw [cB_f (fun ⟨a1, b1, c1, d1, e1, e2, e3, e4, g1, g2, g3, g4⟩ => absurd (nlt (by omega) (by omega) (e2 ▸ c_43)) (by have := neq (by omega) (by omega) e4; omega))]; rfl) hP hD hS
                · refine lv_iconst (v := nI 1) hx hb d_Mod_isRect_46 (by decide) ?_
                  refine lv_goto (tgt := 51) hx hb d_Mod_isRect_47 (by decide) ?_
                  obtain ⟨a, ha2, ha3⟩ : ∃ a, a ≤ 64 - cc9 ∧ x = nI a := by
                    obtain ⟨a, g1, rfl⟩ := nI_of c_1
                    exact ⟨a, Nat.le_of_not_lt fun q => c_35 ((nI_ltI (by omega) g1).mpr q), rfl⟩
                  obtain ⟨b, hb2, hb3⟩ : ∃ a, a ≤ 48 - dd9 ∧ y = nI a := by
                    obtain ⟨a, g1, rfl⟩ := nI_of c_5
                    exact ⟨a, Nat.le_of_not_lt fun q => c_43 ((nI_ltI (by omega) g1).mpr q), rfl⟩
                  exact hret _ () _ _ _ _ d_Mod_isRect_51 (by first | rfl | decide) (by rw [cB_t ⟨a, b, cc9, dd9, ha3, hb3, rfl, rfl, hc1, hd1, by omega, by omega⟩]; rfl) hP hD hS
set_option maxHeartbeats 400000 in
set_option maxRecDepth 100000 in
theorem c_Mod_become (mo : Nat) (cd : Int32) (rpx : Nat) (nb : Int32) (rca : Nat) (rpl : Nat) (rth : Nat) (rco : Nat) (rsh : Nat) (rsf : Nat) (rcr : Nat) (rep : Nat) (rby : Nat) (rli : Nat) (rls : Nat) (rla : Nat) (rcm : Nat) (rcs : Nat) (rpa : Nat) (rpm : Nat) (rpo : Nat) (rti : Nat) (rre : Nat) (rcl : Nat) (sz : Nat) (cs : Nat) (nx : Nat) (la : Nat) (Px : Nat → Nat) (p : Nat) (q : Nat) (hp : p < 10) (hq : q < 10) (bPx : ∀ j, Px j < 65536) : CV (S := (Nat → Nat)) l classes NW D (TYS cI cZ cL cV) y_Mod_become (.code y_Mod_become b_Mod_become 4 none :: TB) { frames := 0, cells := 0, slots := 0, locals := 0 } [.ref mo, .int (nI p), .int (nI q)] [(mo, .inr (9, [.int cd, .ref rpx, .int nb, .ref rca, .ref rpl, .ref rth, .ref rco, .ref rsh, .ref rsf, .ref rcr, .ref rep, .ref rby, .ref rli, .ref rls, .ref rla, .ref rcm, .ref rcs, .ref rpa, .ref rpm, .ref rpo, .ref rti, .ref rre, .ref rcl, .int (nI sz), .int (nI cs), .int (nI nx), .int (nI la)])), (rpx, .inl (cI, 30720, .inl (nF Px)))] (fun u => (∀ j, u j < 65536)) (fun u => [(mo, .inr (9, [.int cd, .ref rpx, .int nb, .ref rca, .ref rpl, .ref rth, .ref rco, .ref rsh, .ref rsf, .ref rcr, .ref rep, .ref rby, .ref rli, .ref rls, .ref rla, .ref rcm, .ref rcs, .ref rpa, .ref rpm, .ref rpo, .ref rti, .ref rre, .ref rcl, .int (nI sz), .int (nI cs), .int (nI nx), .int (nI la)])), (rpx, .inl (cI, 30720, .inl (nF u)))]) := by
  refine CV.of (by decide) (Nat.le_of_ble_eq_true rfl) ?_
  intro pr ev sT mM aR bW mE cO AA QQ ls Bd hG hA hP hD hS hl hnm hret
  have Bd : bd pr cO b_Mod_become 4 sT aR TB "TileScreenModel" mM := Bd
  obtain ⟨hx, hb, hml, hown, htb⟩ := id Bd
  have hl : lv_has ls 4 [(0, .ref mo), (1, .int (nI p)), (2, .int (nI q))] := hl
  refine lv_iconst (v := nI 0) hx hb d_Mod_become_0 (by decide) ?_
  refine lv_istore_n (lv' := [(3, .int (nI 0)), (0, .ref mo), (1, .int (nI p)), (2, .int (nI q))]) hx hb d_Mod_become_1 rfl hl (by decide) rfl (fun ls hl => ?_)
  have lp_2 : ∀ (nn : Nat) (k : Nat) (Px1 : Nat → Nat) (hk : k ≤ 3072) (bP1 : ∀ j, Px1 j < 65536), 3072 - k < nn → ∀ (H : Heap) (locs : List Loc) (ls : Array Slot), va_P D classes [(mo, .inr (9, [.int cd, .ref rpx, .int nb, .ref rca, .ref rpl, .ref rth, .ref rco, .ref rsh, .ref rsf, .ref rcr, .ref rep, .ref rby, .ref rli, .ref rls, .ref rla, .ref rcm, .ref rcs, .ref rpa, .ref rpm, .ref rpo, .ref rti, .ref rre, .ref rcl, .int (nI sz), .int (nI cs), .int (nI nx), .int (nI la)])), (rpx, .inl (cI, 30720, .inl (nF Px1)))] H → va_D AA [(mo, .inr (9, [.int cd, .ref rpx, .int nb, .ref rca, .ref rpl, .ref rth, .ref rco, .ref rsh, .ref rsf, .ref rcr, .ref rep, .ref rby, .ref rli, .ref rls, .ref rla, .ref rcm, .ref rcs, .ref rpa, .ref rpm, .ref rpo, .ref rti, .ref rre, .ref rcl, .int (nI sz), .int (nI cs), .int (nI nx), .int (nI la)])), (rpx, .inl (cI, 30720, .inl (nF Px1)))] → va_S AA sT.heap H locs → lv_has ls 4 [(3, .int (nI k)), (0, .ref mo), (1, .int (nI p)), (2, .int (nI q))] → W pr l ev ({ frames := 0, cells := 0, slots := 0, locals := 0 } : Room) sT mM aR bW mE cO H locs 0 0 QQ (F0 mM 2 ls []) := by
    intro nn
    induction nn with
    | zero => intro k Px1 hk bP1 hm; exact absurd hm (Nat.not_lt_zero _)
    | succ nn ih2 =>
      intro k Px1 hk bP1 hm H locs ls hP hD hS hl
      refine lv_iload_n hx hb d_Mod_become_2 rfl (lv_at hl 0 rfl) ?_
      refine lv_sipush (v := nI 3072) hx hb d_Mod_become_3 (by decide) ?_
      refine nv_icmp_ge (tgt := 39) hx hb d_Mod_become_6 (by decide) (by omega) (by omega) (fun c_6 => ?_) (fun c_6 => ?_)
      · exact hret Px1 _ _ _ _ d_Mod_become_39 (bP1) hP hD hS
      · refine lv_aload_n hx hb d_Mod_become_9 rfl (lv_at hl 1 rfl) ?_
        refine va_get (D := D) (ci := 9) (v := .ref rpx) (C := "TileScreenModel") (T := F_Mod) (N := 27) hx hb htb i_Mod hown hG.1 hP 0 rfl rfl 1 (by decide) (htb _ k_636) (fun _ h9 => h9) rfl d_Mod_become_10 ?_
        refine lv_sipush (v := nI 3072) hx hb d_Mod_become_13 (by decide) ?_
        refine lv_iload_n hx hb d_Mod_become_16 rfl (lv_at hl 2 rfl) ?_
        refine nv_imul hx hb d_Mod_become_17 ?_
        refine lv_iload_n hx hb d_Mod_become_18 rfl (lv_at hl 0 rfl) ?_
        refine nv_iadd hx hb d_Mod_become_19 ?_
        refine lv_aload_n hx hb d_Mod_become_20 rfl (lv_at hl 1 rfl) ?_
        refine va_get (D := D) (ci := 9) (v := .ref rpx) (C := "TileScreenModel") (T := F_Mod) (N := 27) hx hb htb i_Mod hown hG.1 hP 0 rfl rfl 1 (by decide) (htb _ k_636) (fun _ h9 => h9) rfl d_Mod_become_21 ?_
        refine lv_sipush (v := nI 3072) hx hb d_Mod_become_24 (by decide) ?_
        refine lv_iload_n hx hb d_Mod_become_27 rfl (lv_at hl 3 rfl) ?_
        refine nv_imul hx hb d_Mod_become_28 ?_
        refine lv_iload_n hx hb d_Mod_become_29 rfl (lv_at hl 0 rfl) ?_
        refine nv_iadd hx hb d_Mod_become_30 ?_
        refine nv_iald hx hb hG.1 hP 1 0 rfl rfl (by omega) (by omega) d_Mod_become_31 ?_
        refine nv_iast hx hb hG.1 hP hD hS 1 0 rfl rfl (by omega) (by omega) d_Mod_become_32 (fun H locs hP hD hS => ?_)
        have hP : va_P D classes [(mo, .inr (9, [.int cd, .ref rpx, .int nb, .ref rca, .ref rpl, .ref rth, .ref rco, .ref rsh, .ref rsf, .ref rcr, .ref rep, .ref rby, .ref rli, .ref rls, .ref rla, .ref rcm, .ref rcs, .ref rpa, .ref rpm, .ref rpo, .ref rti, .ref rre, .ref rcl, .int (nI sz), .int (nI cs), .int (nI nx), .int (nI la)])), (rpx, .inl (cI, 30720, .inl (nF (up Px1 (3072 * p + k) (Px1 (3072 * q + k))))))] H := hP
        have hD : va_D AA [(mo, .inr (9, [.int cd, .ref rpx, .int nb, .ref rca, .ref rpl, .ref rth, .ref rco, .ref rsh, .ref rsf, .ref rcr, .ref rep, .ref rby, .ref rli, .ref rls, .ref rla, .ref rcm, .ref rcs, .ref rpa, .ref rpm, .ref rpo, .ref rti, .ref rre, .ref rcl, .int (nI sz), .int (nI cs), .int (nI nx), .int (nI la)])), (rpx, .inl (cI, 30720, .inl (nF (up Px1 (3072 * p + k) (Px1 (3072 * q + k))))))] := hD
        refine lv_iinc (v := (nI (k + 1))) (lv' := [(3, .int (nI (k + 1))), (0, .ref mo), (1, .int (nI p)), (2, .int (nI q))]) hx hb d_Mod_become_33 hl (k := 0) rfl (nI_add k 1) (by decide) rfl (fun ls hl => ?_)
        refine lv_goto (tgt := 2) hx hb d_Mod_become_36 (by decide) ?_
        exact ih2 (k + 1) (up Px1 (3072 * p + k) (Px1 (3072 * q + k))) (by omega) (up_lt bP1 (bP1 _)) (by omega) _ _ _ hP hD hS (lv_sub hl [0, 1, 2, 3] rfl)
  exact lp_2 _ 0 Px (Nat.zero_le _) (bPx) (Nat.lt_succ_self _) _ _ _ hP hD hS (lv_sub hl [0, 1, 2, 3] rfl)
set_option maxHeartbeats 400000 in
set_option maxRecDepth 100000 in
theorem c_Mod_sameTile (mo : Nat) (cd : Int32) (rpx : Nat) (nb : Int32) (rca : Nat) (rpl : Nat) (rth : Nat) (rco : Nat) (rsh : Nat) (rsf : Nat) (rcr : Nat) (rep : Nat) (rby : Nat) (rli : Nat) (rls : Nat) (rla : Nat) (rcm : Nat) (rcs : Nat) (rpa : Nat) (rpm : Nat) (rpo : Nat) (rti : Nat) (rre : Nat) (rcl : Nat) (sz : Nat) (cs : Nat) (nx : Nat) (la : Nat) (Px : Nat → Nat) (p : Nat) (t : Nat) (o : Nat) (u9 : Nat) (hp : p < 10) (ht : t < 48) (ho : o < 10) (hu : u9 < 48) (bPx : ∀ j, Px j < 65536) : CI (S := Nat) l classes NW D (TYS cI cZ cL cV) y_Mod_sameTile (.code y_Mod_sameTile b_Mod_sameTile 7 (some .boolean) :: TB) { frames := 1, cells := 0, slots := 0, locals := 22 } [.ref mo, .int (nI p), .int (nI t), .int (nI o), .int (nI u9)] [(mo, .inr (9, [.int cd, .ref rpx, .int nb, .ref rca, .ref rpl, .ref rth, .ref rco, .ref rsh, .ref rsf, .ref rcr, .ref rep, .ref rby, .ref rli, .ref rls, .ref rla, .ref rcm, .ref rcs, .ref rpa, .ref rpm, .ref rpo, .ref rti, .ref rre, .ref rcl, .int (nI sz), .int (nI cs), .int (nI nx), .int (nI la)])), (rpx, .inl (cI, 30720, .inl (nF Px)))] (fun r u => r = nI u ∧ u ≤ 1) (fun u => [(mo, .inr (9, [.int cd, .ref rpx, .int nb, .ref rca, .ref rpl, .ref rth, .ref rco, .ref rsh, .ref rsf, .ref rcr, .ref rep, .ref rby, .ref rli, .ref rls, .ref rla, .ref rcm, .ref rcs, .ref rpa, .ref rpm, .ref rpo, .ref rti, .ref rre, .ref rcl, .int (nI sz), .int (nI cs), .int (nI nx), .int (nI la)])), (rpx, .inl (cI, 30720, .inl (nF Px)))]) := by
  refine CI.of (by decide) (Nat.le_of_ble_eq_true rfl) ?_
  intro pr ev sT mM aR bW mE cO AA QQ ls Bd hG hA hP hD hS hl hret
  have Bd : bd pr cO b_Mod_sameTile 7 sT aR TB "TileScreenModel" mM := Bd
  obtain ⟨hx, hb, hml, hown, htb⟩ := id Bd
  have hl : lv_has ls 7 [(0, .ref mo), (1, .int (nI p)), (2, .int (nI t)), (3, .int (nI o)), (4, .int (nI u9))] := hl
  refine lv_iconst (v := nI 1) hx hb d_Mod_sameTile_0 (by decide) ?_
  refine lv_istore (lv' := [(5, .int (nI 1)), (0, .ref mo), (1, .int (nI p)), (2, .int (nI t)), (3, .int (nI o)), (4, .int (nI u9))]) hx hb d_Mod_sameTile_1 hl (by decide) rfl (fun ls hl => ?_)
  refine lv_iconst (v := nI 0) hx hb d_Mod_sameTile_3 (by decide) ?_
  refine lv_istore (lv' := [(6, .int (nI 0)), (5, .int (nI 1)), (0, .ref mo), (1, .int (nI p)), (2, .int (nI t)), (3, .int (nI o)), (4, .int (nI u9))]) hx hb d_Mod_sameTile_4 hl (by decide) rfl (fun ls hl => ?_)
  have lp_6 : ∀ (nn : Nat) (k : Nat) (b1 : Nat) (hk : k ≤ 64) (hb1 : b1 ≤ 1), 64 - k < nn → ∀ (H : Heap) (locs : List Loc) (ls : Array Slot), va_P D classes [(mo, .inr (9, [.int cd, .ref rpx, .int nb, .ref rca, .ref rpl, .ref rth, .ref rco, .ref rsh, .ref rsf, .ref rcr, .ref rep, .ref rby, .ref rli, .ref rls, .ref rla, .ref rcm, .ref rcs, .ref rpa, .ref rpm, .ref rpo, .ref rti, .ref rre, .ref rcl, .int (nI sz), .int (nI cs), .int (nI nx), .int (nI la)])), (rpx, .inl (cI, 30720, .inl (nF Px)))] H → va_D AA [(mo, .inr (9, [.int cd, .ref rpx, .int nb, .ref rca, .ref rpl, .ref rth, .ref rco, .ref rsh, .ref rsf, .ref rcr, .ref rep, .ref rby, .ref rli, .ref rls, .ref rla, .ref rcm, .ref rcs, .ref rpa, .ref rpm, .ref rpo, .ref rti, .ref rre, .ref rcl, .int (nI sz), .int (nI cs), .int (nI nx), .int (nI la)])), (rpx, .inl (cI, 30720, .inl (nF Px)))] → va_S AA sT.heap H locs → lv_has ls 7 [(6, .int (nI k)), (5, .int (nI b1)), (0, .ref mo), (1, .int (nI p)), (2, .int (nI t)), (3, .int (nI o)), (4, .int (nI u9))] → W pr l ev ({ frames := 1, cells := 0, slots := 0, locals := 22 } : Room) sT mM aR bW mE cO H locs 0 0 QQ (F0 mM 6 ls []) := by
    intro nn
    induction nn with
    | zero => intro k b1 hk hb1 hm; exact absurd hm (Nat.not_lt_zero _)
    | succ nn ih6 =>
      intro k b1 hk hb1 hm H locs ls hP hD hS hl
      refine lv_iload hx hb d_Mod_sameTile_6 (lv_at hl 0 rfl) ?_
      refine lv_bipush (v := nI 64) hx hb d_Mod_sameTile_8 (by decide) ?_
      refine nv_icmp_ge (tgt := 59) hx hb d_Mod_sameTile_10 (by decide) (by omega) (by omega) (fun c_10 => ?_) (fun c_10 => ?_)
      · refine lv_iload hx hb d_Mod_sameTile_59 (lv_at hl 1 rfl) ?_
        exact hret _ b1 _ _ _ _ d_Mod_sameTile_61 (by rcases (show b1 = 0 ∨ b1 = 1 by omega) with rfl | rfl <;> rfl) (⟨rfl, hb1⟩) hP hD hS
      · refine lv_iload hx hb d_Mod_sameTile_13 (lv_at hl 1 rfl) ?_
        refine nv_if_eq (tgt := 59) hx hb d_Mod_sameTile_15 (by decide) (by omega) (fun c_15 => ?_) (fun c_15 => ?_)
        · refine lv_iload hx hb d_Mod_sameTile_59 (lv_at hl 1 rfl) ?_
          exact hret _ b1 _ _ _ _ d_Mod_sameTile_61 (by rcases (show b1 = 0 ∨ b1 = 1 by omega) with rfl | rfl <;> rfl) (⟨rfl, hb1⟩) hP hD hS
        · refine lv_aload_n hx hb d_Mod_sameTile_18 rfl (lv_at hl 2 rfl) ?_
          refine va_get (D := D) (ci := 9) (v := .ref rpx) (C := "TileScreenModel") (T := F_Mod) (N := 27) hx hb htb i_Mod hown hG.1 hP 0 rfl rfl 1 (by decide) (htb _ k_636) (fun _ h9 => h9) rfl d_Mod_sameTile_19 ?_
          refine lv_iload_n hx hb d_Mod_sameTile_22 rfl (lv_at hl 3 rfl) ?_
          refine lv_iload_n hx hb d_Mod_sameTile_23 rfl (lv_at hl 4 rfl) ?_
          refine lv_iload hx hb d_Mod_sameTile_24 (lv_at hl 0 rfl) ?_
          refine kS_i (wc := []) (wr := [(mo, .inr (9, [.int cd, .ref rpx, .int nb, .ref rca, .ref rpl, .ref rth, .ref rco, .ref rsh, .ref rsf, .ref rcr, .ref rep, .ref rby, .ref rli, .ref rls, .ref rla, .ref rcm, .ref rcs, .ref rpa, .ref rpm, .ref rpo, .ref rti, .ref rre, .ref rcl, .int (nI sz), .int (nI cs), .int (nI nx), .int (nI la)])), (rpx, .inl (cI, 30720, .inl (nF Px)))]) (w2 := fun _ => [(mo, .inr (9, [.int cd, .ref rpx, .int nb, .ref rca, .ref rpl, .ref rth, .ref rco, .ref rsh, .ref rsf, .ref rcr, .ref rep, .ref rby, .ref rli, .ref rls, .ref rla, .ref rcm, .ref rcs, .ref rpa, .ref rpm, .ref rpo, .ref rti, .ref rre, .ref rcl, .int (nI sz), .int (nI cs), .int (nI nx), .int (nI la)])), (rpx, .inl (cI, 30720, .inl (nF Px)))]) [.int (nI p), .int (nI t), .int (nI k)] [.ref rpx] Bd ⟨gi_app (gi_c0 k_741 (gi_c0 k_742 (gi_c0 k_10 gi_nil))) (gi_tb0 k_743), rfl, by decide, by decide⟩ (show (parseMethodDescriptor "(III)I").map (fun d => d.parameters.length) = some 3 by decide +kernel) (c_Mod_spot p t k (by omega) (by omega) (by omega)) (by decide +kernel) ⟨Nat.le_of_ble_eq_true rfl, Nat.le_of_ble_eq_true rfl⟩ hG hP hD hS hA [] [0, 1] [0, 1] (by decide) rfl rfl (fun _ => rfl) hl.1 rfl (Nat.le_of_ble_eq_true rfl) d_Mod_sameTile_26 (fun r2 u4 H locs hp3 hP hD hS => ?_)
          have hP : va_P D classes [(mo, .inr (9, [.int cd, .ref rpx, .int nb, .ref rca, .ref rpl, .ref rth, .ref rco, .ref rsh, .ref rsf, .ref rcr, .ref rep, .ref rby, .ref rli, .ref rls, .ref rla, .ref rcm, .ref rcs, .ref rpa, .ref rpm, .ref rpo, .ref rti, .ref rre, .ref rcl, .int (nI sz), .int (nI cs), .int (nI nx), .int (nI la)])), (rpx, .inl (cI, 30720, .inl (nF Px)))] H := hP
          have hD : va_D AA [(mo, .inr (9, [.int cd, .ref rpx, .int nb, .ref rca, .ref rpl, .ref rth, .ref rco, .ref rsh, .ref rsf, .ref rcr, .ref rep, .ref rby, .ref rli, .ref rls, .ref rla, .ref rcm, .ref rcs, .ref rpa, .ref rpm, .ref rpo, .ref rti, .ref rre, .ref rcl, .int (nI sz), .int (nI cs), .int (nI nx), .int (nI la)])), (rpx, .inl (cI, 30720, .inl (nF Px)))] := hD
          subst hp3
          refine nv_iald hx hb hG.1 hP 1 0 rfl rfl (by omega) (by omega) d_Mod_sameTile_29 ?_
          refine lv_aload_n hx hb d_Mod_sameTile_30 rfl (lv_at hl 2 rfl) ?_
          refine va_get (D := D) (ci := 9) (v := .ref rpx) (C := "TileScreenModel") (T := F_Mod) (N := 27) hx hb htb i_Mod hown hG.1 hP 0 rfl rfl 1 (by decide) (htb _ k_636) (fun _ h9 => h9) rfl d_Mod_sameTile_31 ?_
          refine lv_iload_n hx hb d_Mod_sameTile_34 rfl (lv_at hl 5 rfl) ?_
          refine lv_iload hx hb d_Mod_sameTile_35 (lv_at hl 6 rfl) ?_
          refine lv_iload hx hb d_Mod_sameTile_37 (lv_at hl 0 rfl) ?_
          refine kS_i (wc := []) (wr := [(mo, .inr (9, [.int cd, .ref rpx, .int nb, .ref rca, .ref rpl, .ref rth, .ref rco, .ref rsh, .ref rsf, .ref rcr, .ref rep, .ref rby, .ref rli, .ref rls, .ref rla, .ref rcm, .ref rcs, .ref rpa, .ref rpm, .ref rpo, .ref rti, .ref rre, .ref rcl, .int (nI sz), .int (nI cs), .int (nI nx), .int (nI la)])), (rpx, .inl (cI, 30720, .inl (nF Px)))]) (w2 := fun _ => [(mo, .inr (9, [.int cd, .ref rpx, .int nb, .ref rca, .ref rpl, .ref rth, .ref rco, .ref rsh, .ref rsf, .ref rcr, .ref rep, .ref rby, .ref rli, .ref rls, .ref rla, .ref rcm, .ref rcs, .ref rpa, .ref rpm, .ref rpo, .ref rti, .ref rre, .ref rcl, .int (nI sz), .int (nI cs), .int (nI nx), .int (nI la)])), (rpx, .inl (cI, 30720, .inl (nF Px)))]) [.int (nI o), .int (nI u9), .int (nI k)] [.ref rpx, .int (nI (Px (3072 * p + 64 * (t / 8 * 8 + k / 8) + t % 8 * 8 + k % 8)))] Bd ⟨gi_app (gi_c0 k_741 (gi_c0 k_742 (gi_c0 k_10 gi_nil))) (gi_tb0 k_743), rfl, by decide, by decide⟩ (show (parseMethodDescriptor "(III)I").map (fun d => d.parameters.length) = some 3 by decide +kernel) (c_Mod_spot o u9 k (by omega) (by omega) (by omega)) (by decide +kernel) ⟨Nat.le_of_ble_eq_true rfl, Nat.le_of_ble_eq_true rfl⟩ hG hP hD hS hA [] [0, 1] [0, 1] (by decide) rfl rfl (fun _ => rfl) hl.1 rfl (Nat.le_of_ble_eq_true rfl) d_Mod_sameTile_39 (fun r5 u7 H locs hp6 hP hD hS => ?_)
          have hP : va_P D classes [(mo, .inr (9, [.int cd, .ref rpx, .int nb, .ref rca, .ref rpl, .ref rth, .ref rco, .ref rsh, .ref rsf, .ref rcr, .ref rep, .ref rby, .ref rli, .ref rls, .ref rla, .ref rcm, .ref rcs, .ref rpa, .ref rpm, .ref rpo, .ref rti, .ref rre, .ref rcl, .int (nI sz), .int (nI cs), .int (nI nx), .int (nI la)])), (rpx, .inl (cI, 30720, .inl (nF Px)))] H := hP
          have hD : va_D AA [(mo, .inr (9, [.int cd, .ref rpx, .int nb, .ref rca, .ref rpl, .ref rth, .ref rco, .ref rsh, .ref rsf, .ref rcr, .ref rep, .ref rby, .ref rli, .ref rls, .ref rla, .ref rcm, .ref rcs, .ref rpa, .ref rpm, .ref rpo, .ref rti, .ref rre, .ref rcl, .int (nI sz), .int (nI cs), .int (nI nx), .int (nI la)])), (rpx, .inl (cI, 30720, .inl (nF Px)))] := hD
          subst hp6
          refine nv_iald hx hb hG.1 hP 1 0 rfl rfl (by omega) (by omega) d_Mod_sameTile_42 ?_
          refine nv_icmp_ne (tgt := 50) hx hb d_Mod_sameTile_43 (by decide) (Nat.lt_trans (bPx _) (by decide)) (Nat.lt_trans (bPx _) (by decide)) (fun c_43 => ?_) (fun c_43 => ?_)
          · refine lv_iconst (v := nI 0) hx hb d_Mod_sameTile_50 (by decide) ?_
            refine lv_istore (lv' := [(5, .int (nI 0)), (6, .int (nI k)), (0, .ref mo), (1, .int (nI p)), (2, .int (nI t)), (3, .int (nI o)), (4, .int (nI u9))]) hx hb d_Mod_sameTile_51 hl (by decide) rfl (fun ls hl => ?_)
            refine lv_iinc (v := (nI (k + 1))) (lv' := [(6, .int (nI (k + 1))), (5, .int (nI 0)), (0, .ref mo), (1, .int (nI p)), (2, .int (nI t)), (3, .int (nI o)), (4, .int (nI u9))]) hx hb d_Mod_sameTile_53 hl (k := 1) rfl (nI_add k 1) (by decide) rfl (fun ls hl => ?_)
            refine lv_goto (tgt := 6) hx hb d_Mod_sameTile_56 (by decide) ?_
            exact ih6 (k + 1) 0 (by omega) (by decide) (by omega) _ _ _ hP hD hS (lv_sub hl [0, 1, 2, 3, 4, 5, 6] rfl)
          · refine lv_iconst (v := nI 1) hx hb d_Mod_sameTile_46 (by decide) ?_
            refine lv_goto (tgt := 51) hx hb d_Mod_sameTile_47 (by decide) ?_
            refine lv_istore (lv' := [(5, .int (nI 1)), (6, .int (nI k)), (0, .ref mo), (1, .int (nI p)), (2, .int (nI t)), (3, .int (nI o)), (4, .int (nI u9))]) hx hb d_Mod_sameTile_51 hl (by decide) rfl (fun ls hl => ?_)
            refine lv_iinc (v := (nI (k + 1))) (lv' := [(6, .int (nI (k + 1))), (5, .int (nI 1)), (0, .ref mo), (1, .int (nI p)), (2, .int (nI t)), (3, .int (nI o)), (4, .int (nI u9))]) hx hb d_Mod_sameTile_53 hl (k := 1) rfl (nI_add k 1) (by decide) rfl (fun ls hl => ?_)
            refine lv_goto (tgt := 6) hx hb d_Mod_sameTile_56 (by decide) ?_
            exact ih6 (k + 1) 1 (by omega) (by decide) (by omega) _ _ _ hP hD hS (lv_sub hl [0, 1, 2, 3, 4, 5, 6] rfl)
  exact lp_6 _ 0 1 (Nat.zero_le _) (by decide) (Nat.lt_succ_self _) _ _ _ hP hD hS (lv_sub hl [0, 1, 2, 3, 4, 5, 6] rfl)
set_option maxHeartbeats 400000 in
set_option maxRecDepth 100000 in
theorem c_Mod_fill (mo : Nat) (cd : Int32) (rpx : Nat) (nb : Int32) (rca : Nat) (rpl : Nat) (rth : Nat) (rco : Nat) (rsh : Nat) (rsf : Nat) (rcr : Nat) (rep : Nat) (rby : Nat) (rli : Nat) (rls : Nat) (rla : Nat) (rcm : Nat) (rcs : Nat) (rpa : Nat) (rpm : Nat) (rpo : Nat) (rti : Nat) (rre : Nat) (rcl : Nat) (sz : Nat) (cs : Nat) (nx : Nat) (la : Nat) (Px : Nat → Nat) (x : Nat) (y : Nat) (w : Nat) (h : Nat) (k : Nat) (h1 : 1 ≤ w) (h2 : 1 ≤ h) (h3 : x + w ≤ 64) (h4 : y + h ≤ 48) (hk : k < 65536) (bPx : ∀ j, Px j < 65536) : CI (S := (Nat → Nat)) l classes NW D (TYS cI cZ cL cV) y_Mod_fill (.code y_Mod_fill b_Mod_fill 7 (some .boolean) :: TB) { frames := 1, cells := 0, slots := 0, locals := 23 } [.ref mo, .int (nI x), .int (nI y), .int (nI w), .int (nI h), .int (nI k)] [(mo, .inr (9, [.int cd, .ref rpx, .int nb, .ref rca, .ref rpl, .ref rth, .ref rco, .ref rsh, .ref rsf, .ref rcr, .ref rep, .ref rby, .ref rli, .ref rls, .ref rla, .ref rcm, .ref rcs, .ref rpa, .ref rpm, .ref rpo, .ref rti, .ref rre, .ref rcl, .int (nI sz), .int (nI cs), .int (nI nx), .int (nI la)])), (rpx, .inl (cI, 30720, .inl (nF Px)))] (fun r u => r = nI 1 ∧ (∀ j, u j < 65536)) (fun u => [(mo, .inr (9, [.int (nI 0), .ref rpx, .int nb, .ref rca, .ref rpl, .ref rth, .ref rco, .ref rsh, .ref rsf, .ref rcr, .ref rep, .ref rby, .ref rli, .ref rls, .ref rla, .ref rcm, .ref rcs, .ref rpa, .ref rpm, .ref rpo, .ref rti, .ref rre, .ref rcl, .int (nI sz), .int (nI cs), .int (nI nx), .int (nI la)])), (rpx, .inl (cI, 30720, .inl (nF u)))]) := by
  refine CI.of (by decide) (Nat.le_of_ble_eq_true rfl) ?_
  intro pr ev sT mM aR bW mE cO AA QQ ls Bd hG hA hP hD hS hl hret
  have Bd : bd pr cO b_Mod_fill 7 sT aR TB "TileScreenModel" mM := Bd
  obtain ⟨hx, hb, hml, hown, htb⟩ := id Bd
  have hl : lv_has ls 7 [(0, .ref mo), (1, .int (nI x)), (2, .int (nI y)), (3, .int (nI w)), (4, .int (nI h)), (5, .int (nI k))] := hl
  have hwh : w * h ≤ 3072 := Nat.mul_le_mul (show w ≤ 64 by omega) (show h ≤ 48 by omega)
  refine lv_aload_n hx hb d_Mod_fill_0 rfl (lv_at hl 0 rfl) ?_
  refine lv_iconst (v := nI 0) hx hb d_Mod_fill_1 (by decide) ?_
  refine va_put (D := D) (ci := 9) (v := .int (nI 0)) (ty := .int) (C := "TileScreenModel") (T := F_Mod) (N := 27) hx hb htb i_Mod t_Mod t_Mod_ok n_Mod hown hG.1 hP hD hS 0 rfl rfl 0 (by decide) (htb _ k_635) (fun _ h9 => h9) rfl (by decide +kernel) rfl rfl (Nat.le_of_ble_eq_true rfl) d_Mod_fill_2 (fun H locs hP hD hS => ?_)
  have hP : va_P D classes [(mo, .inr (9, [.int (nI 0), .ref rpx, .int nb, .ref rca, .ref rpl, .ref rth, .ref rco, .ref rsh, .ref rsf, .ref rcr, .ref rep, .ref rby, .ref rli, .ref rls, .ref rla, .ref rcm, .ref rcs, .ref rpa, .ref rpm, .ref rpo, .ref rti, .ref rre, .ref rcl, .int (nI sz), .int (nI cs), .int (nI nx), .int (nI la)])), (rpx, .inl (cI, 30720, .inl (nF Px)))] H := hP
  have hD : va_D AA [(mo, .inr (9, [.int (nI 0), .ref rpx, .int nb, .ref rca, .ref rpl, .ref rth, .ref rco, .ref rsh, .ref rsf, .ref rcr, .ref rep, .ref rby, .ref rli, .ref rls, .ref rla, .ref rcm, .ref rcs, .ref rpa, .ref rpm, .ref rpo, .ref rti, .ref rre, .ref rcl, .int (nI sz), .int (nI cs), .int (nI nx), .int (nI la)])), (rpx, .inl (cI, 30720, .inl (nF Px)))] := hD
  refine lv_iload_n hx hb d_Mod_fill_5 rfl (lv_at hl 1 rfl) ?_
  refine lv_iload_n hx hb d_Mod_fill_6 rfl (lv_at hl 2 rfl) ?_
  refine lv_iload_n hx hb d_Mod_fill_7 rfl (lv_at hl 3 rfl) ?_
  refine lv_iload hx hb d_Mod_fill_8 (lv_at hl 4 rfl) ?_
  refine kS_i (wc := []) (wr := [(mo, .inr (9, [.int (nI 0), .ref rpx, .int nb, .ref rca, .ref rpl, .ref rth, .ref rco, .ref rsh, .ref rsf, .ref rcr, .ref rep, .ref rby, .ref rli, .ref rls, .ref rla, .ref rcm, .ref rcs, .ref rpa, .ref rpm, .ref rpo, .ref rti, .ref rre, .ref rcl, .int (nI sz), .int (nI cs), .int (nI nx), .int (nI la)])), (rpx, .inl (cI, 30720, .inl (nF Px)))]) (w2 := fun _ => [(mo, .inr (9, [.int (nI 0), .ref rpx, .int nb, .ref rca, .ref rpl, .ref rth, .ref rco, .ref rsh, .ref rsf, .ref rcr, .ref rep, .ref rby, .ref rli, .ref rls, .ref rla, .ref rcm, .ref rcs, .ref rpa, .ref rpm, .ref rpo, .ref rti, .ref rre, .ref rcl, .int (nI sz), .int (nI cs), .int (nI nx), .int (nI la)])), (rpx, .inl (cI, 30720, .inl (nF Px)))]) [.int (nI x), .int (nI y), .int (nI w), .int (nI h)] [] Bd ⟨gi_app (gi_c0 k_722 (gi_c0 k_723 (gi_c0 k_10 gi_nil))) (gi_tb0 k_724), rfl, by decide, by decide⟩ (show (parseMethodDescriptor "(IIII)Z").map (fun d => d.parameters.length) = some 4 by decide +kernel) (c_Mod_isRect (nI x) (nI y) (nI w) (nI h) ) (by decide +kernel) ⟨Nat.le_of_ble_eq_true rfl, Nat.le_of_ble_eq_true rfl⟩ hG hP hD hS hA [] [0, 1] [0, 1] (by decide) rfl rfl (fun _ => rfl) hl.1 rfl (Nat.le_of_ble_eq_true rfl) d_Mod_fill_10 (fun r1 u3 H locs hp2 hP hD hS => ?_)
  have hP : va_P D classes [(mo, .inr (9, [.int (nI 0), .ref rpx, .int nb, .ref rca, .ref rpl, .ref rth, .ref rco, .ref rsh, .ref rsf, .ref rcr, .ref rep, .ref rby, .ref rli, .ref rls, .ref rla, .ref rcm, .ref rcs, .ref rpa, .ref rpm, .ref rpo, .ref rti, .ref rre, .ref rcl, .int (nI sz), .int (nI cs), .int (nI nx), .int (nI la)])), (rpx, .inl (cI, 30720, .inl (nF Px)))] H := hP
  have hD : va_D AA [(mo, .inr (9, [.int (nI 0), .ref rpx, .int nb, .ref rca, .ref rpl, .ref rth, .ref rco, .ref rsh, .ref rsf, .ref rcr, .ref rep, .ref rby, .ref rli, .ref rls, .ref rla, .ref rcm, .ref rcs, .ref rpa, .ref rpm, .ref rpo, .ref rti, .ref rre, .ref rcl, .int (nI sz), .int (nI cs), .int (nI nx), .int (nI la)])), (rpx, .inl (cI, 30720, .inl (nF Px)))] := hD
  subst hp2
  refine nv_if_eq (tgt := 24) hx hb d_Mod_fill_13 (by decide) (bt_lt _) (fun c_13 => ?_) (fun c_13 => ?_)
  · exact absurd ⟨x, y, w, h, rfl, rfl, rfl, rfl, h1, h2, h3, h4⟩ (cB_0 c_13)
  · refine lv_iload hx hb d_Mod_fill_16 (lv_at hl 5 rfl) ?_
    refine kS_i (wc := []) (wr := [(mo, .inr (9, [.int (nI 0), .ref rpx, .int nb, .ref rca, .ref rpl, .ref rth, .ref rco, .ref rsh, .ref rsf, .ref rcr, .ref rep, .ref rby, .ref rli, .ref rls, .ref rla, .ref rcm, .ref rcs, .ref rpa, .ref rpm, .ref rpo, .ref rti, .ref rre, .ref rcl, .int (nI sz), .int (nI cs), .int (nI nx), .int (nI la)])), (rpx, .inl (cI, 30720, .inl (nF Px)))]) (w2 := fun _ => [(mo, .inr (9, [.int (nI 0), .ref rpx, .int nb, .ref rca, .ref rpl, .ref rth, .ref rco, .ref rsh, .ref rsf, .ref rcr, .ref rep, .ref rby, .ref rli, .ref rls, .ref rla, .ref rcm, .ref rcs, .ref rpa, .ref rpm, .ref rpo, .ref rti, .ref rre, .ref rcl, .int (nI sz), .int (nI cs), .int (nI nx), .int (nI la)])), (rpx, .inl (cI, 30720, .inl (nF Px)))]) [.int (nI k)] [] Bd ⟨gi_app (gi_c0 k_725 (gi_c0 k_726 (gi_c0 k_10 gi_nil))) (gi_tb0 k_727), rfl, by decide, by decide⟩ (show (parseMethodDescriptor "(I)Z").map (fun d => d.parameters.length) = some 1 by decide +kernel) (c_Mod_isColour (nI k) ) (by decide +kernel) ⟨Nat.le_of_ble_eq_true rfl, Nat.le_of_ble_eq_true rfl⟩ hG hP hD hS hA [] [0, 1] [0, 1] (by decide) rfl rfl (fun _ => rfl) hl.1 rfl (Nat.le_of_ble_eq_true rfl) d_Mod_fill_18 (fun r4 u6 H locs hp5 hP hD hS => ?_)
    have hP : va_P D classes [(mo, .inr (9, [.int (nI 0), .ref rpx, .int nb, .ref rca, .ref rpl, .ref rth, .ref rco, .ref rsh, .ref rsf, .ref rcr, .ref rep, .ref rby, .ref rli, .ref rls, .ref rla, .ref rcm, .ref rcs, .ref rpa, .ref rpm, .ref rpo, .ref rti, .ref rre, .ref rcl, .int (nI sz), .int (nI cs), .int (nI nx), .int (nI la)])), (rpx, .inl (cI, 30720, .inl (nF Px)))] H := hP
    have hD : va_D AA [(mo, .inr (9, [.int (nI 0), .ref rpx, .int nb, .ref rca, .ref rpl, .ref rth, .ref rco, .ref rsh, .ref rsf, .ref rcr, .ref rep, .ref rby, .ref rli, .ref rls, .ref rla, .ref rcm, .ref rcs, .ref rpa, .ref rpm, .ref rpo, .ref rti, .ref rre, .ref rcl, .int (nI sz), .int (nI cs), .int (nI nx), .int (nI la)])), (rpx, .inl (cI, 30720, .inl (nF Px)))] := hD
    subst hp5
    refine nv_if_ne (tgt := 26) hx hb d_Mod_fill_21 (by decide) (bt_lt _) (fun c_21 => ?_) (fun c_21 => ?_)
    · refine lv_iconst (v := nI 0) hx hb d_Mod_fill_26 (by decide) ?_
      refine lv_istore (lv' := [(6, .int (nI 0)), (0, .ref mo), (1, .int (nI x)), (2, .int (nI y)), (3, .int (nI w)), (4, .int (nI h)), (5, .int (nI k))]) hx hb d_Mod_fill_27 hl (by decide) rfl (fun ls hl => ?_)
      have lp_29 : ∀ (nn : Nat) (q : Nat) (Px1 : Nat → Nat) (hq : q ≤ w * h) (bP1 : ∀ j, Px1 j < 65536), w * h - q < nn → ∀ (H : Heap) (locs : List Loc) (ls : Array Slot), va_P D classes [(mo, .inr (9, [.int (nI 0), .ref rpx, .int nb, .ref rca, .ref rpl, .ref rth, .ref rco, .ref rsh, .ref rsf, .ref rcr, .ref rep, .ref rby, .ref rli, .ref rls, .ref rla, .ref rcm, .ref rcs, .ref rpa, .ref rpm, .ref rpo, .ref rti, .ref rre, .ref rcl, .int (nI sz), .int (nI cs), .int (nI nx), .int (nI la)])), (rpx, .inl (cI, 30720, .inl (nF Px1)))] H → va_D AA [(mo, .inr (9, [.int (nI 0), .ref rpx, .int nb, .ref rca, .ref rpl, .ref rth, .ref rco, .ref rsh, .ref rsf, .ref rcr, .ref rep, .ref rby, .ref rli, .ref rls, .ref rla, .ref rcm, .ref rcs, .ref rpa, .ref rpm, .ref rpo, .ref rti, .ref rre, .ref rcl, .int (nI sz), .int (nI cs), .int (nI nx), .int (nI la)])), (rpx, .inl (cI, 30720, .inl (nF Px1)))] → va_S AA sT.heap H locs → lv_has ls 7 [(6, .int (nI q)), (0, .ref mo), (1, .int (nI x)), (2, .int (nI y)), (3, .int (nI w)), (4, .int (nI h)), (5, .int (nI k))] → W pr l ev ({ frames := 1, cells := 0, slots := 0, locals := 23 } : Room) sT mM aR bW mE cO H locs 0 0 QQ (F0 mM 29 ls []) := by
        intro nn
        induction nn with
        | zero => intro q Px1 hq bP1 hm; exact absurd hm (Nat.not_lt_zero _)
        | succ nn ih29 =>
          intro q Px1 hq bP1 hm H locs ls hP hD hS hl
          refine lv_iload hx hb d_Mod_fill_29 (lv_at hl 0 rfl) ?_
          refine lv_iload_n hx hb d_Mod_fill_31 rfl (lv_at hl 4 rfl) ?_
          refine lv_iload hx hb d_Mod_fill_32 (lv_at hl 5 rfl) ?_
          refine nv_imul hx hb d_Mod_fill_34 ?_
          refine nv_icmp_ge (tgt := 67) hx hb d_Mod_fill_35 (by decide) (by omega) (by omega) (fun c_35 => ?_) (fun c_35 => ?_)
          · refine lv_iconst (v := nI 1) hx hb d_Mod_fill_67 (by decide) ?_
            exact hret _ Px1 _ _ _ _ d_Mod_fill_68 (by rfl) (⟨rfl, bP1⟩) hP hD hS
          · have hd : q / w < h := Nat.div_lt_of_lt_mul c_35
            have hm : q % w < w := Nat.mod_lt _ h1
            refine lv_aload_n hx hb d_Mod_fill_38 rfl (lv_at hl 1 rfl) ?_
            refine va_get (D := D) (ci := 9) (v := .ref rpx) (C := "TileScreenModel") (T := F_Mod) (N := 27) hx hb htb i_Mod hown hG.1 hP 0 rfl rfl 1 (by decide) (htb _ k_636) (fun _ h9 => h9) rfl d_Mod_fill_39 ?_
            refine lv_bipush (v := nI 64) hx hb d_Mod_fill_42 (by decide) ?_
            refine lv_iload_n hx hb d_Mod_fill_44 rfl (lv_at hl 3 rfl) ?_
            refine lv_iload hx hb d_Mod_fill_45 (lv_at hl 0 rfl) ?_
            refine lv_iload_n hx hb d_Mod_fill_47 rfl (lv_at hl 4 rfl) ?_
            refine nv_idiv hx hb (by omega) (by omega) (by omega) d_Mod_fill_48 ?_
            refine nv_iadd hx hb d_Mod_fill_49 ?_
            refine nv_imul hx hb d_Mod_fill_50 ?_
            refine lv_iload_n hx hb d_Mod_fill_51 rfl (lv_at hl 2 rfl) ?_
            refine nv_iadd hx hb d_Mod_fill_52 ?_
            refine lv_iload hx hb d_Mod_fill_53 (lv_at hl 0 rfl) ?_
            refine lv_iload_n hx hb d_Mod_fill_55 rfl (lv_at hl 4 rfl) ?_
            refine nv_irem hx hb (by omega) (by omega) (by omega) d_Mod_fill_56 ?_
            refine nv_iadd hx hb d_Mod_fill_57 ?_
            refine lv_iload hx hb d_Mod_fill_58 (lv_at hl 6 rfl) ?_
            refine nv_iast hx hb hG.1 hP hD hS 1 0 rfl rfl (by omega) (by omega) d_Mod_fill_60 (fun H locs hP hD hS => ?_)
            have hP : va_P D classes [(mo, .inr (9, [.int (nI 0), .ref rpx, .int nb, .ref rca, .ref rpl, .ref rth, .ref rco, .ref rsh, .ref rsf, .ref rcr, .ref rep, .ref rby, .ref rli, .ref rls, .ref rla, .ref rcm, .ref rcs, .ref rpa, .ref rpm, .ref rpo, .ref rti, .ref rre, .ref rcl, .int (nI sz), .int (nI cs), .int (nI nx), .int (nI la)])), (rpx, .inl (cI, 30720, .inl (nF (up Px1 (64 * (y + (q / w)) + x + (q % w)) k))))] H := hP
            have hD : va_D AA [(mo, .inr (9, [.int (nI 0), .ref rpx, .int nb, .ref rca, .ref rpl, .ref rth, .ref rco, .ref rsh, .ref rsf, .ref rcr, .ref rep, .ref rby, .ref rli, .ref rls, .ref rla, .ref rcm, .ref rcs, .ref rpa, .ref rpm, .ref rpo, .ref rti, .ref rre, .ref rcl, .int (nI sz), .int (nI cs), .int (nI nx), .int (nI la)])), (rpx, .inl (cI, 30720, .inl (nF (up Px1 (64 * (y + (q / w)) + x + (q % w)) k))))] := hD
            refine lv_iinc (v := (nI (q + 1))) (lv' := [(6, .int (nI (q + 1))), (0, .ref mo), (1, .int (nI x)), (2, .int (nI y)), (3, .int (nI w)), (4, .int (nI h)), (5, .int (nI k))]) hx hb d_Mod_fill_61 hl (k := 0) rfl (nI_add q 1) (by decide) rfl (fun ls hl => ?_)
            refine lv_goto (tgt := 29) hx hb d_Mod_fill_64 (by decide) ?_
            exact ih29 (q + 1) (up Px1 (64 * (y + (q / w)) + x + (q % w)) k) (by omega) (up_lt bP1 hk) (by omega) _ _ _ hP hD hS (lv_sub hl [0, 1, 2, 3, 4, 5, 6] rfl)
      exact lp_29 _ 0 Px (Nat.zero_le _) (bPx) (Nat.lt_succ_self _) _ _ _ hP hD hS (lv_sub hl [0, 1, 2, 3, 4, 5, 6] rfl)
    · exact absurd ⟨k, hk, rfl⟩ (cB_0 c_21)
set_option maxHeartbeats 400000 in
set_option maxRecDepth 100000 in
theorem c_Mod_fill_no (mo : Nat) (cd : Int32) (rpx : Nat) (nb : Int32) (rca : Nat) (rpl : Nat) (rth : Nat) (rco : Nat) (rsh : Nat) (rsf : Nat) (rcr : Nat) (rep : Nat) (rby : Nat) (rli : Nat) (rls : Nat) (rla : Nat) (rcm : Nat) (rcs : Nat) (rpa : Nat) (rpm : Nat) (rpo : Nat) (rti : Nat) (rre : Nat) (rcl : Nat) (sz : Nat) (cs : Nat) (nx : Nat) (la : Nat) (x : Int32) (y : Int32) (w : Int32) (h : Int32) (k : Int32) (hno : ¬ (reP x y w h ∧ coP k)) : CI (S := Unit) l classes NW D (TYS cI cZ cL cV) y_Mod_fill (.code y_Mod_fill b_Mod_fill 7 (some .boolean) :: TB) { frames := 1, cells := 0, slots := 0, locals := 23 } [.ref mo, .int x, .int y, .int w, .int h, .int k] [(mo, .inr (9, [.int cd, .ref rpx, .int nb, .ref rca, .ref rpl, .ref rth, .ref rco, .ref rsh, .ref rsf, .ref rcr, .ref rep, .ref rby, .ref rli, .ref rls, .ref rla, .ref rcm, .ref rcs, .ref rpa, .ref rpm, .ref rpo, .ref rti, .ref rre, .ref rcl, .int (nI sz), .int (nI cs), .int (nI nx), .int (nI la)]))] (fun r u => r = nI 0) (fun u => [(mo, .inr (9, [.int (nI 0), .ref rpx, .int nb, .ref rca, .ref rpl, .ref rth, .ref rco, .ref rsh, .ref rsf, .ref rcr, .ref rep, .ref rby, .ref rli, .ref rls, .ref rla, .ref rcm, .ref rcs, .ref rpa, .ref rpm, .ref rpo, .ref rti, .ref rre, .ref rcl, .int (nI sz), .int (nI cs), .int (nI nx), .int (nI la)]))]) := by
  refine CI.of (by decide) (Nat.le_of_ble_eq_true rfl) ?_
  intro pr ev sT mM aR bW mE cO AA QQ ls Bd hG hA hP hD hS hl hret
  have Bd : bd pr cO b_Mod_fill 7 sT aR TB "TileScreenModel" mM := Bd
  obtain ⟨hx, hb, hml, hown, htb⟩ := id Bd
  have hl : lv_has ls 7 [(0, .ref mo), (1, .int x), (2, .int y), (3, .int w), (4, .int h), (5, .int k)] := hl
  refine lv_aload_n hx hb d_Mod_fill_0 rfl (lv_at hl 0 rfl) ?_
  refine lv_iconst (v := nI 0) hx hb d_Mod_fill_1 (by decide) ?_
  refine va_put (D := D) (ci := 9) (v := .int (nI 0)) (ty := .int) (C := "TileScreenModel") (T := F_Mod) (N := 27) hx hb htb i_Mod t_Mod t_Mod_ok n_Mod hown hG.1 hP hD hS 0 rfl rfl 0 (by decide) (htb _ k_635) (fun _ h9 => h9) rfl (by decide +kernel) rfl rfl (Nat.le_of_ble_eq_true rfl) d_Mod_fill_2 (fun H locs hP hD hS => ?_)
  have hP : va_P D classes [(mo, .inr (9, [.int (nI 0), .ref rpx, .int nb, .ref rca, .ref rpl, .ref rth, .ref rco, .ref rsh, .ref rsf, .ref rcr, .ref rep, .ref rby, .ref rli, .ref rls, .ref rla, .ref rcm, .ref rcs, .ref rpa, .ref rpm, .ref rpo, .ref rti, .ref rre, .ref rcl, .int (nI sz), .int (nI cs), .int (nI nx), .int (nI la)]))] H := hP
  have hD : va_D AA [(mo, .inr (9, [.int (nI 0), .ref rpx, .int nb, .ref rca, .ref rpl, .ref rth, .ref rco, .ref rsh, .ref rsf, .ref rcr, .ref rep, .ref rby, .ref rli, .ref rls, .ref rla, .ref rcm, .ref rcs, .ref rpa, .ref rpm, .ref rpo, .ref rti, .ref rre, .ref rcl, .int (nI sz), .int (nI cs), .int (nI nx), .int (nI la)]))] := hD
  refine lv_iload_n hx hb d_Mod_fill_5 rfl (lv_at hl 1 rfl) ?_
  refine lv_iload_n hx hb d_Mod_fill_6 rfl (lv_at hl 2 rfl) ?_
  refine lv_iload_n hx hb d_Mod_fill_7 rfl (lv_at hl 3 rfl) ?_
  refine lv_iload hx hb d_Mod_fill_8 (lv_at hl 4 rfl) ?_
  refine kS_i (wc := []) (wr := [(mo, .inr (9, [.int (nI 0), .ref rpx, .int nb, .ref rca, .ref rpl, .ref rth, .ref rco, .ref rsh, .ref rsf, .ref rcr, .ref rep, .ref rby, .ref rli, .ref rls, .ref rla, .ref rcm, .ref rcs, .ref rpa, .ref rpm, .ref rpo, .ref rti, .ref rre, .ref rcl, .int (nI sz), .int (nI cs), .int (nI nx), .int (nI la)]))]) (w2 := fun _ => [(mo, .inr (9, [.int (nI 0), .ref rpx, .int nb, .ref rca, .ref rpl, .ref rth, .ref rco, .ref rsh, .ref rsf, .ref rcr, .ref rep, .ref rby, .ref rli, .ref rls, .ref rla, .ref rcm, .ref rcs, .ref rpa, .ref rpm, .ref rpo, .ref rti, .ref rre, .ref rcl, .int (nI sz), .int (nI cs), .int (nI nx), .int (nI la)]))]) [.int x, .int y, .int w, .int h] [] Bd ⟨gi_app (gi_c0 k_722 (gi_c0 k_723 (gi_c0 k_10 gi_nil))) (gi_tb0 k_724), rfl, by decide, by decide⟩ (show (parseMethodDescriptor "(IIII)Z").map (fun d => d.parameters.length) = some 4 by decide +kernel) (c_Mod_isRect x y w h ) (by decide +kernel) ⟨Nat.le_of_ble_eq_true rfl, Nat.le_of_ble_eq_true rfl⟩ hG hP hD hS hA [] [0] [0] (by decide) rfl rfl (fun _ => rfl) hl.1 rfl (Nat.le_of_ble_eq_true rfl) d_Mod_fill_10 (fun r1 u3 H locs hp2 hP hD hS => ?_)
  have hP : va_P D classes [(mo, .inr (9, [.int (nI 0), .ref rpx, .int nb, .ref rca, .ref rpl, .ref rth, .ref rco, .ref rsh, .ref rsf, .ref rcr, .ref rep, .ref rby, .ref rli, .ref rls, .ref rla, .ref rcm, .ref rcs, .ref rpa, .ref rpm, .ref rpo, .ref rti, .ref rre, .ref rcl, .int (nI sz), .int (nI cs), .int (nI nx), .int (nI la)]))] H := hP
  have hD : va_D AA [(mo, .inr (9, [.int (nI 0), .ref rpx, .int nb, .ref rca, .ref rpl, .ref rth, .ref rco, .ref rsh, .ref rsf, .ref rcr, .ref rep, .ref rby, .ref rli, .ref rls, .ref rla, .ref rcm, .ref rcs, .ref rpa, .ref rpm, .ref rpo, .ref rti, .ref rre, .ref rcl, .int (nI sz), .int (nI cs), .int (nI nx), .int (nI la)]))] := hD
  subst hp2
  refine nv_if_eq (tgt := 24) hx hb d_Mod_fill_13 (by decide) (bt_lt _) (fun c_13 => ?_) (fun c_13 => ?_)
  · refine lv_iconst (v := nI 0) hx hb d_Mod_fill_24 (by decide) ?_
    exact hret _ () _ _ _ _ d_Mod_fill_25 (by first | rfl | decide) (rfl) hP hD hS
  · refine lv_iload hx hb d_Mod_fill_16 (lv_at hl 5 rfl) ?_
    refine kS_i (wc := []) (wr := [(mo, .inr (9, [.int (nI 0), .ref rpx, .int nb, .ref rca, .ref rpl, .ref rth, .ref rco, .ref rsh, .ref rsf, .ref rcr, .ref rep, .ref rby, .ref rli, .ref rls, .ref rla, .ref rcm, .ref rcs, .ref rpa, .ref rpm, .ref rpo, .ref rti, .ref rre, .ref rcl, .int (nI sz), .int (nI cs), .int (nI nx), .int (nI la)]))]) (w2 := fun _ => [(mo, .inr (9, [.int (nI 0), .ref rpx, .int nb, .ref rca, .ref rpl, .ref rth, .ref rco, .ref rsh, .ref rsf, .ref rcr, .ref rep, .ref rby, .ref rli, .ref rls, .ref rla, .ref rcm, .ref rcs, .ref rpa, .ref rpm, .ref rpo, .ref rti, .ref rre, .ref rcl, .int (nI sz), .int (nI cs), .int (nI nx), .int (nI la)]))]) [.int k] [] Bd ⟨gi_app (gi_c0 k_725 (gi_c0 k_726 (gi_c0 k_10 gi_nil))) (gi_tb0 k_727), rfl, by decide, by decide⟩ (show (parseMethodDescriptor "(I)Z").map (fun d => d.parameters.length) = some 1 by decide +kernel) (c_Mod_isColour k ) (by decide +kernel) ⟨Nat.le_of_ble_eq_true rfl, Nat.le_of_ble_eq_true rfl⟩ hG hP hD hS hA [] [0] [0] (by decide) rfl rfl (fun _ => rfl) hl.1 rfl (Nat.le_of_ble_eq_true rfl) d_Mod_fill_18 (fun r4 u6 H locs hp5 hP hD hS => ?_)
    have hP : va_P D classes [(mo, .inr (9, [.int (nI 0), .ref rpx, .int nb, .ref rca, .ref rpl, .ref rth, .ref rco, .ref rsh, .ref rsf, .ref rcr, .ref rep, .ref rby, .ref rli, .ref rls, .ref rla, .ref rcm, .ref rcs, .ref rpa, .ref rpm, .ref rpo, .ref rti, .ref rre, .ref rcl, .int (nI sz), .int (nI cs), .int (nI nx), .int (nI la)]))] H := hP
    have hD : va_D AA [(mo, .inr (9, [.int (nI 0), .ref rpx, .int nb, .ref rca, .ref rpl, .ref rth, .ref rco, .ref rsh, .ref rsf, .ref rcr, .ref rep, .ref rby, .ref rli, .ref rls, .ref rla, .ref rcm, .ref rcs, .ref rpa, .ref rpm, .ref rpo, .ref rti, .ref rre, .ref rcl, .int (nI sz), .int (nI cs), .int (nI nx), .int (nI la)]))] := hD
    subst hp5
    refine nv_if_ne (tgt := 26) hx hb d_Mod_fill_21 (by decide) (bt_lt _) (fun c_21 => ?_) (fun c_21 => ?_)
    · exact absurd ⟨cB_1 c_13, cB_1 c_21⟩ hno
    · refine lv_iconst (v := nI 0) hx hb d_Mod_fill_24 (by decide) ?_
      exact hret _ () _ _ _ _ d_Mod_fill_25 (by first | rfl | decide) (rfl) hP hD hS
set_option maxHeartbeats 400000 in
set_option maxRecDepth 100000 in
theorem c_Mod_shade (mo : Nat) (cd : Int32) (rpx : Nat) (nb : Int32) (rca : Nat) (rpl : Nat) (rth : Nat) (rco : Nat) (rsh : Nat) (rsf : Nat) (rcr : Nat) (rep : Nat) (rby : Nat) (rli : Nat) (rls : Nat) (rla : Nat) (rcm : Nat) (rcs : Nat) (rpa : Nat) (rpm : Nat) (rpo : Nat) (rti : Nat) (rre : Nat) (rcl : Nat) (sz : Nat) (cs : Nat) (nx : Nat) (la : Nat) (Px : Nat → Nat) (t : Nat) (r : Nat) (k : Nat) (step : Int32) (ht : t < 48) (hr : r < 8) (hk : k < 65536) (bPx : ∀ j, Px j < 65536) : CI (S := (Nat → Nat)) l classes NW D (TYS cI cZ cL cV) y_Mod_shade (.code y_Mod_shade b_Mod_shade 6 (some .boolean) :: TB) { frames := 1, cells := 0, slots := 0, locals := 22 } [.ref mo, .int (nI t), .int (nI r), .int (nI k), .int step] [(mo, .inr (9, [.int cd, .ref rpx, .int nb, .ref rca, .ref rpl, .ref rth, .ref rco, .ref rsh, .ref rsf, .ref rcr, .ref rep, .ref rby, .ref rli, .ref rls, .ref rla, .ref rcm, .ref rcs, .ref rpa, .ref rpm, .ref rpo, .ref rti, .ref rre, .ref rcl, .int (nI sz), .int (nI cs), .int (nI nx), .int (nI la)])), (rpx, .inl (cI, 30720, .inl (nF Px)))] (fun r u => r = nI 1 ∧ (∀ j, u j < 65536)) (fun u => [(mo, .inr (9, [.int (nI 0), .ref rpx, .int nb, .ref rca, .ref rpl, .ref rth, .ref rco, .ref rsh, .ref rsf, .ref rcr, .ref rep, .ref rby, .ref rli, .ref rls, .ref rla, .ref rcm, .ref rcs, .ref rpa, .ref rpm, .ref rpo, .ref rti, .ref rre, .ref rcl, .int (nI sz), .int (nI cs), .int (nI nx), .int (nI la)])), (rpx, .inl (cI, 30720, .inl (nF u)))]) := by
  refine CI.of (by decide) (Nat.le_of_ble_eq_true rfl) ?_
  intro pr ev sT mM aR bW mE cO AA QQ ls Bd hG hA hP hD hS hl hret
  have Bd : bd pr cO b_Mod_shade 6 sT aR TB "TileScreenModel" mM := Bd
  obtain ⟨hx, hb, hml, hown, htb⟩ := id Bd
  have hl : lv_has ls 6 [(0, .ref mo), (1, .int (nI t)), (2, .int (nI r)), (3, .int (nI k)), (4, .int step)] := hl
  refine lv_aload_n hx hb d_Mod_shade_0 rfl (lv_at hl 0 rfl) ?_
  refine lv_iconst (v := nI 0) hx hb d_Mod_shade_1 (by decide) ?_
  refine va_put (D := D) (ci := 9) (v := .int (nI 0)) (ty := .int) (C := "TileScreenModel") (T := F_Mod) (N := 27) hx hb htb i_Mod t_Mod t_Mod_ok n_Mod hown hG.1 hP hD hS 0 rfl rfl 0 (by decide) (htb _ k_635) (fun _ h9 => h9) rfl (by decide +kernel) rfl rfl (Nat.le_of_ble_eq_true rfl) d_Mod_shade_2 (fun H locs hP hD hS => ?_)
  have hP : va_P D classes [(mo, .inr (9, [.int (nI 0), .ref rpx, .int nb, .ref rca, .ref rpl, .ref rth, .ref rco, .ref rsh, .ref rsf, .ref rcr, .ref rep, .ref rby, .ref rli, .ref rls, .ref rla, .ref rcm, .ref rcs, .ref rpa, .ref rpm, .ref rpo, .ref rti, .ref rre, .ref rcl, .int (nI sz), .int (nI cs), .int (nI nx), .int (nI la)])), (rpx, .inl (cI, 30720, .inl (nF Px)))] H := hP
  have hD : va_D AA [(mo, .inr (9, [.int (nI 0), .ref rpx, .int nb, .ref rca, .ref rpl, .ref rth, .ref rco, .ref rsh, .ref rsf, .ref rcr, .ref rep, .ref rby, .ref rli, .ref rls, .ref rla, .ref rcm, .ref rcs, .ref rpa, .ref rpm, .ref rpo, .ref rti, .ref rre, .ref rcl, .int (nI sz), .int (nI cs), .int (nI nx), .int (nI la)])), (rpx, .inl (cI, 30720, .inl (nF Px)))] := hD
  refine lv_iload_n hx hb d_Mod_shade_5 rfl (lv_at hl 1 rfl) ?_
  refine nv_if_ltF hx hb 32 d_Mod_shade_6 (by decide) (by omega) ?_
  refine lv_iload_n hx hb d_Mod_shade_9 rfl (lv_at hl 1 rfl) ?_
  refine lv_bipush (v := nI 48) hx hb d_Mod_shade_10 (by decide) ?_
  refine nv_icmp_ge (tgt := 32) hx hb d_Mod_shade_12 (by decide) (by omega) (by omega) (fun c_12 => ?_) (fun c_12 => ?_)
  · omega
  · refine lv_iload_n hx hb d_Mod_shade_15 rfl (lv_at hl 2 rfl) ?_
    refine nv_if_ltF hx hb 32 d_Mod_shade_16 (by decide) (by omega) ?_
    refine lv_iload_n hx hb d_Mod_shade_19 rfl (lv_at hl 2 rfl) ?_
    refine lv_bipush (v := nI 7) hx hb d_Mod_shade_20 (by decide) ?_
    refine nv_icmp_gt (tgt := 32) hx hb d_Mod_shade_22 (by decide) (by omega) (by omega) (fun c_22 => ?_) (fun c_22 => ?_)
    · omega
    · refine lv_iload_n hx hb d_Mod_shade_25 rfl (lv_at hl 3 rfl) ?_
      refine kS_i (wc := []) (wr := [(mo, .inr (9, [.int (nI 0), .ref rpx, .int nb, .ref rca, .ref rpl, .ref rth, .ref rco, .ref rsh, .ref rsf, .ref rcr, .ref rep, .ref rby, .ref rli, .ref rls, .ref rla, .ref rcm, .ref rcs, .ref rpa, .ref rpm, .ref rpo, .ref rti, .ref rre, .ref rcl, .int (nI sz), .int (nI cs), .int (nI nx), .int (nI la)])), (rpx, .inl (cI, 30720, .inl (nF Px)))]) (w2 := fun _ => [(mo, .inr (9, [.int (nI 0), .ref rpx, .int nb, .ref rca, .ref rpl, .ref rth, .ref rco, .ref rsh, .ref rsf, .ref rcr, .ref rep, .ref rby, .ref rli, .ref rls, .ref rla, .ref rcm, .ref rcs, .ref rpa, .ref rpm, .ref rpo, .ref rti, .ref rre, .ref rcl, .int (nI sz), .int (nI cs), .int (nI nx), .int (nI la)])), (rpx, .inl (cI, 30720, .inl (nF Px)))]) [.int (nI k)] [] Bd ⟨gi_app (gi_c0 k_725 (gi_c0 k_726 (gi_c0 k_10 gi_nil))) (gi_tb0 k_727), rfl, by decide, by decide⟩ (show (parseMethodDescriptor "(I)Z").map (fun d => d.parameters.length) = some 1 by decide +kernel) (c_Mod_isColour (nI k) ) (by decide +kernel) ⟨Nat.le_of_ble_eq_true rfl, Nat.le_of_ble_eq_true rfl⟩ hG hP hD hS hA [] [0, 1] [0, 1] (by decide) rfl rfl (fun _ => rfl) hl.1 rfl (Nat.le_of_ble_eq_true rfl) d_Mod_shade_26 (fun r1 u3 H locs hp2 hP hD hS => ?_)
      have hP : va_P D classes [(mo, .inr (9, [.int (nI 0), .ref rpx, .int nb, .ref rca, .ref rpl, .ref rth, .ref rco, .ref rsh, .ref rsf, .ref rcr, .ref rep, .ref rby, .ref rli, .ref rls, .ref rla, .ref rcm, .ref rcs, .ref rpa, .ref rpm, .ref rpo, .ref rti, .ref rre, .ref rcl, .int (nI sz), .int (nI cs), .int (nI nx), .int (nI la)])), (rpx, .inl (cI, 30720, .inl (nF Px)))] H := hP
      have hD : va_D AA [(mo, .inr (9, [.int (nI 0), .ref rpx, .int nb, .ref rca, .ref rpl, .ref rth, .ref rco, .ref rsh, .ref rsf, .ref rcr, .ref rep, .ref rby, .ref rli, .ref rls, .ref rla, .ref rcm, .ref rcs, .ref rpa, .ref rpm, .ref rpo, .ref rti, .ref rre, .ref rcl, .int (nI sz), .int (nI cs), .int (nI nx), .int (nI la)])), (rpx, .inl (cI, 30720, .inl (nF Px)))] := hD
      subst hp2
      refine nv_if_ne (tgt := 34) hx hb d_Mod_shade_29 (by decide) (bt_lt _) (fun c_29 => ?_) (fun c_29 => ?_)
      · refine lv_iconst (v := nI 0) hx hb d_Mod_shade_34 (by decide) ?_
        refine lv_istore (lv' := [(5, .int (nI 0)), (0, .ref mo), (1, .int (nI t)), (2, .int (nI r)), (3, .int (nI k)), (4, .int step)]) hx hb d_Mod_shade_35 hl (by decide) rfl (fun ls hl => ?_)
        have lp_37 : ∀ (nn : Nat) (q : Nat) (Px1 : Nat → Nat) (hq : q ≤ 8) (bP1 : ∀ j, Px1 j < 65536), 8 - q < nn → ∀ (H : Heap) (locs : List Loc) (ls : Array Slot), va_P D classes [(mo, .inr (9, [.int (nI 0), .ref rpx, .int nb, .ref rca, .ref rpl, .ref rth, .ref rco, .ref rsh, .ref rsf, .ref rcr, .ref rep, .ref rby, .ref rli, .ref rls, .ref rla, .ref rcm, .ref rcs, .ref rpa, .ref rpm, .ref rpo, .ref rti, .ref rre, .ref rcl, .int (nI sz), .int (nI cs), .int (nI nx), .int (nI la)])), (rpx, .inl (cI, 30720, .inl (nF Px1)))] H → va_D AA [(mo, .inr (9, [.int (nI 0), .ref rpx, .int nb, .ref rca, .ref rpl, .ref rth, .ref rco, .ref rsh, .ref rsf, .ref rcr, .ref rep, .ref rby, .ref rli, .ref rls, .ref rla, .ref rcm, .ref rcs, .ref rpa, .ref rpm, .ref rpo, .ref rti, .ref rre, .ref rcl, .int (nI sz), .int (nI cs), .int (nI nx), .int (nI la)])), (rpx, .inl (cI, 30720, .inl (nF Px1)))] → va_S AA sT.heap H locs → lv_has ls 6 [(5, .int (nI q)), (0, .ref mo), (1, .int (nI t)), (2, .int (nI r)), (3, .int (nI k)), (4, .int step)] → W pr l ev ({ frames := 1, cells := 0, slots := 0, locals := 22 } : Room) sT mM aR bW mE cO H locs 0 0 QQ (F0 mM 37 ls []) := by
          intro nn
          induction nn with
          | zero => intro q Px1 hq bP1 hm; exact absurd hm (Nat.not_lt_zero _)
          | succ nn ih37 =>
            intro q Px1 hq bP1 hm H locs ls hP hD hS hl
            refine lv_iload hx hb d_Mod_shade_37 (lv_at hl 0 rfl) ?_
            refine lv_bipush (v := nI 8) hx hb d_Mod_shade_39 (by decide) ?_
            refine nv_icmp_ge (tgt := 77) hx hb d_Mod_shade_41 (by decide) (by omega) (by omega) (fun c_41 => ?_) (fun c_41 => ?_)
            · refine lv_iconst (v := nI 1) hx hb d_Mod_shade_77 (by decide) ?_
              exact hret _ Px1 _ _ _ _ d_Mod_shade_78 (by rfl) (⟨rfl, bP1⟩) hP hD hS
            · refine lv_aload_n hx hb d_Mod_shade_44 rfl (lv_at hl 1 rfl) ?_
              refine va_get (D := D) (ci := 9) (v := .ref rpx) (C := "TileScreenModel") (T := F_Mod) (N := 27) hx hb htb i_Mod hown hG.1 hP 0 rfl rfl 1 (by decide) (htb _ k_636) (fun _ h9 => h9) rfl d_Mod_shade_45 ?_
              refine lv_iconst (v := nI 0) hx hb d_Mod_shade_48 (by decide) ?_
              refine lv_iload_n hx hb d_Mod_shade_49 rfl (lv_at hl 2 rfl) ?_
              refine lv_bipush (v := nI 8) hx hb d_Mod_shade_50 (by decide) ?_
              refine lv_iload_n hx hb d_Mod_shade_52 rfl (lv_at hl 3 rfl) ?_
              refine nv_imul hx hb d_Mod_shade_53 ?_
              refine lv_iload hx hb d_Mod_shade_54 (lv_at hl 0 rfl) ?_
              refine nv_iadd hx hb d_Mod_shade_56 ?_
              refine kS_i (wc := []) (wr := [(mo, .inr (9, [.int (nI 0), .ref rpx, .int nb, .ref rca, .ref rpl, .ref rth, .ref rco, .ref rsh, .ref rsf, .ref rcr, .ref rep, .ref rby, .ref rli, .ref rls, .ref rla, .ref rcm, .ref rcs, .ref rpa, .ref rpm, .ref rpo, .ref rti, .ref rre, .ref rcl, .int (nI sz), .int (nI cs), .int (nI nx), .int (nI la)])), (rpx, .inl (cI, 30720, .inl (nF Px1)))]) (w2 := fun _ => [(mo, .inr (9, [.int (nI 0), .ref rpx, .int nb, .ref rca, .ref rpl, .ref rth, .ref rco, .ref rsh, .ref rsf, .ref rcr, .ref rep, .ref rby, .ref rli, .ref rls, .ref rla, .ref rcm, .ref rcs, .ref rpa, .ref rpm, .ref rpo, .ref rti, .ref rre, .ref rcl, .int (nI sz), .int (nI cs), .int (nI nx), .int (nI la)])), (rpx, .inl (cI, 30720, .inl (nF Px1)))]) [.int (nI 0), .int (nI t), .int (nI (8 * r + q))] [.ref rpx] Bd ⟨gi_app (gi_c0 k_741 (gi_c0 k_742 (gi_c0 k_10 gi_nil))) (gi_tb0 k_743), rfl, by decide, by decide⟩ (show (parseMethodDescriptor "(III)I").map (fun d => d.parameters.length) = some 3 by decide +kernel) (c_Mod_spot 0 t (8 * r + q) (by omega) (by omega) (by omega)) (by decide +kernel) ⟨Nat.le_of_ble_eq_true rfl, Nat.le_of_ble_eq_true rfl⟩ hG hP hD hS hA [] [0, 1] [0, 1] (by decide) rfl rfl (fun _ => rfl) hl.1 rfl (Nat.le_of_ble_eq_true rfl) d_Mod_shade_57 (fun r5 u7 H locs hp6 hP hD hS => ?_)
              have hP : va_P D classes [(mo, .inr (9, [.int (nI 0), .ref rpx, .int nb, .ref rca, .ref rpl, .ref rth, .ref rco, .ref rsh, .ref rsf, .ref rcr, .ref rep, .ref rby, .ref rli, .ref rls, .ref rla, .ref rcm, .ref rcs, .ref rpa, .ref rpm, .ref rpo, .ref rti, .ref rre, .ref rcl, .int (nI sz), .int (nI cs), .int (nI nx), .int (nI la)])), (rpx, .inl (cI, 30720, .inl (nF Px1)))] H := hP
              have hD : va_D AA [(mo, .inr (9, [.int (nI 0), .ref rpx, .int nb, .ref rca, .ref rpl, .ref rth, .ref rco, .ref rsh, .ref rsf, .ref rcr, .ref rep, .ref rby, .ref rli, .ref rls, .ref rla, .ref rcm, .ref rcs, .ref rpa, .ref rpm, .ref rpo, .ref rti, .ref rre, .ref rcl, .int (nI sz), .int (nI cs), .int (nI nx), .int (nI la)])), (rpx, .inl (cI, 30720, .inl (nF Px1)))] := hD
              subst hp6
              refine lv_iload_n hx hb d_Mod_shade_60 rfl (lv_at hl 4 rfl) ?_
              refine lv_iload hx hb d_Mod_shade_61 (lv_at hl 0 rfl) ?_
              refine lv_iload hx hb d_Mod_shade_63 (lv_at hl 5 rfl) ?_
              refine lv_imul hx hb d_Mod_shade_65 ?_
              refine lv_iadd hx hb d_Mod_shade_66 ?_
              refine lv_ldc (v := nI 65535) hx hb hown (htb _ k_744) d_Mod_shade_67 ?_
              refine lv_iand hx hb d_Mod_shade_69 ?_
              refine nv_top (y := nI (shv k step q)) (shv_eq k step q) ?_
              refine nv_iast hx hb hG.1 hP hD hS 1 0 rfl rfl (by omega) (by omega) d_Mod_shade_70 (fun H locs hP hD hS => ?_)
              have hP : va_P D classes [(mo, .inr (9, [.int (nI 0), .ref rpx, .int nb, .ref rca, .ref rpl, .ref rth, .ref rco, .ref rsh, .ref rsf, .ref rcr, .ref rep, .ref rby, .ref rli, .ref rls, .ref rla, .ref rcm, .ref rcs, .ref rpa, .ref rpm, .ref rpo, .ref rti, .ref rre, .ref rcl, .int (nI sz), .int (nI cs), .int (nI nx), .int (nI la)])), (rpx, .inl (cI, 30720, .inl (nF (up Px1 (3072 * 0 + 64 * (t / 8 * 8 + (8 * r + q) / 8) + t % 8 * 8 + (8 * r + q) % 8) (shv k step q)))))] H := hP
              have hD : va_D AA [(mo, .inr (9, [.int (nI 0), .ref rpx, .int nb, .ref rca, .ref rpl, .ref rth, .ref rco, .ref rsh, .ref rsf, .ref rcr, .ref rep, .ref rby, .ref rli, .ref rls, .ref rla, .ref rcm, .ref rcs, .ref rpa, .ref rpm, .ref rpo, .ref rti, .ref rre, .ref rcl, .int (nI sz), .int (nI cs), .int (nI nx), .int (nI la)])), (rpx, .inl (cI, 30720, .inl (nF (up Px1 (3072 * 0 + 64 * (t / 8 * 8 + (8 * r + q) / 8) + t % 8 * 8 + (8 * r + q) % 8) (shv k step q)))))] := hD
              refine lv_iinc (v := (nI (q + 1))) (lv' := [(5, .int (nI (q + 1))), (0, .ref mo), (1, .int (nI t)), (2, .int (nI r)), (3, .int (nI k)), (4, .int step)]) hx hb d_Mod_shade_71 hl (k := 0) rfl (nI_add q 1) (by decide) rfl (fun ls hl => ?_)
              refine lv_goto (tgt := 37) hx hb d_Mod_shade_74 (by decide) ?_
              exact ih37 (q + 1) (up Px1 (3072 * 0 + 64 * (t / 8 * 8 + (8 * r + q) / 8) + t % 8 * 8 + (8 * r + q) % 8) (shv k step q)) (by omega) (up_lt bP1 (shv_lt _ _ _)) (by omega) _ _ _ hP hD hS (lv_sub hl [0, 1, 2, 3, 4, 5] rfl)
        exact lp_37 _ 0 Px (Nat.zero_le _) (bPx) (Nat.lt_succ_self _) _ _ _ hP hD hS (lv_sub hl [0, 1, 2, 3, 4, 5] rfl)
      · exact absurd ⟨k, hk, rfl⟩ (cB_0 c_29)
set_option maxHeartbeats 400000 in
set_option maxRecDepth 100000 in
theorem c_Mod_shade_no (mo : Nat) (cd : Int32) (rpx : Nat) (nb : Int32) (rca : Nat) (rpl : Nat) (rth : Nat) (rco : Nat) (rsh : Nat) (rsf : Nat) (rcr : Nat) (rep : Nat) (rby : Nat) (rli : Nat) (rls : Nat) (rla : Nat) (rcm : Nat) (rcs : Nat) (rpa : Nat) (rpm : Nat) (rpo : Nat) (rti : Nat) (rre : Nat) (rcl : Nat) (sz : Nat) (cs : Nat) (nx : Nat) (la : Nat) (t : Int32) (r : Int32) (k : Int32) (step : Int32) (hno : ¬ ((∃ a, a < 48 ∧ t = nI a) ∧ (∃ b, b < 8 ∧ r = nI b) ∧ coP k)) : CI (S := Unit) l classes NW D (TYS cI cZ cL cV) y_Mod_shade (.code y_Mod_shade b_Mod_shade 6 (some .boolean) :: TB) { frames := 1, cells := 0, slots := 0, locals := 20 } [.ref mo, .int t, .int r, .int k, .int step] [(mo, .inr (9, [.int cd, .ref rpx, .int nb, .ref rca, .ref rpl, .ref rth, .ref rco, .ref rsh, .ref rsf, .ref rcr, .ref rep, .ref rby, .ref rli, .ref rls, .ref rla, .ref rcm, .ref rcs, .ref rpa, .ref rpm, .ref rpo, .ref rti, .ref rre, .ref rcl, .int (nI sz), .int (nI cs), .int (nI nx), .int (nI la)]))] (fun r u => r = nI 0) (fun u => [(mo, .inr (9, [.int (nI 0), .ref rpx, .int nb, .ref rca, .ref rpl, .ref rth, .ref rco, .ref rsh, .ref rsf, .ref rcr, .ref rep, .ref rby, .ref rli, .ref rls, .ref rla, .ref rcm, .ref rcs, .ref rpa, .ref rpm, .ref rpo, .ref rti, .ref rre, .ref rcl, .int (nI sz), .int (nI cs), .int (nI nx), .int (nI la)]))]) := by
  refine CI.of (by decide) (Nat.le_of_ble_eq_true rfl) ?_
  intro pr ev sT mM aR bW mE cO AA QQ ls Bd hG hA hP hD hS hl hret
  have Bd : bd pr cO b_Mod_shade 6 sT aR TB "TileScreenModel" mM := Bd
  obtain ⟨hx, hb, hml, hown, htb⟩ := id Bd
  have hl : lv_has ls 6 [(0, .ref mo), (1, .int t), (2, .int r), (3, .int k), (4, .int step)] := hl
  refine lv_aload_n hx hb d_Mod_shade_0 rfl (lv_at hl 0 rfl) ?_
  refine lv_iconst (v := nI 0) hx hb d_Mod_shade_1 (by decide) ?_
  refine va_put (D := D) (ci := 9) (v := .int (nI 0)) (ty := .int) (C := "TileScreenModel") (T := F_Mod) (N := 27) hx hb htb i_Mod t_Mod t_Mod_ok n_Mod hown hG.1 hP hD hS 0 rfl rfl 0 (by decide) (htb _ k_635) (fun _ h9 => h9) rfl (by decide +kernel) rfl rfl (Nat.le_of_ble_eq_true rfl) d_Mod_shade_2 (fun H locs hP hD hS => ?_)
  have hP : va_P D classes [(mo, .inr (9, [.int (nI 0), .ref rpx, .int nb, .ref rca, .ref rpl, .ref rth, .ref rco, .ref rsh, .ref rsf, .ref rcr, .ref rep, .ref rby, .ref rli, .ref rls, .ref rla, .ref rcm, .ref rcs, .ref rpa, .ref rpm, .ref rpo, .ref rti, .ref rre, .ref rcl, .int (nI sz), .int (nI cs), .int (nI nx), .int (nI la)]))] H := hP
  have hD : va_D AA [(mo, .inr (9, [.int (nI 0), .ref rpx, .int nb, .ref rca, .ref rpl, .ref rth, .ref rco, .ref rsh, .ref rsf, .ref rcr, .ref rep, .ref rby, .ref rli, .ref rls, .ref rla, .ref rcm, .ref rcs, .ref rpa, .ref rpm, .ref rpo, .ref rti, .ref rre, .ref rcl, .int (nI sz), .int (nI cs), .int (nI nx), .int (nI la)]))] := hD
  refine lv_iload_n hx hb d_Mod_shade_5 rfl (lv_at hl 1 rfl) ?_
  refine lv_if_lt (tgt := 32) hx hb d_Mod_shade_6 (by decide) (fun c_6 => ?_) (fun c_6 => ?_)
  · refine lv_iconst (v := nI 0) hx hb d_Mod_shade_32 (by decide) ?_
    exact hret _ () _ _ _ _ d_Mod_shade_33 (by first | rfl | decide) (rfl) hP hD hS
  · refine lv_iload_n hx hb d_Mod_shade_9 rfl (lv_at hl 1 rfl) ?_
    refine lv_bipush (v := nI 48) hx hb d_Mod_shade_10 (by decide) ?_
    refine lv_icmp_ge (tgt := 32) hx hb d_Mod_shade_12 (by decide) (fun c_12 => ?_) (fun c_12 => ?_)
    · refine lv_iconst (v := nI 0) hx hb d_Mod_shade_32 (by decide) ?_
      exact hret _ () _ _ _ _ d_Mod_shade_33 (by first | rfl | decide) (rfl) hP hD hS
    · refine lv_iload_n hx hb d_Mod_shade_15 rfl (lv_at hl 2 rfl) ?_
      refine lv_if_lt (tgt := 32) hx hb d_Mod_shade_16 (by decide) (fun c_16 => ?_) (fun c_16 => ?_)
      · refine lv_iconst (v := nI 0) hx hb d_Mod_shade_32 (by decide) ?_
        exact hret _ () _ _ _ _ d_Mod_shade_33 (by first | rfl | decide) (rfl) hP hD hS
      · refine lv_iload_n hx hb d_Mod_shade_19 rfl (lv_at hl 2 rfl) ?_
        refine lv_bipush (v := nI 7) hx hb d_Mod_shade_20 (by decide) ?_
        refine lv_icmp_gt (tgt := 32) hx hb d_Mod_shade_22 (by decide) (fun c_22 => ?_) (fun c_22 => ?_)
        · refine lv_iconst (v := nI 0) hx hb d_Mod_shade_32 (by decide) ?_
          exact hret _ () _ _ _ _ d_Mod_shade_33 (by first | rfl | decide) (rfl) hP hD hS
        · refine lv_iload_n hx hb d_Mod_shade_25 rfl (lv_at hl 3 rfl) ?_
          refine kS_i (wc := []) (wr := [(mo, .inr (9, [.int (nI 0), .ref rpx, .int nb, .ref rca, .ref rpl, .ref rth, .ref rco, .ref rsh, .ref rsf, .ref rcr, .ref rep, .ref rby, .ref rli, .ref rls, .ref rla, .ref rcm, .ref rcs, .ref rpa, .ref rpm, .ref rpo, .ref rti, .ref rre, .ref rcl, .int (nI sz), .int (nI cs), .int (nI nx), .int (nI la)]))]) (w2 := fun _ => [(mo, .inr (9, [.int (nI 0), .ref rpx, .int nb, .ref rca, .ref rpl, .ref rth, .ref rco, .ref rsh, .ref rsf, .ref rcr, .ref rep, .ref rby, .ref rli, .ref rls, .ref rla, .ref rcm, .ref rcs, .ref rpa, .ref rpm, .ref rpo, .ref rti, .ref rre, .ref rcl, .int (nI sz), .int (nI cs), .int (nI nx), .int (nI la)]))]) [.int k] [] Bd ⟨gi_app (gi_c0 k_725 (gi_c0 k_726 (gi_c0 k_10 gi_nil))) (gi_tb0 k_727), rfl, by decide, by decide⟩ (show (parseMethodDescriptor "(I)Z").map (fun d => d.parameters.length) = some 1 by decide +kernel) (c_Mod_isColour k ) (by decide +kernel) ⟨Nat.le_of_ble_eq_true rfl, Nat.le_of_ble_eq_true rfl⟩ hG hP hD hS hA [] [0] [0] (by decide) rfl rfl (fun _ => rfl) hl.1 rfl (Nat.le_of_ble_eq_true rfl) d_Mod_shade_26 (fun r1 u3 H locs hp2 hP hD hS => ?_)
          have hP : va_P D classes [(mo, .inr (9, [.int (nI 0), .ref rpx, .int nb, .ref rca, .ref rpl, .ref rth, .ref rco, .ref rsh, .ref rsf, .ref rcr, .ref rep, .ref rby, .ref rli, .ref rls, .ref rla, .ref rcm, .ref rcs, .ref rpa, .ref rpm, .ref rpo, .ref rti, .ref rre, .ref rcl, .int (nI sz), .int (nI cs), .int (nI nx), .int (nI la)]))] H := hP
          have hD : va_D AA [(mo, .inr (9, [.int (nI 0), .ref rpx, .int nb, .ref rca, .ref rpl, .ref rth, .ref rco, .ref rsh, .ref rsf, .ref rcr, .ref rep, .ref rby, .ref rli, .ref rls, .ref rla, .ref rcm, .ref rcs, .ref rpa, .ref rpm, .ref rpo, .ref rti, .ref rre, .ref rcl, .int (nI sz), .int (nI cs), .int (nI nx), .int (nI la)]))] := hD
          subst hp2
          refine nv_if_ne (tgt := 34) hx hb d_Mod_shade_29 (by decide) (bt_lt _) (fun c_29 => ?_) (fun c_29 => ?_)
          · exact absurd ⟨ge_lt (by decide) c_6 c_12, ge_lt (by decide) c_16 (fun z => c_22 (Int32.lt_of_lt_of_le (by decide) z)), cB_1 c_29⟩ hno
          · refine lv_iconst (v := nI 0) hx hb d_Mod_shade_32 (by decide) ?_
            exact hret _ () _ _ _ _ d_Mod_shade_33 (by first | rfl | decide) (rfl) hP hD hS
end
