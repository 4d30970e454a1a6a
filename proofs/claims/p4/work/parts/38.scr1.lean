section
variable {l : Launch} {D : va_G} {cI cZ cL cV : ClassId}
/-- pixels by their place in the tiles: x, y of a place; the place of x, y -/
def px (i : Nat) : Nat := i / 64 % 8 * 8 + i % 8
def py (i : Nat) : Nat := i / 512 * 8 + i % 64 / 8
def ti (x y : Nat) : Nat := (y / 8 * 8 + x / 8) * 64 + (y % 8 * 8 + x % 8)
theorem ti_xy (i : Nat) : ti (px i) (py i) = i := by unfold ti px py; omega
theorem px_ti {x y : Nat} (hx : x < 64) : px (ti x y) = x := by unfold ti px; omega
theorem py_ti {x y : Nat} (hx : x < 64) : py (ti x y) = y := by unfold ti py; omega
theorem ti_lt {x y : Nat} (hx : x < 64) (hy : y < 48) : ti x y < 3072 := by unfold ti; omega
theorem px_lt (i : Nat) : px i < 64 := by unfold px; omega
theorem py_lt {i : Nat} (h : i < 3072) : py i < 48 := by unfold py; omega
/-- a picture with G's values in a rectangle's rows below r, and in row r left of c -/
def rc2 (D9 : Nat → Nat) (x y w : Nat) (r c : Nat) (G : Nat → Nat → Nat) : Nat → Nat := fun i => if (x ≤ px i ∧ px i < x + w ∧ y ≤ py i ∧ py i < r) ∨ (py i = r ∧ x ≤ px i ∧ px i < c) then G (px i - x) (py i - y) else D9 i
theorem rc2_0 {D9 : Nat → Nat} {x y w : Nat} {G : Nat → Nat → Nat} : rc2 D9 x y w y x G = D9 := by
  funext i
  exact if_neg (by omega)
theorem rc2_s {D9 : Nat → Nat} {x y w r c : Nat} {G : Nat → Nat → Nat} (hy : y ≤ r) (hx : x ≤ c) (hc : c < 64) (hw : c < x + w) : up (rc2 D9 x y w r c G) (ti c r) (G (c - x) (r - y)) = rc2 D9 x y w r (c + 1) G := by
  funext i
  by_cases e : i = ti c r
  · subst e
    rw [up_s]
    unfold rc2
    rw [px_ti hc, py_ti hc, if_pos (by omega)]
  · rw [up_n _ _ e]
    have h : ¬ (px i = c ∧ py i = r) := fun q => e (by rw [← q.1, ← q.2, ti_xy])
    unfold rc2
    by_cases g : (x ≤ px i ∧ px i < x + w ∧ y ≤ py i ∧ py i < r) ∨ (py i = r ∧ x ≤ px i ∧ px i < c)
    · rw [if_pos g, if_pos (by omega)]
    · rw [if_neg g, if_neg (by omega)]
theorem rc2_r {D9 : Nat → Nat} {x y w r : Nat} {G : Nat → Nat → Nat} (hy : y ≤ r) : rc2 D9 x y w r (x + w) G = rc2 D9 x y w (r + 1) x G := by
  funext i
  unfold rc2
  by_cases g : (x ≤ px i ∧ px i < x + w ∧ y ≤ py i ∧ py i < r) ∨ (py i = r ∧ x ≤ px i ∧ px i < x + w)
  · rw [if_pos g, if_pos (by omega)]
  · rw [if_neg g, if_neg (by omega)]
/-- the whole rectangle -/
def rcF (D9 : Nat → Nat) (x y w h : Nat) (G : Nat → Nat → Nat) : Nat → Nat := fun i => if x ≤ px i ∧ px i < x + w ∧ y ≤ py i ∧ py i < y + h then G (px i - x) (py i - y) else D9 i
theorem rcF_of {D9 : Nat → Nat} {x y w h : Nat} {G : Nat → Nat → Nat} : rc2 D9 x y w (y + h) x G = rcF D9 x y w h G := by
  funext i
  unfold rc2 rcF
  by_cases g : x ≤ px i ∧ px i < x + w ∧ y ≤ py i ∧ py i < y + h
  · rw [if_pos (Or.inl g), if_pos g]
  · rw [if_neg (by omega), if_neg g]
theorem rcF_lt {D9 : Nat → Nat} {x y w h b : Nat} {G : Nat → Nat → Nat} (hD : ∀ j, D9 j < b) (hG : ∀ i j, G i j < b) : ∀ j, rcF D9 x y w h G j < b := fun j => by
  unfold rcF
  split
  · exact hG _ _
  · exact hD j
def shv (c : Nat) (step : Int32) (k : Nat) : Nat := (nI c + nI k * step).toBitVec.toNat % 65536
theorem shv_lt (c : Nat) (step : Int32) (k : Nat) : shv c step k < 65536 := Nat.mod_lt _ (by decide)
theorem shv_eq (c : Nat) (step : Int32) (k : Nat) : nI c + nI k * step &&& nI 65535 = nI (shv c step k) := pk_and _ 16 (by decide)
set_option maxHeartbeats 400000 in
set_option maxRecDepth 100000 in
theorem c_Scr_fill (ts : Nat) (dr : Nat) (cl : Nat) (cp : Nat) (vs : Nat) (num : Nat) (drp : Nat) (Dr : Nat → Nat) (x : Nat) (y : Nat) (w : Nat) (h : Nat) (k : Nat) (h1 : 1 ≤ w) (h2 : 1 ≤ h) (h3 : x + w ≤ 64) (h4 : y + h ≤ 48) (hk : k < 65536) : CI (S := Unit) l classes NW D (TYS cI cZ cL cV) y_Scr_fill (.code y_Scr_fill b_Scr_fill 8 (some .boolean) :: TB) { frames := 1, cells := 0, slots := 0, locals := 23 } [.ref ts, .int (nI x), .int (nI y), .int (nI w), .int (nI h), .int (nI k)] [(ts, .inr (8, [.ref dr, .ref cl, .ref cp, .ref vs, .int (nI num)])), (dr, .inr (0, [.int (nI 48), .ref drp])), (drp, .inl (cI, 3072, .inl (nF Dr)))] (fun r u => r = nI 1) (fun u => [(ts, .inr (8, [.ref dr, .ref cl, .ref cp, .ref vs, .int (nI num)])), (dr, .inr (0, [.int (nI 48), .ref drp])), (drp, .inl (cI, 3072, .inl (nF (rcF Dr x y w h (fun _ _ => k)))))]) := by
  refine CI.of (by decide) (Nat.le_of_ble_eq_true rfl) ?_
  intro pr ev sT mM aR bW mE cO AA QQ ls Bd hG hA hP hD hS hl hret
  have Bd : bd pr cO b_Scr_fill 8 sT aR TB "TileScreen" mM := Bd
  obtain ⟨hx, hb, hml, hown, htb⟩ := id Bd
  have hl : lv_has ls 8 [(0, .ref ts), (1, .int (nI x)), (2, .int (nI y)), (3, .int (nI w)), (4, .int (nI h)), (5, .int (nI k))] := hl
  refine lv_iload_n hx hb d_Scr_fill_0 rfl (lv_at hl 1 rfl) ?_
  refine lv_iload_n hx hb d_Scr_fill_1 rfl (lv_at hl 2 rfl) ?_
  refine lv_iload_n hx hb d_Scr_fill_2 rfl (lv_at hl 3 rfl) ?_
  refine lv_iload hx hb d_Scr_fill_3 (lv_at hl 4 rfl) ?_
  refine kS_i (wc := []) (wr := [(ts, .inr (8, [.ref dr, .ref cl, .ref cp, .ref vs, .int (nI num)])), (dr, .inr (0, [.int (nI 48), .ref drp])), (drp, .inl (cI, 3072, .inl (nF Dr)))]) (w2 := fun _ => [(ts, .inr (8, [.ref dr, .ref cl, .ref cp, .ref vs, .int (nI num)])), (dr, .inr (0, [.int (nI 48), .ref drp])), (drp, .inl (cI, 3072, .inl (nF Dr)))]) [.int (nI x), .int (nI y), .int (nI w), .int (nI h)] [] Bd ⟨gi_app (gi_c0 k_258 (gi_c0 k_259 (gi_c0 k_1 gi_nil))) (gi_tb0 k_260), rfl, by decide, by decide⟩ (show (parseMethodDescriptor "(IIII)Z").map (fun d => d.parameters.length) = some 4 by decide +kernel) (c_Scr_isInside (nI x) (nI y) (nI w) (nI h) ) (by decide +kernel) ⟨Nat.le_of_ble_eq_true rfl, Nat.le_of_ble_eq_true rfl⟩ hG hP hD hS hA [] [0, 1, 2] [0, 1, 2] (by decide) rfl rfl (fun _ => rfl) hl.1 rfl (Nat.le_of_ble_eq_true rfl) d_Scr_fill_5 (fun r1 u3 H locs hp2 hP hD hS => ?_)
  have hP : va_P D classes [(ts, .inr (8, [.ref dr, .ref cl, .ref cp, .ref vs, .int (nI num)])), (dr, .inr (0, [.int (nI 48), .ref drp])), (drp, .inl (cI, 3072, .inl (nF Dr)))] H := hP
  have hD : va_D AA [(ts, .inr (8, [.ref dr, .ref cl, .ref cp, .ref vs, .int (nI num)])), (dr, .inr (0, [.int (nI 48), .ref drp])), (drp, .inl (cI, 3072, .inl (nF Dr)))] := hD
  subst hp2
  refine nv_if_eq (tgt := 19) hx hb d_Scr_fill_8 (by decide) (bt_lt _) (fun c_8 => ?_) (fun c_8 => ?_)
  · exact absurd ⟨x, y, w, h, rfl, rfl, rfl, rfl, h1, h2, h3, h4⟩ (cB_0 c_8)
  · refine lv_iload hx hb d_Scr_fill_11 (lv_at hl 5 rfl) ?_
    refine kS_i (wc := []) (wr := [(ts, .inr (8, [.ref dr, .ref cl, .ref cp, .ref vs, .int (nI num)])), (dr, .inr (0, [.int (nI 48), .ref drp])), (drp, .inl (cI, 3072, .inl (nF Dr)))]) (w2 := fun _ => [(ts, .inr (8, [.ref dr, .ref cl, .ref cp, .ref vs, .int (nI num)])), (dr, .inr (0, [.int (nI 48), .ref drp])), (drp, .inl (cI, 3072, .inl (nF Dr)))]) [.int (nI k)] [] Bd ⟨gi_app (gi_c0 k_261 (gi_c0 k_262 (gi_c0 k_1 gi_nil))) (gi_tb0 k_263), rfl, by decide, by decide⟩ (show (parseMethodDescriptor "(I)Z").map (fun d => d.parameters.length) = some 1 by decide +kernel) (c_Scr_isColour (nI k) ) (by decide +kernel) ⟨Nat.le_of_ble_eq_true rfl, Nat.le_of_ble_eq_true rfl⟩ hG hP hD hS hA [] [0, 1, 2] [0, 1, 2] (by decide) rfl rfl (fun _ => rfl) hl.1 rfl (Nat.le_of_ble_eq_true rfl) d_Scr_fill_13 (fun r4 u6 H locs hp5 hP hD hS => ?_)
    have hP : va_P D classes [(ts, .inr (8, [.ref dr, .ref cl, .ref cp, .ref vs, .int (nI num)])), (dr, .inr (0, [.int (nI 48), .ref drp])), (drp, .inl (cI, 3072, .inl (nF Dr)))] H := hP
    have hD : va_D AA [(ts, .inr (8, [.ref dr, .ref cl, .ref cp, .ref vs, .int (nI num)])), (dr, .inr (0, [.int (nI 48), .ref drp])), (drp, .inl (cI, 3072, .inl (nF Dr)))] := hD
    subst hp5
    refine nv_if_ne (tgt := 21) hx hb d_Scr_fill_16 (by decide) (bt_lt _) (fun c_16 => ?_) (fun c_16 => ?_)
    · refine lv_iload_n hx hb d_Scr_fill_21 rfl (lv_at hl 2 rfl) ?_
      refine lv_istore (lv' := [(6, .int (nI y)), (0, .ref ts), (1, .int (nI x)), (2, .int (nI y)), (3, .int (nI w)), (4, .int (nI h)), (5, .int (nI k))]) hx hb d_Scr_fill_22 hl (by decide) rfl (fun ls hl => ?_)
      have lp_24 : ∀ (nn : Nat) (r : Nat) (hr0 : y ≤ r) (hr : r ≤ y + h), y + h - r < nn → ∀ (H : Heap) (locs : List Loc) (ls : Array Slot), va_P D classes [(ts, .inr (8, [.ref dr, .ref cl, .ref cp, .ref vs, .int (nI num)])), (dr, .inr (0, [.int (nI 48), .ref drp])), (drp, .inl (cI, 3072, .inl (nF (rc2 Dr x y w r x (fun _ _ => k)))))] H → va_D AA [(ts, .inr (8, [.ref dr, .ref cl, .ref cp, .ref vs, .int (nI num)])), (dr, .inr (0, [.int (nI 48), .ref drp])), (drp, .inl (cI, 3072, .inl (nF (rc2 Dr x y w r x (fun _ _ => k)))))] → va_S AA sT.heap H locs → lv_has ls 8 [(6, .int (nI r)), (0, .ref ts), (1, .int (nI x)), (2, .int (nI y)), (3, .int (nI w)), (4, .int (nI h)), (5, .int (nI k))] → W pr l ev ({ frames := 1, cells := 0, slots := 0, locals := 23 } : Room) sT mM aR bW mE cO H locs 0 0 QQ (F0 mM 24 ls []) := by
        intro nn
        induction nn with
        | zero => intro r hr0 hr hm; exact absurd hm (Nat.not_lt_zero _)
        | succ nn ih24 =>
          intro r hr0 hr hm H locs ls hP hD hS hl
          refine lv_iload hx hb d_Scr_fill_24 (lv_at hl 0 rfl) ?_
          refine lv_iload_n hx hb d_Scr_fill_26 rfl (lv_at hl 3 rfl) ?_
          refine lv_iload hx hb d_Scr_fill_27 (lv_at hl 5 rfl) ?_
          refine nv_iadd hx hb d_Scr_fill_29 ?_
          refine nv_icmp_ge (tgt := 79) hx hb d_Scr_fill_30 (by decide) (by omega) (by omega) (fun c_30 => ?_) (fun c_30 => ?_)
          · refine lv_iconst (v := nI 1) hx hb d_Scr_fill_79 (by decide) ?_
            obtain rfl : r = y + h := by omega
            rw [rcF_of] at hP hD
            exact hret _ () _ _ _ _ d_Scr_fill_80 (by first | rfl | decide) (rfl) hP hD hS
          · refine lv_iload_n hx hb d_Scr_fill_33 rfl (lv_at hl 2 rfl) ?_
            refine lv_istore (lv' := [(7, .int (nI x)), (6, .int (nI r)), (0, .ref ts), (1, .int (nI x)), (2, .int (nI y)), (3, .int (nI w)), (4, .int (nI h)), (5, .int (nI k))]) hx hb d_Scr_fill_34 hl (by decide) rfl (fun ls hl => ?_)
            have lp_36 : ∀ (nn : Nat) (q : Nat) (hq0 : x ≤ q) (hq : q ≤ x + w), x + w - q < nn → ∀ (H : Heap) (locs : List Loc) (ls : Array Slot), va_P D classes [(ts, .inr (8, [.ref dr, .ref cl, .ref cp, .ref vs, .int (nI num)])), (dr, .inr (0, [.int (nI 48), .ref drp])), (drp, .inl (cI, 3072, .inl (nF (rc2 Dr x y w r q (fun _ _ => k)))))] H → va_D AA [(ts, .inr (8, [.ref dr, .ref cl, .ref cp, .ref vs, .int (nI num)])), (dr, .inr (0, [.int (nI 48), .ref drp])), (drp, .inl (cI, 3072, .inl (nF (rc2 Dr x y w r q (fun _ _ => k)))))] → va_S AA sT.heap H locs → lv_has ls 8 [(7, .int (nI q)), (6, .int (nI r)), (0, .ref ts), (1, .int (nI x)), (2, .int (nI y)), (3, .int (nI w)), (4, .int (nI h)), (5, .int (nI k))] → W pr l ev ({ frames := 1, cells := 0, slots := 0, locals := 23 } : Room) sT mM aR bW mE cO H locs 0 0 QQ (F0 mM 36 ls []) := by
              intro nn
              induction nn with
              | zero => intro q hq0 hq hm; exact absurd hm (Nat.not_lt_zero _)
              | succ nn ih36 =>
                intro q hq0 hq hm H locs ls hP hD hS hl
                refine lv_iload hx hb d_Scr_fill_36 (lv_at hl 0 rfl) ?_
                refine lv_iload_n hx hb d_Scr_fill_38 rfl (lv_at hl 3 rfl) ?_
                refine lv_iload_n hx hb d_Scr_fill_39 rfl (lv_at hl 5 rfl) ?_
                refine nv_iadd hx hb d_Scr_fill_40 ?_
                refine nv_icmp_ge (tgt := 73) hx hb d_Scr_fill_41 (by decide) (by omega) (by omega) (fun c_41 => ?_) (fun c_41 => ?_)
                · obtain rfl : q = x + w := by omega
                  rw [rc2_r hr0] at hP hD
                  refine lv_iinc (v := (nI (r + 1))) (lv' := [(6, .int (nI (r + 1))), (7, .int (nI (x + w))), (0, .ref ts), (1, .int (nI x)), (2, .int (nI y)), (3, .int (nI w)), (4, .int (nI h)), (5, .int (nI k))]) hx hb d_Scr_fill_73 hl (k := 1) rfl (nI_add r 1) (by decide) rfl (fun ls hl => ?_)
                  refine lv_goto (tgt := 24) hx hb d_Scr_fill_76 (by decide) ?_
                  exact ih24 (r + 1) (by omega) (by omega) (by omega) _ _ _ hP hD hS (lv_sub hl [0, 2, 3, 4, 5, 6, 7] rfl)
                · refine lv_aload_n hx hb d_Scr_fill_44 rfl (lv_at hl 2 rfl) ?_
                  refine va_get (D := D) (ci := 8) (v := .ref dr) (C := "TileScreen") (T := F_Scr) (N := 5) hx hb htb i_Scr hown hG.1 hP 0 rfl rfl 0 (by decide) (htb _ k_238) (fun _ h9 => h9) rfl d_Scr_fill_45 ?_
                  refine lv_iload hx hb d_Scr_fill_48 (lv_at hl 0 rfl) ?_
                  refine lv_iload hx hb d_Scr_fill_50 (lv_at hl 1 rfl) ?_
                  refine kS_i (wc := []) (wr := [(ts, .inr (8, [.ref dr, .ref cl, .ref cp, .ref vs, .int (nI num)])), (dr, .inr (0, [.int (nI 48), .ref drp])), (drp, .inl (cI, 3072, .inl (nF (rc2 Dr x y w r q (fun _ _ => k)))))]) (w2 := fun _ => [(ts, .inr (8, [.ref dr, .ref cl, .ref cp, .ref vs, .int (nI num)])), (dr, .inr (0, [.int (nI 48), .ref drp])), (drp, .inl (cI, 3072, .inl (nF (rc2 Dr x y w r q (fun _ _ => k)))))]) [.int (nI q), .int (nI r)] [.ref dr] Bd ⟨gi_app (gi_c0 k_265 (gi_c0 k_266 (gi_c0 k_1 gi_nil))) (gi_tb0 k_267), rfl, by decide, by decide⟩ (show (parseMethodDescriptor "(II)I").map (fun d => d.parameters.length) = some 2 by decide +kernel) (c_Scr_tileOf q r (by omega) (by omega)) (by decide +kernel) ⟨Nat.le_of_ble_eq_true rfl, Nat.le_of_ble_eq_true rfl⟩ hG hP hD hS hA [] [0, 1, 2] [0, 1, 2] (by decide) rfl rfl (fun _ => rfl) hl.1 rfl (Nat.le_of_ble_eq_true rfl) d_Scr_fill_52 (fun r9 u11 H locs hp10 hP hD hS => ?_)
                  have hP : va_P D classes [(ts, .inr (8, [.ref dr, .ref cl, .ref cp, .ref vs, .int (nI num)])), (dr, .inr (0, [.int (nI 48), .ref drp])), (drp, .inl (cI, 3072, .inl (nF (rc2 Dr x y w r q (fun _ _ => k)))))] H := hP
                  have hD : va_D AA [(ts, .inr (8, [.ref dr, .ref cl, .ref cp, .ref vs, .int (nI num)])), (dr, .inr (0, [.int (nI 48), .ref drp])), (drp, .inl (cI, 3072, .inl (nF (rc2 Dr x y w r q (fun _ _ => k)))))] := hD
                  subst hp10
                  refine lv_iload hx hb d_Scr_fill_55 (lv_at hl 0 rfl) ?_
                  refine lv_iload hx hb d_Scr_fill_57 (lv_at hl 1 rfl) ?_
                  refine kS_i (wc := []) (wr := [(ts, .inr (8, [.ref dr, .ref cl, .ref cp, .ref vs, .int (nI num)])), (dr, .inr (0, [.int (nI 48), .ref drp])), (drp, .inl (cI, 3072, .inl (nF (rc2 Dr x y w r q (fun _ _ => k)))))]) (w2 := fun _ => [(ts, .inr (8, [.ref dr, .ref cl, .ref cp, .ref vs, .int (nI num)])), (dr, .inr (0, [.int (nI 48), .ref drp])), (drp, .inl (cI, 3072, .inl (nF (rc2 Dr x y w r q (fun _ _ => k)))))]) [.int (nI q), .int (nI r)] [.int (nI (r / 8 * 8 + q / 8)), .ref dr] Bd ⟨gi_app (gi_c0 k_268 (gi_c0 k_269 (gi_c0 k_1 gi_nil))) (gi_tb0 k_270), rfl, by decide, by decide⟩ (show (parseMethodDescriptor "(II)I").map (fun d => d.parameters.length) = some 2 by decide +kernel) (c_Scr_pixelOf q r (by omega) (by omega)) (by decide +kernel) ⟨Nat.le_of_ble_eq_true rfl, Nat.le_of_ble_eq_true rfl⟩ hG hP hD hS hA [] [0, 1, 2] [0, 1, 2] (by decide) rfl rfl (fun _ => rfl) hl.1 rfl (Nat.le_of_ble_eq_true rfl) d_Scr_fill_59 (fun r12 u14 H locs hp13 hP hD hS => ?_)
                  have hP : va_P D classes [(ts, .inr (8, [.ref dr, .ref cl, .ref cp, .ref vs, .int (nI num)])), (dr, .inr (0, [.int (nI 48), .ref drp])), (drp, .inl (cI, 3072, .inl (nF (rc2 Dr x y w r q (fun _ _ => k)))))] H := hP
                  have hD : va_D AA [(ts, .inr (8, [.ref dr, .ref cl, .ref cp, .ref vs, .int (nI num)])), (dr, .inr (0, [.int (nI 48), .ref drp])), (drp, .inl (cI, 3072, .inl (nF (rc2 Dr x y w r q (fun _ _ => k)))))] := hD
                  subst hp13
                  refine lv_iload hx hb d_Scr_fill_62 (lv_at hl 7 rfl) ?_
                  refine kV_v (wc := [(dr, .inr (0, [.int (nI 48), .ref drp])), (drp, .inl (cI, 3072, .inl (nF (rc2 Dr x y w r q (fun _ _ => k)))))]) (wr := [(ts, .inr (8, [.ref dr, .ref cl, .ref cp, .ref vs, .int (nI num)]))]) (w2 := fun _ => [(ts, .inr (8, [.ref dr, .ref cl, .ref cp, .ref vs, .int (nI num)])), (dr, .inr (0, [.int (nI 48), .ref drp])), (drp, .inl (cI, 3072, .inl (nF (up (rc2 Dr x y w r q (fun _ _ => k)) ((r / 8 * 8 + q / 8) * 64 + (r % 8 * 8 + q % 8)) k))))]) [.int (nI (r / 8 * 8 + q / 8)), .int (nI (r % 8 * 8 + q % 8)), .int (nI k)] [] Bd ⟨gi_app (gi_c0 k_271 (gi_c0 k_272 (gi_c0 k_273 (gi_c0 k_2 gi_nil)))) (gi_tb0 k_274), rfl, by decide, by decide⟩ (show (parseMethodDescriptor "(III)V").map (fun d => d.parameters.length) = some 3 by decide +kernel) (c_Tiles_set dr drp 48 3072 (rc2 Dr x y w r q (fun _ _ => k)) (r / 8 * 8 + q / 8) (r % 8 * 8 + q % 8) k (by omega) (by decide)) (by decide +kernel) ⟨Nat.le_of_ble_eq_true rfl, Nat.le_of_ble_eq_true rfl⟩ hG hP hD hS hA [1, 2] [0] [0, 1, 2] (by decide) rfl rfl (fun _ => rfl) (q0 := 0) rfl rfl rfl hl.1 rfl (Nat.le_of_ble_eq_true rfl) d_Scr_fill_64 (fun u16 H locs hp15 hP hD hS => ?_)
                  have hP : va_P D classes [(ts, .inr (8, [.ref dr, .ref cl, .ref cp, .ref vs, .int (nI num)])), (dr, .inr (0, [.int (nI 48), .ref drp])), (drp, .inl (cI, 3072, .inl (nF (up (rc2 Dr x y w r q (fun _ _ => k)) ((r / 8 * 8 + q / 8) * 64 + (r % 8 * 8 + q % 8)) k))))] H := hP
                  have hD : va_D AA [(ts, .inr (8, [.ref dr, .ref cl, .ref cp, .ref vs, .int (nI num)])), (dr, .inr (0, [.int (nI 48), .ref drp])), (drp, .inl (cI, 3072, .inl (nF (up (rc2 Dr x y w r q (fun _ _ => k)) ((r / 8 * 8 + q / 8) * 64 + (r % 8 * 8 + q % 8)) k))))] := hD
                  refine lv_iinc (v := (nI (q + 1))) (lv' := [(7, .int (nI (q + 1))), (6, .int (nI r)), (0, .ref ts), (1, .int (nI x)), (2, .int (nI y)), (3, .int (nI w)), (4, .int (nI h)), (5, .int (nI k))]) hx hb d_Scr_fill_67 hl (k := 0) rfl (nI_add q 1) (by decide) rfl (fun ls hl => ?_)
                  refine lv_goto (tgt := 36) hx hb d_Scr_fill_70 (by decide) ?_
                  rw [show (r / 8 * 8 + q / 8) * 64 + (r % 8 * 8 + q % 8) = ti q r from rfl, rc2_s (G := (fun _ _ => k)) hr0 hq0 (by omega) c_41] at hP hD
                  exact ih36 (q + 1) (by omega) (by omega) (by omega) _ _ _ hP hD hS (lv_sub hl [0, 1, 2, 3, 4, 5, 6, 7] rfl)
            exact lp_36 _ x (Nat.le_refl x) (Nat.le_add_right x w) (Nat.lt_succ_self _) _ _ _ hP hD hS (lv_sub hl [0, 1, 2, 3, 4, 5, 6, 7] rfl)
      rw [← rc2_0 (D9 := Dr) (x := x) (y := y) (w := w) (G := (fun _ _ => k))] at hP hD
      exact lp_24 _ y (Nat.le_refl y) (Nat.le_add_right y h) (Nat.lt_succ_self _) _ _ _ hP hD hS (lv_sub hl [0, 1, 2, 3, 4, 5, 6] rfl)
    · exact absurd ⟨k, hk, rfl⟩ (cB_0 c_16)
set_option maxHeartbeats 400000 in
set_option maxRecDepth 100000 in
theorem c_Scr_fill_no (ts : Nat) (dr : Nat) (cl : Nat) (cp : Nat) (vs : Nat) (num : Nat) (x : Int32) (y : Int32) (w : Int32) (h : Int32) (k : Int32) (hno : ¬ (reP x y w h ∧ coP k)) : CI (S := Unit) l classes NW D (TYS cI cZ cL cV) y_Scr_fill (.code y_Scr_fill b_Scr_fill 8 (some .boolean) :: TB) { frames := 1, cells := 0, slots := 0, locals := 23 } [.ref ts, .int x, .int y, .int w, .int h, .int k] [(ts, .inr (8, [.ref dr, .ref cl, .ref cp, .ref vs, .int (nI num)]))] (fun r u => r = nI 0) (fun u => [(ts, .inr (8, [.ref dr, .ref cl, .ref cp, .ref vs, .int (nI num)]))]) := by
  refine CI.of (by decide) (Nat.le_of_ble_eq_true rfl) ?_
  intro pr ev sT mM aR bW mE cO AA QQ ls Bd hG hA hP hD hS hl hret
  have Bd : bd pr cO b_Scr_fill 8 sT aR TB "TileScreen" mM := Bd
  obtain ⟨hx, hb, hml, hown, htb⟩ := id Bd
  have hl : lv_has ls 8 [(0, .ref ts), (1, .int x), (2, .int y), (3, .int w), (4, .int h), (5, .int k)] := hl
  refine lv_iload_n hx hb d_Scr_fill_0 rfl (lv_at hl 1 rfl) ?_
  refine lv_iload_n hx hb d_Scr_fill_1 rfl (lv_at hl 2 rfl) ?_
  refine lv_iload_n hx hb d_Scr_fill_2 rfl (lv_at hl 3 rfl) ?_
  refine lv_iload hx hb d_Scr_fill_3 (lv_at hl 4 rfl) ?_
  refine kS_i (wc := []) (wr := [(ts, .inr (8, [.ref dr, .ref cl, .ref cp, .ref vs, .int (nI num)]))]) (w2 := fun _ => [(ts, .inr (8, [.ref dr, .ref cl, .ref cp, .ref vs, .int (nI num)]))]) [.int x, .int y, .int w, .int h] [] Bd ⟨gi_app (gi_c0 k_258 (gi_c0 k_259 (gi_c0 k_1 gi_nil))) (gi_tb0 k_260), rfl, by decide, by decide⟩ (show (parseMethodDescriptor "(IIII)Z").map (fun d => d.parameters.length) = some 4 by decide +kernel) (c_Scr_isInside x y w h ) (by decide +kernel) ⟨Nat.le_of_ble_eq_true rfl, Nat.le_of_ble_eq_true rfl⟩ hG hP hD hS hA [] [0] [0] (by decide) rfl rfl (fun _ => rfl) hl.1 rfl (Nat.le_of_ble_eq_true rfl) d_Scr_fill_5 (fun r1 u3 H locs hp2 hP hD hS => ?_)
  have hP : va_P D classes [(ts, .inr (8, [.ref dr, .ref cl, .ref cp, .ref vs, .int (nI num)]))] H := hP
  have hD : va_D AA [(ts, .inr (8, [.ref dr, .ref cl, .ref cp, .ref vs, .int (nI num)]))] := hD
  subst hp2
  refine nv_if_eq (tgt := 19) hx hb d_Scr_fill_8 (by decide) (bt_lt _) (fun c_8 => ?_) (fun c_8 => ?_)
  · refine lv_iconst (v := nI 0) hx hb d_Scr_fill_19 (by decide) ?_
    exact hret _ () _ _ _ _ d_Scr_fill_20 (by first | rfl | decide) (rfl) hP hD hS
  · refine lv_iload hx hb d_Scr_fill_11 (lv_at hl 5 rfl) ?_
    refine kS_i (wc := []) (wr := [(ts, .inr (8, [.ref dr, .ref cl, .ref cp, .ref vs, .int (nI num)]))]) (w2 := fun _ => [(ts, .inr (8, [.ref dr, .ref cl, .ref cp, .ref vs, .int (nI num)]))]) [.int k] [] Bd ⟨gi_app (gi_c0 k_261 (gi_c0 k_262 (gi_c0 k_1 gi_nil))) (gi_tb0 k_263), rfl, by decide, by decide⟩ (show (parseMethodDescriptor "(I)Z").map (fun d => d.parameters.length) = some 1 by decide +kernel) (c_Scr_isColour k ) (by decide +kernel) ⟨Nat.le_of_ble_eq_true rfl, Nat.le_of_ble_eq_true rfl⟩ hG hP hD hS hA [] [0] [0] (by decide) rfl rfl (fun _ => rfl) hl.1 rfl (Nat.le_of_ble_eq_true rfl) d_Scr_fill_13 (fun r4 u6 H locs hp5 hP hD hS => ?_)
    have hP : va_P D classes [(ts, .inr (8, [.ref dr, .ref cl, .ref cp, .ref vs, .int (nI num)]))] H := hP
    have hD : va_D AA [(ts, .inr (8, [.ref dr, .ref cl, .ref cp, .ref vs, .int (nI num)]))] := hD
    subst hp5
    refine nv_if_ne (tgt := 21) hx hb d_Scr_fill_16 (by decide) (bt_lt _) (fun c_16 => ?_) (fun c_16 => ?_)
    · exact absurd ⟨cB_1 c_8, cB_1 c_16⟩ hno
    · refine lv_iconst (v := nI 0) hx hb d_Scr_fill_19 (by decide) ?_
      exact hret _ () _ _ _ _ d_Scr_fill_20 (by first | rfl | decide) (rfl) hP hD hS
set_option maxHeartbeats 400000 in
set_option maxRecDepth 100000 in
theorem c_Scr_shade (ts : Nat) (dr : Nat) (cl : Nat) (cp : Nat) (vs : Nat) (num : Nat) (drp : Nat) (Dr : Nat → Nat) (t : Nat) (r : Nat) (k : Nat) (step : Int32) (ht : t < 48) (hr : r < 8) (hk : k < 65536) : CI (S := Unit) l classes NW D (TYS cI cZ cL cV) y_Scr_shade (.code y_Scr_shade b_Scr_shade 6 (some .boolean) :: TB) { frames := 1, cells := 0, slots := 0, locals := 23 } [.ref ts, .int (nI t), .int (nI r), .int (nI k), .int step] [(ts, .inr (8, [.ref dr, .ref cl, .ref cp, .ref vs, .int (nI num)])), (dr, .inr (0, [.int (nI 48), .ref drp])), (drp, .inl (cI, 3072, .inl (nF Dr)))] (fun r u => r = nI 1) (fun u => [(ts, .inr (8, [.ref dr, .ref cl, .ref cp, .ref vs, .int (nI num)])), (dr, .inr (0, [.int (nI 48), .ref drp])), (drp, .inl (cI, 3072, .inl (nF (pset Dr (t * 64 + r * 8) 8 (shv k step)))))]) := by
  refine CI.of (by decide) (Nat.le_of_ble_eq_true rfl) ?_
  intro pr ev sT mM aR bW mE cO AA QQ ls Bd hG hA hP hD hS hl hret
  have Bd : bd pr cO b_Scr_shade 6 sT aR TB "TileScreen" mM := Bd
  obtain ⟨hx, hb, hml, hown, htb⟩ := id Bd
  have hl : lv_has ls 6 [(0, .ref ts), (1, .int (nI t)), (2, .int (nI r)), (3, .int (nI k)), (4, .int step)] := hl
  refine lv_iload_n hx hb d_Scr_shade_0 rfl (lv_at hl 1 rfl) ?_
  refine nv_if_ltF hx hb 27 d_Scr_shade_1 (by decide) (by omega) ?_
  refine lv_iload_n hx hb d_Scr_shade_4 rfl (lv_at hl 1 rfl) ?_
  refine lv_bipush (v := nI 48) hx hb d_Scr_shade_5 (by decide) ?_
  refine nv_icmp_ge (tgt := 27) hx hb d_Scr_shade_7 (by decide) (by omega) (by omega) (fun c_7 => ?_) (fun c_7 => ?_)
  · omega
  · refine lv_iload_n hx hb d_Scr_shade_10 rfl (lv_at hl 2 rfl) ?_
    refine nv_if_ltF hx hb 27 d_Scr_shade_11 (by decide) (by omega) ?_
    refine lv_iload_n hx hb d_Scr_shade_14 rfl (lv_at hl 2 rfl) ?_
    refine lv_bipush (v := nI 8) hx hb d_Scr_shade_15 (by decide) ?_
    refine nv_icmp_ge (tgt := 27) hx hb d_Scr_shade_17 (by decide) (by omega) (by omega) (fun c_17 => ?_) (fun c_17 => ?_)
    · omega
    · refine lv_iload_n hx hb d_Scr_shade_20 rfl (lv_at hl 3 rfl) ?_
      refine kS_i (wc := []) (wr := [(ts, .inr (8, [.ref dr, .ref cl, .ref cp, .ref vs, .int (nI num)])), (dr, .inr (0, [.int (nI 48), .ref drp])), (drp, .inl (cI, 3072, .inl (nF Dr)))]) (w2 := fun _ => [(ts, .inr (8, [.ref dr, .ref cl, .ref cp, .ref vs, .int (nI num)])), (dr, .inr (0, [.int (nI 48), .ref drp])), (drp, .inl (cI, 3072, .inl (nF Dr)))]) [.int (nI k)] [] Bd ⟨gi_app (gi_c0 k_261 (gi_c0 k_262 (gi_c0 k_1 gi_nil))) (gi_tb0 k_263), rfl, by decide, by decide⟩ (show (parseMethodDescriptor "(I)Z").map (fun d => d.parameters.length) = some 1 by decide +kernel) (c_Scr_isColour (nI k) ) (by decide +kernel) ⟨Nat.le_of_ble_eq_true rfl, Nat.le_of_ble_eq_true rfl⟩ hG hP hD hS hA [] [0, 1, 2] [0, 1, 2] (by decide) rfl rfl (fun _ => rfl) hl.1 rfl (Nat.le_of_ble_eq_true rfl) d_Scr_shade_21 (fun r1 u3 H locs hp2 hP hD hS => ?_)
      have hP : va_P D classes [(ts, .inr (8, [.ref dr, .ref cl, .ref cp, .ref vs, .int (nI num)])), (dr, .inr (0, [.int (nI 48), .ref drp])), (drp, .inl (cI, 3072, .inl (nF Dr)))] H := hP
      have hD : va_D AA [(ts, .inr (8, [.ref dr, .ref cl, .ref cp, .ref vs, .int (nI num)])), (dr, .inr (0, [.int (nI 48), .ref drp])), (drp, .inl (cI, 3072, .inl (nF Dr)))] := hD
      subst hp2
      refine nv_if_ne (tgt := 29) hx hb d_Scr_shade_24 (by decide) (bt_lt _) (fun c_24 => ?_) (fun c_24 => ?_)
      · refine lv_iconst (v := nI 0) hx hb d_Scr_shade_29 (by decide) ?_
        refine lv_istore (lv' := [(5, .int (nI 0)), (0, .ref ts), (1, .int (nI t)), (2, .int (nI r)), (3, .int (nI k)), (4, .int step)]) hx hb d_Scr_shade_30 hl (by decide) rfl (fun ls hl => ?_)
        have lp_32 : ∀ (nn : Nat) (q : Nat) (hq : q ≤ 8), 8 - q < nn → ∀ (H : Heap) (locs : List Loc) (ls : Array Slot), va_P D classes [(ts, .inr (8, [.ref dr, .ref cl, .ref cp, .ref vs, .int (nI num)])), (dr, .inr (0, [.int (nI 48), .ref drp])), (drp, .inl (cI, 3072, .inl (nF (pset Dr (t * 64 + r * 8) q (shv k step)))))] H → va_D AA [(ts, .inr (8, [.ref dr, .ref cl, .ref cp, .ref vs, .int (nI num)])), (dr, .inr (0, [.int (nI 48), .ref drp])), (drp, .inl (cI, 3072, .inl (nF (pset Dr (t * 64 + r * 8) q (shv k step)))))] → va_S AA sT.heap H locs → lv_has ls 6 [(5, .int (nI q)), (0, .ref ts), (1, .int (nI t)), (2, .int (nI r)), (3, .int (nI k)), (4, .int step)] → W pr l ev ({ frames := 1, cells := 0, slots := 0, locals := 23 } : Room) sT mM aR bW mE cO H locs 0 0 QQ (F0 mM 32 ls []) := by
          intro nn
          induction nn with
          | zero => intro q hq hm; exact absurd hm (Nat.not_lt_zero _)
          | succ nn ih32 =>
            intro q hq hm H locs ls hP hD hS hl
            refine lv_iload hx hb d_Scr_shade_32 (lv_at hl 0 rfl) ?_
            refine lv_bipush (v := nI 8) hx hb d_Scr_shade_34 (by decide) ?_
            refine nv_icmp_ge (tgt := 70) hx hb d_Scr_shade_36 (by decide) (by omega) (by omega) (fun c_36 => ?_) (fun c_36 => ?_)
            · refine lv_iconst (v := nI 1) hx hb d_Scr_shade_70 (by decide) ?_
              obtain rfl : q = 8 := by omega
              exact hret _ () _ _ _ _ d_Scr_shade_71 (by first | rfl | decide) (rfl) hP hD hS
            · refine lv_aload_n hx hb d_Scr_shade_39 rfl (lv_at hl 1 rfl) ?_
              refine va_get (D := D) (ci := 8) (v := .ref dr) (C := "TileScreen") (T := F_Scr) (N := 5) hx hb htb i_Scr hown hG.1 hP 0 rfl rfl 0 (by decide) (htb _ k_238) (fun _ h9 => h9) rfl d_Scr_shade_40 ?_
              refine lv_iload_n hx hb d_Scr_shade_43 rfl (lv_at hl 2 rfl) ?_
              refine lv_iload_n hx hb d_Scr_shade_44 rfl (lv_at hl 3 rfl) ?_
              refine lv_bipush (v := nI 8) hx hb d_Scr_shade_45 (by decide) ?_
              refine nv_imul hx hb d_Scr_shade_47 ?_
              refine lv_iload hx hb d_Scr_shade_48 (lv_at hl 0 rfl) ?_
              refine nv_iadd hx hb d_Scr_shade_50 ?_
              refine lv_iload_n hx hb d_Scr_shade_51 rfl (lv_at hl 4 rfl) ?_
              refine lv_iload hx hb d_Scr_shade_52 (lv_at hl 0 rfl) ?_
              refine lv_iload hx hb d_Scr_shade_54 (lv_at hl 5 rfl) ?_
              refine lv_imul hx hb d_Scr_shade_56 ?_
              refine lv_iadd hx hb d_Scr_shade_57 ?_
              refine lv_ldc (v := nI 65535) hx hb hown (htb _ k_297) d_Scr_shade_58 ?_
              refine lv_iand hx hb d_Scr_shade_60 ?_
              refine nv_top (y := nI (shv k step q)) (shv_eq k step q) ?_
              refine kV_v (wc := [(dr, .inr (0, [.int (nI 48), .ref drp])), (drp, .inl (cI, 3072, .inl (nF (pset Dr (t * 64 + r * 8) q (shv k step)))))]) (wr := [(ts, .inr (8, [.ref dr, .ref cl, .ref cp, .ref vs, .int (nI num)]))]) (w2 := fun _ => [(ts, .inr (8, [.ref dr, .ref cl, .ref cp, .ref vs, .int (nI num)])), (dr, .inr (0, [.int (nI 48), .ref drp])), (drp, .inl (cI, 3072, .inl (nF (up (pset Dr (t * 64 + r * 8) q (shv k step)) (t * 64 + (r * 8 + q)) (shv k step q)))))]) [.int (nI t), .int (nI (r * 8 + q)), .int (nI (shv k step q))] [] Bd ⟨gi_app (gi_c0 k_271 (gi_c0 k_272 (gi_c0 k_273 (gi_c0 k_2 gi_nil)))) (gi_tb0 k_274), rfl, by decide, by decide⟩ (show (parseMethodDescriptor "(III)V").map (fun d => d.parameters.length) = some 3 by decide +kernel) (c_Tiles_set dr drp 48 3072 (pset Dr (t * 64 + r * 8) q (shv k step)) t (r * 8 + q) (shv k step q) (by omega) (by decide)) (by decide +kernel) ⟨Nat.le_of_ble_eq_true rfl, Nat.le_of_ble_eq_true rfl⟩ hG hP hD hS hA [1, 2] [0] [0, 1, 2] (by decide) rfl rfl (fun _ => rfl) (q0 := 0) rfl rfl rfl hl.1 rfl (Nat.le_of_ble_eq_true rfl) d_Scr_shade_61 (fun u6 H locs hp5 hP hD hS => ?_)
              have hP : va_P D classes [(ts, .inr (8, [.ref dr, .ref cl, .ref cp, .ref vs, .int (nI num)])), (dr, .inr (0, [.int (nI 48), .ref drp])), (drp, .inl (cI, 3072, .inl (nF (up (pset Dr (t * 64 + r * 8) q (shv k step)) (t * 64 + (r * 8 + q)) (shv k step q)))))] H := hP
              have hD : va_D AA [(ts, .inr (8, [.ref dr, .ref cl, .ref cp, .ref vs, .int (nI num)])), (dr, .inr (0, [.int (nI 48), .ref drp])), (drp, .inl (cI, 3072, .inl (nF (up (pset Dr (t * 64 + r * 8) q (shv k step)) (t * 64 + (r * 8 + q)) (shv k step q)))))] := hD
              refine lv_iinc (v := (nI (q + 1))) (lv' := [(5, .int (nI (q + 1))), (0, .ref ts), (1, .int (nI t)), (2, .int (nI r)), (3, .int (nI k)), (4, .int step)]) hx hb d_Scr_shade_64 hl (k := 0) rfl (nI_add q 1) (by decide) rfl (fun ls hl => ?_)
              refine lv_goto (tgt := 32) hx hb d_Scr_shade_67 (by decide) ?_
              rw [← Nat.add_assoc, pset_s] at hP hD
              exact ih32 (q + 1) (by omega) (by omega) _ _ _ hP hD hS (lv_sub hl [0, 1, 2, 3, 4, 5] rfl)
        rw [← pset_0 Dr (t * 64 + r * 8) (shv k step)] at hP hD
        exact lp_32 _ 0 (Nat.zero_le _) (Nat.lt_succ_self _) _ _ _ hP hD hS (lv_sub hl [0, 1, 2, 3, 4, 5] rfl)
      · exact absurd ⟨k, hk, rfl⟩ (cB_0 c_24)
set_option maxHeartbeats 400000 in
set_option maxRecDepth 100000 in
theorem c_Scr_shade_no (ts : Nat) (dr : Nat) (cl : Nat) (cp : Nat) (vs : Nat) (num : Nat) (t : Int32) (r : Int32) (k : Int32) (step : Int32) (hno : ¬ ((∃ a, a < 48 ∧ t = nI a) ∧ (∃ b, b < 8 ∧ r = nI b) ∧ coP k)) : CI (S := Unit) l classes NW D (TYS cI cZ cL cV) y_Scr_shade (.code y_Scr_shade b_Scr_shade 6 (some .boolean) :: TB) { frames := 1, cells := 0, slots := 0, locals := 20 } [.ref ts, .int t, .int r, .int k, .int step] [(ts, .inr (8, [.ref dr, .ref cl, .ref cp, .ref vs, .int (nI num)]))] (fun r u => r = nI 0) (fun u => [(ts, .inr (8, [.ref dr, .ref cl, .ref cp, .ref vs, .int (nI num)]))]) := by
  refine CI.of (by decide) (Nat.le_of_ble_eq_true rfl) ?_
  intro pr ev sT mM aR bW mE cO AA QQ ls Bd hG hA hP hD hS hl hret
  have Bd : bd pr cO b_Scr_shade 6 sT aR TB "TileScreen" mM := Bd
  obtain ⟨hx, hb, hml, hown, htb⟩ := id Bd
  have hl : lv_has ls 6 [(0, .ref ts), (1, .int t), (2, .int r), (3, .int k), (4, .int step)] := hl
  refine lv_iload_n hx hb d_Scr_shade_0 rfl (lv_at hl 1 rfl) ?_
  refine lv_if_lt (tgt := 27) hx hb d_Scr_shade_1 (by decide) (fun c_1 => ?_) (fun c_1 => ?_)
  · refine lv_iconst (v := nI 0) hx hb d_Scr_shade_27 (by decide) ?_
    exact hret _ () _ _ _ _ d_Scr_shade_28 (by first | rfl | decide) (rfl) hP hD hS
  · refine lv_iload_n hx hb d_Scr_shade_4 rfl (lv_at hl 1 rfl) ?_
    refine lv_bipush (v := nI 48) hx hb d_Scr_shade_5 (by decide) ?_
    refine lv_icmp_ge (tgt := 27) hx hb d_Scr_shade_7 (by decide) (fun c_7 => ?_) (fun c_7 => ?_)
    · refine lv_iconst (v := nI 0) hx hb d_Scr_shade_27 (by decide) ?_
      exact hret _ () _ _ _ _ d_Scr_shade_28 (by first | rfl | decide) (rfl) hP hD hS
    · refine lv_iload_n hx hb d_Scr_shade_10 rfl (lv_at hl 2 rfl) ?_
      refine lv_if_lt (tgt := 27) hx hb d_Scr_shade_11 (by decide) (fun c_11 => ?_) (fun c_11 => ?_)
      · refine lv_iconst (v := nI 0) hx hb d_Scr_shade_27 (by decide) ?_
        exact hret _ () _ _ _ _ d_Scr_shade_28 (by first | rfl | decide) (rfl) hP hD hS
      · refine lv_iload_n hx hb d_Scr_shade_14 rfl (lv_at hl 2 rfl) ?_
        refine lv_bipush (v := nI 8) hx hb d_Scr_shade_15 (by decide) ?_
        refine lv_icmp_ge (tgt := 27) hx hb d_Scr_shade_17 (by decide) (fun c_17 => ?_) (fun c_17 => ?_)
        · refine lv_iconst (v := nI 0) hx hb d_Scr_shade_27 (by decide) ?_
          exact hret _ () _ _ _ _ d_Scr_shade_28 (by first | rfl | decide) (rfl) hP hD hS
        · refine lv_iload_n hx hb d_Scr_shade_20 rfl (lv_at hl 3 rfl) ?_
          refine kS_i (wc := []) (wr := [(ts, .inr (8, [.ref dr, .ref cl, .ref cp, .ref vs, .int (nI num)]))]) (w2 := fun _ => [(ts, .inr (8, [.ref dr, .ref cl, .ref cp, .ref vs, .int (nI num)]))]) [.int k] [] Bd ⟨gi_app (gi_c0 k_261 (gi_c0 k_262 (gi_c0 k_1 gi_nil))) (gi_tb0 k_263), rfl, by decide, by decide⟩ (show (parseMethodDescriptor "(I)Z").map (fun d => d.parameters.length) = some 1 by decide +kernel) (c_Scr_isColour k ) (by decide +kernel) ⟨Nat.le_of_ble_eq_true rfl, Nat.le_of_ble_eq_true rfl⟩ hG hP hD hS hA [] [0] [0] (by decide) rfl rfl (fun _ => rfl) hl.1 rfl (Nat.le_of_ble_eq_true rfl) d_Scr_shade_21 (fun r1 u3 H locs hp2 hP hD hS => ?_)
          have hP : va_P D classes [(ts, .inr (8, [.ref dr, .ref cl, .ref cp, .ref vs, .int (nI num)]))] H := hP
          have hD : va_D AA [(ts, .inr (8, [.ref dr, .ref cl, .ref cp, .ref vs, .int (nI num)]))] := hD
          subst hp2
          refine nv_if_ne (tgt := 29) hx hb d_Scr_shade_24 (by decide) (bt_lt _) (fun c_24 => ?_) (fun c_24 => ?_)
          · exact absurd ⟨ge_lt (by decide) c_1 c_7, ge_lt (by decide) c_11 c_17, cB_1 c_24⟩ hno
          · refine lv_iconst (v := nI 0) hx hb d_Scr_shade_27 (by decide) ?_
            exact hret _ () _ _ _ _ d_Scr_shade_28 (by first | rfl | decide) (rfl) hP hD hS
set_option maxHeartbeats 400000 in
set_option maxRecDepth 100000 in
theorem c_Scr_frame (ts : Nat) (dr : Nat) (cl : Nat) (cp : Nat) (vs : Nat) (num : Nat) (drp : Nat) (Dr : Nat → Nat) (clp : Nat) (Cl : Nat → Nat) : CI (S := Unit) l classes NW D (TYS cI cZ cL cV) y_Scr_frame (.code y_Scr_frame b_Scr_frame 1 (some .int) :: TB) { frames := 2, cells := 0, slots := 0, locals := 61 } [.ref ts] [(ts, .inr (8, [.ref dr, .ref cl, .ref cp, .ref vs, .int (nI num)])), (dr, .inr (0, [.int (nI 48), .ref drp])), (drp, .inl (cI, 3072, .inl (nF Dr))), (cl, .inr (0, [.int (nI 48), .ref clp])), (clp, .inl (cI, 3072, .inl (nF Cl)))] (fun r u => r = nI (num + 1)) (fun u => [(ts, .inr (8, [.ref dr, .ref cl, .ref cp, .ref vs, .int (nI (num + 1))])), (dr, .inr (0, [.int (nI 48), .ref drp])), (drp, .inl (cI, 3072, .inl (nF Dr))), (cl, .inr (0, [.int (nI 48), .ref clp])), (clp, .inl (cI, 3072, .inl (nF Dr)))]) := by
  refine CI.of (by decide) (Nat.le_of_ble_eq_true rfl) ?_
  intro pr ev sT mM aR bW mE cO AA QQ ls Bd hG hA hP hD hS hl hret
  have Bd : bd pr cO b_Scr_frame 1 sT aR TB "TileScreen" mM := Bd
  obtain ⟨hx, hb, hml, hown, htb⟩ := id Bd
  have hl : lv_has ls 1 [(0, .ref ts)] := hl
  refine lv_aload_n hx hb d_Scr_frame_0 rfl (lv_at hl 0 rfl) ?_
  refine va_get (D := D) (ci := 8) (v := .ref cl) (C := "TileScreen") (T := F_Scr) (N := 5) hx hb htb i_Scr hown hG.1 hP 0 rfl rfl 1 (by decide) (htb _ k_239) (fun _ h9 => h9) rfl d_Scr_frame_1 ?_
  refine lv_aload_n hx hb d_Scr_frame_4 rfl (lv_at hl 0 rfl) ?_
  refine va_get (D := D) (ci := 8) (v := .ref dr) (C := "TileScreen") (T := F_Scr) (N := 5) hx hb htb i_Scr hown hG.1 hP 0 rfl rfl 0 (by decide) (htb _ k_238) (fun _ h9 => h9) rfl d_Scr_frame_5 ?_
  refine kV_v (wc := [(cl, .inr (0, [.int (nI 48), .ref clp])), (clp, .inl (cI, 3072, .inl (nF Cl))), (dr, .inr (0, [.int (nI 48), .ref drp])), (drp, .inl (cI, 3072, .inl (nF Dr)))]) (wr := [(ts, .inr (8, [.ref dr, .ref cl, .ref cp, .ref vs, .int (nI num)]))]) (w2 := fun _ => [(ts, .inr (8, [.ref dr, .ref cl, .ref cp, .ref vs, .int (nI num)])), (dr, .inr (0, [.int (nI 48), .ref drp])), (drp, .inl (cI, 3072, .inl (nF Dr))), (cl, .inr (0, [.int (nI 48), .ref clp])), (clp, .inl (cI, 3072, .inl (nF Dr)))]) [.ref dr] [] Bd ⟨gi_app (gi_c0 k_279 (gi_c0 k_280 (gi_c0 k_281 (gi_c0 k_2 gi_nil)))) (gi_tb0 k_282), rfl, by decide, by decide⟩ (show (parseMethodDescriptor "(LTileScreen$Tiles;)V").map (fun d => d.parameters.length) = some 1 by decide +kernel) (c_Tiles_takeAll cl clp 48 3072 Cl dr drp 48 Dr (by decide)) (by decide +kernel) ⟨Nat.le_of_ble_eq_true rfl, Nat.le_of_ble_eq_true rfl⟩ hG hP hD hS hA [3, 4, 1, 2] [0] [0, 3, 4, 1, 2] (by decide) rfl rfl (fun _ => rfl) (q0 := 0) rfl rfl rfl hl.1 rfl (Nat.le_of_ble_eq_true rfl) d_Scr_frame_8 (fun u2 H locs hp1 hP hD hS => ?_)
  have hP : va_P D classes [(ts, .inr (8, [.ref dr, .ref cl, .ref cp, .ref vs, .int (nI num)])), (dr, .inr (0, [.int (nI 48), .ref drp])), (drp, .inl (cI, 3072, .inl (nF Dr))), (cl, .inr (0, [.int (nI 48), .ref clp])), (clp, .inl (cI, 3072, .inl (nF Dr)))] H := hP
  have hD : va_D AA [(ts, .inr (8, [.ref dr, .ref cl, .ref cp, .ref vs, .int (nI num)])), (dr, .inr (0, [.int (nI 48), .ref drp])), (drp, .inl (cI, 3072, .inl (nF Dr))), (cl, .inr (0, [.int (nI 48), .ref clp])), (clp, .inl (cI, 3072, .inl (nF Dr)))] := hD
  refine lv_aload_n hx hb d_Scr_frame_11 rfl (lv_at hl 0 rfl) ?_
  refine lv_dup hx hb d_Scr_frame_12 rfl ?_
  refine va_get (D := D) (ci := 8) (v := .int (nI num)) (C := "TileScreen") (T := F_Scr) (N := 5) hx hb htb i_Scr hown hG.1 hP 0 rfl rfl 4 (by decide) (htb _ k_242) (fun _ h9 => h9) rfl d_Scr_frame_13 ?_
  refine lv_iconst (v := nI 1) hx hb d_Scr_frame_16 (by decide) ?_
  refine nv_iadd hx hb d_Scr_frame_17 ?_
  refine va_put (D := D) (ci := 8) (v := .int (nI (num + 1))) (ty := .int) (C := "TileScreen") (T := F_Scr) (N := 5) hx hb htb i_Scr t_Scr t_Scr_ok n_Scr hown hG.1 hP hD hS 0 rfl rfl 4 (by decide) (htb _ k_242) (fun _ h9 => h9) rfl (by decide +kernel) rfl rfl (Nat.le_of_ble_eq_true rfl) d_Scr_frame_18 (fun H locs hP hD hS => ?_)
  have hP : va_P D classes [(ts, .inr (8, [.ref dr, .ref cl, .ref cp, .ref vs, .int (nI (num + 1))])), (dr, .inr (0, [.int (nI 48), .ref drp])), (drp, .inl (cI, 3072, .inl (nF Dr))), (cl, .inr (0, [.int (nI 48), .ref clp])), (clp, .inl (cI, 3072, .inl (nF Dr)))] H := hP
  have hD : va_D AA [(ts, .inr (8, [.ref dr, .ref cl, .ref cp, .ref vs, .int (nI (num + 1))])), (dr, .inr (0, [.int (nI 48), .ref drp])), (drp, .inl (cI, 3072, .inl (nF Dr))), (cl, .inr (0, [.int (nI 48), .ref clp])), (clp, .inl (cI, 3072, .inl (nF Dr)))] := hD
  refine lv_aload_n hx hb d_Scr_frame_21 rfl (lv_at hl 0 rfl) ?_
  refine va_get (D := D) (ci := 8) (v := .int (nI (num + 1))) (C := "TileScreen") (T := F_Scr) (N := 5) hx hb htb i_Scr hown hG.1 hP 0 rfl rfl 4 (by decide) (htb _ k_242) (fun _ h9 => h9) rfl d_Scr_frame_22 ?_
  exact hret _ () _ _ _ _ d_Scr_frame_25 rfl (rfl) hP hD hS
end
