section
variable {l : Launch} {D : va_G} {cI cZ cL cV : ClassId}
def blP (place size x y : Int32) : Prop := ∃ p s : Nat, p < 2 ^ 31 ∧ 1 ≤ s ∧ s < 2 ^ 31 ∧ place = nI p ∧ size = nI s ∧ reP (nI (p % 64)) (nI (p / 64)) (nI ((s - 1) % 64 + 1)) (nI ((s - 1) / 64)) ∧ reP x y (nI ((s - 1) % 64 + 1)) (nI ((s - 1) / 64))
set_option maxHeartbeats 1600000 in
set_option maxRecDepth 100000 in
theorem c_Scr_blit (ts : Nat) (dr : Nat) (cl : Nat) (cp : Nat) (vs : Nat) (num : Nat) (drp : Nat) (Dr : Nat → Nat) (cpp : Nat) (Cp : Nat → Nat) (p9 : Nat) (s9 : Nat) (x : Nat) (y : Nat) (hp : p9 < 2 ^ 31) (hs1 : 1 ≤ s9) (hs2 : s9 < 2 ^ 31) (h2 : 1 ≤ ((s9 - 1) / 64)) (h3 : p9 % 64 + ((s9 - 1) % 64 + 1) ≤ 64) (h4 : p9 / 64 + ((s9 - 1) / 64) ≤ 48) (h5 : x + ((s9 - 1) % 64 + 1) ≤ 64) (h6 : y + ((s9 - 1) / 64) ≤ 48) : CI (S := Unit) l classes NW D (TYS cI cZ cL cV) y_Scr_blit (.code y_Scr_blit b_Scr_blit 12 (some .boolean) :: TB) { frames := 2, cells := 0, slots := 0, locals := 61 } [.ref ts, .int (nI p9), .int (nI s9), .int (nI x), .int (nI y)] [(ts, .inr (8, [.ref dr, .ref cl, .ref cp, .ref vs, .int (nI num)])), (dr, .inr (0, [.int (nI 48), .ref drp])), (drp, .inl (cI, 3072, .inl (nF Dr))), (cp, .inr (0, [.int (nI 48), .ref cpp])), (cpp, .inl (cI, 3072, .inl (nF Cp)))] (fun r u => r = nI 1) (fun u => [(ts, .inr (8, [.ref dr, .ref cl, .ref cp, .ref vs, .int (nI num)])), (dr, .inr (0, [.int (nI 48), .ref drp])), (drp, .inl (cI, 3072, .inl (nF (rcF Dr x y ((s9 - 1) % 64 + 1) ((s9 - 1) / 64) (fun i j => Dr (ti (p9 % 64 + i) (p9 / 64 + j))))))), (cp, .inr (0, [.int (nI 48), .ref cpp])), (cpp, .inl (cI, 3072, .inl (nF Dr)))]) := by
  refine CI.of (by decide) (Nat.le_of_ble_eq_true rfl) ?_
  intro pr ev sT mM aR bW mE cO AA QQ ls Bd hG hA hP hD hS hl hret
  have Bd : bd pr cO b_Scr_blit 12 sT aR TB "TileScreen" mM := Bd
  obtain ⟨hx, hb, hml, hown, htb⟩ := id Bd
  have hl : lv_has ls 12 [(0, .ref ts), (1, .int (nI p9)), (2, .int (nI s9)), (3, .int (nI x)), (4, .int (nI y))] := hl
  refine lv_iload_n hx hb d_Scr_blit_0 rfl (lv_at hl 1 rfl) ?_
  refine nv_if_ltF hx hb 9 d_Scr_blit_1 (by decide) (by omega) ?_
  refine lv_iload_n hx hb d_Scr_blit_4 rfl (lv_at hl 2 rfl) ?_
  refine lv_iconst (v := nI 1) hx hb d_Scr_blit_5 (by decide) ?_
  refine nv_icmp_ge (tgt := 11) hx hb d_Scr_blit_6 (by decide) (by omega) (by omega) (fun c_6 => ?_) (fun c_6 => ?_)
  · refine lv_iload_n hx hb d_Scr_blit_11 rfl (lv_at hl 1 rfl) ?_
    refine lv_bipush (v := nI 64) hx hb d_Scr_blit_12 (by decide) ?_
    refine nv_irem hx hb (by omega) (by omega) (by omega) d_Scr_blit_14 ?_
    refine lv_istore (lv' := [(5, .int (nI (p9 % 64))), (0, .ref ts), (1, .int (nI p9)), (2, .int (nI s9)), (3, .int (nI x)), (4, .int (nI y))]) hx hb d_Scr_blit_15 hl (by decide) rfl (fun ls hl => ?_)
    refine lv_iload_n hx hb d_Scr_blit_17 rfl (lv_at hl 2 rfl) ?_
    refine lv_bipush (v := nI 64) hx hb d_Scr_blit_18 (by decide) ?_
    refine nv_idiv hx hb (by omega) (by omega) (by omega) d_Scr_blit_20 ?_
    refine lv_istore (lv' := [(6, .int (nI (p9 / 64))), (5, .int (nI (p9 % 64))), (0, .ref ts), (1, .int (nI p9)), (2, .int (nI s9)), (3, .int (nI x)), (4, .int (nI y))]) hx hb d_Scr_blit_21 hl (by decide) rfl (fun ls hl => ?_)
    refine lv_iload_n hx hb d_Scr_blit_23 rfl (lv_at hl 4 rfl) ?_
    refine lv_iconst (v := nI 1) hx hb d_Scr_blit_24 (by decide) ?_
    refine nv_isub hx hb (by omega) d_Scr_blit_25 ?_
    refine lv_bipush (v := nI 64) hx hb d_Scr_blit_26 (by decide) ?_
    refine nv_irem hx hb (by omega) (by omega) (by omega) d_Scr_blit_28 ?_
    refine lv_iconst (v := nI 1) hx hb d_Scr_blit_29 (by decide) ?_
    refine nv_iadd hx hb d_Scr_blit_30 ?_
    refine lv_istore (lv' := [(7, .int (nI (((s9 - 1) % 64) + 1))), (6, .int (nI (p9 / 64))), (5, .int (nI (p9 % 64))), (0, .ref ts), (1, .int (nI p9)), (2, .int (nI s9)), (3, .int (nI x)), (4, .int (nI y))]) hx hb d_Scr_blit_31 hl (by decide) rfl (fun ls hl => ?_)
    refine lv_iload_n hx hb d_Scr_blit_33 rfl (lv_at hl 5 rfl) ?_
    refine lv_iconst (v := nI 1) hx hb d_Scr_blit_34 (by decide) ?_
    refine nv_isub hx hb (by omega) d_Scr_blit_35 ?_
    refine lv_bipush (v := nI 64) hx hb d_Scr_blit_36 (by decide) ?_
    refine nv_idiv hx hb (by omega) (by omega) (by omega) d_Scr_blit_38 ?_
    refine lv_istore (lv' := [(8, .int (nI ((s9 - 1) / 64))), (7, .int (nI (((s9 - 1) % 64) + 1))), (6, .int (nI (p9 / 64))), (5, .int (nI (p9 % 64))), (0, .ref ts), (1, .int (nI p9)), (2, .int (nI s9)), (3, .int (nI x)), (4, .int (nI y))]) hx hb d_Scr_blit_39 hl (by decide) rfl (fun ls hl => ?_)
    refine lv_iload hx hb d_Scr_blit_41 (lv_at hl 3 rfl) ?_
    refine lv_iload hx hb d_Scr_blit_43 (lv_at hl 2 rfl) ?_
    refine lv_iload hx hb d_Scr_blit_45 (lv_at hl 1 rfl) ?_
    refine lv_iload hx hb d_Scr_blit_47 (lv_at hl 0 rfl) ?_
    refine kS_i (wc := []) (wr := [(ts, .inr (8, [.ref dr, .ref cl, .ref cp, .ref vs, .int (nI num)])), (dr, .inr (0, [.int (nI 48), .ref drp])), (drp, .inl (cI, 3072, .inl (nF Dr))), (cp, .inr (0, [.int (nI 48), .ref cpp])), (cpp, .inl (cI, 3072, .inl (nF Cp)))]) (w2 := fun _ => [(ts, .inr (8, [.ref dr, .ref cl, .ref cp, .ref vs, .int (nI num)])), (dr, .inr (0, [.int (nI 48), .ref drp])), (drp, .inl (cI, 3072, .inl (nF Dr))), (cp, .inr (0, [.int (nI 48), .ref cpp])), (cpp, .inl (cI, 3072, .inl (nF Cp)))]) [.int (nI (p9 % 64)), .int (nI (p9 / 64)), .int (nI (((s9 - 1) % 64) + 1)), .int (nI ((s9 - 1) / 64))] [] Bd ⟨gi_app (gi_c0 k_258 (gi_c0 k_259 (gi_c0 k_1 gi_nil))) (gi_tb0 k_260), rfl, by decide, by decide⟩ (show (parseMethodDescriptor "(IIII)Z").map (fun d => d.parameters.length) = some 4 by decide +kernel) (c_Scr_isInside (nI (p9 % 64)) (nI (p9 / 64)) (nI (((s9 - 1) % 64) + 1)) (nI ((s9 - 1) / 64)) ) (by decide +kernel) ⟨Nat.le_of_ble_eq_true rfl, Nat.le_of_ble_eq_true rfl⟩ hG hP hD hS hA [] [0, 1, 2, 3, 4] [0, 1, 2, 3, 4] (by decide) rfl rfl (fun _ => rfl) hl.1 rfl (Nat.le_of_ble_eq_true rfl) d_Scr_blit_49 (fun r1 u3 H locs hp2 hP hD hS => ?_)
    have hP : va_P D classes [(ts, .inr (8, [.ref dr, .ref cl, .ref cp, .ref vs, .int (nI num)])), (dr, .inr (0, [.int (nI 48), .ref drp])), (drp, .inl (cI, 3072, .inl (nF Dr))), (cp, .inr (0, [.int (nI 48), .ref cpp])), (cpp, .inl (cI, 3072, .inl (nF Cp)))] H := hP
    have hD : va_D AA [(ts, .inr (8, [.ref dr, .ref cl, .ref cp, .ref vs, .int (nI num)])), (dr, .inr (0, [.int (nI 48), .ref drp])), (drp, .inl (cI, 3072, .inl (nF Dr))), (cp, .inr (0, [.int (nI 48), .ref cpp])), (cpp, .inl (cI, 3072, .inl (nF Cp)))] := hD
    subst hp2
    refine nv_if_eq (tgt := 68) hx hb d_Scr_blit_52 (by decide) (bt_lt _) (fun c_52 => ?_) (fun c_52 => ?_)
    · exact absurd ⟨_, _, _, _, rfl, rfl, rfl, rfl, by omega, h2, h3, h4⟩ (cB_0 c_52)
    · refine lv_iload_n hx hb d_Scr_blit_55 rfl (lv_at hl 7 rfl) ?_
      refine lv_iload hx hb d_Scr_blit_56 (lv_at hl 8 rfl) ?_
      refine lv_iload hx hb d_Scr_blit_58 (lv_at hl 1 rfl) ?_
      refine lv_iload hx hb d_Scr_blit_60 (lv_at hl 0 rfl) ?_
      refine kS_i (wc := []) (wr := [(ts, .inr (8, [.ref dr, .ref cl, .ref cp, .ref vs, .int (nI num)])), (dr, .inr (0, [.int (nI 48), .ref drp])), (drp, .inl (cI, 3072, .inl (nF Dr))), (cp, .inr (0, [.int (nI 48), .ref cpp])), (cpp, .inl (cI, 3072, .inl (nF Cp)))]) (w2 := fun _ => [(ts, .inr (8, [.ref dr, .ref cl, .ref cp, .ref vs, .int (nI num)])), (dr, .inr (0, [.int (nI 48), .ref drp])), (drp, .inl (cI, 3072, .inl (nF Dr))), (cp, .inr (0, [.int (nI 48), .ref cpp])), (cpp, .inl (cI, 3072, .inl (nF Cp)))]) [.int (nI x), .int (nI y), .int (nI (((s9 - 1) % 64) + 1)), .int (nI ((s9 - 1) / 64))] [] Bd ⟨gi_app (gi_c0 k_258 (gi_c0 k_259 (gi_c0 k_1 gi_nil))) (gi_tb0 k_260), rfl, by decide, by decide⟩ (show (parseMethodDescriptor "(IIII)Z").map (fun d => d.parameters.length) = some 4 by decide +kernel) (c_Scr_isInside (nI x) (nI y) (nI (((s9 - 1) % 64) + 1)) (nI ((s9 - 1) / 64)) ) (by decide +kernel) ⟨Nat.le_of_ble_eq_true rfl, Nat.le_of_ble_eq_true rfl⟩ hG hP hD hS hA [] [0, 1, 2, 3, 4] [0, 1, 2, 3, 4] (by decide) rfl rfl (fun _ => rfl) hl.1 rfl (Nat.le_of_ble_eq_true rfl) d_Scr_blit_62 (fun r4 u6 H locs hp5 hP hD hS => ?_)
      have hP : va_P D classes [(ts, .inr (8, [.ref dr, .ref cl, .ref cp, .ref vs, .int (nI num)])), (dr, .inr (0, [.int (nI 48), .ref drp])), (drp, .inl (cI, 3072, .inl (nF Dr))), (cp, .inr (0, [.int (nI 48), .ref cpp])), (cpp, .inl (cI, 3072, .inl (nF Cp)))] H := hP
      have hD : va_D AA [(ts, .inr (8, [.ref dr, .ref cl, .ref cp, .ref vs, .int (nI num)])), (dr, .inr (0, [.int (nI 48), .ref drp])), (drp, .inl (cI, 3072, .inl (nF Dr))), (cp, .inr (0, [.int (nI 48), .ref cpp])), (cpp, .inl (cI, 3072, .inl (nF Cp)))] := hD
      subst hp5
      refine nv_if_ne (tgt := 70) hx hb d_Scr_blit_65 (by decide) (bt_lt _) (fun c_65 => ?_) (fun c_65 => ?_)
      · refine lv_aload_n hx hb d_Scr_blit_70 rfl (lv_at hl 4 rfl) ?_
        refine va_get (D := D) (ci := 8) (v := .ref cp) (C := "TileScreen") (T := F_Scr) (N := 5) hx hb htb i_Scr hown hG.1 hP 0 rfl rfl 2 (by decide) (htb _ k_240) (fun _ h9 => h9) rfl d_Scr_blit_71 ?_
        refine lv_aload_n hx hb d_Scr_blit_74 rfl (lv_at hl 4 rfl) ?_
        refine va_get (D := D) (ci := 8) (v := .ref dr) (C := "TileScreen") (T := F_Scr) (N := 5) hx hb htb i_Scr hown hG.1 hP 0 rfl rfl 0 (by decide) (htb _ k_238) (fun _ h9 => h9) rfl d_Scr_blit_75 ?_
        refine kV_v (wc := [(cp, .inr (0, [.int (nI 48), .ref cpp])), (cpp, .inl (cI, 3072, .inl (nF Cp))), (dr, .inr (0, [.int (nI 48), .ref drp])), (drp, .inl (cI, 3072, .inl (nF Dr)))]) (wr := [(ts, .inr (8, [.ref dr, .ref cl, .ref cp, .ref vs, .int (nI num)]))]) (w2 := fun _ => [(ts, .inr (8, [.ref dr, .ref cl, .ref cp, .ref vs, .int (nI num)])), (dr, .inr (0, [.int (nI 48), .ref drp])), (drp, .inl (cI, 3072, .inl (nF Dr))), (cp, .inr (0, [.int (nI 48), .ref cpp])), (cpp, .inl (cI, 3072, .inl (nF Dr)))]) [.ref dr] [] Bd ⟨gi_app (gi_c0 k_279 (gi_c0 k_280 (gi_c0 k_281 (gi_c0 k_2 gi_nil)))) (gi_tb0 k_282), rfl, by decide, by decide⟩ (show (parseMethodDescriptor "(LTileScreen$Tiles;)V").map (fun d => d.parameters.length) = some 1 by decide +kernel) (c_Tiles_takeAll cp cpp 48 3072 Cp dr drp 48 Dr (by decide)) (by decide +kernel) ⟨Nat.le_of_ble_eq_true rfl, Nat.le_of_ble_eq_true rfl⟩ hG hP hD hS hA [3, 4, 1, 2] [0] [0, 3, 4, 1, 2] (by decide) rfl rfl (fun _ => rfl) (q0 := 0) rfl rfl rfl hl.1 rfl (Nat.le_of_ble_eq_true rfl) d_Scr_blit_78 (fun u8 H locs hp7 hP hD hS => ?_)
        have hP : va_P D classes [(ts, .inr (8, [.ref dr, .ref cl, .ref cp, .ref vs, .int (nI num)])), (dr, .inr (0, [.int (nI 48), .ref drp])), (drp, .inl (cI, 3072, .inl (nF Dr))), (cp, .inr (0, [.int (nI 48), .ref cpp])), (cpp, .inl (cI, 3072, .inl (nF Dr)))] H := hP
        have hD : va_D AA [(ts, .inr (8, [.ref dr, .ref cl, .ref cp, .ref vs, .int (nI num)])), (dr, .inr (0, [.int (nI 48), .ref drp])), (drp, .inl (cI, 3072, .inl (nF Dr))), (cp, .inr (0, [.int (nI 48), .ref cpp])), (cpp, .inl (cI, 3072, .inl (nF Dr)))] := hD
        refine lv_iconst (v := nI 0) hx hb d_Scr_blit_81 (by decide) ?_
        refine lv_istore (lv' := [(9, .int (nI 0)), (8, .int (nI ((s9 - 1) / 64))), (7, .int (nI (((s9 - 1) % 64) + 1))), (6, .int (nI (p9 / 64))), (5, .int (nI (p9 % 64))), (0, .ref ts), (1, .int (nI p9)), (2, .int (nI s9)), (3, .int (nI x)), (4, .int (nI y))]) hx hb d_Scr_blit_82 hl (by decide) rfl (fun ls hl => ?_)
        have lp_84 : ∀ (nn : Nat) (q : Nat) (hq : q ≤ ((s9 - 1) / 64)), ((s9 - 1) / 64) - q < nn → ∀ (H : Heap) (locs : List Loc) (ls : Array Slot), va_P D classes [(ts, .inr (8, [.ref dr, .ref cl, .ref cp, .ref vs, .int (nI num)])), (dr, .inr (0, [.int (nI 48), .ref drp])), (drp, .inl (cI, 3072, .inl (nF (rc2 Dr x y ((s9 - 1) % 64 + 1) (y + q) x (fun i j => Dr (ti (p9 % 64 + i) (p9 / 64 + j))))))), (cp, .inr (0, [.int (nI 48), .ref cpp])), (cpp, .inl (cI, 3072, .inl (nF Dr)))] H → va_D AA [(ts, .inr (8, [.ref dr, .ref cl, .ref cp, .ref vs, .int (nI num)])), (dr, .inr (0, [.int (nI 48), .ref drp])), (drp, .inl (cI, 3072, .inl (nF (rc2 Dr x y ((s9 - 1) % 64 + 1) (y + q) x (fun i j => Dr (ti (p9 % 64 + i) (p9 / 64 + j))))))), (cp, .inr (0, [.int (nI 48), .ref cpp])), (cpp, .inl (cI, 3072, .inl (nF Dr)))] → va_S AA sT.heap H locs → lv_has ls 12 [(9, .int (nI q)), (8, .int (nI ((s9 - 1) / 64))), (7, .int (nI (((s9 - 1) % 64) + 1))), (6, .int (nI (p9 / 64))), (5, .int (nI (p9 % 64))), (0, .ref ts), (1, .int (nI p9)), (2, .int (nI s9)), (3, .int (nI x)), (4, .int (nI y))] → W pr l ev ({ frames := 2, cells := 0, slots := 0, locals := 61 } : Room) sT mM aR bW mE cO H locs 0 0 QQ (F0 mM 84 ls []) := by
          intro nn
          induction nn with
          | zero => intro q hq hm; exact absurd hm (Nat.not_lt_zero _)
          | succ nn ih84 =>
            intro q hq hm H locs ls hP hD hS hl
            refine lv_iload hx hb d_Scr_blit_84 (lv_at hl 0 rfl) ?_
            refine lv_iload hx hb d_Scr_blit_86 (lv_at hl 1 rfl) ?_
            refine nv_icmp_ge (tgt := 165) hx hb d_Scr_blit_88 (by decide) (by omega) (by omega) (fun c_88 => ?_) (fun c_88 => ?_)
            · refine lv_iconst (v := nI 1) hx hb d_Scr_blit_165 (by decide) ?_
              obtain rfl : q = ((s9 - 1) / 64) := by omega
              rw [rcF_of] at hP hD
              exact hret _ () _ _ _ _ d_Scr_blit_166 (by first | rfl | decide) (rfl) hP hD hS
            · refine lv_iconst (v := nI 0) hx hb d_Scr_blit_91 (by decide) ?_
              refine lv_istore (lv' := [(10, .int (nI 0)), (9, .int (nI q)), (8, .int (nI ((s9 - 1) / 64))), (7, .int (nI (((s9 - 1) % 64) + 1))), (6, .int (nI (p9 / 64))), (5, .int (nI (p9 % 64))), (0, .ref ts), (1, .int (nI p9)), (2, .int (nI s9)), (3, .int (nI x)), (4, .int (nI y))]) hx hb d_Scr_blit_92 hl (by decide) rfl (fun ls hl => ?_)
              have lp_94 : ∀ (nn : Nat) (cc : Nat) (hc : cc ≤ ((s9 - 1) % 64 + 1)), ((s9 - 1) % 64 + 1) - cc < nn → ∀ (H : Heap) (locs : List Loc) (ls : Array Slot), va_P D classes [(ts, .inr (8, [.ref dr, .ref cl, .ref cp, .ref vs, .int (nI num)])), (dr, .inr (0, [.int (nI 48), .ref drp])), (drp, .inl (cI, 3072, .inl (nF (rc2 Dr x y ((s9 - 1) % 64 + 1) (y + q) (x + cc) (fun i j => Dr (ti (p9 % 64 + i) (p9 / 64 + j))))))), (cp, .inr (0, [.int (nI 48), .ref cpp])), (cpp, .inl (cI, 3072, .inl (nF Dr)))] H → va_D AA [(ts, .inr (8, [.ref dr, .ref cl, .ref cp, .ref vs, .int (nI num)])), (dr, .inr (0, [.int (nI 48), .ref drp])), (drp, .inl (cI, 3072, .inl (nF (rc2 Dr x y ((s9 - 1) % 64 + 1) (y + q) (x + cc) (fun i j => Dr (ti (p9 % 64 + i) (p9 / 64 + j))))))), (cp, .inr (0, [.int (nI 48), .ref cpp])), (cpp, .inl (cI, 3072, .inl (nF Dr)))] → va_S AA sT.heap H locs → lv_has ls 12 [(10, .int (nI cc)), (9, .int (nI q)), (8, .int (nI ((s9 - 1) / 64))), (7, .int (nI (((s9 - 1) % 64) + 1))), (6, .int (nI (p9 / 64))), (5, .int (nI (p9 % 64))), (0, .ref ts), (1, .int (nI p9)), (2, .int (nI s9)), (3, .int (nI x)), (4, .int (nI y))] → W pr l ev ({ frames := 2, cells := 0, slots := 0, locals := 61 } : Room) sT mM aR bW mE cO H locs 0 0 QQ (F0 mM 94 ls []) := by
                intro nn
                induction nn with
                | zero => intro cc hc hm; exact absurd hm (Nat.not_lt_zero _)
                | succ nn ih94 =>
                  intro cc hc hm H locs ls hP hD hS hl
                  refine lv_iload hx hb d_Scr_blit_94 (lv_at hl 0 rfl) ?_
                  refine lv_iload hx hb d_Scr_blit_96 (lv_at hl 3 rfl) ?_
                  refine nv_icmp_ge (tgt := 159) hx hb d_Scr_blit_98 (by decide) (by omega) (by omega) (fun c_98 => ?_) (fun c_98 => ?_)
                  · obtain rfl : cc = ((s9 - 1) % 64 + 1) := by omega
                    rw [rc2_r (show y ≤ y + q by omega)] at hP hD
                    refine lv_iinc (v := (nI (q + 1))) (lv' := [(9, .int (nI (q + 1))), (10, .int (nI ((s9 - 1) % 64 + 1))), (8, .int (nI ((s9 - 1) / 64))), (7, .int (nI (((s9 - 1) % 64) + 1))), (6, .int (nI (p9 / 64))), (5, .int (nI (p9 % 64))), (0, .ref ts), (1, .int (nI p9)), (2, .int (nI s9)), (3, .int (nI x)), (4, .int (nI y))]) hx hb d_Scr_blit_159 hl (k := 1) rfl (nI_add q 1) (by decide) rfl (fun ls hl => ?_)
                    refine lv_goto (tgt := 84) hx hb d_Scr_blit_162 (by decide) ?_
                    exact ih84 (q + 1) (by omega) (by omega) _ _ _ hP hD hS (lv_sub hl [0, 2, 3, 4, 5, 6, 7, 8, 9, 10] rfl)
                  · refine lv_aload_n hx hb d_Scr_blit_101 rfl (lv_at hl 6 rfl) ?_
                    refine va_get (D := D) (ci := 8) (v := .ref cp) (C := "TileScreen") (T := F_Scr) (N := 5) hx hb htb i_Scr hown hG.1 hP 0 rfl rfl 2 (by decide) (htb _ k_240) (fun _ h9 => h9) rfl d_Scr_blit_102 ?_
                    refine lv_iload hx hb d_Scr_blit_105 (lv_at hl 5 rfl) ?_
                    refine lv_iload hx hb d_Scr_blit_107 (lv_at hl 0 rfl) ?_
                    refine nv_iadd hx hb d_Scr_blit_109 ?_
                    refine lv_iload hx hb d_Scr_blit_110 (lv_at hl 4 rfl) ?_
                    refine lv_iload hx hb d_Scr_blit_112 (lv_at hl 1 rfl) ?_
                    refine nv_iadd hx hb d_Scr_blit_114 ?_
                    refine kS_i (wc := [(cp, .inr (0, [.int (nI 48), .ref cpp])), (cpp, .inl (cI, 3072, .inl (nF Dr)))]) (wr := [(ts, .inr (8, [.ref dr, .ref cl, .ref cp, .ref vs, .int (nI num)])), (dr, .inr (0, [.int (nI 48), .ref drp])), (drp, .inl (cI, 3072, .inl (nF (rc2 Dr x y ((s9 - 1) % 64 + 1) (y + q) (x + cc) (fun i j => Dr (ti (p9 % 64 + i) (p9 / 64 + j)))))))]) (w2 := fun _ => [(ts, .inr (8, [.ref dr, .ref cl, .ref cp, .ref vs, .int (nI num)])), (dr, .inr (0, [.int (nI 48), .ref drp])), (drp, .inl (cI, 3072, .inl (nF (rc2 Dr x y ((s9 - 1) % 64 + 1) (y + q) (x + cc) (fun i j => Dr (ti (p9 % 64 + i) (p9 / 64 + j))))))), (cp, .inr (0, [.int (nI 48), .ref cpp])), (cpp, .inl (cI, 3072, .inl (nF Dr)))]) [.ref cp, .int (nI (p9 % 64 + cc)), .int (nI (p9 / 64 + q))] [] Bd ⟨gi_app (gi_c0 k_286 (gi_c0 k_287 (gi_c0 k_1 gi_nil))) (gi_tb0 k_288), rfl, by decide, by decide⟩ (show (parseMethodDescriptor "(LTileScreen$Tiles;II)I").map (fun d => d.parameters.length) = some 3 by decide +kernel) (c_Scr_pixelAt cp cpp Dr (p9 % 64 + cc) (p9 / 64 + q) (by omega) (by omega)) (by decide +kernel) ⟨Nat.le_of_ble_eq_true rfl, Nat.le_of_ble_eq_true rfl⟩ hG hP hD hS hA [3, 4] [0, 1, 2] [0, 1, 2, 3, 4] (by decide) rfl rfl (fun _ => rfl) hl.1 rfl (Nat.le_of_ble_eq_true rfl) d_Scr_blit_115 (fun r11 u13 H locs hp12 hP hD hS => ?_)
                    have hP : va_P D classes [(ts, .inr (8, [.ref dr, .ref cl, .ref cp, .ref vs, .int (nI num)])), (dr, .inr (0, [.int (nI 48), .ref drp])), (drp, .inl (cI, 3072, .inl (nF (rc2 Dr x y ((s9 - 1) % 64 + 1) (y + q) (x + cc) (fun i j => Dr (ti (p9 % 64 + i) (p9 / 64 + j))))))), (cp, .inr (0, [.int (nI 48), .ref cpp])), (cpp, .inl (cI, 3072, .inl (nF Dr)))] H := hP
                    have hD : va_D AA [(ts, .inr (8, [.ref dr, .ref cl, .ref cp, .ref vs, .int (nI num)])), (dr, .inr (0, [.int (nI 48), .ref drp])), (drp, .inl (cI, 3072, .inl (nF (rc2 Dr x y ((s9 - 1) % 64 + 1) (y + q) (x + cc) (fun i j => Dr (ti (p9 % 64 + i) (p9 / 64 + j))))))), (cp, .inr (0, [.int (nI 48), .ref cpp])), (cpp, .inl (cI, 3072, .inl (nF Dr)))] := hD
                    subst hp12
                    refine lv_istore (lv' := [(11, .int (nI (Dr (((p9 / 64 + q) / 8 * 8 + (p9 % 64 + cc) / 8) * 64 + ((p9 / 64 + q) % 8 * 8 + (p9 % 64 + cc) % 8))))), (10, .int (nI cc)), (9, .int (nI q)), (8, .int (nI ((s9 - 1) / 64))), (7, .int (nI (((s9 - 1) % 64) + 1))), (6, .int (nI (p9 / 64))), (5, .int (nI (p9 % 64))), (0, .ref ts), (1, .int (nI p9)), (2, .int (nI s9)), (3, .int (nI x)), (4, .int (nI y))]) hx hb d_Scr_blit_118 hl (by decide) rfl (fun ls hl => ?_)
                    refine lv_aload_n hx hb d_Scr_blit_120 rfl (lv_at hl 7 rfl) ?_
                    refine va_get (D := D) (ci := 8) (v := .ref dr) (C := "TileScreen") (T := F_Scr) (N := 5) hx hb htb i_Scr hown hG.1 hP 0 rfl rfl 0 (by decide) (htb _ k_238) (fun _ h9 => h9) rfl d_Scr_blit_121 ?_
                    refine lv_iload_n hx hb d_Scr_blit_124 rfl (lv_at hl 10 rfl) ?_
                    refine lv_iload hx hb d_Scr_blit_125 (lv_at hl 1 rfl) ?_
                    refine nv_iadd hx hb d_Scr_blit_127 ?_
                    refine lv_iload hx hb d_Scr_blit_128 (lv_at hl 11 rfl) ?_
                    refine lv_iload hx hb d_Scr_blit_130 (lv_at hl 2 rfl) ?_
                    refine nv_iadd hx hb d_Scr_blit_132 ?_
                    refine kS_i (wc := []) (wr := [(ts, .inr (8, [.ref dr, .ref cl, .ref cp, .ref vs, .int (nI num)])), (dr, .inr (0, [.int (nI 48), .ref drp])), (drp, .inl (cI, 3072, .inl (nF (rc2 Dr x y ((s9 - 1) % 64 + 1) (y + q) (x + cc) (fun i j => Dr (ti (p9 % 64 + i) (p9 / 64 + j))))))), (cp, .inr (0, [.int (nI 48), .ref cpp])), (cpp, .inl (cI, 3072, .inl (nF Dr)))]) (w2 := fun _ => [(ts, .inr (8, [.ref dr, .ref cl, .ref cp, .ref vs, .int (nI num)])), (dr, .inr (0, [.int (nI 48), .ref drp])), (drp, .inl (cI, 3072, .inl (nF (rc2 Dr x y ((s9 - 1) % 64 + 1) (y + q) (x + cc) (fun i j => Dr (ti (p9 % 64 + i) (p9 / 64 + j))))))), (cp, .inr (0, [.int (nI 48), .ref cpp])), (cpp, .inl (cI, 3072, .inl (nF Dr)))]) [.int (nI (x + cc)), .int (nI (y + q))] [.ref dr] Bd ⟨gi_app (gi_c0 k_265 (gi_c0 k_266 (gi_c0 k_1 gi_nil))) (gi_tb0 k_267), rfl, by decide, by decide⟩ (show (parseMethodDescriptor "(II)I").map (fun d => d.parameters.length) = some 2 by decide +kernel) (c_Scr_tileOf (x + cc) (y + q) (by omega) (by omega)) (by decide +kernel) ⟨Nat.le_of_ble_eq_true rfl, Nat.le_of_ble_eq_true rfl⟩ hG hP hD hS hA [] [0, 1, 2, 3, 4] [0, 1, 2, 3, 4] (by decide) rfl rfl (fun _ => rfl) hl.1 rfl (Nat.le_of_ble_eq_true rfl) d_Scr_blit_133 (fun r14 u16 H locs hp15 hP hD hS => ?_)
                    have hP : va_P D classes [(ts, .inr (8, [.ref dr, .ref cl, .ref cp, .ref vs, .int (nI num)])), (dr, .inr (0, [.int (nI 48), .ref drp])), (drp, .inl (cI, 3072, .inl (nF (rc2 Dr x y ((s9 - 1) % 64 + 1) (y + q) (x + cc) (fun i j => Dr (ti (p9 % 64 + i) (p9 / 64 + j))))))), (cp, .inr (0, [.int (nI 48), .ref cpp])), (cpp, .inl (cI, 3072, .inl (nF Dr)))] H := hP
                    have hD : va_D AA [(ts, .inr (8, [.ref dr, .ref cl, .ref cp, .ref vs, .int (nI num)])), (dr, .inr (0, [.int (nI 48), .ref drp])), (drp, .inl (cI, 3072, .inl (nF (rc2 Dr x y ((s9 - 1) % 64 + 1) (y + q) (x + cc) (fun i j => Dr (ti (p9 % 64 + i) (p9 / 64 + j))))))), (cp, .inr (0, [.int (nI 48), .ref cpp])), (cpp, .inl (cI, 3072, .inl (nF Dr)))] := hD
                    subst hp15
                    refine lv_iload_n hx hb d_Scr_blit_136 rfl (lv_at hl 10 rfl) ?_
                    refine lv_iload hx hb d_Scr_blit_137 (lv_at hl 1 rfl) ?_
                    refine nv_iadd hx hb d_Scr_blit_139 ?_
                    refine lv_iload hx hb d_Scr_blit_140 (lv_at hl 11 rfl) ?_
                    refine lv_iload hx hb d_Scr_blit_142 (lv_at hl 2 rfl) ?_
                    refine nv_iadd hx hb d_Scr_blit_144 ?_
                    refine kS_i (wc := []) (wr := [(ts, .inr (8, [.ref dr, .ref cl, .ref cp, .ref vs, .int (nI num)])), (dr, .inr (0, [.int (nI 48), .ref drp])), (drp, .inl (cI, 3072, .inl (nF (rc2 Dr x y ((s9 - 1) % 64 + 1) (y + q) (x + cc) (fun i j => Dr (ti (p9 % 64 + i) (p9 / 64 + j))))))), (cp, .inr (0, [.int (nI 48), .ref cpp])), (cpp, .inl (cI, 3072, .inl (nF Dr)))]) (w2 := fun _ => [(ts, .inr (8, [.ref dr, .ref cl, .ref cp, .ref vs, .int (nI num)])), (dr, .inr (0, [.int (nI 48), .ref drp])), (drp, .inl (cI, 3072, .inl (nF (rc2 Dr x y ((s9 - 1) % 64 + 1) (y + q) (x + cc) (fun i j => Dr (ti (p9 % 64 + i) (p9 / 64 + j))))))), (cp, .inr (0, [.int (nI 48), .ref cpp])), (cpp, .inl (cI, 3072, .inl (nF Dr)))]) [.int (nI (x + cc)), .int (nI (y + q))] [.int (nI ((y + q) / 8 * 8 + (x + cc) / 8)), .ref dr] Bd ⟨gi_app (gi_c0 k_268 (gi_c0 k_269 (gi_c0 k_1 gi_nil))) (gi_tb0 k_270), rfl, by decide, by decide⟩ (show (parseMethodDescriptor "(II)I").map (fun d => d.parameters.length) = some 2 by decide +kernel) (c_Scr_pixelOf (x + cc) (y + q) (by omega) (by omega)) (by decide +kernel) ⟨Nat.le_of_ble_eq_true rfl, Nat.le_of_ble_eq_true rfl⟩ hG hP hD hS hA [] [0, 1, 2, 3, 4] [0, 1, 2, 3, 4] (by decide) rfl rfl (fun _ => rfl) hl.1 rfl (Nat.le_of_ble_eq_true rfl) d_Scr_blit_145 (fun r17 u19 H locs hp18 hP hD hS => ?_)
                    have hP : va_P D classes [(ts, .inr (8, [.ref dr, .ref cl, .ref cp, .ref vs, .int (nI num)])), (dr, .inr (0, [.int (nI 48), .ref drp])), (drp, .inl (cI, 3072, .inl (nF (rc2 Dr x y ((s9 - 1) % 64 + 1) (y + q) (x + cc) (fun i j => Dr (ti (p9 % 64 + i) (p9 / 64 + j))))))), (cp, .inr (0, [.int (nI 48), .ref cpp])), (cpp, .inl (cI, 3072, .inl (nF Dr)))] H := hP
                    have hD : va_D AA [(ts, .inr (8, [.ref dr, .ref cl, .ref cp, .ref vs, .int (nI num)])), (dr, .inr (0, [.int (nI 48), .ref drp])), (drp, .inl (cI, 3072, .inl (nF (rc2 Dr x y ((s9 - 1) % 64 + 1) (y + q) (x + cc) (fun i j => Dr (ti (p9 % 64 + i) (p9 / 64 + j))))))), (cp, .inr (0, [.int (nI 48), .ref cpp])), (cpp, .inl (cI, 3072, .inl (nF Dr)))] := hD
                    subst hp18
                    refine lv_iload hx hb d_Scr_blit_148 (lv_at hl 0 rfl) ?_
                    refine kV_v (wc := [(dr, .inr (0, [.int (nI 48), .ref drp])), (drp, .inl (cI, 3072, .inl (nF (rc2 Dr x y ((s9 - 1) % 64 + 1) (y + q) (x + cc) (fun i j => Dr (ti (p9 % 64 + i) (p9 / 64 + j)))))))]) (wr := [(ts, .inr (8, [.ref dr, .ref cl, .ref cp, .ref vs, .int (nI num)])), (cp, .inr (0, [.int (nI 48), .ref cpp])), (cpp, .inl (cI, 3072, .inl (nF Dr)))]) (w2 := fun _ => [(ts, .inr (8, [.ref dr, .ref cl, .ref cp, .ref vs, .int (nI num)])), (dr, .inr (0, [.int (nI 48), .ref drp])), (drp, .inl (cI, 3072, .inl (nF (up (rc2 Dr x y ((s9 - 1) % 64 + 1) (y + q) (x + cc) (fun i j => Dr (ti (p9 % 64 + i) (p9 / 64 + j)))) (((y + q) / 8 * 8 + (x + cc) / 8) * 64 + ((y + q) % 8 * 8 + (x + cc) % 8)) (Dr (((p9 / 64 + q) / 8 * 8 + (p9 % 64 + cc) / 8) * 64 + ((p9 / 64 + q) % 8 * 8 + (p9 % 64 + cc) % 8))))))), (cp, .inr (0, [.int (nI 48), .ref cpp])), (cpp, .inl (cI, 3072, .inl (nF Dr)))]) [.int (nI ((y + q) / 8 * 8 + (x + cc) / 8)), .int (nI ((y + q) % 8 * 8 + (x + cc) % 8)), .int (nI (Dr (((p9 / 64 + q) / 8 * 8 + (p9 % 64 + cc) / 8) * 64 + ((p9 / 64 + q) % 8 * 8 + (p9 % 64 + cc) % 8))))] [] Bd ⟨gi_app (gi_c0 k_271 (gi_c0 k_272 (gi_c0 k_273 (gi_c0 k_2 gi_nil)))) (gi_tb0 k_274), rfl, by decide, by decide⟩ (show (parseMethodDescriptor "(III)V").map (fun d => d.parameters.length) = some 3 by decide +kernel) (c_Tiles_set dr drp 48 3072 (rc2 Dr x y ((s9 - 1) % 64 + 1) (y + q) (x + cc) (fun i j => Dr (ti (p9 % 64 + i) (p9 / 64 + j)))) ((y + q) / 8 * 8 + (x + cc) / 8) ((y + q) % 8 * 8 + (x + cc) % 8) (Dr (((p9 / 64 + q) / 8 * 8 + (p9 % 64 + cc) / 8) * 64 + ((p9 / 64 + q) % 8 * 8 + (p9 % 64 + cc) % 8))) (by omega) (by decide)) (by decide +kernel) ⟨Nat.le_of_ble_eq_true rfl, Nat.le_of_ble_eq_true rfl⟩ hG hP hD hS hA [1, 2] [0, 3, 4] [0, 3, 4, 1, 2] (by decide) rfl rfl (fun _ => rfl) (q0 := 0) rfl rfl rfl hl.1 rfl (Nat.le_of_ble_eq_true rfl) d_Scr_blit_150 (fun u21 H locs hp20 hP hD hS => ?_)
                    have hP : va_P D classes [(ts, .inr (8, [.ref dr, .ref cl, .ref cp, .ref vs, .int (nI num)])), (dr, .inr (0, [.int (nI 48), .ref drp])), (drp, .inl (cI, 3072, .inl (nF (up (rc2 Dr x y ((s9 - 1) % 64 + 1) (y + q) (x + cc) (fun i j => Dr (ti (p9 % 64 + i) (p9 / 64 + j)))) (((y + q) / 8 * 8 + (x + cc) / 8) * 64 + ((y + q) % 8 * 8 + (x + cc) % 8)) (Dr (((p9 / 64 + q) / 8 * 8 + (p9 % 64 + cc) / 8) * 64 + ((p9 / 64 + q) % 8 * 8 + (p9 % 64 + cc) % 8))))))), (cp, .inr (0, [.int (nI 48), .ref cpp])), (cpp, .inl (cI, 3072, .inl (nF Dr)))] H := hP
                    have hD : va_D AA [(ts, .inr (8, [.ref dr, .ref cl, .ref cp, .ref vs, .int (nI num)])), (dr, .inr (0, [.int (nI 48), .ref drp])), (drp, .inl (cI, 3072, .inl (nF (up (rc2 Dr x y ((s9 - 1) % 64 + 1) (y + q) (x + cc) (fun i j => Dr (ti (p9 % 64 + i) (p9 / 64 + j)))) (((y + q) / 8 * 8 + (x + cc) / 8) * 64 + ((y + q) % 8 * 8 + (x + cc) % 8)) (Dr (((p9 / 64 + q) / 8 * 8 + (p9 % 64 + cc) / 8) * 64 + ((p9 / 64 + q) % 8 * 8 + (p9 % 64 + cc) % 8))))))), (cp, .inr (0, [.int (nI 48), .ref cpp])), (cpp, .inl (cI, 3072, .inl (nF Dr)))] := hD
                    refine lv_iinc (v := (nI (cc + 1))) (lv' := [(10, .int (nI (cc + 1))), (11, .int (nI (Dr (((p9 / 64 + q) / 8 * 8 + (p9 % 64 + cc) / 8) * 64 + ((p9 / 64 + q) % 8 * 8 + (p9 % 64 + cc) % 8))))), (9, .int (nI q)), (8, .int (nI ((s9 - 1) / 64))), (7, .int (nI (((s9 - 1) % 64) + 1))), (6, .int (nI (p9 / 64))), (5, .int (nI (p9 % 64))), (0, .ref ts), (1, .int (nI p9)), (2, .int (nI s9)), (3, .int (nI x)), (4, .int (nI y))]) hx hb d_Scr_blit_153 hl (k := 1) rfl (nI_add cc 1) (by decide) rfl (fun ls hl => ?_)
                    refine lv_goto (tgt := 94) hx hb d_Scr_blit_156 (by decide) ?_
                    have hP : va_P D classes [(ts, .inr (8, [.ref dr, .ref cl, .ref cp, .ref vs, .int (nI num)])), (dr, .inr (0, [.int (nI 48), .ref drp])), (drp, .inl (cI, 3072, .inl (nF (up (rc2 Dr x y ((s9 - 1) % 64 + 1) (y + q) (x + cc) (fun i j => Dr (ti (p9 % 64 + i) (p9 / 64 + j)))) (ti (x + cc) (y + q)) (Dr (ti (p9 % 64 + cc) (p9 / 64 + q))))))), (cp, .inr (0, [.int (nI 48), .ref cpp])), (cpp, .inl (cI, 3072, .inl (nF Dr)))] H := hP
                    have hD : va_D AA [(ts, .inr (8, [.ref dr, .ref cl, .ref cp, .ref vs, .int (nI num)])), (dr, .inr (0, [.int (nI 48), .ref drp])), (drp, .inl (cI, 3072, .inl (nF (up (rc2 Dr x y ((s9 - 1) % 64 + 1) (y + q) (x + cc) (fun i j => Dr (ti (p9 % 64 + i) (p9 / 64 + j)))) (ti (x + cc) (y + q)) (Dr (ti (p9 % 64 + cc) (p9 / 64 + q))))))), (cp, .inr (0, [.int (nI 48), .ref cpp])), (cpp, .inl (cI, 3072, .inl (nF Dr)))] := hD
                    have e9 := rc2_s (D9 := Dr) (x := x) (y := y) (w := ((s9 - 1) % 64 + 1)) (r := y + q) (c := x + cc) (G := (fun i j => Dr (ti (p9 % 64 + i) (p9 / 64 + j)))) (by omega) (by omega) (by omega) (by omega)
                    rw [Nat.add_sub_cancel_left, Nat.add_sub_cancel_left] at e9
                    rw [e9] at hP hD
                    exact ih94 (cc + 1) (by omega) (by omega) _ _ _ hP hD hS (lv_sub hl [0, 2, 3, 4, 5, 6, 7, 8, 9, 10, 11] rfl)
              exact lp_94 _ 0 (Nat.zero_le _) (Nat.lt_succ_self _) _ _ _ hP hD hS (lv_sub hl [0, 1, 2, 3, 4, 5, 6, 7, 8, 9, 10] rfl)
        have hP : va_P D classes [(ts, .inr (8, [.ref dr, .ref cl, .ref cp, .ref vs, .int (nI num)])), (dr, .inr (0, [.int (nI 48), .ref drp])), (drp, .inl (cI, 3072, .inl (nF (rc2 Dr x y ((s9 - 1) % 64 + 1) y x (fun i j => Dr (ti (p9 % 64 + i) (p9 / 64 + j))))))), (cp, .inr (0, [.int (nI 48), .ref cpp])), (cpp, .inl (cI, 3072, .inl (nF Dr)))] H := by rw [rc2_0]; exact hP
        have hD : va_D AA [(ts, .inr (8, [.ref dr, .ref cl, .ref cp, .ref vs, .int (nI num)])), (dr, .inr (0, [.int (nI 48), .ref drp])), (drp, .inl (cI, 3072, .inl (nF (rc2 Dr x y ((s9 - 1) % 64 + 1) y x (fun i j => Dr (ti (p9 % 64 + i) (p9 / 64 + j))))))), (cp, .inr (0, [.int (nI 48), .ref cpp])), (cpp, .inl (cI, 3072, .inl (nF Dr)))] := by rw [rc2_0]; exact hD
        exact lp_84 _ 0 (Nat.zero_le _) (Nat.lt_succ_self _) _ _ _ hP hD hS (lv_sub hl [0, 1, 2, 3, 4, 5, 6, 7, 8, 9] rfl)
      · exact absurd ⟨x, y, _, _, rfl, rfl, rfl, rfl, by omega, h2, h5, h6⟩ (cB_0 c_65)
  · omega
set_option maxHeartbeats 400000 in
set_option maxRecDepth 100000 in
theorem c_Scr_blit_no (ts : Nat) (dr : Nat) (cl : Nat) (cp : Nat) (vs : Nat) (num : Nat) (pl9 : Int32) (sz9 : Int32) (x : Int32) (y : Int32) (hno : ¬ blP pl9 sz9 x y) : CI (S := Unit) l classes NW D (TYS cI cZ cL cV) y_Scr_blit (.code y_Scr_blit b_Scr_blit 12 (some .boolean) :: TB) { frames := 1, cells := 0, slots := 0, locals := 23 } [.ref ts, .int pl9, .int sz9, .int x, .int y] [(ts, .inr (8, [.ref dr, .ref cl, .ref cp, .ref vs, .int (nI num)]))] (fun r u => r = nI 0) (fun u => [(ts, .inr (8, [.ref dr, .ref cl, .ref cp, .ref vs, .int (nI num)]))]) := by
  refine CI.of (by decide) (Nat.le_of_ble_eq_true rfl) ?_
  intro pr ev sT mM aR bW mE cO AA QQ ls Bd hG hA hP hD hS hl hret
  have Bd : bd pr cO b_Scr_blit 12 sT aR TB "TileScreen" mM := Bd
  obtain ⟨hx, hb, hml, hown, htb⟩ := id Bd
  have hl : lv_has ls 12 [(0, .ref ts), (1, .int pl9), (2, .int sz9), (3, .int x), (4, .int y)] := hl
  refine lv_iload_n hx hb d_Scr_blit_0 rfl (lv_at hl 1 rfl) ?_
  refine lv_if_lt (tgt := 9) hx hb d_Scr_blit_1 (by decide) (fun c_1 => ?_) (fun c_1 => ?_)
  · refine lv_iconst (v := nI 0) hx hb d_Scr_blit_9 (by decide) ?_
    exact hret _ () _ _ _ _ d_Scr_blit_10 (by first | rfl | decide) (rfl) hP hD hS
  · refine lv_iload_n hx hb d_Scr_blit_4 rfl (lv_at hl 2 rfl) ?_
    refine lv_iconst (v := nI 1) hx hb d_Scr_blit_5 (by decide) ?_
    refine lv_icmp_ge (tgt := 11) hx hb d_Scr_blit_6 (by decide) (fun c_6 => ?_) (fun c_6 => ?_)
    · obtain ⟨p9, hp, rfl⟩ := nI_of c_1
      obtain ⟨s9, hs2, rfl⟩ := nI_of (fun q => absurd (Int32.lt_of_lt_of_le q (by decide)) (fun z => absurd c_6 (Int32.not_le.mpr z)) : ¬ sz9 < 0)
      have hs1 : 1 ≤ s9 := nle (by decide) hs2 c_6
      refine lv_iload_n hx hb d_Scr_blit_11 rfl (lv_at hl 1 rfl) ?_
      refine lv_bipush (v := nI 64) hx hb d_Scr_blit_12 (by decide) ?_
      refine nv_irem hx hb (by omega) (by omega) (by omega) d_Scr_blit_14 ?_
      refine lv_istore (lv' := [(5, .int (nI (p9 % 64))), (0, .ref ts), (1, .int (nI p9)), (2, .int (nI s9)), (3, .int x), (4, .int y)]) hx hb d_Scr_blit_15 hl (by decide) rfl (fun ls hl => ?_)
      refine lv_iload_n hx hb d_Scr_blit_17 rfl (lv_at hl 2 rfl) ?_
      refine lv_bipush (v := nI 64) hx hb d_Scr_blit_18 (by decide) ?_
      refine nv_idiv hx hb (by omega) (by omega) (by omega) d_Scr_blit_20 ?_
      refine lv_istore (lv' := [(6, .int (nI (p9 / 64))), (5, .int (nI (p9 % 64))), (0, .ref ts), (1, .int (nI p9)), (2, .int (nI s9)), (3, .int x), (4, .int y)]) hx hb d_Scr_blit_21 hl (by decide) rfl (fun ls hl => ?_)
      refine lv_iload_n hx hb d_Scr_blit_23 rfl (lv_at hl 4 rfl) ?_
      refine lv_iconst (v := nI 1) hx hb d_Scr_blit_24 (by decide) ?_
      refine nv_isub hx hb (by omega) d_Scr_blit_25 ?_
      refine lv_bipush (v := nI 64) hx hb d_Scr_blit_26 (by decide) ?_
      refine nv_irem hx hb (by omega) (by omega) (by omega) d_Scr_blit_28 ?_
      refine lv_iconst (v := nI 1) hx hb d_Scr_blit_29 (by decide) ?_
      refine nv_iadd hx hb d_Scr_blit_30 ?_
      refine lv_istore (lv' := [(7, .int (nI (((s9 - 1) % 64) + 1))), (6, .int (nI (p9 / 64))), (5, .int (nI (p9 % 64))), (0, .ref ts), (1, .int (nI p9)), (2, .int (nI s9)), (3, .int x), (4, .int y)]) hx hb d_Scr_blit_31 hl (by decide) rfl (fun ls hl => ?_)
      refine lv_iload_n hx hb d_Scr_blit_33 rfl (lv_at hl 5 rfl) ?_
      refine lv_iconst (v := nI 1) hx hb d_Scr_blit_34 (by decide) ?_
      refine nv_isub hx hb (by omega) d_Scr_blit_35 ?_
      refine lv_bipush (v := nI 64) hx hb d_Scr_blit_36 (by decide) ?_
      refine nv_idiv hx hb (by omega) (by omega) (by omega) d_Scr_blit_38 ?_
      refine lv_istore (lv' := [(8, .int (nI ((s9 - 1) / 64))), (7, .int (nI (((s9 - 1) % 64) + 1))), (6, .int (nI (p9 / 64))), (5, .int (nI (p9 % 64))), (0, .ref ts), (1, .int (nI p9)), (2, .int (nI s9)), (3, .int x), (4, .int y)]) hx hb d_Scr_blit_39 hl (by decide) rfl (fun ls hl => ?_)
      refine lv_iload hx hb d_Scr_blit_41 (lv_at hl 3 rfl) ?_
      refine lv_iload hx hb d_Scr_blit_43 (lv_at hl 2 rfl) ?_
      refine lv_iload hx hb d_Scr_blit_45 (lv_at hl 1 rfl) ?_
      refine lv_iload hx hb d_Scr_blit_47 (lv_at hl 0 rfl) ?_
      refine kS_i (wc := []) (wr := [(ts, .inr (8, [.ref dr, .ref cl, .ref cp, .ref vs, .int (nI num)]))]) (w2 := fun _ => [(ts, .inr (8, [.ref dr, .ref cl, .ref cp, .ref vs, .int (nI num)]))]) [.int (nI (p9 % 64)), .int (nI (p9 / 64)), .int (nI (((s9 - 1) % 64) + 1)), .int (nI ((s9 - 1) / 64))] [] Bd ⟨gi_app (gi_c0 k_258 (gi_c0 k_259 (gi_c0 k_1 gi_nil))) (gi_tb0 k_260), rfl, by decide, by decide⟩ (show (parseMethodDescriptor "(IIII)Z").map (fun d => d.parameters.length) = some 4 by decide +kernel) (c_Scr_isInside (nI (p9 % 64)) (nI (p9 / 64)) (nI (((s9 - 1) % 64) + 1)) (nI ((s9 - 1) / 64)) ) (by decide +kernel) ⟨Nat.le_of_ble_eq_true rfl, Nat.le_of_ble_eq_true rfl⟩ hG hP hD hS hA [] [0] [0] (by decide) rfl rfl (fun _ => rfl) hl.1 rfl (Nat.le_of_ble_eq_true rfl) d_Scr_blit_49 (fun r1 u3 H locs hp2 hP hD hS => ?_)
      have hP : va_P D classes [(ts, .inr (8, [.ref dr, .ref cl, .ref cp, .ref vs, .int (nI num)]))] H := hP
      have hD : va_D AA [(ts, .inr (8, [.ref dr, .ref cl, .ref cp, .ref vs, .int (nI num)]))] := hD
      subst hp2
      refine nv_if_eq (tgt := 68) hx hb d_Scr_blit_52 (by decide) (bt_lt _) (fun c_52 => ?_) (fun c_52 => ?_)
      · refine lv_iconst (v := nI 0) hx hb d_Scr_blit_68 (by decide) ?_
        exact hret _ () _ _ _ _ d_Scr_blit_69 (by first | rfl | decide) (rfl) hP hD hS
      · refine lv_iload_n hx hb d_Scr_blit_55 rfl (lv_at hl 7 rfl) ?_
        refine lv_iload hx hb d_Scr_blit_56 (lv_at hl 8 rfl) ?_
        refine lv_iload hx hb d_Scr_blit_58 (lv_at hl 1 rfl) ?_
        refine lv_iload hx hb d_Scr_blit_60 (lv_at hl 0 rfl) ?_
        refine kS_i (wc := []) (wr := [(ts, .inr (8, [.ref dr, .ref cl, .ref cp, .ref vs, .int (nI num)]))]) (w2 := fun _ => [(ts, .inr (8, [.ref dr, .ref cl, .ref cp, .ref vs, .int (nI num)]))]) [.int x, .int y, .int (nI (((s9 - 1) % 64) + 1)), .int (nI ((s9 - 1) / 64))] [] Bd ⟨gi_app (gi_c0 k_258 (gi_c0 k_259 (gi_c0 k_1 gi_nil))) (gi_tb0 k_260), rfl, by decide, by decide⟩ (show (parseMethodDescriptor "(IIII)Z").map (fun d => d.parameters.length) = some 4 by decide +kernel) (c_Scr_isInside x y (nI (((s9 - 1) % 64) + 1)) (nI ((s9 - 1) / 64)) ) (by decide +kernel) ⟨Nat.le_of_ble_eq_true rfl, Nat.le_of_ble_eq_true rfl⟩ hG hP hD hS hA [] [0] [0] (by decide) rfl rfl (fun _ => rfl) hl.1 rfl (Nat.le_of_ble_eq_true rfl) d_Scr_blit_62 (fun r4 u6 H locs hp5 hP hD hS => ?_)
        have hP : va_P D classes [(ts, .inr (8, [.ref dr, .ref cl, .ref cp, .ref vs, .int (nI num)]))] H := hP
        have hD : va_D AA [(ts, .inr (8, [.ref dr, .ref cl, .ref cp, .ref vs, .int (nI num)]))] := hD
        subst hp5
        refine nv_if_ne (tgt := 70) hx hb d_Scr_blit_65 (by decide) (bt_lt _) (fun c_65 => ?_) (fun c_65 => ?_)
        · exact absurd ⟨p9, s9, hp, hs1, hs2, rfl, rfl, cB_1 c_52, cB_1 c_65⟩ hno
        · refine lv_iconst (v := nI 0) hx hb d_Scr_blit_68 (by decide) ?_
          exact hret _ () _ _ _ _ d_Scr_blit_69 (by first | rfl | decide) (rfl) hP hD hS
    · refine lv_iconst (v := nI 0) hx hb d_Scr_blit_9 (by decide) ?_
      exact hret _ () _ _ _ _ d_Scr_blit_10 (by first | rfl | decide) (rfl) hP hD hS
end
