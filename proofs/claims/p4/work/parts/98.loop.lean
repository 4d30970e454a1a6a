section
variable {l : Launch} {D : va_G} {cI cZ cL cV : ClassId}
theorem ge_head {L i : Nat} (hL : L ≤ 3072) (hi : i ≤ 600) (h : ¬ Int32.ofNat L - nI 6 < nI (6 * i)) : 6 * i + 6 ≤ L := by
  rcases (show 6 ≤ L ∨ L = 0 ∨ L = 1 ∨ L = 2 ∨ L = 3 ∨ L = 4 ∨ L = 5 by omega) with q | rfl | rfl | rfl | rfl | rfl | rfl
  · have e1 : Int32.ofNat L - nI 6 = nI (L - 6) := pk_sub q
    rw [e1] at h
    have := Nat.le_of_not_lt fun z => h ((nI_ltI (by omega) (by omega)).mpr z)
    omega
  all_goals exact absurd (Int32.lt_of_lt_of_le (by decide) (nI_pos' (show 6 * i < 2 ^ 31 by omega))) h
theorem and15 (x : Int32) : ∃ j, j < 16 ∧ x &&& nI 15 = nI j := ⟨_, Nat.mod_lt _ (by decide), pk_and x 4 (by decide)⟩
theorem reP_one {x y : Int32} (h : reP x y (nI 1) (nI 1)) : ∃ a b : Nat, a < 64 ∧ b < 48 ∧ x = nI a ∧ y = nI b := by
  obtain ⟨a, b, c, d, e1, e2, e3, e4, h1, h2, h3, h4⟩ := h
  exact ⟨a, b, by omega, by omega, e1, e2⟩
theorem blP_nums {p9 s9 : Nat} {x y : Int32} (hp : p9 < 2 ^ 31) (hs1 : 1 ≤ s9) (hs2 : s9 < 2 ^ 31) (r1 : reP (nI (p9 % 64)) (nI (p9 / 64)) (nI ((s9 - 1) % 64 + 1)) (nI ((s9 - 1) / 64))) (r2 : reP x y (nI ((s9 - 1) % 64 + 1)) (nI ((s9 - 1) / 64))) :
    ∃ a b : Nat, 1 ≤ (s9 - 1) / 64 ∧ p9 % 64 + ((s9 - 1) % 64 + 1) ≤ 64 ∧ p9 / 64 + (s9 - 1) / 64 ≤ 48 ∧ a + ((s9 - 1) % 64 + 1) ≤ 64 ∧ b + (s9 - 1) / 64 ≤ 48 ∧ x = nI a ∧ y = nI b := by
  obtain ⟨a1, b1, c1, d1, e1, e2, e3, e4, g1, g2, g3, g4⟩ := r1
  obtain ⟨a2, b2, c2, d2, k1, k2, k3, k4, m1, m2, m3, m4⟩ := r2
  have f1 := neq (by omega) (by omega) e1
  have f2 := neq (by omega) (by omega) e2
  have f3 := neq (by omega) (by omega) e3
  have f4 := neq (by omega) (by omega) e4
  have f5 := neq (by omega) (by omega) k3
  have f6 := neq (by omega) (by omega) k4
  exact ⟨a2, b2, by omega, by omega, by omega, by omega, by omega, k1, k2⟩
set_option maxHeartbeats 8000000 in
set_option maxRecDepth 100000 in
theorem law_head9 {p : Program} {l : Launch} {e : Env} {s : State} {m : MethodId} {below : List Frame} {meth : Method} {c : Code} {D : va_G} {cI cZ cL cV : ClassId} {b L : Nat} {xs : Nat → Int32} {H : Heap} {locs : List Loc} {ls : Array Slot} (ba : Nat → Nat) (A : Nat → Nat → Nat) (vf : Nat → Option Nat) (ma : Nat → Nat) (ou : Nat) (X : CS) (Y : MS) (f : Nat → Int64) (i : Nat) (hL : L ≤ 3072) (C0 : lw_At p s m meth c b L xs) (hst : l.stackTraces = false) (hXo : xOk (fun q : Nat => s.heap.size ≤ q) s s.heap) (hG : gk classes NW D (TYS cI cZ cL cV) s) (hvf9 : ∀ k, k < 3 → vf k = some (A k 0)) (hi9 : i ≤ 520) (hcX : cOk X) (hmY : mOk Y) (hnX : X.1 ≤ i) (hnb : Y.2.2.2 1 = nI X.1) (hP : va_P D classes (cW cI cV ba A vf X ++ (mW cI cZ ma Y ++ oW cL ou f)) H) (hD : va_D (fun q : Nat => s.heap.size ≤ q) (cW cI cV ba A vf X ++ (mW cI cZ ma Y ++ oW cL ou f))) (hS : va_S (fun q : Nat => s.heap.size ≤ q) s.heap H locs) (hl : lv_has ls 7 [(0, .ref b), (1, .ref (ba 0)), (2, .ref (ma 0)), (3, .ref ou), (4, .int (nI (6 * i)))]) (hN : 6 * i + 6 ≤ L → LN p l e s m below meth c D cI cZ cL cV b ba A vf ma ou i) : W p l e room_1 s m #[Value.ref b] below meth c H locs (106 + i) (155700 + 6 * i) (lw_Z below #[Value.ref b] s) (F0 m 23 ls []) := by
  obtain ⟨hx, hb, hr, hml, hown, hts, hX, hbl, hlocks, hgv⟩ := id C0
  have hbA : ¬ (fun q : Nat => s.heap.size ≤ q) b := Nat.not_le.mpr hbl
  refine lv_iload hx hb d_Law_law_23 (lv_at hl 4 rfl) ?_
  refine lv_aload_n hx hb d_Law_law_25 rfl (lv_at hl 0 rfl) ?_
  refine va_slen hx hb hX hbl hbA hS d_Law_law_26 ?_
  refine lv_bipush (v := nI 6) hx hb d_Law_law_27 (by decide) ?_
  refine lv_isub hx hb d_Law_law_29 ?_
  refine lv_icmp_gt (tgt := 675) hx hb d_Law_law_30 (by decide) (fun _ => ?_) (fun h9 => ?_)
  · refine lv_iconst (v := 1) hx hb d_Law_law_675 (by decide) ?_
    refine va_forget (fun q hq => hS.2.2 q hq) ?_
    refine W.widen (k := 601024) (n := 7293034) (by omega) (by omega) ?_
    exact lw_ret hx hb hr hlocks d_Law_law_676
  have hi : 6 * i + 6 ≤ L := ge_head hL (by omega) h9
  refine lv_aload_n hx hb d_Law_law_33 rfl (lv_at hl 0 rfl) ?_
  refine lv_iload hx hb d_Law_law_34 (lv_at hl 4 rfl) ?_
  refine va_sld hx hb hX hbl hbA hS (vp_in_nI (show 6 * i < L by omega) (by omega)) d_Law_law_36 ?_
  refine lv_bipush (v := nI 15) hx hb d_Law_law_37 (by decide) ?_
  refine lv_iand hx hb d_Law_law_39 ?_
  obtain ⟨j, hj, ej⟩ := and15 (xs (nI (6 * i)).toNatClampNeg)
  refine nv_top (y := nI j) ej ?_
  rcases (show j = 0 ∨ j = 1 ∨ j = 2 ∨ j = 3 ∨ j = 4 ∨ j = 5 ∨ j = 6 ∨ j = 7 ∨ j = 8 ∨ j = 9 ∨ j = 10 ∨ j = 11 ∨ j = 12 ∨ j = 13 ∨ j = 14 ∨ j = 15 by omega) with rfl | rfl | rfl | rfl | rfl | rfl | rfl | rfl | rfl | rfl | rfl | rfl | rfl | rfl | rfl | rfl
  · refine lv_tableIn (off := 72) (tgt := 112) hx hb d_Law_law_40 (by decide) (by decide) (by decide) (by decide) ?_
    by_cases hy : reP (xs (6 * i + 1)) (xs (6 * i + 2)) (xs (6 * i + 3)) (xs (6 * i + 4)) ∧ coP (xs (6 * i + 5))
    · obtain ⟨⟨x, y, w, h, e1, e2, e3, e4, h1, h2, h3, h4⟩, k, hk, e5⟩ := hy
      exact lf_fill ba A vf ma ou X Y f i x y w h k hL hi C0 hst hXo hG hvf9 hcX hmY hnX hnb e1 e2 e3 e4 e5 h1 h2 h3 h4 hk hP hD hS hl (hN hi)
    · exact lf_fillN ba A vf ma ou X Y f i  hL hi C0 hst hXo hG hvf9 hcX hmY hnX hnb hy hP hD hS hl (hN hi)
  · refine lv_tableIn (off := 145) (tgt := 185) hx hb d_Law_law_40 (by decide) (by decide) (by decide) (by decide) ?_
    by_cases hy : blP (xs (6 * i + 1)) (xs (6 * i + 2)) (xs (6 * i + 3)) (xs (6 * i + 4))
    · obtain ⟨p9, s9, hp, hs1, hs2, e1, e2, r1, r2⟩ := hy
      obtain ⟨x, y, h2, h3, h4, h5, h6, e3, e4⟩ := blP_nums hp hs1 hs2 r1 r2
      exact lf_blit ba A vf ma ou X Y f i p9 s9 x y hL hi C0 hst hXo hG hvf9 hcX hmY hnX hnb e1 e2 e3 e4 hp hs1 hs2 h2 h3 h4 h5 h6 hP hD hS hl (hN hi)
    · exact lf_blitN ba A vf ma ou X Y f i  hL hi C0 hst hXo hG hvf9 hcX hmY hnX hnb hy hP hD hS hl (hN hi)
  · refine lv_tableIn (off := 206) (tgt := 246) hx hb d_Law_law_40 (by decide) (by decide) (by decide) (by decide) ?_
    by_cases hy : (∃ a, a < 48 ∧ xs (6 * i + 1) = nI a) ∧ (∃ b, b < 8 ∧ xs (6 * i + 2) = nI b) ∧ coP (xs (6 * i + 3))
    · obtain ⟨⟨t, ht, e1⟩, ⟨r9, hr9, e2⟩, k, hk, e3⟩ := hy
      exact lf_shade ba A vf ma ou X Y f i t r9 k hL hi C0 hst hXo hG hvf9 hcX hmY hnX hnb e1 e2 e3 ht hr9 hk hP hD hS hl (hN hi)
    · exact lf_shadeN ba A vf ma ou X Y f i  hL hi C0 hst hXo hG hvf9 hcX hmY hnX hnb hy hP hD hS hl (hN hi)
  · refine lv_tableIn (off := 267) (tgt := 307) hx hb d_Law_law_40 (by decide) (by decide) (by decide) (by decide) ?_
    exact lf_frame ba A vf ma ou X Y f i  hL hi C0 hst hXo hG hvf9 hcX hmY hnX hnb  hP hD hS hl (hN hi)
  · refine lv_tableIn (off := 280) (tgt := 320) hx hb d_Law_law_40 (by decide) (by decide) (by decide) (by decide) ?_
    by_cases hy : vwP (xs (6 * i + 1))
    · obtain ⟨k, hk, e1⟩ := hy
      by_cases hc : (X.2.2 k).1 0 = 0
      · by_cases hcm : Y.2.1 10 k = 0
        · exact lf_join00 ba A vf ma ou X Y f i k hL hi C0 hst hXo hG hvf9 hcX hmY hnX hnb e1 hk hc hcm hP hD hS hl (hN hi)
        · exact lf_join01 ba A vf ma ou X Y f i k hL hi C0 hst hXo hG hvf9 hcX hmY hnX hnb e1 hk hc hcm hP hD hS hl (hN hi)
      · by_cases hcm : Y.2.1 10 k = 0
        · exact lf_join10 ba A vf ma ou X Y f i k hL hi C0 hst hXo hG hvf9 hcX hmY hnX hnb e1 hk hc hcm hP hD hS hl (hN hi)
        · exact lf_join11 ba A vf ma ou X Y f i k hL hi C0 hst hXo hG hvf9 hcX hmY hnX hnb e1 hk hc hcm hP hD hS hl (hN hi)
    · exact lf_joinN ba A vf ma ou X Y f i  hL hi C0 hst hXo hG hvf9 hcX hmY hnX hnb hy hP hD hS hl (hN hi)
  · refine lv_tableIn (off := 305) (tgt := 345) hx hb d_Law_law_40 (by decide) (by decide) (by decide) (by decide) ?_
    by_cases hy : vwP (xs (6 * i + 1))
    · obtain ⟨k, hk, e1⟩ := hy
      by_cases hc : (X.2.2 k).1 0 = 0
      · by_cases hcm : Y.2.1 10 k = 0
        · exact lf_cut00 ba A vf ma ou X Y f i k hL hi C0 hst hXo hG hvf9 hcX hmY hnX hnb e1 hk hc hcm hP hD hS hl (hN hi)
        · exact lf_cut01 ba A vf ma ou X Y f i k hL hi C0 hst hXo hG hvf9 hcX hmY hnX hnb e1 hk hc hcm hP hD hS hl (hN hi)
      · by_cases hcm : Y.2.1 10 k = 0
        · exact lf_cut10 ba A vf ma ou X Y f i k hL hi C0 hst hXo hG hvf9 hcX hmY hnX hnb e1 hk hc hcm hP hD hS hl (hN hi)
        · exact lf_cut11 ba A vf ma ou X Y f i k hL hi C0 hst hXo hG hvf9 hcX hmY hnX hnb e1 hk hc hcm hP hD hS hl (hN hi)
    · exact lf_cutN ba A vf ma ou X Y f i  hL hi C0 hst hXo hG hvf9 hcX hmY hnX hnb hy hP hD hS hl (hN hi)
  · refine lv_tableIn (off := 330) (tgt := 370) hx hb d_Law_law_40 (by decide) (by decide) (by decide) (by decide) ?_
    by_cases hy : vwP (xs (6 * i + 1)) ∧ ∃ q, 1 ≤ q ∧ q ≤ 1000000 ∧ xs (6 * i + 2) = nI q
    · obtain ⟨⟨k, hk, e1⟩, n, hn1, hn2, e2⟩ := hy
      by_cases hno : (X.2.2 k).1 0 ≠ 0 ∧ (X.2.2 k).1 1 + n ≤ 1000000
      · by_cases hnm : Y.2.1 10 k ≠ 0 ∧ Y.2.1 11 k + n ≤ 1000000
        · exact lf_creditVV ba A vf ma ou X Y f i k n hL hi C0 hst hXo hG hvf9 hcX hmY hnX hnb e1 e2 hk hn1 hn2 hno.1 hno.2 hnm.1 hnm.2 hP hD hS hl (hN hi)
        · exact lf_creditVS ba A vf ma ou X Y f i k n hL hi C0 hst hXo hG hvf9 hcX hmY hnX hnb e1 e2 hk hn1 hn2 hno.1 hno.2 hnm hP hD hS hl (hN hi)
      · by_cases hnm : Y.2.1 10 k ≠ 0 ∧ Y.2.1 11 k + n ≤ 1000000
        · exact lf_creditSV ba A vf ma ou X Y f i k n hL hi C0 hst hXo hG hvf9 hcX hmY hnX hnb e1 e2 hk hn1 hn2 hno hnm.1 hnm.2 hP hD hS hl (hN hi)
        · exact lf_creditSS ba A vf ma ou X Y f i k n hL hi C0 hst hXo hG hvf9 hcX hmY hnX hnb e1 e2 hk hn1 hn2 hno hnm hP hD hS hl (hN hi)
    · exact lf_creditA ba A vf ma ou X Y f i  hL hi C0 hst hXo hG hvf9 hcX hmY hnX hnb hy hP hD hS hl (hN hi)
  · refine lv_tableIn (off := 370) (tgt := 410) hx hb d_Law_law_40 (by decide) (by decide) (by decide) (by decide) ?_
    by_cases hy : vwP (xs (6 * i + 1))
    · obtain ⟨k, hk, e1⟩ := hy
      exact lf_pump ba A vf ma ou X Y f i k hL hi C0 hst hXo hG hvf9 hcX hmY hnX hnb e1 hk hP hD hS hl (hN hi)
    · exact lf_pumpN ba A vf ma ou X Y f i  hL hi C0 hst hXo hG hvf9 hcX hmY hnX hnb hy hP hD hS hl (hN hi)
  · refine lv_tableIn (off := 395) (tgt := 435) hx hb d_Law_law_40 (by decide) (by decide) (by decide) (by decide) ?_
    by_cases hy : vwP (xs (6 * i + 1)) ∧ ∃ q, 1 ≤ q ∧ q ≤ 10000 ∧ xs (6 * i + 2) = nI q
    · obtain ⟨⟨k, hk, e1⟩, n, hn1, hn2, e2⟩ := hy
      exact lf_poison ba A vf ma ou X Y f i k n hL hi C0 hst hXo hG hvf9 hcX hmY hnX hnb e1 hk e2 hn1 hn2 hP hD hS hl (hN hi)
    · exact lf_poisonN ba A vf ma ou X Y f i  hL hi C0 hst hXo hG hvf9 hcX hmY hnX hnb hy hP hD hS hl (hN hi)
  · refine lv_tableIn (off := 444) (tgt := 484) hx hb d_Law_law_40 (by decide) (by decide) (by decide) (by decide) ?_
    by_cases hy : vwP (xs (6 * i + 1))
    · obtain ⟨k, hk, e1⟩ := hy
      exact lf_shown ba A vf ma ou X Y f i k hL hi C0 hst hXo hG hvf9 hcX hmY hnX hnb e1 hk hP hD hS hl (hN hi)
    · exact lf_shownN ba A vf ma ou X Y f i  hL hi C0 hst hXo hG hvf9 hcX hmY hnX hnb hy hP hD hS hl (hN hi)
  · refine lv_tableIn (off := 469) (tgt := 509) hx hb d_Law_law_40 (by decide) (by decide) (by decide) (by decide) ?_
    by_cases hy : (xs (6 * i + 1) = -1 ∨ vwP (xs (6 * i + 1))) ∧ reP (xs (6 * i + 2)) (xs (6 * i + 3)) (nI 1) (nI 1)
    · obtain ⟨hv, r1⟩ := hy
      obtain ⟨x, y, hx1, hy1, e2, e3⟩ := reP_one r1
      rcases hv with e1 | ⟨k, hk, e1⟩
      · exact lf_atD ba A vf ma ou X Y f i x y hL hi C0 hst hXo hG hvf9 hcX hmY hnX hnb e1 e2 e3 hx1 hy1 hP hD hS hl (hN hi)
      · exact lf_atV ba A vf ma ou X Y f i k x y hL hi C0 hst hXo hG hvf9 hcX hmY hnX hnb e1 hk e2 e3 hx1 hy1 hP hD hS hl (hN hi)
    · exact lf_atN ba A vf ma ou X Y f i  hL hi C0 hst hXo hG hvf9 hcX hmY hnX hnb hy hP hD hS hl (hN hi)
  · refine lv_tableIn (off := 518) (tgt := 558) hx hb d_Law_law_40 (by decide) (by decide) (by decide) (by decide) ?_
    by_cases hy : vwP (xs (6 * i + 1))
    · obtain ⟨k, hk, e1⟩ := hy
      by_cases hz : ∃ j, j < 8 ∧ xs (6 * i + 2) = nI j
      · obtain ⟨j, hj8, e2⟩ := hz
        rcases (show j = 0 ∨ j = 1 ∨ j = 2 ∨ j = 3 ∨ j = 4 ∨ j = 5 ∨ j = 6 ∨ j = 7 by omega) with rfl | rfl | rfl | rfl | rfl | rfl | rfl | rfl
        · exact lf_about0 ba A vf ma ou X Y f i k hL hi C0 hst hXo hG hvf9 hcX hmY hnX hnb e1 hk e2 hP hD hS hl (hN hi)
        · exact lf_about1 ba A vf ma ou X Y f i k hL hi C0 hst hXo hG hvf9 hcX hmY hnX hnb e1 hk e2 hP hD hS hl (hN hi)
        · exact lf_about2 ba A vf ma ou X Y f i k hL hi C0 hst hXo hG hvf9 hcX hmY hnX hnb e1 hk e2 hP hD hS hl (hN hi)
        · exact lf_about3 ba A vf ma ou X Y f i k hL hi C0 hst hXo hG hvf9 hcX hmY hnX hnb e1 hk e2 hP hD hS hl (hN hi)
        · exact lf_about4 ba A vf ma ou X Y f i k hL hi C0 hst hXo hG hvf9 hcX hmY hnX hnb e1 hk e2 hP hD hS hl (hN hi)
        · exact lf_about5 ba A vf ma ou X Y f i k hL hi C0 hst hXo hG hvf9 hcX hmY hnX hnb e1 hk e2 hP hD hS hl (hN hi)
        · exact lf_about6 ba A vf ma ou X Y f i k hL hi C0 hst hXo hG hvf9 hcX hmY hnX hnb e1 hk e2 hP hD hS hl (hN hi)
        · exact lf_about7 ba A vf ma ou X Y f i k hL hi C0 hst hXo hG hvf9 hcX hmY hnX hnb e1 hk e2 hP hD hS hl (hN hi)
      · exact lf_aboutE ba A vf ma ou X Y f i k hL hi C0 hst hXo hG hvf9 hcX hmY hnX hnb e1 hk (fun j hj8 q9 => hz ⟨j, hj8, q9⟩) hP hD hS hl (hN hi)
    · exact lf_aboutN ba A vf ma ou X Y f i  hL hi C0 hst hXo hG hvf9 hcX hmY hnX hnb hy hP hD hS hl (hN hi)
  · refine lv_tableIn (off := 555) (tgt := 595) hx hb d_Law_law_40 (by decide) (by decide) (by decide) (by decide) ?_
    by_cases hy : vwP (xs (6 * i + 1)) ∧ ∃ j, j < 7 ∧ xs (6 * i + 2) = nI j
    · obtain ⟨⟨k, hk, e1⟩, q, hq, e2⟩ := hy
      exact lf_bytesBy ba A vf ma ou X Y f i k q hL hi C0 hst hXo hG hvf9 hcX hmY hnX hnb e1 hk e2 hq hP hD hS hl (hN hi)
    · exact lf_bytesByN ba A vf ma ou X Y f i  hL hi C0 hst hXo hG hvf9 hcX hmY hnX hnb hy hP hD hS hl (hN hi)
  · refine lv_tableIn (off := 592) (tgt := 632) hx hb d_Law_law_40 (by decide) (by decide) (by decide) (by decide) ?_
    by_cases hy : vwP (xs (6 * i + 1))
    · obtain ⟨k, hk, e1⟩ := hy
      exact lf_onLine ba A vf ma ou X Y f i k hL hi C0 hst hXo hG hvf9 hcX hmY hnX hnb e1 hk hP hD hS hl (hN hi)
    · exact lf_onLineN ba A vf ma ou X Y f i  hL hi C0 hst hXo hG hvf9 hcX hmY hnX hnb hy hP hD hS hl (hN hi)
  · refine lv_tableOut (tgt := 669) hx hb d_Law_law_40 (Or.inr (by decide)) (by decide) ?_
    refine W.widen (k := 106 + (i + 1)) (n := 155700 + 6 * (i + 1)) (by omega) (by omega) ?_
    exact hN hi X Y f H locs ls hcX hmY (by omega) hnb hP hD hS hl
  · refine lv_tableOut (tgt := 669) hx hb d_Law_law_40 (Or.inr (by decide)) (by decide) ?_
    refine W.widen (k := 106 + (i + 1)) (n := 155700 + 6 * (i + 1)) (by omega) (by omega) ?_
    exact hN hi X Y f H locs ls hcX hmY (by omega) hnb hP hD hS hl
set_option maxHeartbeats 4000000 in
theorem law_loop9 {p : Program} {l : Launch} {e : Env} {s : State} {m : MethodId} {below : List Frame} {meth : Method} {c : Code} {D : va_G} {cI cZ cL cV : ClassId} {b L : Nat} {xs : Nat → Int32} (ba : Nat → Nat) (A : Nat → Nat → Nat) (vf : Nat → Option Nat) (ma : Nat → Nat) (ou : Nat) (hL : L ≤ 3072) (C0 : lw_At p s m meth c b L xs) (hst : l.stackTraces = false) (hXo : xOk (fun q : Nat => s.heap.size ≤ q) s s.heap) (hG : gk classes NW D (TYS cI cZ cL cV) s) (hvf9 : ∀ k, k < 3 → vf k = some (A k 0)) : ∀ (n : Nat) (i : Nat) (X : CS) (Y : MS) (f : Nat → Int64) (H : Heap) (locs : List Loc) (ls : Array Slot), L < 6 * i + 6 * n → i ≤ 515 → cOk X → mOk Y → X.1 ≤ i → Y.2.2.2 1 = nI X.1 → va_P D classes (cW cI cV ba A vf X ++ (mW cI cZ ma Y ++ oW cL ou f)) H → va_D (fun q : Nat => s.heap.size ≤ q) (cW cI cV ba A vf X ++ (mW cI cZ ma Y ++ oW cL ou f)) → va_S (fun q : Nat => s.heap.size ≤ q) s.heap H locs → lv_has ls 7 [(0, .ref b), (1, .ref (ba 0)), (2, .ref (ma 0)), (3, .ref ou), (4, .int (nI (6 * i)))] → W p l e room_1 s m #[Value.ref b] below meth c H locs (106 + i) (155700 + 6 * i) (lw_Z below #[Value.ref b] s) (F0 m 23 ls []) := by
  obtain ⟨hx, hb, hr, hml, hown, hts, hX, hbl, hlocks, hgv⟩ := id C0
  intro n
  induction n with
  | zero =>
    intro i X Y f H locs ls hn hi9 hcX hmY hnX hnb hP hD hS hl
    exact law_head9 ba A vf ma ou X Y f i hL C0 hst hXo hG hvf9 (by omega) hcX hmY hnX hnb hP hD hS hl (fun h => absurd h (by omega))
  | succ n ih =>
    intro i X Y f H locs ls hn hi9 hcX hmY hnX hnb hP hD hS hl
    refine law_head9 ba A vf ma ou X Y f i hL C0 hst hXo hG hvf9 (by omega) hcX hmY hnX hnb hP hD hS hl (fun hi => ?_)
    intro X Y f H locs ls hcX hmY hnX hnb hP hD hS hl
    refine lv_iinc (v := nI (6 * (i + 1))) (lv' := [(4, .int (nI (6 * (i + 1)))), (0, .ref b), (1, .ref (ba 0)), (2, .ref (ma 0)), (3, .ref ou)]) hx hb d_Law_law_669 hl (k := 4) rfl (nI_add (6 * i) 6) (by decide) rfl (fun ls hl => ?_)
    refine lv_goto (tgt := 23) hx hb d_Law_law_672 (by decide) ?_
    exact ih (i + 1) X Y f H locs ls (by omega) (by omega) hcX hmY hnX hnb hP hD hS (lv_sub hl [1, 2, 3, 4, 0] rfl)
end
