section
variable {l : Launch} {D : va_G} {cI cZ cL cV : ClassId}
def mk8 (m : Int32) : Nat := m.toBitVec.toNat % 256
theorem mk8_eq (m : Int32) : m &&& nI 255 = nI (mk8 m) := pk_and m 8 (by decide)
theorem mk8_lt (m : Int32) : mk8 m < 256 := Nat.mod_lt _ (by decide)
def abF (j cn cr sz cz ep df : Nat) (sn : Int64) (pl : Nat) : Int32 := match j with
  | 0 => nI cn
  | 1 => nI cr
  | 2 => nI sz
  | 3 => nI cz
  | 4 => nI ep
  | 5 => nI df
  | 6 => sn.toInt32
  | _ => nI pl
theorem tb_out {x : Int32} (h : ∀ j, j < 8 → x ≠ nI j) : x.toInt < 0 ∨ 7 < x.toInt := by
  rcases (show x.toInt < 0 ∨ 0 ≤ x.toInt by omega) with q | q
  · exact Or.inl q
  · refine Or.inr (Int.not_le.mp fun g => ?_)
    obtain ⟨j, hj, e⟩ := nI_of (x := x) (fun z => by rw [Int32.lt_iff_toInt_lt, Int32.toInt_zero] at z; omega)
    rw [e, nI_toInt hj] at g
    exact h j (by omega) e
set_option maxHeartbeats 400000 in
set_option maxRecDepth 100000 in
theorem c_Scr_join (ts : Nat) (dr : Nat) (cl : Nat) (cp : Nat) (vs : Nat) (num : Nat) (vf : Nat → Option Nat) (k : Nat) (vw : Nat) (fd : Nat) (ds : Nat) (po : Nat) (cr : Nat) (ep : Nat) (se : Nat) (sn : Int64) (fc : Nat) (li : Nat) (co : Nat) (lo : Nat) (tw : Int32) (en : Int32) (fr : Nat) (fn : Int64) (bk : Nat) (dc : Nat) (cm : Nat) (cz : Nat) (pp : Nat) (dpo : Nat) (de : Nat) (dw : Nat) (sp : Nat) (S : Nat → Nat) (ft : Nat) (fpl : Nat) (fus : Nat) (fq : Nat) (FC : Nat → Nat) (dt : Nat) (dpl : Nat) (dus : Nat) (dq : Nat) (DC : Nat → Nat) (fp : Nat) (Fr : Nat → Nat) (hk : k < 3) (hvf : vf k = some vw) : CI (S := Unit) l classes NW D (TYS cI cZ cL cV) y_Scr_join (.code y_Scr_join b_Scr_join 2 (some .boolean) :: TB) { frames := 3, cells := 0, slots := 0, locals := 81 } [.ref ts, .int (nI k)] [(ts, .inr (8, [.ref dr, .ref cl, .ref cp, .ref vs, .int (nI num)])), (vs, .inl (cV, 3, .inr (.inr (.inr (.inr vf))))), (vw, .inr (7, [.ref fd, .ref ds, .ref po, .int (nI 0), .int (nI cr), .int (nI ep)])), (fd, .inr (5, [.ref se, .long sn, .ref fc, .ref li, .ref co, .ref lo, .int tw, .int en])), (se, .inr (0, [.int (nI 48), .ref sp])), (sp, .inl (cI, 3072, .inl (nF S))), (fc, .inr (1, [.ref ft, .int (nI fpl), .int (nI fus)])), (ft, .inr (0, [.int (nI 16), .ref fq])), (fq, .inl (cI, 1024, .inl (nF FC))), (ds, .inr (6, [.ref fr, .long fn, .ref bk, .ref dc, .ref cm, .int (nI cz), .ref pp, .int (nI dpo), .int (nI de), .int (nI dw)])), (fr, .inr (0, [.int (nI 48), .ref fp])), (fp, .inl (cI, 3072, .inl (nF Fr))), (dc, .inr (1, [.ref dt, .int (nI dpl), .int (nI dus)])), (dt, .inr (0, [.int (nI 16), .ref dq])), (dq, .inl (cI, 1024, .inl (nF DC)))] (fun r u => r = nI 1) (fun u => [(ts, .inr (8, [.ref dr, .ref cl, .ref cp, .ref vs, .int (nI num)])), (vs, .inl (cV, 3, .inr (.inr (.inr (.inr vf))))), (vw, .inr (7, [.ref fd, .ref ds, .ref po, .int (nI 1), .int (nI cr), .int (nI (ep + 1))])), (fd, .inr (5, [.ref se, .long fn, .ref fc, .ref li, .ref co, .ref lo, .int tw, .int en])), (se, .inr (0, [.int (nI 48), .ref sp])), (sp, .inl (cI, 3072, .inl (nF Fr))), (fc, .inr (1, [.ref ft, .int (nI 0), .int (nI 0)])), (ft, .inr (0, [.int (nI 16), .ref fq])), (fq, .inl (cI, 1024, .inl (nF FC))), (ds, .inr (6, [.ref fr, .long fn, .ref bk, .ref dc, .ref cm, .int (nI cz), .ref pp, .int (nI dpo), .int (nI de), .int (nI dw)])), (fr, .inr (0, [.int (nI 48), .ref fp])), (fp, .inl (cI, 3072, .inl (nF Fr))), (dc, .inr (1, [.ref dt, .int (nI 0), .int (nI 0)])), (dt, .inr (0, [.int (nI 16), .ref dq])), (dq, .inl (cI, 1024, .inl (nF DC)))]) := by
  refine CI.of (by decide) (Nat.le_of_ble_eq_true rfl) ?_
  intro pr ev sT mM aR bW mE cO AA QQ ls Bd hG hA hP hD hS hl hret
  have Bd : bd pr cO b_Scr_join 2 sT aR TB "TileScreen" mM := Bd
  obtain ⟨hx, hb, hml, hown, htb⟩ := id Bd
  have hl : lv_has ls 2 [(0, .ref ts), (1, .int (nI k))] := hl
  refine lv_iload_n hx hb d_Scr_join_0 rfl (lv_at hl 1 rfl) ?_
  refine kS_i (wc := []) (wr := [(ts, .inr (8, [.ref dr, .ref cl, .ref cp, .ref vs, .int (nI num)])), (vs, .inl (cV, 3, .inr (.inr (.inr (.inr vf))))), (vw, .inr (7, [.ref fd, .ref ds, .ref po, .int (nI 0), .int (nI cr), .int (nI ep)])), (fd, .inr (5, [.ref se, .long sn, .ref fc, .ref li, .ref co, .ref lo, .int tw, .int en])), (se, .inr (0, [.int (nI 48), .ref sp])), (sp, .inl (cI, 3072, .inl (nF S))), (fc, .inr (1, [.ref ft, .int (nI fpl), .int (nI fus)])), (ft, .inr (0, [.int (nI 16), .ref fq])), (fq, .inl (cI, 1024, .inl (nF FC))), (ds, .inr (6, [.ref fr, .long fn, .ref bk, .ref dc, .ref cm, .int (nI cz), .ref pp, .int (nI dpo), .int (nI de), .int (nI dw)])), (fr, .inr (0, [.int (nI 48), .ref fp])), (fp, .inl (cI, 3072, .inl (nF Fr))), (dc, .inr (1, [.ref dt, .int (nI dpl), .int (nI dus)])), (dt, .inr (0, [.int (nI 16), .ref dq])), (dq, .inl (cI, 1024, .inl (nF DC)))]) (w2 := fun _ => [(ts, .inr (8, [.ref dr, .ref cl, .ref cp, .ref vs, .int (nI num)])), (vs, .inl (cV, 3, .inr (.inr (.inr (.inr vf))))), (vw, .inr (7, [.ref fd, .ref ds, .ref po, .int (nI 0), .int (nI cr), .int (nI ep)])), (fd, .inr (5, [.ref se, .long sn, .ref fc, .ref li, .ref co, .ref lo, .int tw, .int en])), (se, .inr (0, [.int (nI 48), .ref sp])), (sp, .inl (cI, 3072, .inl (nF S))), (fc, .inr (1, [.ref ft, .int (nI fpl), .int (nI fus)])), (ft, .inr (0, [.int (nI 16), .ref fq])), (fq, .inl (cI, 1024, .inl (nF FC))), (ds, .inr (6, [.ref fr, .long fn, .ref bk, .ref dc, .ref cm, .int (nI cz), .ref pp, .int (nI dpo), .int (nI de), .int (nI dw)])), (fr, .inr (0, [.int (nI 48), .ref fp])), (fp, .inl (cI, 3072, .inl (nF Fr))), (dc, .inr (1, [.ref dt, .int (nI dpl), .int (nI dus)])), (dt, .inr (0, [.int (nI 16), .ref dq])), (dq, .inl (cI, 1024, .inl (nF DC)))]) [.int (nI k)] [] Bd ⟨gi_app (gi_c0 k_306 (gi_c0 k_307 (gi_c0 k_1 gi_nil))) (gi_tb0 k_308), rfl, by decide, by decide⟩ (show (parseMethodDescriptor "(I)Z").map (fun d => d.parameters.length) = some 1 by decide +kernel) (c_Scr_isViewer (nI k) ) (by decide +kernel) ⟨Nat.le_of_ble_eq_true rfl, Nat.le_of_ble_eq_true rfl⟩ hG hP hD hS hA [] [0, 1, 2, 3, 4, 5, 6, 7, 8, 9, 10, 11, 12, 13, 14] [0, 1, 2, 3, 4, 5, 6, 7, 8, 9, 10, 11, 12, 13, 14] (by decide) rfl rfl (fun _ => rfl) hl.1 rfl (Nat.le_of_ble_eq_true rfl) d_Scr_join_1 (fun r1 u3 H locs hp2 hP hD hS => ?_)
  have hP : va_P D classes [(ts, .inr (8, [.ref dr, .ref cl, .ref cp, .ref vs, .int (nI num)])), (vs, .inl (cV, 3, .inr (.inr (.inr (.inr vf))))), (vw, .inr (7, [.ref fd, .ref ds, .ref po, .int (nI 0), .int (nI cr), .int (nI ep)])), (fd, .inr (5, [.ref se, .long sn, .ref fc, .ref li, .ref co, .ref lo, .int tw, .int en])), (se, .inr (0, [.int (nI 48), .ref sp])), (sp, .inl (cI, 3072, .inl (nF S))), (fc, .inr (1, [.ref ft, .int (nI fpl), .int (nI fus)])), (ft, .inr (0, [.int (nI 16), .ref fq])), (fq, .inl (cI, 1024, .inl (nF FC))), (ds, .inr (6, [.ref fr, .long fn, .ref bk, .ref dc, .ref cm, .int (nI cz), .ref pp, .int (nI dpo), .int (nI de), .int (nI dw)])), (fr, .inr (0, [.int (nI 48), .ref fp])), (fp, .inl (cI, 3072, .inl (nF Fr))), (dc, .inr (1, [.ref dt, .int (nI dpl), .int (nI dus)])), (dt, .inr (0, [.int (nI 16), .ref dq])), (dq, .inl (cI, 1024, .inl (nF DC)))] H := hP
  have hD : va_D AA [(ts, .inr (8, [.ref dr, .ref cl, .ref cp, .ref vs, .int (nI num)])), (vs, .inl (cV, 3, .inr (.inr (.inr (.inr vf))))), (vw, .inr (7, [.ref fd, .ref ds, .ref po, .int (nI 0), .int (nI cr), .int (nI ep)])), (fd, .inr (5, [.ref se, .long sn, .ref fc, .ref li, .ref co, .ref lo, .int tw, .int en])), (se, .inr (0, [.int (nI 48), .ref sp])), (sp, .inl (cI, 3072, .inl (nF S))), (fc, .inr (1, [.ref ft, .int (nI fpl), .int (nI fus)])), (ft, .inr (0, [.int (nI 16), .ref fq])), (fq, .inl (cI, 1024, .inl (nF FC))), (ds, .inr (6, [.ref fr, .long fn, .ref bk, .ref dc, .ref cm, .int (nI cz), .ref pp, .int (nI dpo), .int (nI de), .int (nI dw)])), (fr, .inr (0, [.int (nI 48), .ref fp])), (fp, .inl (cI, 3072, .inl (nF Fr))), (dc, .inr (1, [.ref dt, .int (nI dpl), .int (nI dus)])), (dt, .inr (0, [.int (nI 16), .ref dq])), (dq, .inl (cI, 1024, .inl (nF DC)))] := hD
  subst hp2
  refine nv_if_eq (tgt := 19) hx hb d_Scr_join_4 (by decide) (bt_lt _) (fun c_4 => ?_) (fun c_4 => ?_)
  · exact absurd ⟨k, hk, rfl⟩ (cB_0 c_4)
  · refine lv_aload_n hx hb d_Scr_join_7 rfl (lv_at hl 0 rfl) ?_
    refine va_get (D := D) (ci := 8) (v := .ref vs) (C := "TileScreen") (T := F_Scr) (N := 5) hx hb htb i_Scr hown hG.1 hP 0 rfl rfl 3 (by decide) (htb _ k_241) (fun _ h9 => h9) rfl d_Scr_join_8 ?_
    refine lv_iload_n hx hb d_Scr_join_11 rfl (lv_at hl 1 rfl) ?_
    refine va_aldq hx hb hG.1 hP 1 3 rfl rfl (vp_in_nI hk (by decide)) d_Scr_join_12 ?_
    rw [show vf ((nI k)).toNatClampNeg = some vw from by rw [nI_clamp (by omega)]; exact hvf]
    refine va_getN (D := D) (ci := 7) (v := .int (nI 0)) (C := "TileScreen$Viewer") (T := F_Viewer) (N := 6) hx hb htb i_Viewer hown hG.1 hP 2 rfl rfl 3 (by decide) (va_Nw.use rfl (hG.2 _ k_220).2) (fun _ h9 => h9) rfl d_Scr_join_13 ?_
    refine nv_if_eq (tgt := 21) hx hb d_Scr_join_16 (by decide) (by decide) (fun _ => ?_) (fun h9 => absurd h9 (by decide))
    refine lv_aload_n hx hb d_Scr_join_21 rfl (lv_at hl 0 rfl) ?_
    refine va_get (D := D) (ci := 8) (v := .ref vs) (C := "TileScreen") (T := F_Scr) (N := 5) hx hb htb i_Scr hown hG.1 hP 0 rfl rfl 3 (by decide) (htb _ k_241) (fun _ h9 => h9) rfl d_Scr_join_22 ?_
    refine lv_iload_n hx hb d_Scr_join_25 rfl (lv_at hl 1 rfl) ?_
    refine va_aldq hx hb hG.1 hP 1 3 rfl rfl (vp_in_nI hk (by decide)) d_Scr_join_26 ?_
    rw [show vf ((nI k)).toNatClampNeg = some vw from by rw [nI_clamp (by omega)]; exact hvf]
    refine kV_v (wc := [(vw, .inr (7, [.ref fd, .ref ds, .ref po, .int (nI 0), .int (nI cr), .int (nI ep)])), (fd, .inr (5, [.ref se, .long sn, .ref fc, .ref li, .ref co, .ref lo, .int tw, .int en])), (se, .inr (0, [.int (nI 48), .ref sp])), (sp, .inl (cI, 3072, .inl (nF S))), (fc, .inr (1, [.ref ft, .int (nI fpl), .int (nI fus)])), (ft, .inr (0, [.int (nI 16), .ref fq])), (fq, .inl (cI, 1024, .inl (nF FC))), (ds, .inr (6, [.ref fr, .long fn, .ref bk, .ref dc, .ref cm, .int (nI cz), .ref pp, .int (nI dpo), .int (nI de), .int (nI dw)])), (fr, .inr (0, [.int (nI 48), .ref fp])), (fp, .inl (cI, 3072, .inl (nF Fr))), (dc, .inr (1, [.ref dt, .int (nI dpl), .int (nI dus)])), (dt, .inr (0, [.int (nI 16), .ref dq])), (dq, .inl (cI, 1024, .inl (nF DC)))]) (wr := [(ts, .inr (8, [.ref dr, .ref cl, .ref cp, .ref vs, .int (nI num)])), (vs, .inl (cV, 3, .inr (.inr (.inr (.inr vf)))))]) (w2 := fun _ => [(ts, .inr (8, [.ref dr, .ref cl, .ref cp, .ref vs, .int (nI num)])), (vs, .inl (cV, 3, .inr (.inr (.inr (.inr vf))))), (vw, .inr (7, [.ref fd, .ref ds, .ref po, .int (nI 1), .int (nI cr), .int (nI (ep + 1))])), (fd, .inr (5, [.ref se, .long fn, .ref fc, .ref li, .ref co, .ref lo, .int tw, .int en])), (se, .inr (0, [.int (nI 48), .ref sp])), (sp, .inl (cI, 3072, .inl (nF Fr))), (fc, .inr (1, [.ref ft, .int (nI 0), .int (nI 0)])), (ft, .inr (0, [.int (nI 16), .ref fq])), (fq, .inl (cI, 1024, .inl (nF FC))), (ds, .inr (6, [.ref fr, .long fn, .ref bk, .ref dc, .ref cm, .int (nI cz), .ref pp, .int (nI dpo), .int (nI de), .int (nI dw)])), (fr, .inr (0, [.int (nI 48), .ref fp])), (fp, .inl (cI, 3072, .inl (nF Fr))), (dc, .inr (1, [.ref dt, .int (nI 0), .int (nI 0)])), (dt, .inr (0, [.int (nI 16), .ref dq])), (dq, .inl (cI, 1024, .inl (nF DC)))]) [] [] Bd ⟨gi_app (gi_c0 k_309 (gi_c0 k_310 (gi_c0 k_311 (gi_c0 k_3 gi_nil)))) (gi_tb0 k_312), rfl, by decide, by decide⟩ (show (parseMethodDescriptor "()V").map (fun d => d.parameters.length) = some 0 by decide +kernel) (c_Viewer_connect vw fd ds po 0 cr ep se sn fc li co lo tw en fr fn bk dc cm cz pp dpo de dw sp S ft fpl fus fq FC dt dpl dus dq DC fp Fr ) (by decide +kernel) ⟨Nat.le_of_ble_eq_true rfl, Nat.le_of_ble_eq_true rfl⟩ hG hP hD hS hA [2, 3, 4, 5, 6, 7, 8, 9, 10, 11, 12, 13, 14] [0, 1] [0, 1, 2, 3, 4, 5, 6, 7, 8, 9, 10, 11, 12, 13, 14] (by decide) rfl rfl (fun _ => rfl) (q0 := 0) rfl rfl rfl hl.1 rfl (Nat.le_of_ble_eq_true rfl) d_Scr_join_27 (fun u5 H locs hp4 hP hD hS => ?_)
    have hP : va_P D classes [(ts, .inr (8, [.ref dr, .ref cl, .ref cp, .ref vs, .int (nI num)])), (vs, .inl (cV, 3, .inr (.inr (.inr (.inr vf))))), (vw, .inr (7, [.ref fd, .ref ds, .ref po, .int (nI 1), .int (nI cr), .int (nI (ep + 1))])), (fd, .inr (5, [.ref se, .long fn, .ref fc, .ref li, .ref co, .ref lo, .int tw, .int en])), (se, .inr (0, [.int (nI 48), .ref sp])), (sp, .inl (cI, 3072, .inl (nF Fr))), (fc, .inr (1, [.ref ft, .int (nI 0), .int (nI 0)])), (ft, .inr (0, [.int (nI 16), .ref fq])), (fq, .inl (cI, 1024, .inl (nF FC))), (ds, .inr (6, [.ref fr, .long fn, .ref bk, .ref dc, .ref cm, .int (nI cz), .ref pp, .int (nI dpo), .int (nI de), .int (nI dw)])), (fr, .inr (0, [.int (nI 48), .ref fp])), (fp, .inl (cI, 3072, .inl (nF Fr))), (dc, .inr (1, [.ref dt, .int (nI 0), .int (nI 0)])), (dt, .inr (0, [.int (nI 16), .ref dq])), (dq, .inl (cI, 1024, .inl (nF DC)))] H := hP
    have hD : va_D AA [(ts, .inr (8, [.ref dr, .ref cl, .ref cp, .ref vs, .int (nI num)])), (vs, .inl (cV, 3, .inr (.inr (.inr (.inr vf))))), (vw, .inr (7, [.ref fd, .ref ds, .ref po, .int (nI 1), .int (nI cr), .int (nI (ep + 1))])), (fd, .inr (5, [.ref se, .long fn, .ref fc, .ref li, .ref co, .ref lo, .int tw, .int en])), (se, .inr (0, [.int (nI 48), .ref sp])), (sp, .inl (cI, 3072, .inl (nF Fr))), (fc, .inr (1, [.ref ft, .int (nI 0), .int (nI 0)])), (ft, .inr (0, [.int (nI 16), .ref fq])), (fq, .inl (cI, 1024, .inl (nF FC))), (ds, .inr (6, [.ref fr, .long fn, .ref bk, .ref dc, .ref cm, .int (nI cz), .ref pp, .int (nI dpo), .int (nI de), .int (nI dw)])), (fr, .inr (0, [.int (nI 48), .ref fp])), (fp, .inl (cI, 3072, .inl (nF Fr))), (dc, .inr (1, [.ref dt, .int (nI 0), .int (nI 0)])), (dt, .inr (0, [.int (nI 16), .ref dq])), (dq, .inl (cI, 1024, .inl (nF DC)))] := hD
    refine lv_iconst (v := nI 1) hx hb d_Scr_join_30 (by decide) ?_
    exact hret _ () _ _ _ _ d_Scr_join_31 (by first | rfl | decide) (rfl) hP hD hS
set_option maxHeartbeats 400000 in
set_option maxRecDepth 100000 in
theorem c_Scr_join_is (ts : Nat) (dr : Nat) (cl : Nat) (cp : Nat) (vs : Nat) (num : Nat) (vf : Nat → Option Nat) (k : Nat) (vw : Nat) (fd : Nat) (ds : Nat) (po : Nat) (cr : Nat) (ep : Nat) (hk : k < 3) (hvf : vf k = some vw) : CI (S := Unit) l classes NW D (TYS cI cZ cL cV) y_Scr_join (.code y_Scr_join b_Scr_join 2 (some .boolean) :: TB) { frames := 1, cells := 0, slots := 0, locals := 20 } [.ref ts, .int (nI k)] [(ts, .inr (8, [.ref dr, .ref cl, .ref cp, .ref vs, .int (nI num)])), (vs, .inl (cV, 3, .inr (.inr (.inr (.inr vf))))), (vw, .inr (7, [.ref fd, .ref ds, .ref po, .int (nI 1), .int (nI cr), .int (nI ep)]))] (fun r u => r = nI 0) (fun u => [(ts, .inr (8, [.ref dr, .ref cl, .ref cp, .ref vs, .int (nI num)])), (vs, .inl (cV, 3, .inr (.inr (.inr (.inr vf))))), (vw, .inr (7, [.ref fd, .ref ds, .ref po, .int (nI 1), .int (nI cr), .int (nI ep)]))]) := by
  refine CI.of (by decide) (Nat.le_of_ble_eq_true rfl) ?_
  intro pr ev sT mM aR bW mE cO AA QQ ls Bd hG hA hP hD hS hl hret
  have Bd : bd pr cO b_Scr_join 2 sT aR TB "TileScreen" mM := Bd
  obtain ⟨hx, hb, hml, hown, htb⟩ := id Bd
  have hl : lv_has ls 2 [(0, .ref ts), (1, .int (nI k))] := hl
  refine lv_iload_n hx hb d_Scr_join_0 rfl (lv_at hl 1 rfl) ?_
  refine kS_i (wc := []) (wr := [(ts, .inr (8, [.ref dr, .ref cl, .ref cp, .ref vs, .int (nI num)])), (vs, .inl (cV, 3, .inr (.inr (.inr (.inr vf))))), (vw, .inr (7, [.ref fd, .ref ds, .ref po, .int (nI 1), .int (nI cr), .int (nI ep)]))]) (w2 := fun _ => [(ts, .inr (8, [.ref dr, .ref cl, .ref cp, .ref vs, .int (nI num)])), (vs, .inl (cV, 3, .inr (.inr (.inr (.inr vf))))), (vw, .inr (7, [.ref fd, .ref ds, .ref po, .int (nI 1), .int (nI cr), .int (nI ep)]))]) [.int (nI k)] [] Bd ⟨gi_app (gi_c0 k_306 (gi_c0 k_307 (gi_c0 k_1 gi_nil))) (gi_tb0 k_308), rfl, by decide, by decide⟩ (show (parseMethodDescriptor "(I)Z").map (fun d => d.parameters.length) = some 1 by decide +kernel) (c_Scr_isViewer (nI k) ) (by decide +kernel) ⟨Nat.le_of_ble_eq_true rfl, Nat.le_of_ble_eq_true rfl⟩ hG hP hD hS hA [] [0, 1, 2] [0, 1, 2] (by decide) rfl rfl (fun _ => rfl) hl.1 rfl (Nat.le_of_ble_eq_true rfl) d_Scr_join_1 (fun r1 u3 H locs hp2 hP hD hS => ?_)
  have hP : va_P D classes [(ts, .inr (8, [.ref dr, .ref cl, .ref cp, .ref vs, .int (nI num)])), (vs, .inl (cV, 3, .inr (.inr (.inr (.inr vf))))), (vw, .inr (7, [.ref fd, .ref ds, .ref po, .int (nI 1), .int (nI cr), .int (nI ep)]))] H := hP
  have hD : va_D AA [(ts, .inr (8, [.ref dr, .ref cl, .ref cp, .ref vs, .int (nI num)])), (vs, .inl (cV, 3, .inr (.inr (.inr (.inr vf))))), (vw, .inr (7, [.ref fd, .ref ds, .ref po, .int (nI 1), .int (nI cr), .int (nI ep)]))] := hD
  subst hp2
  refine nv_if_eq (tgt := 19) hx hb d_Scr_join_4 (by decide) (bt_lt _) (fun c_4 => ?_) (fun c_4 => ?_)
  · exact absurd ⟨k, hk, rfl⟩ (cB_0 c_4)
  · refine lv_aload_n hx hb d_Scr_join_7 rfl (lv_at hl 0 rfl) ?_
    refine va_get (D := D) (ci := 8) (v := .ref vs) (C := "TileScreen") (T := F_Scr) (N := 5) hx hb htb i_Scr hown hG.1 hP 0 rfl rfl 3 (by decide) (htb _ k_241) (fun _ h9 => h9) rfl d_Scr_join_8 ?_
    refine lv_iload_n hx hb d_Scr_join_11 rfl (lv_at hl 1 rfl) ?_
    refine va_aldq hx hb hG.1 hP 1 3 rfl rfl (vp_in_nI hk (by decide)) d_Scr_join_12 ?_
    rw [show vf ((nI k)).toNatClampNeg = some vw from by rw [nI_clamp (by omega)]; exact hvf]
    refine va_getN (D := D) (ci := 7) (v := .int (nI 1)) (C := "TileScreen$Viewer") (T := F_Viewer) (N := 6) hx hb htb i_Viewer hown hG.1 hP 2 rfl rfl 3 (by decide) (va_Nw.use rfl (hG.2 _ k_220).2) (fun _ h9 => h9) rfl d_Scr_join_13 ?_
    refine nv_if_eq (tgt := 21) hx hb d_Scr_join_16 (by decide) (by decide) (fun h9 => absurd h9 (by decide)) (fun _ => ?_)
    refine lv_iconst (v := nI 0) hx hb d_Scr_join_19 (by decide) ?_
    exact hret _ () _ _ _ _ d_Scr_join_20 (by first | rfl | decide) (rfl) hP hD hS
set_option maxHeartbeats 400000 in
set_option maxRecDepth 100000 in
theorem c_Scr_join_no (ts : Nat) (dr : Nat) (cl : Nat) (cp : Nat) (vs : Nat) (num : Nat) (v : Int32) (hno : ¬ vwP v) : CI (S := Unit) l classes NW D (TYS cI cZ cL cV) y_Scr_join (.code y_Scr_join b_Scr_join 2 (some .boolean) :: TB) { frames := 1, cells := 0, slots := 0, locals := 20 } [.ref ts, .int v] [(ts, .inr (8, [.ref dr, .ref cl, .ref cp, .ref vs, .int (nI num)]))] (fun r u => r = nI 0) (fun u => [(ts, .inr (8, [.ref dr, .ref cl, .ref cp, .ref vs, .int (nI num)]))]) := by
  refine CI.of (by decide) (Nat.le_of_ble_eq_true rfl) ?_
  intro pr ev sT mM aR bW mE cO AA QQ ls Bd hG hA hP hD hS hl hret
  have Bd : bd pr cO b_Scr_join 2 sT aR TB "TileScreen" mM := Bd
  obtain ⟨hx, hb, hml, hown, htb⟩ := id Bd
  have hl : lv_has ls 2 [(0, .ref ts), (1, .int v)] := hl
  refine lv_iload_n hx hb d_Scr_join_0 rfl (lv_at hl 1 rfl) ?_
  refine kS_i (wc := []) (wr := [(ts, .inr (8, [.ref dr, .ref cl, .ref cp, .ref vs, .int (nI num)]))]) (w2 := fun _ => [(ts, .inr (8, [.ref dr, .ref cl, .ref cp, .ref vs, .int (nI num)]))]) [.int v] [] Bd ⟨gi_app (gi_c0 k_306 (gi_c0 k_307 (gi_c0 k_1 gi_nil))) (gi_tb0 k_308), rfl, by decide, by decide⟩ (show (parseMethodDescriptor "(I)Z").map (fun d => d.parameters.length) = some 1 by decide +kernel) (c_Scr_isViewer v ) (by decide +kernel) ⟨Nat.le_of_ble_eq_true rfl, Nat.le_of_ble_eq_true rfl⟩ hG hP hD hS hA [] [0] [0] (by decide) rfl rfl (fun _ => rfl) hl.1 rfl (Nat.le_of_ble_eq_true rfl) d_Scr_join_1 (fun r1 u3 H locs hp2 hP hD hS => ?_)
  have hP : va_P D classes [(ts, .inr (8, [.ref dr, .ref cl, .ref cp, .ref vs, .int (nI num)]))] H := hP
  have hD : va_D AA [(ts, .inr (8, [.ref dr, .ref cl, .ref cp, .ref vs, .int (nI num)]))] := hD
  subst hp2
  refine nv_if_eq (tgt := 19) hx hb d_Scr_join_4 (by decide) (bt_lt _) (fun c_4 => ?_) (fun c_4 => ?_)
  · refine lv_iconst (v := nI 0) hx hb d_Scr_join_19 (by decide) ?_
    exact hret _ () _ _ _ _ d_Scr_join_20 (by first | rfl | decide) (rfl) hP hD hS
  · exact absurd (cB_1 c_4) hno
set_option maxHeartbeats 400000 in
set_option maxRecDepth 100000 in
theorem c_Scr_cut_no (ts : Nat) (dr : Nat) (cl : Nat) (cp : Nat) (vs : Nat) (num : Nat) (v : Int32) (hno : ¬ vwP v) : CI (S := Unit) l classes NW D (TYS cI cZ cL cV) y_Scr_cut (.code y_Scr_cut b_Scr_cut 2 (some .boolean) :: TB) { frames := 1, cells := 0, slots := 0, locals := 20 } [.ref ts, .int v] [(ts, .inr (8, [.ref dr, .ref cl, .ref cp, .ref vs, .int (nI num)]))] (fun r u => r = nI 0) (fun u => [(ts, .inr (8, [.ref dr, .ref cl, .ref cp, .ref vs, .int (nI num)]))]) := by
  refine CI.of (by decide) (Nat.le_of_ble_eq_true rfl) ?_
  intro pr ev sT mM aR bW mE cO AA QQ ls Bd hG hA hP hD hS hl hret
  have Bd : bd pr cO b_Scr_cut 2 sT aR TB "TileScreen" mM := Bd
  obtain ⟨hx, hb, hml, hown, htb⟩ := id Bd
  have hl : lv_has ls 2 [(0, .ref ts), (1, .int v)] := hl
  refine lv_iload_n hx hb d_Scr_cut_0 rfl (lv_at hl 1 rfl) ?_
  refine kS_i (wc := []) (wr := [(ts, .inr (8, [.ref dr, .ref cl, .ref cp, .ref vs, .int (nI num)]))]) (w2 := fun _ => [(ts, .inr (8, [.ref dr, .ref cl, .ref cp, .ref vs, .int (nI num)]))]) [.int v] [] Bd ⟨gi_app (gi_c0 k_306 (gi_c0 k_307 (gi_c0 k_1 gi_nil))) (gi_tb0 k_308), rfl, by decide, by decide⟩ (show (parseMethodDescriptor "(I)Z").map (fun d => d.parameters.length) = some 1 by decide +kernel) (c_Scr_isViewer v ) (by decide +kernel) ⟨Nat.le_of_ble_eq_true rfl, Nat.le_of_ble_eq_true rfl⟩ hG hP hD hS hA [] [0] [0] (by decide) rfl rfl (fun _ => rfl) hl.1 rfl (Nat.le_of_ble_eq_true rfl) d_Scr_cut_1 (fun r1 u3 H locs hp2 hP hD hS => ?_)
  have hP : va_P D classes [(ts, .inr (8, [.ref dr, .ref cl, .ref cp, .ref vs, .int (nI num)]))] H := hP
  have hD : va_D AA [(ts, .inr (8, [.ref dr, .ref cl, .ref cp, .ref vs, .int (nI num)]))] := hD
  subst hp2
  refine nv_if_eq (tgt := 19) hx hb d_Scr_cut_4 (by decide) (bt_lt _) (fun c_4 => ?_) (fun c_4 => ?_)
  · refine lv_iconst (v := nI 0) hx hb d_Scr_cut_19 (by decide) ?_
    exact hret _ () _ _ _ _ d_Scr_cut_20 (by first | rfl | decide) (rfl) hP hD hS
  · exact absurd (cB_1 c_4) hno
set_option maxHeartbeats 400000 in
set_option maxRecDepth 100000 in
theorem c_Scr_pump_no (ts : Nat) (dr : Nat) (cl : Nat) (cp : Nat) (vs : Nat) (num : Nat) (v : Int32) (hno : ¬ vwP v) : CI (S := Unit) l classes NW D (TYS cI cZ cL cV) y_Scr_pump (.code y_Scr_pump b_Scr_pump 6 (some .int) :: TB) { frames := 1, cells := 0, slots := 0, locals := 20 } [.ref ts, .int v] [(ts, .inr (8, [.ref dr, .ref cl, .ref cp, .ref vs, .int (nI num)]))] (fun r u => r = (-1)) (fun u => [(ts, .inr (8, [.ref dr, .ref cl, .ref cp, .ref vs, .int (nI num)]))]) := by
  refine CI.of (by decide) (Nat.le_of_ble_eq_true rfl) ?_
  intro pr ev sT mM aR bW mE cO AA QQ ls Bd hG hA hP hD hS hl hret
  have Bd : bd pr cO b_Scr_pump 6 sT aR TB "TileScreen" mM := Bd
  obtain ⟨hx, hb, hml, hown, htb⟩ := id Bd
  have hl : lv_has ls 6 [(0, .ref ts), (1, .int v)] := hl
  refine lv_iload_n hx hb d_Scr_pump_0 rfl (lv_at hl 1 rfl) ?_
  refine kS_i (wc := []) (wr := [(ts, .inr (8, [.ref dr, .ref cl, .ref cp, .ref vs, .int (nI num)]))]) (w2 := fun _ => [(ts, .inr (8, [.ref dr, .ref cl, .ref cp, .ref vs, .int (nI num)]))]) [.int v] [] Bd ⟨gi_app (gi_c0 k_306 (gi_c0 k_307 (gi_c0 k_1 gi_nil))) (gi_tb0 k_308), rfl, by decide, by decide⟩ (show (parseMethodDescriptor "(I)Z").map (fun d => d.parameters.length) = some 1 by decide +kernel) (c_Scr_isViewer v ) (by decide +kernel) ⟨Nat.le_of_ble_eq_true rfl, Nat.le_of_ble_eq_true rfl⟩ hG hP hD hS hA [] [0] [0] (by decide) rfl rfl (fun _ => rfl) hl.1 rfl (Nat.le_of_ble_eq_true rfl) d_Scr_pump_1 (fun r1 u3 H locs hp2 hP hD hS => ?_)
  have hP : va_P D classes [(ts, .inr (8, [.ref dr, .ref cl, .ref cp, .ref vs, .int (nI num)]))] H := hP
  have hD : va_D AA [(ts, .inr (8, [.ref dr, .ref cl, .ref cp, .ref vs, .int (nI num)]))] := hD
  subst hp2
  refine nv_if_ne (tgt := 9) hx hb d_Scr_pump_4 (by decide) (bt_lt _) (fun c_4 => ?_) (fun c_4 => ?_)
  · exact absurd (cB_1 c_4) hno
  · refine lv_iconst (v := -1) hx hb d_Scr_pump_7 (by decide) ?_
    exact hret _ () _ _ _ _ d_Scr_pump_8 rfl (rfl) hP hD hS
set_option maxHeartbeats 400000 in
set_option maxRecDepth 100000 in
theorem c_Scr_shown_no (ts : Nat) (dr : Nat) (cl : Nat) (cp : Nat) (vs : Nat) (num : Nat) (v : Int32) (hno : ¬ vwP v) : CI (S := Unit) l classes NW D (TYS cI cZ cL cV) y_Scr_shown (.code y_Scr_shown b_Scr_shown 2 (some .int) :: TB) { frames := 1, cells := 0, slots := 0, locals := 20 } [.ref ts, .int v] [(ts, .inr (8, [.ref dr, .ref cl, .ref cp, .ref vs, .int (nI num)]))] (fun r u => r = (-1)) (fun u => [(ts, .inr (8, [.ref dr, .ref cl, .ref cp, .ref vs, .int (nI num)]))]) := by
  refine CI.of (by decide) (Nat.le_of_ble_eq_true rfl) ?_
  intro pr ev sT mM aR bW mE cO AA QQ ls Bd hG hA hP hD hS hl hret
  have Bd : bd pr cO b_Scr_shown 2 sT aR TB "TileScreen" mM := Bd
  obtain ⟨hx, hb, hml, hown, htb⟩ := id Bd
  have hl : lv_has ls 2 [(0, .ref ts), (1, .int v)] := hl
  refine lv_iload_n hx hb d_Scr_shown_0 rfl (lv_at hl 1 rfl) ?_
  refine kS_i (wc := []) (wr := [(ts, .inr (8, [.ref dr, .ref cl, .ref cp, .ref vs, .int (nI num)]))]) (w2 := fun _ => [(ts, .inr (8, [.ref dr, .ref cl, .ref cp, .ref vs, .int (nI num)]))]) [.int v] [] Bd ⟨gi_app (gi_c0 k_306 (gi_c0 k_307 (gi_c0 k_1 gi_nil))) (gi_tb0 k_308), rfl, by decide, by decide⟩ (show (parseMethodDescriptor "(I)Z").map (fun d => d.parameters.length) = some 1 by decide +kernel) (c_Scr_isViewer v ) (by decide +kernel) ⟨Nat.le_of_ble_eq_true rfl, Nat.le_of_ble_eq_true rfl⟩ hG hP hD hS hA [] [0] [0] (by decide) rfl rfl (fun _ => rfl) hl.1 rfl (Nat.le_of_ble_eq_true rfl) d_Scr_shown_1 (fun r1 u3 H locs hp2 hP hD hS => ?_)
  have hP : va_P D classes [(ts, .inr (8, [.ref dr, .ref cl, .ref cp, .ref vs, .int (nI num)]))] H := hP
  have hD : va_D AA [(ts, .inr (8, [.ref dr, .ref cl, .ref cp, .ref vs, .int (nI num)]))] := hD
  subst hp2
  refine nv_if_eq (tgt := 25) hx hb d_Scr_shown_4 (by decide) (bt_lt _) (fun c_4 => ?_) (fun c_4 => ?_)
  · refine lv_iconst (v := -1) hx hb d_Scr_shown_25 (by decide) ?_
    exact hret _ () _ _ _ _ d_Scr_shown_26 rfl (rfl) hP hD hS
  · exact absurd (cB_1 c_4) hno
set_option maxHeartbeats 400000 in
set_option maxRecDepth 100000 in
theorem c_Scr_about_no (ts : Nat) (dr : Nat) (cl : Nat) (cp : Nat) (vs : Nat) (num : Nat) (v : Int32) (q : Int32) (hno : ¬ vwP v) : CI (S := Unit) l classes NW D (TYS cI cZ cL cV) y_Scr_about (.code y_Scr_about b_Scr_about 4 (some .int) :: TB) { frames := 1, cells := 0, slots := 0, locals := 20 } [.ref ts, .int v, .int q] [(ts, .inr (8, [.ref dr, .ref cl, .ref cp, .ref vs, .int (nI num)]))] (fun r u => r = (-1)) (fun u => [(ts, .inr (8, [.ref dr, .ref cl, .ref cp, .ref vs, .int (nI num)]))]) := by
  refine CI.of (by decide) (Nat.le_of_ble_eq_true rfl) ?_
  intro pr ev sT mM aR bW mE cO AA QQ ls Bd hG hA hP hD hS hl hret
  have Bd : bd pr cO b_Scr_about 4 sT aR TB "TileScreen" mM := Bd
  obtain ⟨hx, hb, hml, hown, htb⟩ := id Bd
  have hl : lv_has ls 4 [(0, .ref ts), (1, .int v), (2, .int q)] := hl
  refine lv_iload_n hx hb d_Scr_about_0 rfl (lv_at hl 1 rfl) ?_
  refine kS_i (wc := []) (wr := [(ts, .inr (8, [.ref dr, .ref cl, .ref cp, .ref vs, .int (nI num)]))]) (w2 := fun _ => [(ts, .inr (8, [.ref dr, .ref cl, .ref cp, .ref vs, .int (nI num)]))]) [.int v] [] Bd ⟨gi_app (gi_c0 k_306 (gi_c0 k_307 (gi_c0 k_1 gi_nil))) (gi_tb0 k_308), rfl, by decide, by decide⟩ (show (parseMethodDescriptor "(I)Z").map (fun d => d.parameters.length) = some 1 by decide +kernel) (c_Scr_isViewer v ) (by decide +kernel) ⟨Nat.le_of_ble_eq_true rfl, Nat.le_of_ble_eq_true rfl⟩ hG hP hD hS hA [] [0] [0] (by decide) rfl rfl (fun _ => rfl) hl.1 rfl (Nat.le_of_ble_eq_true rfl) d_Scr_about_1 (fun r1 u3 H locs hp2 hP hD hS => ?_)
  have hP : va_P D classes [(ts, .inr (8, [.ref dr, .ref cl, .ref cp, .ref vs, .int (nI num)]))] H := hP
  have hD : va_D AA [(ts, .inr (8, [.ref dr, .ref cl, .ref cp, .ref vs, .int (nI num)]))] := hD
  subst hp2
  refine nv_if_ne (tgt := 9) hx hb d_Scr_about_4 (by decide) (bt_lt _) (fun c_4 => ?_) (fun c_4 => ?_)
  · exact absurd (cB_1 c_4) hno
  · refine lv_iconst (v := -1) hx hb d_Scr_about_7 (by decide) ?_
    exact hret _ () _ _ _ _ d_Scr_about_8 rfl (rfl) hP hD hS
set_option maxHeartbeats 400000 in
set_option maxRecDepth 100000 in
theorem c_Scr_onLine_no (ts : Nat) (dr : Nat) (cl : Nat) (cp : Nat) (vs : Nat) (num : Nat) (v : Int32) (q : Int32) (hno : ¬ vwP v) : CI (S := Unit) l classes NW D (TYS cI cZ cL cV) y_Scr_onLine (.code y_Scr_onLine b_Scr_onLine 3 (some .int) :: TB) { frames := 1, cells := 0, slots := 0, locals := 20 } [.ref ts, .int v, .int q] [(ts, .inr (8, [.ref dr, .ref cl, .ref cp, .ref vs, .int (nI num)]))] (fun r u => r = (-1)) (fun u => [(ts, .inr (8, [.ref dr, .ref cl, .ref cp, .ref vs, .int (nI num)]))]) := by
  refine CI.of (by decide) (Nat.le_of_ble_eq_true rfl) ?_
  intro pr ev sT mM aR bW mE cO AA QQ ls Bd hG hA hP hD hS hl hret
  have Bd : bd pr cO b_Scr_onLine 3 sT aR TB "TileScreen" mM := Bd
  obtain ⟨hx, hb, hml, hown, htb⟩ := id Bd
  have hl : lv_has ls 3 [(0, .ref ts), (1, .int v), (2, .int q)] := hl
  refine lv_iload_n hx hb d_Scr_onLine_0 rfl (lv_at hl 1 rfl) ?_
  refine kS_i (wc := []) (wr := [(ts, .inr (8, [.ref dr, .ref cl, .ref cp, .ref vs, .int (nI num)]))]) (w2 := fun _ => [(ts, .inr (8, [.ref dr, .ref cl, .ref cp, .ref vs, .int (nI num)]))]) [.int v] [] Bd ⟨gi_app (gi_c0 k_306 (gi_c0 k_307 (gi_c0 k_1 gi_nil))) (gi_tb0 k_308), rfl, by decide, by decide⟩ (show (parseMethodDescriptor "(I)Z").map (fun d => d.parameters.length) = some 1 by decide +kernel) (c_Scr_isViewer v ) (by decide +kernel) ⟨Nat.le_of_ble_eq_true rfl, Nat.le_of_ble_eq_true rfl⟩ hG hP hD hS hA [] [0] [0] (by decide) rfl rfl (fun _ => rfl) hl.1 rfl (Nat.le_of_ble_eq_true rfl) d_Scr_onLine_1 (fun r1 u3 H locs hp2 hP hD hS => ?_)
  have hP : va_P D classes [(ts, .inr (8, [.ref dr, .ref cl, .ref cp, .ref vs, .int (nI num)]))] H := hP
  have hD : va_D AA [(ts, .inr (8, [.ref dr, .ref cl, .ref cp, .ref vs, .int (nI num)]))] := hD
  subst hp2
  refine nv_if_eq (tgt := 26) hx hb d_Scr_onLine_4 (by decide) (bt_lt _) (fun c_4 => ?_) (fun c_4 => ?_)
  · refine lv_iconst (v := -1) hx hb d_Scr_onLine_26 (by decide) ?_
    exact hret _ () _ _ _ _ d_Scr_onLine_27 rfl (rfl) hP hD hS
  · exact absurd (cB_1 c_4) hno
set_option maxHeartbeats 400000 in
set_option maxRecDepth 100000 in
theorem c_Scr_cut (ts : Nat) (dr : Nat) (cl : Nat) (cp : Nat) (vs : Nat) (num : Nat) (vf : Nat → Option Nat) (k : Nat) (vw : Nat) (fd : Nat) (ds : Nat) (po : Nat) (cr : Nat) (ep : Nat) (se : Nat) (sn : Int64) (fc : Nat) (li : Nat) (co : Nat) (lo : Nat) (tw : Int32) (en : Int32) (fr : Nat) (fn : Int64) (bk : Nat) (dc : Nat) (cm : Nat) (cz : Nat) (pp : Nat) (dpo : Nat) (de : Nat) (dw : Nat) (lb : Nat) (fi : Nat) (sz : Nat) (B : Nat → Nat) (dt : Nat) (dpl : Nat) (dus : Nat) (dq : Nat) (DC : Nat → Nat) (hk : k < 3) (hvf : vf k = some vw) : CI (S := Unit) l classes NW D (TYS cI cZ cL cV) y_Scr_cut (.code y_Scr_cut b_Scr_cut 2 (some .boolean) :: TB) { frames := 3, cells := 0, slots := 0, locals := 60 } [.ref ts, .int (nI k)] [(ts, .inr (8, [.ref dr, .ref cl, .ref cp, .ref vs, .int (nI num)])), (vs, .inl (cV, 3, .inr (.inr (.inr (.inr vf))))), (vw, .inr (7, [.ref fd, .ref ds, .ref po, .int (nI 1), .int (nI cr), .int (nI ep)])), (fd, .inr (5, [.ref se, .long sn, .ref fc, .ref li, .ref co, .ref lo, .int tw, .int en])), (li, .inr (2, [.ref lb, .int (nI fi), .int (nI sz)])), (lb, .inl (cI, 6247, .inl (nF B))), (ds, .inr (6, [.ref fr, .long fn, .ref bk, .ref dc, .ref cm, .int (nI cz), .ref pp, .int (nI dpo), .int (nI de), .int (nI dw)])), (dc, .inr (1, [.ref dt, .int (nI dpl), .int (nI dus)])), (dt, .inr (0, [.int (nI 16), .ref dq])), (dq, .inl (cI, 1024, .inl (nF DC)))] (fun r u => r = nI 1) (fun u => [(ts, .inr (8, [.ref dr, .ref cl, .ref cp, .ref vs, .int (nI num)])), (vs, .inl (cV, 3, .inr (.inr (.inr (.inr vf))))), (vw, .inr (7, [.ref fd, .ref ds, .ref po, .int (nI 0), .int (nI 0), .int (nI ep)])), (fd, .inr (5, [.ref se, .long sn, .ref fc, .ref li, .ref co, .ref lo, .int tw, .int en])), (li, .inr (2, [.ref lb, .int (nI 0), .int (nI 0)])), (lb, .inl (cI, 6247, .inl (nF B))), (ds, .inr (6, [.ref fr, .long fn, .ref bk, .ref dc, .ref cm, .int (nI 0), .ref pp, .int (nI dpo), .int (nI de), .int (nI dw)])), (dc, .inr (1, [.ref dt, .int (nI 0), .int (nI 0)])), (dt, .inr (0, [.int (nI 16), .ref dq])), (dq, .inl (cI, 1024, .inl (nF DC)))]) := by
  refine CI.of (by decide) (Nat.le_of_ble_eq_true rfl) ?_
  intro pr ev sT mM aR bW mE cO AA QQ ls Bd hG hA hP hD hS hl hret
  have Bd : bd pr cO b_Scr_cut 2 sT aR TB "TileScreen" mM := Bd
  obtain ⟨hx, hb, hml, hown, htb⟩ := id Bd
  have hl : lv_has ls 2 [(0, .ref ts), (1, .int (nI k))] := hl
  refine lv_iload_n hx hb d_Scr_cut_0 rfl (lv_at hl 1 rfl) ?_
  refine kS_i (wc := []) (wr := [(ts, .inr (8, [.ref dr, .ref cl, .ref cp, .ref vs, .int (nI num)])), (vs, .inl (cV, 3, .inr (.inr (.inr (.inr vf))))), (vw, .inr (7, [.ref fd, .ref ds, .ref po, .int (nI 1), .int (nI cr), .int (nI ep)])), (fd, .inr (5, [.ref se, .long sn, .ref fc, .ref li, .ref co, .ref lo, .int tw, .int en])), (li, .inr (2, [.ref lb, .int (nI fi), .int (nI sz)])), (lb, .inl (cI, 6247, .inl (nF B))), (ds, .inr (6, [.ref fr, .long fn, .ref bk, .ref dc, .ref cm, .int (nI cz), .ref pp, .int (nI dpo), .int (nI de), .int (nI dw)])), (dc, .inr (1, [.ref dt, .int (nI dpl), .int (nI dus)])), (dt, .inr (0, [.int (nI 16), .ref dq])), (dq, .inl (cI, 1024, .inl (nF DC)))]) (w2 := fun _ => [(ts, .inr (8, [.ref dr, .ref cl, .ref cp, .ref vs, .int (nI num)])), (vs, .inl (cV, 3, .inr (.inr (.inr (.inr vf))))), (vw, .inr (7, [.ref fd, .ref ds, .ref po, .int (nI 1), .int (nI cr), .int (nI ep)])), (fd, .inr (5, [.ref se, .long sn, .ref fc, .ref li, .ref co, .ref lo, .int tw, .int en])), (li, .inr (2, [.ref lb, .int (nI fi), .int (nI sz)])), (lb, .inl (cI, 6247, .inl (nF B))), (ds, .inr (6, [.ref fr, .long fn, .ref bk, .ref dc, .ref cm, .int (nI cz), .ref pp, .int (nI dpo), .int (nI de), .int (nI dw)])), (dc, .inr (1, [.ref dt, .int (nI dpl), .int (nI dus)])), (dt, .inr (0, [.int (nI 16), .ref dq])), (dq, .inl (cI, 1024, .inl (nF DC)))]) [.int (nI k)] [] Bd ⟨gi_app (gi_c0 k_306 (gi_c0 k_307 (gi_c0 k_1 gi_nil))) (gi_tb0 k_308), rfl, by decide, by decide⟩ (show (parseMethodDescriptor "(I)Z").map (fun d => d.parameters.length) = some 1 by decide +kernel) (c_Scr_isViewer (nI k) ) (by decide +kernel) ⟨Nat.le_of_ble_eq_true rfl, Nat.le_of_ble_eq_true rfl⟩ hG hP hD hS hA [] [0, 1, 2, 3, 4, 5, 6, 7, 8, 9] [0, 1, 2, 3, 4, 5, 6, 7, 8, 9] (by decide) rfl rfl (fun _ => rfl) hl.1 rfl (Nat.le_of_ble_eq_true rfl) d_Scr_cut_1 (fun r1 u3 H locs hp2 hP hD hS => ?_)
  have hP : va_P D classes [(ts, .inr (8, [.ref dr, .ref cl, .ref cp, .ref vs, .int (nI num)])), (vs, .inl (cV, 3, .inr (.inr (.inr (.inr vf))))), (vw, .inr (7, [.ref fd, .ref ds, .ref po, .int (nI 1), .int (nI cr), .int (nI ep)])), (fd, .inr (5, [.ref se, .long sn, .ref fc, .ref li, .ref co, .ref lo, .int tw, .int en])), (li, .inr (2, [.ref lb, .int (nI fi), .int (nI sz)])), (lb, .inl (cI, 6247, .inl (nF B))), (ds, .inr (6, [.ref fr, .long fn, .ref bk, .ref dc, .ref cm, .int (nI cz), .ref pp, .int (nI dpo), .int (nI de), .int (nI dw)])), (dc, .inr (1, [.ref dt, .int (nI dpl), .int (nI dus)])), (dt, .inr (0, [.int (nI 16), .ref dq])), (dq, .inl (cI, 1024, .inl (nF DC)))] H := hP
  have hD : va_D AA [(ts, .inr (8, [.ref dr, .ref cl, .ref cp, .ref vs, .int (nI num)])), (vs, .inl (cV, 3, .inr (.inr (.inr (.inr vf))))), (vw, .inr (7, [.ref fd, .ref ds, .ref po, .int (nI 1), .int (nI cr), .int (nI ep)])), (fd, .inr (5, [.ref se, .long sn, .ref fc, .ref li, .ref co, .ref lo, .int tw, .int en])), (li, .inr (2, [.ref lb, .int (nI fi), .int (nI sz)])), (lb, .inl (cI, 6247, .inl (nF B))), (ds, .inr (6, [.ref fr, .long fn, .ref bk, .ref dc, .ref cm, .int (nI cz), .ref pp, .int (nI dpo), .int (nI de), .int (nI dw)])), (dc, .inr (1, [.ref dt, .int (nI dpl), .int (nI dus)])), (dt, .inr (0, [.int (nI 16), .ref dq])), (dq, .inl (cI, 1024, .inl (nF DC)))] := hD
  subst hp2
  refine nv_if_eq (tgt := 19) hx hb d_Scr_cut_4 (by decide) (bt_lt _) (fun c_4 => ?_) (fun c_4 => ?_)
  · exact absurd ⟨k, hk, rfl⟩ (cB_0 c_4)
  · refine lv_aload_n hx hb d_Scr_cut_7 rfl (lv_at hl 0 rfl) ?_
    refine va_get (D := D) (ci := 8) (v := .ref vs) (C := "TileScreen") (T := F_Scr) (N := 5) hx hb htb i_Scr hown hG.1 hP 0 rfl rfl 3 (by decide) (htb _ k_241) (fun _ h9 => h9) rfl d_Scr_cut_8 ?_
    refine lv_iload_n hx hb d_Scr_cut_11 rfl (lv_at hl 1 rfl) ?_
    refine va_aldq hx hb hG.1 hP 1 3 rfl rfl (vp_in_nI hk (by decide)) d_Scr_cut_12 ?_
    rw [show vf ((nI k)).toNatClampNeg = some vw from by rw [nI_clamp (by omega)]; exact hvf]
    refine va_getN (D := D) (ci := 7) (v := .int (nI 1)) (C := "TileScreen$Viewer") (T := F_Viewer) (N := 6) hx hb htb i_Viewer hown hG.1 hP 2 rfl rfl 3 (by decide) (va_Nw.use rfl (hG.2 _ k_220).2) (fun _ h9 => h9) rfl d_Scr_cut_13 ?_
    refine nv_if_ne (tgt := 21) hx hb d_Scr_cut_16 (by decide) (by decide) (fun _ => ?_) (fun h9 => absurd h9 (by decide))
    refine lv_aload_n hx hb d_Scr_cut_21 rfl (lv_at hl 0 rfl) ?_
    refine va_get (D := D) (ci := 8) (v := .ref vs) (C := "TileScreen") (T := F_Scr) (N := 5) hx hb htb i_Scr hown hG.1 hP 0 rfl rfl 3 (by decide) (htb _ k_241) (fun _ h9 => h9) rfl d_Scr_cut_22 ?_
    refine lv_iload_n hx hb d_Scr_cut_25 rfl (lv_at hl 1 rfl) ?_
    refine va_aldq hx hb hG.1 hP 1 3 rfl rfl (vp_in_nI hk (by decide)) d_Scr_cut_26 ?_
    rw [show vf ((nI k)).toNatClampNeg = some vw from by rw [nI_clamp (by omega)]; exact hvf]
    refine kV_v (wc := [(vw, .inr (7, [.ref fd, .ref ds, .ref po, .int (nI 1), .int (nI cr), .int (nI ep)])), (fd, .inr (5, [.ref se, .long sn, .ref fc, .ref li, .ref co, .ref lo, .int tw, .int en])), (li, .inr (2, [.ref lb, .int (nI fi), .int (nI sz)])), (lb, .inl (cI, 6247, .inl (nF B))), (ds, .inr (6, [.ref fr, .long fn, .ref bk, .ref dc, .ref cm, .int (nI cz), .ref pp, .int (nI dpo), .int (nI de), .int (nI dw)])), (dc, .inr (1, [.ref dt, .int (nI dpl), .int (nI dus)])), (dt, .inr (0, [.int (nI 16), .ref dq])), (dq, .inl (cI, 1024, .inl (nF DC)))]) (wr := [(ts, .inr (8, [.ref dr, .ref cl, .ref cp, .ref vs, .int (nI num)])), (vs, .inl (cV, 3, .inr (.inr (.inr (.inr vf)))))]) (w2 := fun _ => [(ts, .inr (8, [.ref dr, .ref cl, .ref cp, .ref vs, .int (nI num)])), (vs, .inl (cV, 3, .inr (.inr (.inr (.inr vf))))), (vw, .inr (7, [.ref fd, .ref ds, .ref po, .int (nI 0), .int (nI 0), .int (nI ep)])), (fd, .inr (5, [.ref se, .long sn, .ref fc, .ref li, .ref co, .ref lo, .int tw, .int en])), (li, .inr (2, [.ref lb, .int (nI 0), .int (nI 0)])), (lb, .inl (cI, 6247, .inl (nF B))), (ds, .inr (6, [.ref fr, .long fn, .ref bk, .ref dc, .ref cm, .int (nI 0), .ref pp, .int (nI dpo), .int (nI de), .int (nI dw)])), (dc, .inr (1, [.ref dt, .int (nI 0), .int (nI 0)])), (dt, .inr (0, [.int (nI 16), .ref dq])), (dq, .inl (cI, 1024, .inl (nF DC)))]) [] [] Bd ⟨gi_app (gi_c0 k_322 (gi_c0 k_323 (gi_c0 k_324 (gi_c0 k_3 gi_nil)))) (gi_tb0 k_325), rfl, by decide, by decide⟩ (show (parseMethodDescriptor "()V").map (fun d => d.parameters.length) = some 0 by decide +kernel) (c_Viewer_disconnect vw fd ds po 1 cr ep se sn fc li co lo tw en fr fn bk dc cm cz pp dpo de dw lb fi sz B dt dpl dus dq DC ) (by decide +kernel) ⟨Nat.le_of_ble_eq_true rfl, Nat.le_of_ble_eq_true rfl⟩ hG hP hD hS hA [2, 3, 4, 5, 6, 7, 8, 9] [0, 1] [0, 1, 2, 3, 4, 5, 6, 7, 8, 9] (by decide) rfl rfl (fun _ => rfl) (q0 := 0) rfl rfl rfl hl.1 rfl (Nat.le_of_ble_eq_true rfl) d_Scr_cut_27 (fun u5 H locs hp4 hP hD hS => ?_)
    have hP : va_P D classes [(ts, .inr (8, [.ref dr, .ref cl, .ref cp, .ref vs, .int (nI num)])), (vs, .inl (cV, 3, .inr (.inr (.inr (.inr vf))))), (vw, .inr (7, [.ref fd, .ref ds, .ref po, .int (nI 0), .int (nI 0), .int (nI ep)])), (fd, .inr (5, [.ref se, .long sn, .ref fc, .ref li, .ref co, .ref lo, .int tw, .int en])), (li, .inr (2, [.ref lb, .int (nI 0), .int (nI 0)])), (lb, .inl (cI, 6247, .inl (nF B))), (ds, .inr (6, [.ref fr, .long fn, .ref bk, .ref dc, .ref cm, .int (nI 0), .ref pp, .int (nI dpo), .int (nI de), .int (nI dw)])), (dc, .inr (1, [.ref dt, .int (nI 0), .int (nI 0)])), (dt, .inr (0, [.int (nI 16), .ref dq])), (dq, .inl (cI, 1024, .inl (nF DC)))] H := hP
    have hD : va_D AA [(ts, .inr (8, [.ref dr, .ref cl, .ref cp, .ref vs, .int (nI num)])), (vs, .inl (cV, 3, .inr (.inr (.inr (.inr vf))))), (vw, .inr (7, [.ref fd, .ref ds, .ref po, .int (nI 0), .int (nI 0), .int (nI ep)])), (fd, .inr (5, [.ref se, .long sn, .ref fc, .ref li, .ref co, .ref lo, .int tw, .int en])), (li, .inr (2, [.ref lb, .int (nI 0), .int (nI 0)])), (lb, .inl (cI, 6247, .inl (nF B))), (ds, .inr (6, [.ref fr, .long fn, .ref bk, .ref dc, .ref cm, .int (nI 0), .ref pp, .int (nI dpo), .int (nI de), .int (nI dw)])), (dc, .inr (1, [.ref dt, .int (nI 0), .int (nI 0)])), (dt, .inr (0, [.int (nI 16), .ref dq])), (dq, .inl (cI, 1024, .inl (nF DC)))] := hD
    refine lv_iconst (v := nI 1) hx hb d_Scr_cut_30 (by decide) ?_
    exact hret _ () _ _ _ _ d_Scr_cut_31 (by first | rfl | decide) (rfl) hP hD hS
set_option maxHeartbeats 400000 in
set_option maxRecDepth 100000 in
theorem c_Scr_cut_is (ts : Nat) (dr : Nat) (cl : Nat) (cp : Nat) (vs : Nat) (num : Nat) (vf : Nat → Option Nat) (k : Nat) (vw : Nat) (fd : Nat) (ds : Nat) (po : Nat) (cr : Nat) (ep : Nat) (hk : k < 3) (hvf : vf k = some vw) : CI (S := Unit) l classes NW D (TYS cI cZ cL cV) y_Scr_cut (.code y_Scr_cut b_Scr_cut 2 (some .boolean) :: TB) { frames := 1, cells := 0, slots := 0, locals := 20 } [.ref ts, .int (nI k)] [(ts, .inr (8, [.ref dr, .ref cl, .ref cp, .ref vs, .int (nI num)])), (vs, .inl (cV, 3, .inr (.inr (.inr (.inr vf))))), (vw, .inr (7, [.ref fd, .ref ds, .ref po, .int (nI 0), .int (nI cr), .int (nI ep)]))] (fun r u => r = nI 0) (fun u => [(ts, .inr (8, [.ref dr, .ref cl, .ref cp, .ref vs, .int (nI num)])), (vs, .inl (cV, 3, .inr (.inr (.inr (.inr vf))))), (vw, .inr (7, [.ref fd, .ref ds, .ref po, .int (nI 0), .int (nI cr), .int (nI ep)]))]) := by
  refine CI.of (by decide) (Nat.le_of_ble_eq_true rfl) ?_
  intro pr ev sT mM aR bW mE cO AA QQ ls Bd hG hA hP hD hS hl hret
  have Bd : bd pr cO b_Scr_cut 2 sT aR TB "TileScreen" mM := Bd
  obtain ⟨hx, hb, hml, hown, htb⟩ := id Bd
  have hl : lv_has ls 2 [(0, .ref ts), (1, .int (nI k))] := hl
  refine lv_iload_n hx hb d_Scr_cut_0 rfl (lv_at hl 1 rfl) ?_
  refine kS_i (wc := []) (wr := [(ts, .inr (8, [.ref dr, .ref cl, .ref cp, .ref vs, .int (nI num)])), (vs, .inl (cV, 3, .inr (.inr (.inr (.inr vf))))), (vw, .inr (7, [.ref fd, .ref ds, .ref po, .int (nI 0), .int (nI cr), .int (nI ep)]))]) (w2 := fun _ => [(ts, .inr (8, [.ref dr, .ref cl, .ref cp, .ref vs, .int (nI num)])), (vs, .inl (cV, 3, .inr (.inr (.inr (.inr vf))))), (vw, .inr (7, [.ref fd, .ref ds, .ref po, .int (nI 0), .int (nI cr), .int (nI ep)]))]) [.int (nI k)] [] Bd ⟨gi_app (gi_c0 k_306 (gi_c0 k_307 (gi_c0 k_1 gi_nil))) (gi_tb0 k_308), rfl, by decide, by decide⟩ (show (parseMethodDescriptor "(I)Z").map (fun d => d.parameters.length) = some 1 by decide +kernel) (c_Scr_isViewer (nI k) ) (by decide +kernel) ⟨Nat.le_of_ble_eq_true rfl, Nat.le_of_ble_eq_true rfl⟩ hG hP hD hS hA [] [0, 1, 2] [0, 1, 2] (by decide) rfl rfl (fun _ => rfl) hl.1 rfl (Nat.le_of_ble_eq_true rfl) d_Scr_cut_1 (fun r1 u3 H locs hp2 hP hD hS => ?_)
  have hP : va_P D classes [(ts, .inr (8, [.ref dr, .ref cl, .ref cp, .ref vs, .int (nI num)])), (vs, .inl (cV, 3, .inr (.inr (.inr (.inr vf))))), (vw, .inr (7, [.ref fd, .ref ds, .ref po, .int (nI 0), .int (nI cr), .int (nI ep)]))] H := hP
  have hD : va_D AA [(ts, .inr (8, [.ref dr, .ref cl, .ref cp, .ref vs, .int (nI num)])), (vs, .inl (cV, 3, .inr (.inr (.inr (.inr vf))))), (vw, .inr (7, [.ref fd, .ref ds, .ref po, .int (nI 0), .int (nI cr), .int (nI ep)]))] := hD
  subst hp2
  refine nv_if_eq (tgt := 19) hx hb d_Scr_cut_4 (by decide) (bt_lt _) (fun c_4 => ?_) (fun c_4 => ?_)
  · exact absurd ⟨k, hk, rfl⟩ (cB_0 c_4)
  · refine lv_aload_n hx hb d_Scr_cut_7 rfl (lv_at hl 0 rfl) ?_
    refine va_get (D := D) (ci := 8) (v := .ref vs) (C := "TileScreen") (T := F_Scr) (N := 5) hx hb htb i_Scr hown hG.1 hP 0 rfl rfl 3 (by decide) (htb _ k_241) (fun _ h9 => h9) rfl d_Scr_cut_8 ?_
    refine lv_iload_n hx hb d_Scr_cut_11 rfl (lv_at hl 1 rfl) ?_
    refine va_aldq hx hb hG.1 hP 1 3 rfl rfl (vp_in_nI hk (by decide)) d_Scr_cut_12 ?_
    rw [show vf ((nI k)).toNatClampNeg = some vw from by rw [nI_clamp (by omega)]; exact hvf]
    refine va_getN (D := D) (ci := 7) (v := .int (nI 0)) (C := "TileScreen$Viewer") (T := F_Viewer) (N := 6) hx hb htb i_Viewer hown hG.1 hP 2 rfl rfl 3 (by decide) (va_Nw.use rfl (hG.2 _ k_220).2) (fun _ h9 => h9) rfl d_Scr_cut_13 ?_
    refine nv_if_ne (tgt := 21) hx hb d_Scr_cut_16 (by decide) (by decide) (fun h9 => absurd h9 (by decide)) (fun _ => ?_)
    refine lv_iconst (v := nI 0) hx hb d_Scr_cut_19 (by decide) ?_
    exact hret _ () _ _ _ _ d_Scr_cut_20 (by first | rfl | decide) (rfl) hP hD hS
set_option maxHeartbeats 400000 in
set_option maxRecDepth 100000 in
theorem c_Scr_poison (ts : Nat) (dr : Nat) (cl : Nat) (cp : Nat) (vs : Nat) (num : Nat) (vf : Nat → Option Nat) (k : Nat) (vw : Nat) (fd : Nat) (ds : Nat) (po : Nat) (cn : Nat) (cr : Nat) (ep : Nat) (pa : Nat) (pm : Nat) (pc : Nat) (q1 : Nat → Nat) (w1 : Nat → Nat) (n : Nat) (mk : Int32) (hk : k < 3) (hvf : vf k = some vw) (hn1 : 1 ≤ n) (hn2 : n ≤ 10000) (hc : pc ≤ 8) : CI (S := Unit) l classes NW D (TYS cI cZ cL cV) y_Scr_poison (.code y_Scr_poison b_Scr_poison 4 (some .boolean) :: TB) { frames := 1, cells := 0, slots := 0, locals := 22 } [.ref ts, .int (nI k), .int (nI n), .int mk] [(ts, .inr (8, [.ref dr, .ref cl, .ref cp, .ref vs, .int (nI num)])), (vs, .inl (cV, 3, .inr (.inr (.inr (.inr vf))))), (vw, .inr (7, [.ref fd, .ref ds, .ref po, .int (nI cn), .int (nI cr), .int (nI ep)])), (po, .inr (3, [.ref pa, .ref pm, .int (nI pc)])), (pa, .inl (cI, 8, .inl (nF q1))), (pm, .inl (cI, 8, .inl (nF w1)))] (fun r u => r = nI 1) (fun u => [(ts, .inr (8, [.ref dr, .ref cl, .ref cp, .ref vs, .int (nI num)])), (vs, .inl (cV, 3, .inr (.inr (.inr (.inr vf))))), (vw, .inr (7, [.ref fd, .ref ds, .ref po, .int (nI cn), .int (nI cr), .int (nI ep)])), (po, .inr (3, [.ref pa, .ref pm, .int (nI (min (pc + 1) 8))])), (pa, .inl (cI, 8, .inl (nF (up q1 (min pc 7) n)))), (pm, .inl (cI, 8, .inl (nF (up w1 (min pc 7) (mk8 mk)))))]) := by
  refine CI.of (by decide) (Nat.le_of_ble_eq_true rfl) ?_
  intro pr ev sT mM aR bW mE cO AA QQ ls Bd hG hA hP hD hS hl hret
  have Bd : bd pr cO b_Scr_poison 4 sT aR TB "TileScreen" mM := Bd
  obtain ⟨hx, hb, hml, hown, htb⟩ := id Bd
  have hl : lv_has ls 4 [(0, .ref ts), (1, .int (nI k)), (2, .int (nI n)), (3, .int mk)] := hl
  refine lv_iload_n hx hb d_Scr_poison_0 rfl (lv_at hl 1 rfl) ?_
  refine kS_i (wc := []) (wr := [(ts, .inr (8, [.ref dr, .ref cl, .ref cp, .ref vs, .int (nI num)])), (vs, .inl (cV, 3, .inr (.inr (.inr (.inr vf))))), (vw, .inr (7, [.ref fd, .ref ds, .ref po, .int (nI cn), .int (nI cr), .int (nI ep)])), (po, .inr (3, [.ref pa, .ref pm, .int (nI pc)])), (pa, .inl (cI, 8, .inl (nF q1))), (pm, .inl (cI, 8, .inl (nF w1)))]) (w2 := fun _ => [(ts, .inr (8, [.ref dr, .ref cl, .ref cp, .ref vs, .int (nI num)])), (vs, .inl (cV, 3, .inr (.inr (.inr (.inr vf))))), (vw, .inr (7, [.ref fd, .ref ds, .ref po, .int (nI cn), .int (nI cr), .int (nI ep)])), (po, .inr (3, [.ref pa, .ref pm, .int (nI pc)])), (pa, .inl (cI, 8, .inl (nF q1))), (pm, .inl (cI, 8, .inl (nF w1)))]) [.int (nI k)] [] Bd ⟨gi_app (gi_c0 k_306 (gi_c0 k_307 (gi_c0 k_1 gi_nil))) (gi_tb0 k_308), rfl, by decide, by decide⟩ (show (parseMethodDescriptor "(I)Z").map (fun d => d.parameters.length) = some 1 by decide +kernel) (c_Scr_isViewer (nI k) ) (by decide +kernel) ⟨Nat.le_of_ble_eq_true rfl, Nat.le_of_ble_eq_true rfl⟩ hG hP hD hS hA [] [0, 1, 2, 3, 4, 5] [0, 1, 2, 3, 4, 5] (by decide) rfl rfl (fun _ => rfl) hl.1 rfl (Nat.le_of_ble_eq_true rfl) d_Scr_poison_1 (fun r1 u3 H locs hp2 hP hD hS => ?_)
  have hP : va_P D classes [(ts, .inr (8, [.ref dr, .ref cl, .ref cp, .ref vs, .int (nI num)])), (vs, .inl (cV, 3, .inr (.inr (.inr (.inr vf))))), (vw, .inr (7, [.ref fd, .ref ds, .ref po, .int (nI cn), .int (nI cr), .int (nI ep)])), (po, .inr (3, [.ref pa, .ref pm, .int (nI pc)])), (pa, .inl (cI, 8, .inl (nF q1))), (pm, .inl (cI, 8, .inl (nF w1)))] H := hP
  have hD : va_D AA [(ts, .inr (8, [.ref dr, .ref cl, .ref cp, .ref vs, .int (nI num)])), (vs, .inl (cV, 3, .inr (.inr (.inr (.inr vf))))), (vw, .inr (7, [.ref fd, .ref ds, .ref po, .int (nI cn), .int (nI cr), .int (nI ep)])), (po, .inr (3, [.ref pa, .ref pm, .int (nI pc)])), (pa, .inl (cI, 8, .inl (nF q1))), (pm, .inl (cI, 8, .inl (nF w1)))] := hD
  subst hp2
  refine nv_if_eq (tgt := 19) hx hb d_Scr_poison_4 (by decide) (bt_lt _) (fun c_4 => ?_) (fun c_4 => ?_)
  · exact absurd ⟨k, hk, rfl⟩ (cB_0 c_4)
  · refine lv_iload_n hx hb d_Scr_poison_7 rfl (lv_at hl 2 rfl) ?_
    refine lv_iconst (v := nI 1) hx hb d_Scr_poison_8 (by decide) ?_
    refine nv_icmp_lt (tgt := 19) hx hb d_Scr_poison_9 (by decide) (by omega) (by omega) (fun c_9 => ?_) (fun c_9 => ?_)
    · omega
    · refine lv_iload_n hx hb d_Scr_poison_12 rfl (lv_at hl 2 rfl) ?_
      refine lv_sipush (v := nI 10000) hx hb d_Scr_poison_13 (by decide) ?_
      refine nv_icmp_le (tgt := 21) hx hb d_Scr_poison_16 (by decide) (by omega) (by omega) (fun c_16 => ?_) (fun c_16 => ?_)
      · refine lv_aload_n hx hb d_Scr_poison_21 rfl (lv_at hl 0 rfl) ?_
        refine va_get (D := D) (ci := 8) (v := .ref vs) (C := "TileScreen") (T := F_Scr) (N := 5) hx hb htb i_Scr hown hG.1 hP 0 rfl rfl 3 (by decide) (htb _ k_241) (fun _ h9 => h9) rfl d_Scr_poison_22 ?_
        refine lv_iload_n hx hb d_Scr_poison_25 rfl (lv_at hl 1 rfl) ?_
        refine va_aldq hx hb hG.1 hP 1 3 rfl rfl (vp_in_nI hk (by decide)) d_Scr_poison_26 ?_
        rw [show vf ((nI k)).toNatClampNeg = some vw from by rw [nI_clamp (by omega)]; exact hvf]
        refine va_getN (D := D) (ci := 7) (v := .ref po) (C := "TileScreen$Viewer") (T := F_Viewer) (N := 6) hx hb htb i_Viewer hown hG.1 hP 2 rfl rfl 2 (by decide) (va_Nw.use rfl (hG.2 _ k_218).2) (fun _ h9 => h9) rfl d_Scr_poison_27 ?_
        refine lv_iload_n hx hb d_Scr_poison_30 rfl (lv_at hl 2 rfl) ?_
        refine lv_iload_n hx hb d_Scr_poison_31 rfl (lv_at hl 3 rfl) ?_
        refine lv_sipush (v := nI 255) hx hb d_Scr_poison_32 (by decide) ?_
        refine lv_iand hx hb d_Scr_poison_35 ?_
        refine nv_top (y := nI (mk8 mk)) (mk8_eq mk) ?_
        refine kV_v (wc := [(po, .inr (3, [.ref pa, .ref pm, .int (nI pc)])), (pa, .inl (cI, 8, .inl (nF q1))), (pm, .inl (cI, 8, .inl (nF w1)))]) (wr := [(ts, .inr (8, [.ref dr, .ref cl, .ref cp, .ref vs, .int (nI num)])), (vs, .inl (cV, 3, .inr (.inr (.inr (.inr vf))))), (vw, .inr (7, [.ref fd, .ref ds, .ref po, .int (nI cn), .int (nI cr), .int (nI ep)]))]) (w2 := fun _ => [(ts, .inr (8, [.ref dr, .ref cl, .ref cp, .ref vs, .int (nI num)])), (vs, .inl (cV, 3, .inr (.inr (.inr (.inr vf))))), (vw, .inr (7, [.ref fd, .ref ds, .ref po, .int (nI cn), .int (nI cr), .int (nI ep)])), (po, .inr (3, [.ref pa, .ref pm, .int (nI (min (pc + 1) 8))])), (pa, .inl (cI, 8, .inl (nF (up q1 (min pc 7) n)))), (pm, .inl (cI, 8, .inl (nF (up w1 (min pc 7) (mk8 mk)))))]) [.int (nI n), .int (nI (mk8 mk))] [] Bd ⟨gi_app (gi_c0 k_501 (gi_c0 k_502 (gi_c0 k_503 (gi_c0 k_9 gi_nil)))) (gi_tb0 k_504), rfl, by decide, by decide⟩ (show (parseMethodDescriptor "(II)V").map (fun d => d.parameters.length) = some 2 by decide +kernel) (c_Poisons_add po pa pm pc q1 w1 n (mk8 mk) (by omega)) (by decide +kernel) ⟨Nat.le_of_ble_eq_true rfl, Nat.le_of_ble_eq_true rfl⟩ hG hP hD hS hA [3, 4, 5] [0, 1, 2] [0, 1, 2, 3, 4, 5] (by decide) rfl rfl (fun _ => rfl) (q0 := 0) rfl rfl rfl hl.1 rfl (Nat.le_of_ble_eq_true rfl) d_Scr_poison_36 (fun u5 H locs hp4 hP hD hS => ?_)
        have hP : va_P D classes [(ts, .inr (8, [.ref dr, .ref cl, .ref cp, .ref vs, .int (nI num)])), (vs, .inl (cV, 3, .inr (.inr (.inr (.inr vf))))), (vw, .inr (7, [.ref fd, .ref ds, .ref po, .int (nI cn), .int (nI cr), .int (nI ep)])), (po, .inr (3, [.ref pa, .ref pm, .int (nI (min (pc + 1) 8))])), (pa, .inl (cI, 8, .inl (nF (up q1 (min pc 7) n)))), (pm, .inl (cI, 8, .inl (nF (up w1 (min pc 7) (mk8 mk)))))] H := hP
        have hD : va_D AA [(ts, .inr (8, [.ref dr, .ref cl, .ref cp, .ref vs, .int (nI num)])), (vs, .inl (cV, 3, .inr (.inr (.inr (.inr vf))))), (vw, .inr (7, [.ref fd, .ref ds, .ref po, .int (nI cn), .int (nI cr), .int (nI ep)])), (po, .inr (3, [.ref pa, .ref pm, .int (nI (min (pc + 1) 8))])), (pa, .inl (cI, 8, .inl (nF (up q1 (min pc 7) n)))), (pm, .inl (cI, 8, .inl (nF (up w1 (min pc 7) (mk8 mk)))))] := hD
        refine lv_iconst (v := nI 1) hx hb d_Scr_poison_39 (by decide) ?_
        exact hret _ () _ _ _ _ d_Scr_poison_40 (by first | rfl | decide) (rfl) hP hD hS
      · omega
set_option maxHeartbeats 400000 in
set_option maxRecDepth 100000 in
theorem c_Scr_poison_no (ts : Nat) (dr : Nat) (cl : Nat) (cp : Nat) (vs : Nat) (num : Nat) (v : Int32) (n : Int32) (mk : Int32) (hno : ¬ (vwP v ∧ ∃ q, 1 ≤ q ∧ q ≤ 10000 ∧ n = nI q)) : CI (S := Unit) l classes NW D (TYS cI cZ cL cV) y_Scr_poison (.code y_Scr_poison b_Scr_poison 4 (some .boolean) :: TB) { frames := 1, cells := 0, slots := 0, locals := 20 } [.ref ts, .int v, .int n, .int mk] [(ts, .inr (8, [.ref dr, .ref cl, .ref cp, .ref vs, .int (nI num)]))] (fun r u => r = nI 0) (fun u => [(ts, .inr (8, [.ref dr, .ref cl, .ref cp, .ref vs, .int (nI num)]))]) := by
  refine CI.of (by decide) (Nat.le_of_ble_eq_true rfl) ?_
  intro pr ev sT mM aR bW mE cO AA QQ ls Bd hG hA hP hD hS hl hret
  have Bd : bd pr cO b_Scr_poison 4 sT aR TB "TileScreen" mM := Bd
  obtain ⟨hx, hb, hml, hown, htb⟩ := id Bd
  have hl : lv_has ls 4 [(0, .ref ts), (1, .int v), (2, .int n), (3, .int mk)] := hl
  refine lv_iload_n hx hb d_Scr_poison_0 rfl (lv_at hl 1 rfl) ?_
  refine kS_i (wc := []) (wr := [(ts, .inr (8, [.ref dr, .ref cl, .ref cp, .ref vs, .int (nI num)]))]) (w2 := fun _ => [(ts, .inr (8, [.ref dr, .ref cl, .ref cp, .ref vs, .int (nI num)]))]) [.int v] [] Bd ⟨gi_app (gi_c0 k_306 (gi_c0 k_307 (gi_c0 k_1 gi_nil))) (gi_tb0 k_308), rfl, by decide, by decide⟩ (show (parseMethodDescriptor "(I)Z").map (fun d => d.parameters.length) = some 1 by decide +kernel) (c_Scr_isViewer v ) (by decide +kernel) ⟨Nat.le_of_ble_eq_true rfl, Nat.le_of_ble_eq_true rfl⟩ hG hP hD hS hA [] [0] [0] (by decide) rfl rfl (fun _ => rfl) hl.1 rfl (Nat.le_of_ble_eq_true rfl) d_Scr_poison_1 (fun r1 u3 H locs hp2 hP hD hS => ?_)
  have hP : va_P D classes [(ts, .inr (8, [.ref dr, .ref cl, .ref cp, .ref vs, .int (nI num)]))] H := hP
  have hD : va_D AA [(ts, .inr (8, [.ref dr, .ref cl, .ref cp, .ref vs, .int (nI num)]))] := hD
  subst hp2
  refine nv_if_eq (tgt := 19) hx hb d_Scr_poison_4 (by decide) (bt_lt _) (fun c_4 => ?_) (fun c_4 => ?_)
  · refine lv_iconst (v := nI 0) hx hb d_Scr_poison_19 (by decide) ?_
    exact hret _ () _ _ _ _ d_Scr_poison_20 (by first | rfl | decide) (rfl) hP hD hS
  · refine lv_iload_n hx hb d_Scr_poison_7 rfl (lv_at hl 2 rfl) ?_
    refine lv_iconst (v := nI 1) hx hb d_Scr_poison_8 (by decide) ?_
    refine lv_icmp_lt (tgt := 19) hx hb d_Scr_poison_9 (by decide) (fun c_9 => ?_) (fun c_9 => ?_)
    · refine lv_iconst (v := nI 0) hx hb d_Scr_poison_19 (by decide) ?_
      exact hret _ () _ _ _ _ d_Scr_poison_20 (by first | rfl | decide) (rfl) hP hD hS
    · refine lv_iload_n hx hb d_Scr_poison_12 rfl (lv_at hl 2 rfl) ?_
      refine lv_sipush (v := nI 10000) hx hb d_Scr_poison_13 (by decide) ?_
      refine lv_icmp_le (tgt := 21) hx hb d_Scr_poison_16 (by decide) (fun c_16 => ?_) (fun c_16 => ?_)
      · exact absurd ⟨cB_1 c_4, i_rng (by decide) c_9 (fun z => absurd c_16 (Int32.not_le.mpr z))⟩ hno
      · refine lv_iconst (v := nI 0) hx hb d_Scr_poison_19 (by decide) ?_
        exact hret _ () _ _ _ _ d_Scr_poison_20 (by first | rfl | decide) (rfl) hP hD hS
set_option maxHeartbeats 400000 in
set_option maxRecDepth 100000 in
theorem c_Scr_answerOf (x : Int64) : CI (S := Unit) l classes NW D (TYS cI cZ cL cV) y_Scr_answerOf (.code y_Scr_answerOf b_Scr_answerOf 2 (some .int) :: TB) { frames := 0, cells := 0, slots := 0, locals := 0 } [.long x] [] (fun r u => r = (x : Int64).toInt32) (fun u => []) := by
  refine CI.of (by decide) (Nat.le_of_ble_eq_true rfl) ?_
  intro pr ev sT mM aR bW mE cO AA QQ ls Bd hG hA hP hD hS hl hret
  have Bd : bd pr cO b_Scr_answerOf 2 sT aR TB "TileScreen" mM := Bd
  obtain ⟨hx, hb, hml, hown, htb⟩ := id Bd
  have hl : lv_has ls 2 [(0, .long x)] := hl
  refine lv_lload_n hx hb d_Scr_answerOf_0 rfl (lv_at hl 0 rfl) ?_
  refine lv_l2i (v := (x : Int64).toInt32) hx hb d_Scr_answerOf_1 rfl ?_
  exact hret _ () _ _ _ _ d_Scr_answerOf_2 rfl (rfl) hP hD hS
set_option maxHeartbeats 400000 in
set_option maxRecDepth 100000 in
theorem c_Scr_shown (ts : Nat) (dr : Nat) (cl : Nat) (cp : Nat) (vs : Nat) (num : Nat) (vf : Nat → Option Nat) (k : Nat) (vw : Nat) (fd : Nat) (ds : Nat) (po : Nat) (cn : Nat) (cr : Nat) (ep : Nat) (fr : Nat) (fn : Int64) (bk : Nat) (dc : Nat) (cm : Nat) (cz : Nat) (pp : Nat) (dpo : Nat) (de : Nat) (dw : Nat) (hk : k < 3) (hvf : vf k = some vw) : CI (S := Unit) l classes NW D (TYS cI cZ cL cV) y_Scr_shown (.code y_Scr_shown b_Scr_shown 2 (some .int) :: TB) { frames := 1, cells := 0, slots := 0, locals := 21 } [.ref ts, .int (nI k)] [(ts, .inr (8, [.ref dr, .ref cl, .ref cp, .ref vs, .int (nI num)])), (vs, .inl (cV, 3, .inr (.inr (.inr (.inr vf))))), (vw, .inr (7, [.ref fd, .ref ds, .ref po, .int (nI cn), .int (nI cr), .int (nI ep)])), (ds, .inr (6, [.ref fr, .long fn, .ref bk, .ref dc, .ref cm, .int (nI cz), .ref pp, .int (nI dpo), .int (nI de), .int (nI dw)]))] (fun r u => r = (fn : Int64).toInt32) (fun u => [(ts, .inr (8, [.ref dr, .ref cl, .ref cp, .ref vs, .int (nI num)])), (vs, .inl (cV, 3, .inr (.inr (.inr (.inr vf))))), (vw, .inr (7, [.ref fd, .ref ds, .ref po, .int (nI cn), .int (nI cr), .int (nI ep)])), (ds, .inr (6, [.ref fr, .long fn, .ref bk, .ref dc, .ref cm, .int (nI cz), .ref pp, .int (nI dpo), .int (nI de), .int (nI dw)]))]) := by
  refine CI.of (by decide) (Nat.le_of_ble_eq_true rfl) ?_
  intro pr ev sT mM aR bW mE cO AA QQ ls Bd hG hA hP hD hS hl hret
  have Bd : bd pr cO b_Scr_shown 2 sT aR TB "TileScreen" mM := Bd
  obtain ⟨hx, hb, hml, hown, htb⟩ := id Bd
  have hl : lv_has ls 2 [(0, .ref ts), (1, .int (nI k))] := hl
  refine lv_iload_n hx hb d_Scr_shown_0 rfl (lv_at hl 1 rfl) ?_
  refine kS_i (wc := []) (wr := [(ts, .inr (8, [.ref dr, .ref cl, .ref cp, .ref vs, .int (nI num)])), (vs, .inl (cV, 3, .inr (.inr (.inr (.inr vf))))), (vw, .inr (7, [.ref fd, .ref ds, .ref po, .int (nI cn), .int (nI cr), .int (nI ep)])), (ds, .inr (6, [.ref fr, .long fn, .ref bk, .ref dc, .ref cm, .int (nI cz), .ref pp, .int (nI dpo), .int (nI de), .int (nI dw)]))]) (w2 := fun _ => [(ts, .inr (8, [.ref dr, .ref cl, .ref cp, .ref vs, .int (nI num)])), (vs, .inl (cV, 3, .inr (.inr (.inr (.inr vf))))), (vw, .inr (7, [.ref fd, .ref ds, .ref po, .int (nI cn), .int (nI cr), .int (nI ep)])), (ds, .inr (6, [.ref fr, .long fn, .ref bk, .ref dc, .ref cm, .int (nI cz), .ref pp, .int (nI dpo), .int (nI de), .int (nI dw)]))]) [.int (nI k)] [] Bd ⟨gi_app (gi_c0 k_306 (gi_c0 k_307 (gi_c0 k_1 gi_nil))) (gi_tb0 k_308), rfl, by decide, by decide⟩ (show (parseMethodDescriptor "(I)Z").map (fun d => d.parameters.length) = some 1 by decide +kernel) (c_Scr_isViewer (nI k) ) (by decide +kernel) ⟨Nat.le_of_ble_eq_true rfl, Nat.le_of_ble_eq_true rfl⟩ hG hP hD hS hA [] [0, 1, 2, 3] [0, 1, 2, 3] (by decide) rfl rfl (fun _ => rfl) hl.1 rfl (Nat.le_of_ble_eq_true rfl) d_Scr_shown_1 (fun r1 u3 H locs hp2 hP hD hS => ?_)
  have hP : va_P D classes [(ts, .inr (8, [.ref dr, .ref cl, .ref cp, .ref vs, .int (nI num)])), (vs, .inl (cV, 3, .inr (.inr (.inr (.inr vf))))), (vw, .inr (7, [.ref fd, .ref ds, .ref po, .int (nI cn), .int (nI cr), .int (nI ep)])), (ds, .inr (6, [.ref fr, .long fn, .ref bk, .ref dc, .ref cm, .int (nI cz), .ref pp, .int (nI dpo), .int (nI de), .int (nI dw)]))] H := hP
  have hD : va_D AA [(ts, .inr (8, [.ref dr, .ref cl, .ref cp, .ref vs, .int (nI num)])), (vs, .inl (cV, 3, .inr (.inr (.inr (.inr vf))))), (vw, .inr (7, [.ref fd, .ref ds, .ref po, .int (nI cn), .int (nI cr), .int (nI ep)])), (ds, .inr (6, [.ref fr, .long fn, .ref bk, .ref dc, .ref cm, .int (nI cz), .ref pp, .int (nI dpo), .int (nI de), .int (nI dw)]))] := hD
  subst hp2
  refine nv_if_eq (tgt := 25) hx hb d_Scr_shown_4 (by decide) (bt_lt _) (fun c_4 => ?_) (fun c_4 => ?_)
  · exact absurd ⟨k, hk, rfl⟩ (cB_0 c_4)
  · refine lv_aload_n hx hb d_Scr_shown_7 rfl (lv_at hl 0 rfl) ?_
    refine va_get (D := D) (ci := 8) (v := .ref vs) (C := "TileScreen") (T := F_Scr) (N := 5) hx hb htb i_Scr hown hG.1 hP 0 rfl rfl 3 (by decide) (htb _ k_241) (fun _ h9 => h9) rfl d_Scr_shown_8 ?_
    refine lv_iload_n hx hb d_Scr_shown_11 rfl (lv_at hl 1 rfl) ?_
    refine va_aldq hx hb hG.1 hP 1 3 rfl rfl (vp_in_nI hk (by decide)) d_Scr_shown_12 ?_
    rw [show vf ((nI k)).toNatClampNeg = some vw from by rw [nI_clamp (by omega)]; exact hvf]
    refine va_getN (D := D) (ci := 7) (v := .ref ds) (C := "TileScreen$Viewer") (T := F_Viewer) (N := 6) hx hb htb i_Viewer hown hG.1 hP 2 rfl rfl 1 (by decide) (va_Nw.use rfl (hG.2 _ k_216).2) (fun _ h9 => h9) rfl d_Scr_shown_13 ?_
    refine va_getN (D := D) (ci := 6) (v := .long fn) (C := "TileScreen$Display") (T := F_Display) (N := 10) hx hb htb i_Display hown hG.1 hP 3 rfl rfl 1 (by decide) (va_Nw.use rfl (hG.2 _ k_165).2) (fun _ h9 => h9) rfl d_Scr_shown_16 ?_
    refine kS_i (wc := []) (wr := [(ts, .inr (8, [.ref dr, .ref cl, .ref cp, .ref vs, .int (nI num)])), (vs, .inl (cV, 3, .inr (.inr (.inr (.inr vf))))), (vw, .inr (7, [.ref fd, .ref ds, .ref po, .int (nI cn), .int (nI cr), .int (nI ep)])), (ds, .inr (6, [.ref fr, .long fn, .ref bk, .ref dc, .ref cm, .int (nI cz), .ref pp, .int (nI dpo), .int (nI de), .int (nI dw)]))]) (w2 := fun _ => [(ts, .inr (8, [.ref dr, .ref cl, .ref cp, .ref vs, .int (nI num)])), (vs, .inl (cV, 3, .inr (.inr (.inr (.inr vf))))), (vw, .inr (7, [.ref fd, .ref ds, .ref po, .int (nI cn), .int (nI cr), .int (nI ep)])), (ds, .inr (6, [.ref fr, .long fn, .ref bk, .ref dc, .ref cm, .int (nI cz), .ref pp, .int (nI dpo), .int (nI de), .int (nI dw)]))]) [.long fn] [] Bd ⟨gi_app (gi_c0 k_509 (gi_c0 k_510 (gi_c0 k_1 gi_nil))) (gi_tb0 k_511), rfl, by decide, by decide⟩ (show (parseMethodDescriptor "(J)I").map (fun d => d.parameters.length) = some 1 by decide +kernel) (c_Scr_answerOf fn ) (by decide +kernel) ⟨Nat.le_of_ble_eq_true rfl, Nat.le_of_ble_eq_true rfl⟩ hG hP hD hS hA [] [0, 1, 2, 3] [0, 1, 2, 3] (by decide) rfl rfl (fun _ => rfl) hl.1 rfl (Nat.le_of_ble_eq_true rfl) d_Scr_shown_19 (fun r4 u6 H locs hp5 hP hD hS => ?_)
    have hP : va_P D classes [(ts, .inr (8, [.ref dr, .ref cl, .ref cp, .ref vs, .int (nI num)])), (vs, .inl (cV, 3, .inr (.inr (.inr (.inr vf))))), (vw, .inr (7, [.ref fd, .ref ds, .ref po, .int (nI cn), .int (nI cr), .int (nI ep)])), (ds, .inr (6, [.ref fr, .long fn, .ref bk, .ref dc, .ref cm, .int (nI cz), .ref pp, .int (nI dpo), .int (nI de), .int (nI dw)]))] H := hP
    have hD : va_D AA [(ts, .inr (8, [.ref dr, .ref cl, .ref cp, .ref vs, .int (nI num)])), (vs, .inl (cV, 3, .inr (.inr (.inr (.inr vf))))), (vw, .inr (7, [.ref fd, .ref ds, .ref po, .int (nI cn), .int (nI cr), .int (nI ep)])), (ds, .inr (6, [.ref fr, .long fn, .ref bk, .ref dc, .ref cm, .int (nI cz), .ref pp, .int (nI dpo), .int (nI de), .int (nI dw)]))] := hD
    subst hp5
    refine lv_goto (tgt := 26) hx hb d_Scr_shown_22 (by decide) ?_
    exact hret _ () _ _ _ _ d_Scr_shown_26 rfl (rfl) hP hD hS
set_option maxHeartbeats 400000 in
set_option maxRecDepth 100000 in
theorem c_Scr_atD (ts : Nat) (dr : Nat) (cl : Nat) (cp : Nat) (vs : Nat) (num : Nat) (drp : Nat) (Dr : Nat → Nat) (x : Nat) (y : Nat) (hx1 : x < 64) (hy1 : y < 48) : CI (S := Unit) l classes NW D (TYS cI cZ cL cV) y_Scr_at (.code y_Scr_at b_Scr_at 4 (some .int) :: TB) { frames := 2, cells := 0, slots := 0, locals := 44 } [.ref ts, .int (-1), .int (nI x), .int (nI y)] [(ts, .inr (8, [.ref dr, .ref cl, .ref cp, .ref vs, .int (nI num)])), (dr, .inr (0, [.int (nI 48), .ref drp])), (drp, .inl (cI, 3072, .inl (nF Dr)))] (fun r u => r = nI (Dr (ti x y))) (fun u => [(ts, .inr (8, [.ref dr, .ref cl, .ref cp, .ref vs, .int (nI num)])), (dr, .inr (0, [.int (nI 48), .ref drp])), (drp, .inl (cI, 3072, .inl (nF Dr)))]) := by
  refine CI.of (by decide) (Nat.le_of_ble_eq_true rfl) ?_
  intro pr ev sT mM aR bW mE cO AA QQ ls Bd hG hA hP hD hS hl hret
  have Bd : bd pr cO b_Scr_at 4 sT aR TB "TileScreen" mM := Bd
  obtain ⟨hx, hb, hml, hown, htb⟩ := id Bd
  have hl : lv_has ls 4 [(0, .ref ts), (1, .int (-1)), (2, .int (nI x)), (3, .int (nI y))] := hl
  refine lv_iload_n hx hb d_Scr_at_0 rfl (lv_at hl 2 rfl) ?_
  refine lv_iload_n hx hb d_Scr_at_1 rfl (lv_at hl 3 rfl) ?_
  refine lv_iconst (v := nI 1) hx hb d_Scr_at_2 (by decide) ?_
  refine lv_iconst (v := nI 1) hx hb d_Scr_at_3 (by decide) ?_
  refine kS_i (wc := []) (wr := [(ts, .inr (8, [.ref dr, .ref cl, .ref cp, .ref vs, .int (nI num)])), (dr, .inr (0, [.int (nI 48), .ref drp])), (drp, .inl (cI, 3072, .inl (nF Dr)))]) (w2 := fun _ => [(ts, .inr (8, [.ref dr, .ref cl, .ref cp, .ref vs, .int (nI num)])), (dr, .inr (0, [.int (nI 48), .ref drp])), (drp, .inl (cI, 3072, .inl (nF Dr)))]) [.int (nI x), .int (nI y), .int (nI 1), .int (nI 1)] [] Bd ⟨gi_app (gi_c0 k_258 (gi_c0 k_259 (gi_c0 k_1 gi_nil))) (gi_tb0 k_260), rfl, by decide, by decide⟩ (show (parseMethodDescriptor "(IIII)Z").map (fun d => d.parameters.length) = some 4 by decide +kernel) (c_Scr_isInside (nI x) (nI y) (nI 1) (nI 1) ) (by decide +kernel) ⟨Nat.le_of_ble_eq_true rfl, Nat.le_of_ble_eq_true rfl⟩ hG hP hD hS hA [] [0, 1, 2] [0, 1, 2] (by decide) rfl rfl (fun _ => rfl) hl.1 rfl (Nat.le_of_ble_eq_true rfl) d_Scr_at_4 (fun r1 u3 H locs hp2 hP hD hS => ?_)
  have hP : va_P D classes [(ts, .inr (8, [.ref dr, .ref cl, .ref cp, .ref vs, .int (nI num)])), (dr, .inr (0, [.int (nI 48), .ref drp])), (drp, .inl (cI, 3072, .inl (nF Dr)))] H := hP
  have hD : va_D AA [(ts, .inr (8, [.ref dr, .ref cl, .ref cp, .ref vs, .int (nI num)])), (dr, .inr (0, [.int (nI 48), .ref drp])), (drp, .inl (cI, 3072, .inl (nF Dr)))] := hD
  subst hp2
  refine nv_if_ne (tgt := 12) hx hb d_Scr_at_7 (by decide) (bt_lt _) (fun c_7 => ?_) (fun c_7 => ?_)
  · refine lv_iload_n hx hb d_Scr_at_12 rfl (lv_at hl 1 rfl) ?_
    refine lv_iconst (v := -1) hx hb d_Scr_at_13 (by decide) ?_
    refine lv_icmp_ne (tgt := 27) hx hb d_Scr_at_14 (by decide) (fun c_14 => ?_) (fun c_14 => ?_)
    · exact absurd rfl c_14
    · refine lv_aload_n hx hb d_Scr_at_17 rfl (lv_at hl 0 rfl) ?_
      refine va_get (D := D) (ci := 8) (v := .ref dr) (C := "TileScreen") (T := F_Scr) (N := 5) hx hb htb i_Scr hown hG.1 hP 0 rfl rfl 0 (by decide) (htb _ k_238) (fun _ h9 => h9) rfl d_Scr_at_18 ?_
      refine lv_iload_n hx hb d_Scr_at_21 rfl (lv_at hl 2 rfl) ?_
      refine lv_iload_n hx hb d_Scr_at_22 rfl (lv_at hl 3 rfl) ?_
      refine kS_i (wc := [(dr, .inr (0, [.int (nI 48), .ref drp])), (drp, .inl (cI, 3072, .inl (nF Dr)))]) (wr := [(ts, .inr (8, [.ref dr, .ref cl, .ref cp, .ref vs, .int (nI num)]))]) (w2 := fun _ => [(ts, .inr (8, [.ref dr, .ref cl, .ref cp, .ref vs, .int (nI num)])), (dr, .inr (0, [.int (nI 48), .ref drp])), (drp, .inl (cI, 3072, .inl (nF Dr)))]) [.ref dr, .int (nI x), .int (nI y)] [] Bd ⟨gi_app (gi_c0 k_286 (gi_c0 k_287 (gi_c0 k_1 gi_nil))) (gi_tb0 k_288), rfl, by decide, by decide⟩ (show (parseMethodDescriptor "(LTileScreen$Tiles;II)I").map (fun d => d.parameters.length) = some 3 by decide +kernel) (c_Scr_pixelAt dr drp Dr x y (by omega) (by omega)) (by decide +kernel) ⟨Nat.le_of_ble_eq_true rfl, Nat.le_of_ble_eq_true rfl⟩ hG hP hD hS hA [1, 2] [0] [0, 1, 2] (by decide) rfl rfl (fun _ => rfl) hl.1 rfl (Nat.le_of_ble_eq_true rfl) d_Scr_at_23 (fun r4 u6 H locs hp5 hP hD hS => ?_)
      have hP : va_P D classes [(ts, .inr (8, [.ref dr, .ref cl, .ref cp, .ref vs, .int (nI num)])), (dr, .inr (0, [.int (nI 48), .ref drp])), (drp, .inl (cI, 3072, .inl (nF Dr)))] H := hP
      have hD : va_D AA [(ts, .inr (8, [.ref dr, .ref cl, .ref cp, .ref vs, .int (nI num)])), (dr, .inr (0, [.int (nI 48), .ref drp])), (drp, .inl (cI, 3072, .inl (nF Dr)))] := hD
      subst hp5
      exact hret _ () _ _ _ _ d_Scr_at_26 rfl (rfl) hP hD hS
  · exact absurd ⟨x, y, 1, 1, rfl, rfl, rfl, rfl, by omega, by omega, by omega, by omega⟩ (cB_0 c_7)
set_option maxHeartbeats 400000 in
set_option maxRecDepth 100000 in
theorem c_Scr_atV (ts : Nat) (dr : Nat) (cl : Nat) (cp : Nat) (vs : Nat) (num : Nat) (vf : Nat → Option Nat) (k : Nat) (vw : Nat) (fd : Nat) (ds : Nat) (po : Nat) (cn : Nat) (cr : Nat) (ep : Nat) (fr : Nat) (fn : Int64) (bk : Nat) (dc : Nat) (cm : Nat) (cz : Nat) (pp : Nat) (dpo : Nat) (de : Nat) (dw : Nat) (fp : Nat) (Fr : Nat → Nat) (x : Nat) (y : Nat) (hk : k < 3) (hvf : vf k = some vw) (hx1 : x < 64) (hy1 : y < 48) : CI (S := Unit) l classes NW D (TYS cI cZ cL cV) y_Scr_at (.code y_Scr_at b_Scr_at 4 (some .int) :: TB) { frames := 2, cells := 0, slots := 0, locals := 44 } [.ref ts, .int (nI k), .int (nI x), .int (nI y)] [(ts, .inr (8, [.ref dr, .ref cl, .ref cp, .ref vs, .int (nI num)])), (vs, .inl (cV, 3, .inr (.inr (.inr (.inr vf))))), (vw, .inr (7, [.ref fd, .ref ds, .ref po, .int (nI cn), .int (nI cr), .int (nI ep)])), (ds, .inr (6, [.ref fr, .long fn, .ref bk, .ref dc, .ref cm, .int (nI cz), .ref pp, .int (nI dpo), .int (nI de), .int (nI dw)])), (fr, .inr (0, [.int (nI 48), .ref fp])), (fp, .inl (cI, 3072, .inl (nF Fr)))] (fun r u => r = nI (Fr (ti x y))) (fun u => [(ts, .inr (8, [.ref dr, .ref cl, .ref cp, .ref vs, .int (nI num)])), (vs, .inl (cV, 3, .inr (.inr (.inr (.inr vf))))), (vw, .inr (7, [.ref fd, .ref ds, .ref po, .int (nI cn), .int (nI cr), .int (nI ep)])), (ds, .inr (6, [.ref fr, .long fn, .ref bk, .ref dc, .ref cm, .int (nI cz), .ref pp, .int (nI dpo), .int (nI de), .int (nI dw)])), (fr, .inr (0, [.int (nI 48), .ref fp])), (fp, .inl (cI, 3072, .inl (nF Fr)))]) := by
  refine CI.of (by decide) (Nat.le_of_ble_eq_true rfl) ?_
  intro pr ev sT mM aR bW mE cO AA QQ ls Bd hG hA hP hD hS hl hret
  have Bd : bd pr cO b_Scr_at 4 sT aR TB "TileScreen" mM := Bd
  obtain ⟨hx, hb, hml, hown, htb⟩ := id Bd
  have hl : lv_has ls 4 [(0, .ref ts), (1, .int (nI k)), (2, .int (nI x)), (3, .int (nI y))] := hl
  refine lv_iload_n hx hb d_Scr_at_0 rfl (lv_at hl 2 rfl) ?_
  refine lv_iload_n hx hb d_Scr_at_1 rfl (lv_at hl 3 rfl) ?_
  refine lv_iconst (v := nI 1) hx hb d_Scr_at_2 (by decide) ?_
  refine lv_iconst (v := nI 1) hx hb d_Scr_at_3 (by decide) ?_
  refine kS_i (wc := []) (wr := [(ts, .inr (8, [.ref dr, .ref cl, .ref cp, .ref vs, .int (nI num)])), (vs, .inl (cV, 3, .inr (.inr (.inr (.inr vf))))), (vw, .inr (7, [.ref fd, .ref ds, .ref po, .int (nI cn), .int (nI cr), .int (nI ep)])), (ds, .inr (6, [.ref fr, .long fn, .ref bk, .ref dc, .ref cm, .int (nI cz), .ref pp, .int (nI dpo), .int (nI de), .int (nI dw)])), (fr, .inr (0, [.int (nI 48), .ref fp])), (fp, .inl (cI, 3072, .inl (nF Fr)))]) (w2 := fun _ => [(ts, .inr (8, [.ref dr, .ref cl, .ref cp, .ref vs, .int (nI num)])), (vs, .inl (cV, 3, .inr (.inr (.inr (.inr vf))))), (vw, .inr (7, [.ref fd, .ref ds, .ref po, .int (nI cn), .int (nI cr), .int (nI ep)])), (ds, .inr (6, [.ref fr, .long fn, .ref bk, .ref dc, .ref cm, .int (nI cz), .ref pp, .int (nI dpo), .int (nI de), .int (nI dw)])), (fr, .inr (0, [.int (nI 48), .ref fp])), (fp, .inl (cI, 3072, .inl (nF Fr)))]) [.int (nI x), .int (nI y), .int (nI 1), .int (nI 1)] [] Bd ⟨gi_app (gi_c0 k_258 (gi_c0 k_259 (gi_c0 k_1 gi_nil))) (gi_tb0 k_260), rfl, by decide, by decide⟩ (show (parseMethodDescriptor "(IIII)Z").map (fun d => d.parameters.length) = some 4 by decide +kernel) (c_Scr_isInside (nI x) (nI y) (nI 1) (nI 1) ) (by decide +kernel) ⟨Nat.le_of_ble_eq_true rfl, Nat.le_of_ble_eq_true rfl⟩ hG hP hD hS hA [] [0, 1, 2, 3, 4, 5] [0, 1, 2, 3, 4, 5] (by decide) rfl rfl (fun _ => rfl) hl.1 rfl (Nat.le_of_ble_eq_true rfl) d_Scr_at_4 (fun r1 u3 H locs hp2 hP hD hS => ?_)
  have hP : va_P D classes [(ts, .inr (8, [.ref dr, .ref cl, .ref cp, .ref vs, .int (nI num)])), (vs, .inl (cV, 3, .inr (.inr (.inr (.inr vf))))), (vw, .inr (7, [.ref fd, .ref ds, .ref po, .int (nI cn), .int (nI cr), .int (nI ep)])), (ds, .inr (6, [.ref fr, .long fn, .ref bk, .ref dc, .ref cm, .int (nI cz), .ref pp, .int (nI dpo), .int (nI de), .int (nI dw)])), (fr, .inr (0, [.int (nI 48), .ref fp])), (fp, .inl (cI, 3072, .inl (nF Fr)))] H := hP
  have hD : va_D AA [(ts, .inr (8, [.ref dr, .ref cl, .ref cp, .ref vs, .int (nI num)])), (vs, .inl (cV, 3, .inr (.inr (.inr (.inr vf))))), (vw, .inr (7, [.ref fd, .ref ds, .ref po, .int (nI cn), .int (nI cr), .int (nI ep)])), (ds, .inr (6, [.ref fr, .long fn, .ref bk, .ref dc, .ref cm, .int (nI cz), .ref pp, .int (nI dpo), .int (nI de), .int (nI dw)])), (fr, .inr (0, [.int (nI 48), .ref fp])), (fp, .inl (cI, 3072, .inl (nF Fr)))] := hD
  subst hp2
  refine nv_if_ne (tgt := 12) hx hb d_Scr_at_7 (by decide) (bt_lt _) (fun c_7 => ?_) (fun c_7 => ?_)
  · refine lv_iload_n hx hb d_Scr_at_12 rfl (lv_at hl 1 rfl) ?_
    refine lv_iconst (v := -1) hx hb d_Scr_at_13 (by decide) ?_
    refine lv_icmp_ne (tgt := 27) hx hb d_Scr_at_14 (by decide) (fun c_14 => ?_) (fun c_14 => ?_)
    · refine lv_iload_n hx hb d_Scr_at_27 rfl (lv_at hl 1 rfl) ?_
      refine kS_i (wc := []) (wr := [(ts, .inr (8, [.ref dr, .ref cl, .ref cp, .ref vs, .int (nI num)])), (vs, .inl (cV, 3, .inr (.inr (.inr (.inr vf))))), (vw, .inr (7, [.ref fd, .ref ds, .ref po, .int (nI cn), .int (nI cr), .int (nI ep)])), (ds, .inr (6, [.ref fr, .long fn, .ref bk, .ref dc, .ref cm, .int (nI cz), .ref pp, .int (nI dpo), .int (nI de), .int (nI dw)])), (fr, .inr (0, [.int (nI 48), .ref fp])), (fp, .inl (cI, 3072, .inl (nF Fr)))]) (w2 := fun _ => [(ts, .inr (8, [.ref dr, .ref cl, .ref cp, .ref vs, .int (nI num)])), (vs, .inl (cV, 3, .inr (.inr (.inr (.inr vf))))), (vw, .inr (7, [.ref fd, .ref ds, .ref po, .int (nI cn), .int (nI cr), .int (nI ep)])), (ds, .inr (6, [.ref fr, .long fn, .ref bk, .ref dc, .ref cm, .int (nI cz), .ref pp, .int (nI dpo), .int (nI de), .int (nI dw)])), (fr, .inr (0, [.int (nI 48), .ref fp])), (fp, .inl (cI, 3072, .inl (nF Fr)))]) [.int (nI k)] [] Bd ⟨gi_app (gi_c0 k_306 (gi_c0 k_307 (gi_c0 k_1 gi_nil))) (gi_tb0 k_308), rfl, by decide, by decide⟩ (show (parseMethodDescriptor "(I)Z").map (fun d => d.parameters.length) = some 1 by decide +kernel) (c_Scr_isViewer (nI k) ) (by decide +kernel) ⟨Nat.le_of_ble_eq_true rfl, Nat.le_of_ble_eq_true rfl⟩ hG hP hD hS hA [] [0, 1, 2, 3, 4, 5] [0, 1, 2, 3, 4, 5] (by decide) rfl rfl (fun _ => rfl) hl.1 rfl (Nat.le_of_ble_eq_true rfl) d_Scr_at_28 (fun r4 u6 H locs hp5 hP hD hS => ?_)
      have hP : va_P D classes [(ts, .inr (8, [.ref dr, .ref cl, .ref cp, .ref vs, .int (nI num)])), (vs, .inl (cV, 3, .inr (.inr (.inr (.inr vf))))), (vw, .inr (7, [.ref fd, .ref ds, .ref po, .int (nI cn), .int (nI cr), .int (nI ep)])), (ds, .inr (6, [.ref fr, .long fn, .ref bk, .ref dc, .ref cm, .int (nI cz), .ref pp, .int (nI dpo), .int (nI de), .int (nI dw)])), (fr, .inr (0, [.int (nI 48), .ref fp])), (fp, .inl (cI, 3072, .inl (nF Fr)))] H := hP
      have hD : va_D AA [(ts, .inr (8, [.ref dr, .ref cl, .ref cp, .ref vs, .int (nI num)])), (vs, .inl (cV, 3, .inr (.inr (.inr (.inr vf))))), (vw, .inr (7, [.ref fd, .ref ds, .ref po, .int (nI cn), .int (nI cr), .int (nI ep)])), (ds, .inr (6, [.ref fr, .long fn, .ref bk, .ref dc, .ref cm, .int (nI cz), .ref pp, .int (nI dpo), .int (nI de), .int (nI dw)])), (fr, .inr (0, [.int (nI 48), .ref fp])), (fp, .inl (cI, 3072, .inl (nF Fr)))] := hD
      subst hp5
      refine nv_if_eq (tgt := 54) hx hb d_Scr_at_31 (by decide) (bt_lt _) (fun c_31 => ?_) (fun c_31 => ?_)
      · exact absurd ⟨k, hk, rfl⟩ (cB_0 c_31)
      · refine lv_aload_n hx hb d_Scr_at_34 rfl (lv_at hl 0 rfl) ?_
        refine va_get (D := D) (ci := 8) (v := .ref vs) (C := "TileScreen") (T := F_Scr) (N := 5) hx hb htb i_Scr hown hG.1 hP 0 rfl rfl 3 (by decide) (htb _ k_241) (fun _ h9 => h9) rfl d_Scr_at_35 ?_
        refine lv_iload_n hx hb d_Scr_at_38 rfl (lv_at hl 1 rfl) ?_
        refine va_aldq hx hb hG.1 hP 1 3 rfl rfl (vp_in_nI hk (by decide)) d_Scr_at_39 ?_
        rw [show vf ((nI k)).toNatClampNeg = some vw from by rw [nI_clamp (by omega)]; exact hvf]
        refine va_getN (D := D) (ci := 7) (v := .ref ds) (C := "TileScreen$Viewer") (T := F_Viewer) (N := 6) hx hb htb i_Viewer hown hG.1 hP 2 rfl rfl 1 (by decide) (va_Nw.use rfl (hG.2 _ k_216).2) (fun _ h9 => h9) rfl d_Scr_at_40 ?_
        refine va_getN (D := D) (ci := 6) (v := .ref fr) (C := "TileScreen$Display") (T := F_Display) (N := 10) hx hb htb i_Display hown hG.1 hP 3 rfl rfl 0 (by decide) (va_Nw.use rfl (hG.2 _ k_162).2) (fun _ h9 => h9) rfl d_Scr_at_43 ?_
        refine lv_iload_n hx hb d_Scr_at_46 rfl (lv_at hl 2 rfl) ?_
        refine lv_iload_n hx hb d_Scr_at_47 rfl (lv_at hl 3 rfl) ?_
        refine kS_i (wc := [(fr, .inr (0, [.int (nI 48), .ref fp])), (fp, .inl (cI, 3072, .inl (nF Fr)))]) (wr := [(ts, .inr (8, [.ref dr, .ref cl, .ref cp, .ref vs, .int (nI num)])), (vs, .inl (cV, 3, .inr (.inr (.inr (.inr vf))))), (vw, .inr (7, [.ref fd, .ref ds, .ref po, .int (nI cn), .int (nI cr), .int (nI ep)])), (ds, .inr (6, [.ref fr, .long fn, .ref bk, .ref dc, .ref cm, .int (nI cz), .ref pp, .int (nI dpo), .int (nI de), .int (nI dw)]))]) (w2 := fun _ => [(ts, .inr (8, [.ref dr, .ref cl, .ref cp, .ref vs, .int (nI num)])), (vs, .inl (cV, 3, .inr (.inr (.inr (.inr vf))))), (vw, .inr (7, [.ref fd, .ref ds, .ref po, .int (nI cn), .int (nI cr), .int (nI ep)])), (ds, .inr (6, [.ref fr, .long fn, .ref bk, .ref dc, .ref cm, .int (nI cz), .ref pp, .int (nI dpo), .int (nI de), .int (nI dw)])), (fr, .inr (0, [.int (nI 48), .ref fp])), (fp, .inl (cI, 3072, .inl (nF Fr)))]) [.ref fr, .int (nI x), .int (nI y)] [] Bd ⟨gi_app (gi_c0 k_286 (gi_c0 k_287 (gi_c0 k_1 gi_nil))) (gi_tb0 k_288), rfl, by decide, by decide⟩ (show (parseMethodDescriptor "(LTileScreen$Tiles;II)I").map (fun d => d.parameters.length) = some 3 by decide +kernel) (c_Scr_pixelAt fr fp Fr x y (by omega) (by omega)) (by decide +kernel) ⟨Nat.le_of_ble_eq_true rfl, Nat.le_of_ble_eq_true rfl⟩ hG hP hD hS hA [4, 5] [0, 1, 2, 3] [0, 1, 2, 3, 4, 5] (by decide) rfl rfl (fun _ => rfl) hl.1 rfl (Nat.le_of_ble_eq_true rfl) d_Scr_at_48 (fun r7 u9 H locs hp8 hP hD hS => ?_)
        have hP : va_P D classes [(ts, .inr (8, [.ref dr, .ref cl, .ref cp, .ref vs, .int (nI num)])), (vs, .inl (cV, 3, .inr (.inr (.inr (.inr vf))))), (vw, .inr (7, [.ref fd, .ref ds, .ref po, .int (nI cn), .int (nI cr), .int (nI ep)])), (ds, .inr (6, [.ref fr, .long fn, .ref bk, .ref dc, .ref cm, .int (nI cz), .ref pp, .int (nI dpo), .int (nI de), .int (nI dw)])), (fr, .inr (0, [.int (nI 48), .ref fp])), (fp, .inl (cI, 3072, .inl (nF Fr)))] H := hP
        have hD : va_D AA [(ts, .inr (8, [.ref dr, .ref cl, .ref cp, .ref vs, .int (nI num)])), (vs, .inl (cV, 3, .inr (.inr (.inr (.inr vf))))), (vw, .inr (7, [.ref fd, .ref ds, .ref po, .int (nI cn), .int (nI cr), .int (nI ep)])), (ds, .inr (6, [.ref fr, .long fn, .ref bk, .ref dc, .ref cm, .int (nI cz), .ref pp, .int (nI dpo), .int (nI de), .int (nI dw)])), (fr, .inr (0, [.int (nI 48), .ref fp])), (fp, .inl (cI, 3072, .inl (nF Fr)))] := hD
        subst hp8
        refine lv_goto (tgt := 55) hx hb d_Scr_at_51 (by decide) ?_
        exact hret _ () _ _ _ _ d_Scr_at_55 rfl (rfl) hP hD hS
    · exact absurd (congrArg Int32.toInt c_14) (by rw [nI_toInt (by omega)]; show ¬ (k : Int) = -1; omega)
  · exact absurd ⟨x, y, 1, 1, rfl, rfl, rfl, rfl, by omega, by omega, by omega, by omega⟩ (cB_0 c_7)
set_option maxHeartbeats 400000 in
set_option maxRecDepth 100000 in
theorem c_Scr_at_no (ts : Nat) (dr : Nat) (cl : Nat) (cp : Nat) (vs : Nat) (num : Nat) (v : Int32) (x : Int32) (y : Int32) (hno : ¬ ((v = -1 ∨ vwP v) ∧ reP x y (nI 1) (nI 1))) : CI (S := Unit) l classes NW D (TYS cI cZ cL cV) y_Scr_at (.code y_Scr_at b_Scr_at 4 (some .int) :: TB) { frames := 1, cells := 0, slots := 0, locals := 23 } [.ref ts, .int v, .int x, .int y] [(ts, .inr (8, [.ref dr, .ref cl, .ref cp, .ref vs, .int (nI num)]))] (fun r u => r = (-1)) (fun u => [(ts, .inr (8, [.ref dr, .ref cl, .ref cp, .ref vs, .int (nI num)]))]) := by
  refine CI.of (by decide) (Nat.le_of_ble_eq_true rfl) ?_
  intro pr ev sT mM aR bW mE cO AA QQ ls Bd hG hA hP hD hS hl hret
  have Bd : bd pr cO b_Scr_at 4 sT aR TB "TileScreen" mM := Bd
  obtain ⟨hx, hb, hml, hown, htb⟩ := id Bd
  have hl : lv_has ls 4 [(0, .ref ts), (1, .int v), (2, .int x), (3, .int y)] := hl
  refine lv_iload_n hx hb d_Scr_at_0 rfl (lv_at hl 2 rfl) ?_
  refine lv_iload_n hx hb d_Scr_at_1 rfl (lv_at hl 3 rfl) ?_
  refine lv_iconst (v := nI 1) hx hb d_Scr_at_2 (by decide) ?_
  refine lv_iconst (v := nI 1) hx hb d_Scr_at_3 (by decide) ?_
  refine kS_i (wc := []) (wr := [(ts, .inr (8, [.ref dr, .ref cl, .ref cp, .ref vs, .int (nI num)]))]) (w2 := fun _ => [(ts, .inr (8, [.ref dr, .ref cl, .ref cp, .ref vs, .int (nI num)]))]) [.int x, .int y, .int (nI 1), .int (nI 1)] [] Bd ⟨gi_app (gi_c0 k_258 (gi_c0 k_259 (gi_c0 k_1 gi_nil))) (gi_tb0 k_260), rfl, by decide, by decide⟩ (show (parseMethodDescriptor "(IIII)Z").map (fun d => d.parameters.length) = some 4 by decide +kernel) (c_Scr_isInside x y (nI 1) (nI 1) ) (by decide +kernel) ⟨Nat.le_of_ble_eq_true rfl, Nat.le_of_ble_eq_true rfl⟩ hG hP hD hS hA [] [0] [0] (by decide) rfl rfl (fun _ => rfl) hl.1 rfl (Nat.le_of_ble_eq_true rfl) d_Scr_at_4 (fun r1 u3 H locs hp2 hP hD hS => ?_)
  have hP : va_P D classes [(ts, .inr (8, [.ref dr, .ref cl, .ref cp, .ref vs, .int (nI num)]))] H := hP
  have hD : va_D AA [(ts, .inr (8, [.ref dr, .ref cl, .ref cp, .ref vs, .int (nI num)]))] := hD
  subst hp2
  refine nv_if_ne (tgt := 12) hx hb d_Scr_at_7 (by decide) (bt_lt _) (fun c_7 => ?_) (fun c_7 => ?_)
  · refine lv_iload_n hx hb d_Scr_at_12 rfl (lv_at hl 1 rfl) ?_
    refine lv_iconst (v := -1) hx hb d_Scr_at_13 (by decide) ?_
    refine lv_icmp_ne (tgt := 27) hx hb d_Scr_at_14 (by decide) (fun c_14 => ?_) (fun c_14 => ?_)
    · refine lv_iload_n hx hb d_Scr_at_27 rfl (lv_at hl 1 rfl) ?_
      refine kS_i (wc := []) (wr := [(ts, .inr (8, [.ref dr, .ref cl, .ref cp, .ref vs, .int (nI num)]))]) (w2 := fun _ => [(ts, .inr (8, [.ref dr, .ref cl, .ref cp, .ref vs, .int (nI num)]))]) [.int v] [] Bd ⟨gi_app (gi_c0 k_306 (gi_c0 k_307 (gi_c0 k_1 gi_nil))) (gi_tb0 k_308), rfl, by decide, by decide⟩ (show (parseMethodDescriptor "(I)Z").map (fun d => d.parameters.length) = some 1 by decide +kernel) (c_Scr_isViewer v ) (by decide +kernel) ⟨Nat.le_of_ble_eq_true rfl, Nat.le_of_ble_eq_true rfl⟩ hG hP hD hS hA [] [0] [0] (by decide) rfl rfl (fun _ => rfl) hl.1 rfl (Nat.le_of_ble_eq_true rfl) d_Scr_at_28 (fun r4 u6 H locs hp5 hP hD hS => ?_)
      have hP : va_P D classes [(ts, .inr (8, [.ref dr, .ref cl, .ref cp, .ref vs, .int (nI num)]))] H := hP
      have hD : va_D AA [(ts, .inr (8, [.ref dr, .ref cl, .ref cp, .ref vs, .int (nI num)]))] := hD
      subst hp5
      refine nv_if_eq (tgt := 54) hx hb d_Scr_at_31 (by decide) (bt_lt _) (fun c_31 => ?_) (fun c_31 => ?_)
      · refine lv_iconst (v := -1) hx hb d_Scr_at_54 (by decide) ?_
        exact hret _ () _ _ _ _ d_Scr_at_55 rfl (rfl) hP hD hS
      · exact absurd ⟨Or.inr (cB_1 c_31), cB_1 c_7⟩ hno
    · exact absurd ⟨Or.inl c_14, cB_1 c_7⟩ hno
  · refine lv_iconst (v := -1) hx hb d_Scr_at_10 (by decide) ?_
    exact hret _ () _ _ _ _ d_Scr_at_11 rfl (rfl) hP hD hS
set_option maxHeartbeats 400000 in
set_option maxRecDepth 100000 in
theorem c_Scr_about (ts : Nat) (dr : Nat) (cl : Nat) (cp : Nat) (vs : Nat) (num : Nat) (clp : Nat) (Cl : Nat → Nat) (vf : Nat → Option Nat) (k : Nat) (vw : Nat) (fd : Nat) (ds : Nat) (po : Nat) (cn : Nat) (cr : Nat) (ep : Nat) (se : Nat) (sn : Int64) (fc : Nat) (li : Nat) (co : Nat) (lo : Nat) (tw : Int32) (en : Int32) (sp : Nat) (S : Nat → Nat) (ft : Nat) (fpl : Nat) (fus : Nat) (lb : Nat) (fi : Nat) (sz : Nat) (fr : Nat) (fn : Int64) (bk : Nat) (dc : Nat) (cm : Nat) (cz : Nat) (pp : Nat) (dpo : Nat) (de : Nat) (dw : Nat) (j : Nat) (hk : k < 3) (hvf : vf k = some vw) (hj : j < 8) (hcn : cn ≤ 1) (bS : ∀ j, S j < 65536) (bCl : ∀ j, Cl j < 65536) : CI (S := Unit) l classes NW D (TYS cI cZ cL cV) y_Scr_about (.code y_Scr_about b_Scr_about 4 (some .int) :: TB) { frames := 2, cells := 0, slots := 0, locals := 49 } [.ref ts, .int (nI k), .int (nI j)] [(ts, .inr (8, [.ref dr, .ref cl, .ref cp, .ref vs, .int (nI num)])), (cl, .inr (0, [.int (nI 48), .ref clp])), (clp, .inl (cI, 3072, .inl (nF Cl))), (vs, .inl (cV, 3, .inr (.inr (.inr (.inr vf))))), (vw, .inr (7, [.ref fd, .ref ds, .ref po, .int (nI cn), .int (nI cr), .int (nI ep)])), (fd, .inr (5, [.ref se, .long sn, .ref fc, .ref li, .ref co, .ref lo, .int tw, .int en])), (se, .inr (0, [.int (nI 48), .ref sp])), (sp, .inl (cI, 3072, .inl (nF S))), (fc, .inr (1, [.ref ft, .int (nI fpl), .int (nI fus)])), (li, .inr (2, [.ref lb, .int (nI fi), .int (nI sz)])), (ds, .inr (6, [.ref fr, .long fn, .ref bk, .ref dc, .ref cm, .int (nI cz), .ref pp, .int (nI dpo), .int (nI de), .int (nI dw)]))] (fun r u => r = abF j cn cr sz cz ep (cntN (fun i => sameB S (i * 64) Cl (i * 64)) 48) sn fpl) (fun u => [(ts, .inr (8, [.ref dr, .ref cl, .ref cp, .ref vs, .int (nI num)])), (cl, .inr (0, [.int (nI 48), .ref clp])), (clp, .inl (cI, 3072, .inl (nF Cl))), (vs, .inl (cV, 3, .inr (.inr (.inr (.inr vf))))), (vw, .inr (7, [.ref fd, .ref ds, .ref po, .int (nI cn), .int (nI cr), .int (nI ep)])), (fd, .inr (5, [.ref se, .long sn, .ref fc, .ref li, .ref co, .ref lo, .int tw, .int en])), (se, .inr (0, [.int (nI 48), .ref sp])), (sp, .inl (cI, 3072, .inl (nF S))), (fc, .inr (1, [.ref ft, .int (nI fpl), .int (nI fus)])), (li, .inr (2, [.ref lb, .int (nI fi), .int (nI sz)])), (ds, .inr (6, [.ref fr, .long fn, .ref bk, .ref dc, .ref cm, .int (nI cz), .ref pp, .int (nI dpo), .int (nI de), .int (nI dw)]))]) := by
  refine CI.of (by decide) (Nat.le_of_ble_eq_true rfl) ?_
  intro pr ev sT mM aR bW mE cO AA QQ ls Bd hG hA hP hD hS hl hret
  have Bd : bd pr cO b_Scr_about 4 sT aR TB "TileScreen" mM := Bd
  obtain ⟨hx, hb, hml, hown, htb⟩ := id Bd
  have hl : lv_has ls 4 [(0, .ref ts), (1, .int (nI k)), (2, .int (nI j))] := hl
  refine lv_iload_n hx hb d_Scr_about_0 rfl (lv_at hl 1 rfl) ?_
  refine kS_i (wc := []) (wr := [(ts, .inr (8, [.ref dr, .ref cl, .ref cp, .ref vs, .int (nI num)])), (cl, .inr (0, [.int (nI 48), .ref clp])), (clp, .inl (cI, 3072, .inl (nF Cl))), (vs, .inl (cV, 3, .inr (.inr (.inr (.inr vf))))), (vw, .inr (7, [.ref fd, .ref ds, .ref po, .int (nI cn), .int (nI cr), .int (nI ep)])), (fd, .inr (5, [.ref se, .long sn, .ref fc, .ref li, .ref co, .ref lo, .int tw, .int en])), (se, .inr (0, [.int (nI 48), .ref sp])), (sp, .inl (cI, 3072, .inl (nF S))), (fc, .inr (1, [.ref ft, .int (nI fpl), .int (nI fus)])), (li, .inr (2, [.ref lb, .int (nI fi), .int (nI sz)])), (ds, .inr (6, [.ref fr, .long fn, .ref bk, .ref dc, .ref cm, .int (nI cz), .ref pp, .int (nI dpo), .int (nI de), .int (nI dw)]))]) (w2 := fun _ => [(ts, .inr (8, [.ref dr, .ref cl, .ref cp, .ref vs, .int (nI num)])), (cl, .inr (0, [.int (nI 48), .ref clp])), (clp, .inl (cI, 3072, .inl (nF Cl))), (vs, .inl (cV, 3, .inr (.inr (.inr (.inr vf))))), (vw, .inr (7, [.ref fd, .ref ds, .ref po, .int (nI cn), .int (nI cr), .int (nI ep)])), (fd, .inr (5, [.ref se, .long sn, .ref fc, .ref li, .ref co, .ref lo, .int tw, .int en])), (se, .inr (0, [.int (nI 48), .ref sp])), (sp, .inl (cI, 3072, .inl (nF S))), (fc, .inr (1, [.ref ft, .int (nI fpl), .int (nI fus)])), (li, .inr (2, [.ref lb, .int (nI fi), .int (nI sz)])), (ds, .inr (6, [.ref fr, .long fn, .ref bk, .ref dc, .ref cm, .int (nI cz), .ref pp, .int (nI dpo), .int (nI de), .int (nI dw)]))]) [.int (nI k)] [] Bd ⟨gi_app (gi_c0 k_306 (gi_c0 k_307 (gi_c0 k_1 gi_nil))) (gi_tb0 k_308), rfl, by decide, by decide⟩ (show (parseMethodDescriptor "(I)Z").map (fun d => d.parameters.length) = some 1 by decide +kernel) (c_Scr_isViewer (nI k) ) (by decide +kernel) ⟨Nat.le_of_ble_eq_true rfl, Nat.le_of_ble_eq_true rfl⟩ hG hP hD hS hA [] [0, 1, 2, 3, 4, 5, 6, 7, 8, 9, 10] [0, 1, 2, 3, 4, 5, 6, 7, 8, 9, 10] (by decide) rfl rfl (fun _ => rfl) hl.1 rfl (Nat.le_of_ble_eq_true rfl) d_Scr_about_1 (fun r1 u3 H locs hp2 hP hD hS => ?_)
  have hP : va_P D classes [(ts, .inr (8, [.ref dr, .ref cl, .ref cp, .ref vs, .int (nI num)])), (cl, .inr (0, [.int (nI 48), .ref clp])), (clp, .inl (cI, 3072, .inl (nF Cl))), (vs, .inl (cV, 3, .inr (.inr (.inr (.inr vf))))), (vw, .inr (7, [.ref fd, .ref ds, .ref po, .int (nI cn), .int (nI cr), .int (nI ep)])), (fd, .inr (5, [.ref se, .long sn, .ref fc, .ref li, .ref co, .ref lo, .int tw, .int en])), (se, .inr (0, [.int (nI 48), .ref sp])), (sp, .inl (cI, 3072, .inl (nF S))), (fc, .inr (1, [.ref ft, .int (nI fpl), .int (nI fus)])), (li, .inr (2, [.ref lb, .int (nI fi), .int (nI sz)])), (ds, .inr (6, [.ref fr, .long fn, .ref bk, .ref dc, .ref cm, .int (nI cz), .ref pp, .int (nI dpo), .int (nI de), .int (nI dw)]))] H := hP
  have hD : va_D AA [(ts, .inr (8, [.ref dr, .ref cl, .ref cp, .ref vs, .int (nI num)])), (cl, .inr (0, [.int (nI 48), .ref clp])), (clp, .inl (cI, 3072, .inl (nF Cl))), (vs, .inl (cV, 3, .inr (.inr (.inr (.inr vf))))), (vw, .inr (7, [.ref fd, .ref ds, .ref po, .int (nI cn), .int (nI cr), .int (nI ep)])), (fd, .inr (5, [.ref se, .long sn, .ref fc, .ref li, .ref co, .ref lo, .int tw, .int en])), (se, .inr (0, [.int (nI 48), .ref sp])), (sp, .inl (cI, 3072, .inl (nF S))), (fc, .inr (1, [.ref ft, .int (nI fpl), .int (nI fus)])), (li, .inr (2, [.ref lb, .int (nI fi), .int (nI sz)])), (ds, .inr (6, [.ref fr, .long fn, .ref bk, .ref dc, .ref cm, .int (nI cz), .ref pp, .int (nI dpo), .int (nI de), .int (nI dw)]))] := hD
  subst hp2
  refine nv_if_ne (tgt := 9) hx hb d_Scr_about_4 (by decide) (bt_lt _) (fun c_4 => ?_) (fun c_4 => ?_)
  · refine lv_aload_n hx hb d_Scr_about_9 rfl (lv_at hl 0 rfl) ?_
    refine va_get (D := D) (ci := 8) (v := .ref vs) (C := "TileScreen") (T := F_Scr) (N := 5) hx hb htb i_Scr hown hG.1 hP 0 rfl rfl 3 (by decide) (htb _ k_241) (fun _ h9 => h9) rfl d_Scr_about_10 ?_
    refine lv_iload_n hx hb d_Scr_about_13 rfl (lv_at hl 1 rfl) ?_
    refine va_aldq hx hb hG.1 hP 3 3 rfl rfl (vp_in_nI hk (by decide)) d_Scr_about_14 ?_
    rw [show vf ((nI k)).toNatClampNeg = some vw from by rw [nI_clamp (by omega)]; exact hvf]
    refine lv_astore_n (lv' := [(3, .ref vw), (0, .ref ts), (1, .int (nI k)), (2, .int (nI j))]) hx hb d_Scr_about_15 rfl hl (by decide) rfl (fun ls hl => ?_)
    refine lv_iload_n hx hb d_Scr_about_16 rfl (lv_at hl 3 rfl) ?_
    rcases (show j = 0 ∨ j = 1 ∨ j = 2 ∨ j = 3 ∨ j = 4 ∨ j = 5 ∨ j = 6 ∨ j = 7 by omega) with rfl | rfl | rfl | rfl | rfl | rfl | rfl | rfl
    · refine lv_tableIn (off := 47) (tgt := 64) hx hb d_Scr_about_17 (by decide) (by decide) (by decide) (by decide) ?_
      refine lv_aload_n hx hb d_Scr_about_64 rfl (lv_at hl 0 rfl) ?_
      refine va_getN (D := D) (ci := 7) (v := .int (nI cn)) (C := "TileScreen$Viewer") (T := F_Viewer) (N := 6) hx hb htb i_Viewer hown hG.1 hP 4 rfl rfl 3 (by decide) (va_Nw.use rfl (hG.2 _ k_220).2) (fun _ h9 => h9) rfl d_Scr_about_65 ?_
      refine nv_if_eq (tgt := 75) hx hb d_Scr_about_68 (by decide) (by omega) (fun c_68 => ?_) (fun c_68 => ?_)
      · refine lv_iconst (v := nI 0) hx hb d_Scr_about_75 (by decide) ?_
        exact hret _ () _ _ _ _ d_Scr_about_76 rfl (by show _ = nI cn; rw [show cn = 0 by omega]) hP hD hS
      · refine lv_iconst (v := nI 1) hx hb d_Scr_about_71 (by decide) ?_
        refine lv_goto (tgt := 76) hx hb d_Scr_about_72 (by decide) ?_
        exact hret _ () _ _ _ _ d_Scr_about_76 rfl (by show _ = nI cn; rw [show cn = 1 by omega]) hP hD hS
    · refine lv_tableIn (off := 60) (tgt := 77) hx hb d_Scr_about_17 (by decide) (by decide) (by decide) (by decide) ?_
      refine lv_aload_n hx hb d_Scr_about_77 rfl (lv_at hl 0 rfl) ?_
      refine va_getN (D := D) (ci := 7) (v := .int (nI cr)) (C := "TileScreen$Viewer") (T := F_Viewer) (N := 6) hx hb htb i_Viewer hown hG.1 hP 4 rfl rfl 4 (by decide) (va_Nw.use rfl (hG.2 _ k_222).2) (fun _ h9 => h9) rfl d_Scr_about_78 ?_
      exact hret _ () _ _ _ _ d_Scr_about_81 rfl (rfl) hP hD hS
    · refine lv_tableIn (off := 65) (tgt := 82) hx hb d_Scr_about_17 (by decide) (by decide) (by decide) (by decide) ?_
      refine lv_aload_n hx hb d_Scr_about_82 rfl (lv_at hl 0 rfl) ?_
      refine va_getN (D := D) (ci := 7) (v := .ref fd) (C := "TileScreen$Viewer") (T := F_Viewer) (N := 6) hx hb htb i_Viewer hown hG.1 hP 4 rfl rfl 0 (by decide) (va_Nw.use rfl (hG.2 _ k_214).2) (fun _ h9 => h9) rfl d_Scr_about_83 ?_
      refine va_getN (D := D) (ci := 5) (v := .ref li) (C := "TileScreen$Feed") (T := F_Feed) (N := 8) hx hb htb i_Feed hown hG.1 hP 5 rfl rfl 3 (by decide) (va_Nw.use rfl (hG.2 _ k_127).2) (fun _ h9 => h9) rfl d_Scr_about_86 ?_
      refine va_getN (D := D) (ci := 2) (v := .int (nI sz)) (C := "TileScreen$Line") (T := F_Line) (N := 3) hx hb htb i_Line hown hG.1 hP 9 rfl rfl 2 (by decide) (va_Nw.use rfl (hG.2 _ k_89).2) (fun _ h9 => h9) rfl d_Scr_about_89 ?_
      exact hret _ () _ _ _ _ d_Scr_about_92 rfl (rfl) hP hD hS
    · refine lv_tableIn (off := 76) (tgt := 93) hx hb d_Scr_about_17 (by decide) (by decide) (by decide) (by decide) ?_
      refine lv_aload_n hx hb d_Scr_about_93 rfl (lv_at hl 0 rfl) ?_
      refine va_getN (D := D) (ci := 7) (v := .ref ds) (C := "TileScreen$Viewer") (T := F_Viewer) (N := 6) hx hb htb i_Viewer hown hG.1 hP 4 rfl rfl 1 (by decide) (va_Nw.use rfl (hG.2 _ k_216).2) (fun _ h9 => h9) rfl d_Scr_about_94 ?_
      refine va_getN (D := D) (ci := 6) (v := .int (nI cz)) (C := "TileScreen$Display") (T := F_Display) (N := 10) hx hb htb i_Display hown hG.1 hP 10 rfl rfl 5 (by decide) (va_Nw.use rfl (hG.2 _ k_171).2) (fun _ h9 => h9) rfl d_Scr_about_97 ?_
      exact hret _ () _ _ _ _ d_Scr_about_100 rfl (rfl) hP hD hS
    · refine lv_tableIn (off := 84) (tgt := 101) hx hb d_Scr_about_17 (by decide) (by decide) (by decide) (by decide) ?_
      refine lv_aload_n hx hb d_Scr_about_101 rfl (lv_at hl 0 rfl) ?_
      refine va_getN (D := D) (ci := 7) (v := .int (nI ep)) (C := "TileScreen$Viewer") (T := F_Viewer) (N := 6) hx hb htb i_Viewer hown hG.1 hP 4 rfl rfl 5 (by decide) (va_Nw.use rfl (hG.2 _ k_224).2) (fun _ h9 => h9) rfl d_Scr_about_102 ?_
      exact hret _ () _ _ _ _ d_Scr_about_105 rfl (rfl) hP hD hS
    · refine lv_tableIn (off := 89) (tgt := 106) hx hb d_Scr_about_17 (by decide) (by decide) (by decide) (by decide) ?_
      refine lv_aload_n hx hb d_Scr_about_106 rfl (lv_at hl 0 rfl) ?_
      refine va_getN (D := D) (ci := 7) (v := .ref fd) (C := "TileScreen$Viewer") (T := F_Viewer) (N := 6) hx hb htb i_Viewer hown hG.1 hP 4 rfl rfl 0 (by decide) (va_Nw.use rfl (hG.2 _ k_214).2) (fun _ h9 => h9) rfl d_Scr_about_107 ?_
      refine va_getN (D := D) (ci := 5) (v := .ref se) (C := "TileScreen$Feed") (T := F_Feed) (N := 8) hx hb htb i_Feed hown hG.1 hP 5 rfl rfl 0 (by decide) (va_Nw.use rfl (hG.2 _ k_118).2) (fun _ h9 => h9) rfl d_Scr_about_110 ?_
      refine lv_aload_n hx hb d_Scr_about_113 rfl (lv_at hl 1 rfl) ?_
      refine va_get (D := D) (ci := 8) (v := .ref cl) (C := "TileScreen") (T := F_Scr) (N := 5) hx hb htb i_Scr hown hG.1 hP 0 rfl rfl 1 (by decide) (htb _ k_239) (fun _ h9 => h9) rfl d_Scr_about_114 ?_
      refine kV_i (wc := [(se, .inr (0, [.int (nI 48), .ref sp])), (sp, .inl (cI, 3072, .inl (nF S))), (cl, .inr (0, [.int (nI 48), .ref clp])), (clp, .inl (cI, 3072, .inl (nF Cl)))]) (wr := [(ts, .inr (8, [.ref dr, .ref cl, .ref cp, .ref vs, .int (nI num)])), (vs, .inl (cV, 3, .inr (.inr (.inr (.inr vf))))), (vw, .inr (7, [.ref fd, .ref ds, .ref po, .int (nI cn), .int (nI cr), .int (nI ep)])), (fd, .inr (5, [.ref se, .long sn, .ref fc, .ref li, .ref co, .ref lo, .int tw, .int en])), (fc, .inr (1, [.ref ft, .int (nI fpl), .int (nI fus)])), (li, .inr (2, [.ref lb, .int (nI fi), .int (nI sz)])), (ds, .inr (6, [.ref fr, .long fn, .ref bk, .ref dc, .ref cm, .int (nI cz), .ref pp, .int (nI dpo), .int (nI de), .int (nI dw)]))]) (w2 := fun _ => [(ts, .inr (8, [.ref dr, .ref cl, .ref cp, .ref vs, .int (nI num)])), (cl, .inr (0, [.int (nI 48), .ref clp])), (clp, .inl (cI, 3072, .inl (nF Cl))), (vs, .inl (cV, 3, .inr (.inr (.inr (.inr vf))))), (vw, .inr (7, [.ref fd, .ref ds, .ref po, .int (nI cn), .int (nI cr), .int (nI ep)])), (fd, .inr (5, [.ref se, .long sn, .ref fc, .ref li, .ref co, .ref lo, .int tw, .int en])), (se, .inr (0, [.int (nI 48), .ref sp])), (sp, .inl (cI, 3072, .inl (nF S))), (fc, .inr (1, [.ref ft, .int (nI fpl), .int (nI fus)])), (li, .inr (2, [.ref lb, .int (nI fi), .int (nI sz)])), (ds, .inr (6, [.ref fr, .long fn, .ref bk, .ref dc, .ref cm, .int (nI cz), .ref pp, .int (nI dpo), .int (nI de), .int (nI dw)]))]) [.ref cl] [] Bd ⟨gi_app (gi_c0 k_520 (gi_c0 k_521 (gi_c0 k_522 (gi_c0 k_2 gi_nil)))) (gi_tb0 k_523), rfl, by decide, by decide⟩ (show (parseMethodDescriptor "(LTileScreen$Tiles;)I").map (fun d => d.parameters.length) = some 1 by decide +kernel) (c_Tiles_countOther se sp 48 3072 S cl clp 48 3072 Cl (by omega) (by omega) (by omega) (by omega) (bS) (bCl)) (by decide +kernel) ⟨Nat.le_of_ble_eq_true rfl, Nat.le_of_ble_eq_true rfl⟩ hG hP hD hS hA [6, 7, 1, 2] [0, 3, 4, 5, 8, 9, 10] [0, 9, 10, 1, 2, 3, 7, 8, 4, 5, 6] (by decide) rfl rfl (fun _ => rfl) (q0 := 0) rfl rfl rfl hl.1 rfl (Nat.le_of_ble_eq_true rfl) d_Scr_about_117 (fun r4 u6 H locs hp5 hP hD hS => ?_)
      have hP : va_P D classes [(ts, .inr (8, [.ref dr, .ref cl, .ref cp, .ref vs, .int (nI num)])), (cl, .inr (0, [.int (nI 48), .ref clp])), (clp, .inl (cI, 3072, .inl (nF Cl))), (vs, .inl (cV, 3, .inr (.inr (.inr (.inr vf))))), (vw, .inr (7, [.ref fd, .ref ds, .ref po, .int (nI cn), .int (nI cr), .int (nI ep)])), (fd, .inr (5, [.ref se, .long sn, .ref fc, .ref li, .ref co, .ref lo, .int tw, .int en])), (se, .inr (0, [.int (nI 48), .ref sp])), (sp, .inl (cI, 3072, .inl (nF S))), (fc, .inr (1, [.ref ft, .int (nI fpl), .int (nI fus)])), (li, .inr (2, [.ref lb, .int (nI fi), .int (nI sz)])), (ds, .inr (6, [.ref fr, .long fn, .ref bk, .ref dc, .ref cm, .int (nI cz), .ref pp, .int (nI dpo), .int (nI de), .int (nI dw)]))] H := hP
      have hD : va_D AA [(ts, .inr (8, [.ref dr, .ref cl, .ref cp, .ref vs, .int (nI num)])), (cl, .inr (0, [.int (nI 48), .ref clp])), (clp, .inl (cI, 3072, .inl (nF Cl))), (vs, .inl (cV, 3, .inr (.inr (.inr (.inr vf))))), (vw, .inr (7, [.ref fd, .ref ds, .ref po, .int (nI cn), .int (nI cr), .int (nI ep)])), (fd, .inr (5, [.ref se, .long sn, .ref fc, .ref li, .ref co, .ref lo, .int tw, .int en])), (se, .inr (0, [.int (nI 48), .ref sp])), (sp, .inl (cI, 3072, .inl (nF S))), (fc, .inr (1, [.ref ft, .int (nI fpl), .int (nI fus)])), (li, .inr (2, [.ref lb, .int (nI fi), .int (nI sz)])), (ds, .inr (6, [.ref fr, .long fn, .ref bk, .ref dc, .ref cm, .int (nI cz), .ref pp, .int (nI dpo), .int (nI de), .int (nI dw)]))] := hD
      subst hp5
      exact hret _ () _ _ _ _ d_Scr_about_120 rfl (rfl) hP hD hS
    · refine lv_tableIn (off := 104) (tgt := 121) hx hb d_Scr_about_17 (by decide) (by decide) (by decide) (by decide) ?_
      refine lv_aload_n hx hb d_Scr_about_121 rfl (lv_at hl 0 rfl) ?_
      refine va_getN (D := D) (ci := 7) (v := .ref fd) (C := "TileScreen$Viewer") (T := F_Viewer) (N := 6) hx hb htb i_Viewer hown hG.1 hP 4 rfl rfl 0 (by decide) (va_Nw.use rfl (hG.2 _ k_214).2) (fun _ h9 => h9) rfl d_Scr_about_122 ?_
      refine va_getN (D := D) (ci := 5) (v := .long sn) (C := "TileScreen$Feed") (T := F_Feed) (N := 8) hx hb htb i_Feed hown hG.1 hP 5 rfl rfl 1 (by decide) (va_Nw.use rfl (hG.2 _ k_121).2) (fun _ h9 => h9) rfl d_Scr_about_125 ?_
      refine kS_i (wc := []) (wr := [(ts, .inr (8, [.ref dr, .ref cl, .ref cp, .ref vs, .int (nI num)])), (cl, .inr (0, [.int (nI 48), .ref clp])), (clp, .inl (cI, 3072, .inl (nF Cl))), (vs, .inl (cV, 3, .inr (.inr (.inr (.inr vf))))), (vw, .inr (7, [.ref fd, .ref ds, .ref po, .int (nI cn), .int (nI cr), .int (nI ep)])), (fd, .inr (5, [.ref se, .long sn, .ref fc, .ref li, .ref co, .ref lo, .int tw, .int en])), (se, .inr (0, [.int (nI 48), .ref sp])), (sp, .inl (cI, 3072, .inl (nF S))), (fc, .inr (1, [.ref ft, .int (nI fpl), .int (nI fus)])), (li, .inr (2, [.ref lb, .int (nI fi), .int (nI sz)])), (ds, .inr (6, [.ref fr, .long fn, .ref bk, .ref dc, .ref cm, .int (nI cz), .ref pp, .int (nI dpo), .int (nI de), .int (nI dw)]))]) (w2 := fun _ => [(ts, .inr (8, [.ref dr, .ref cl, .ref cp, .ref vs, .int (nI num)])), (cl, .inr (0, [.int (nI 48), .ref clp])), (clp, .inl (cI, 3072, .inl (nF Cl))), (vs, .inl (cV, 3, .inr (.inr (.inr (.inr vf))))), (vw, .inr (7, [.ref fd, .ref ds, .ref po, .int (nI cn), .int (nI cr), .int (nI ep)])), (fd, .inr (5, [.ref se, .long sn, .ref fc, .ref li, .ref co, .ref lo, .int tw, .int en])), (se, .inr (0, [.int (nI 48), .ref sp])), (sp, .inl (cI, 3072, .inl (nF S))), (fc, .inr (1, [.ref ft, .int (nI fpl), .int (nI fus)])), (li, .inr (2, [.ref lb, .int (nI fi), .int (nI sz)])), (ds, .inr (6, [.ref fr, .long fn, .ref bk, .ref dc, .ref cm, .int (nI cz), .ref pp, .int (nI dpo), .int (nI de), .int (nI dw)]))]) [.long sn] [] Bd ⟨gi_app (gi_c0 k_509 (gi_c0 k_510 (gi_c0 k_1 gi_nil))) (gi_tb0 k_511), rfl, by decide, by decide⟩ (show (parseMethodDescriptor "(J)I").map (fun d => d.parameters.length) = some 1 by decide +kernel) (c_Scr_answerOf sn ) (by decide +kernel) ⟨Nat.le_of_ble_eq_true rfl, Nat.le_of_ble_eq_true rfl⟩ hG hP hD hS hA [] [0, 1, 2, 3, 4, 5, 6, 7, 8, 9, 10] [0, 1, 2, 3, 4, 5, 6, 7, 8, 9, 10] (by decide) rfl rfl (fun _ => rfl) hl.1 rfl (Nat.le_of_ble_eq_true rfl) d_Scr_about_128 (fun r7 u9 H locs hp8 hP hD hS => ?_)
      have hP : va_P D classes [(ts, .inr (8, [.ref dr, .ref cl, .ref cp, .ref vs, .int (nI num)])), (cl, .inr (0, [.int (nI 48), .ref clp])), (clp, .inl (cI, 3072, .inl (nF Cl))), (vs, .inl (cV, 3, .inr (.inr (.inr (.inr vf))))), (vw, .inr (7, [.ref fd, .ref ds, .ref po, .int (nI cn), .int (nI cr), .int (nI ep)])), (fd, .inr (5, [.ref se, .long sn, .ref fc, .ref li, .ref co, .ref lo, .int tw, .int en])), (se, .inr (0, [.int (nI 48), .ref sp])), (sp, .inl (cI, 3072, .inl (nF S))), (fc, .inr (1, [.ref ft, .int (nI fpl), .int (nI fus)])), (li, .inr (2, [.ref lb, .int (nI fi), .int (nI sz)])), (ds, .inr (6, [.ref fr, .long fn, .ref bk, .ref dc, .ref cm, .int (nI cz), .ref pp, .int (nI dpo), .int (nI de), .int (nI dw)]))] H := hP
      have hD : va_D AA [(ts, .inr (8, [.ref dr, .ref cl, .ref cp, .ref vs, .int (nI num)])), (cl, .inr (0, [.int (nI 48), .ref clp])), (clp, .inl (cI, 3072, .inl (nF Cl))), (vs, .inl (cV, 3, .inr (.inr (.inr (.inr vf))))), (vw, .inr (7, [.ref fd, .ref ds, .ref po, .int (nI cn), .int (nI cr), .int (nI ep)])), (fd, .inr (5, [.ref se, .long sn, .ref fc, .ref li, .ref co, .ref lo, .int tw, .int en])), (se, .inr (0, [.int (nI 48), .ref sp])), (sp, .inl (cI, 3072, .inl (nF S))), (fc, .inr (1, [.ref ft, .int (nI fpl), .int (nI fus)])), (li, .inr (2, [.ref lb, .int (nI fi), .int (nI sz)])), (ds, .inr (6, [.ref fr, .long fn, .ref bk, .ref dc, .ref cm, .int (nI cz), .ref pp, .int (nI dpo), .int (nI de), .int (nI dw)]))] := hD
      subst hp8
      exact hret _ () _ _ _ _ d_Scr_about_131 rfl (rfl) hP hD hS
    · refine lv_tableIn (off := 115) (tgt := 132) hx hb d_Scr_about_17 (by decide) (by decide) (by decide) (by decide) ?_
      refine lv_aload_n hx hb d_Scr_about_132 rfl (lv_at hl 0 rfl) ?_
      refine va_getN (D := D) (ci := 7) (v := .ref fd) (C := "TileScreen$Viewer") (T := F_Viewer) (N := 6) hx hb htb i_Viewer hown hG.1 hP 4 rfl rfl 0 (by decide) (va_Nw.use rfl (hG.2 _ k_214).2) (fun _ h9 => h9) rfl d_Scr_about_133 ?_
      refine va_getN (D := D) (ci := 5) (v := .ref fc) (C := "TileScreen$Feed") (T := F_Feed) (N := 8) hx hb htb i_Feed hown hG.1 hP 5 rfl rfl 2 (by decide) (va_Nw.use rfl (hG.2 _ k_124).2) (fun _ h9 => h9) rfl d_Scr_about_136 ?_
      refine va_getN (D := D) (ci := 1) (v := .int (nI fpl)) (C := "TileScreen$Cache") (T := F_Cache) (N := 3) hx hb htb i_Cache hown hG.1 hP 8 rfl rfl 1 (by decide) (va_Nw.use rfl (hG.2 _ k_67).2) (fun _ h9 => h9) rfl d_Scr_about_139 ?_
      exact hret _ () _ _ _ _ d_Scr_about_142 rfl (rfl) hP hD hS
  · exact absurd ⟨k, hk, rfl⟩ (cB_0 c_4)
set_option maxHeartbeats 400000 in
set_option maxRecDepth 100000 in
theorem c_Scr_about_else (ts : Nat) (dr : Nat) (cl : Nat) (cp : Nat) (vs : Nat) (num : Nat) (vf : Nat → Option Nat) (k : Nat) (vw : Nat) (fd : Nat) (ds : Nat) (po : Nat) (cn : Nat) (cr : Nat) (ep : Nat) (q : Int32) (hk : k < 3) (hvf : vf k = some vw) (hq : ∀ j, j < 8 → q ≠ nI j) : CI (S := Unit) l classes NW D (TYS cI cZ cL cV) y_Scr_about (.code y_Scr_about b_Scr_about 4 (some .int) :: TB) { frames := 1, cells := 0, slots := 0, locals := 20 } [.ref ts, .int (nI k), .int q] [(ts, .inr (8, [.ref dr, .ref cl, .ref cp, .ref vs, .int (nI num)])), (vs, .inl (cV, 3, .inr (.inr (.inr (.inr vf))))), (vw, .inr (7, [.ref fd, .ref ds, .ref po, .int (nI cn), .int (nI cr), .int (nI ep)]))] (fun r u => r = (-1)) (fun u => [(ts, .inr (8, [.ref dr, .ref cl, .ref cp, .ref vs, .int (nI num)])), (vs, .inl (cV, 3, .inr (.inr (.inr (.inr vf))))), (vw, .inr (7, [.ref fd, .ref ds, .ref po, .int (nI cn), .int (nI cr), .int (nI ep)]))]) := by
  refine CI.of (by decide) (Nat.le_of_ble_eq_true rfl) ?_
  intro pr ev sT mM aR bW mE cO AA QQ ls Bd hG hA hP hD hS hl hret
  have Bd : bd pr cO b_Scr_about 4 sT aR TB "TileScreen" mM := Bd
  obtain ⟨hx, hb, hml, hown, htb⟩ := id Bd
  have hl : lv_has ls 4 [(0, .ref ts), (1, .int (nI k)), (2, .int q)] := hl
  refine lv_iload_n hx hb d_Scr_about_0 rfl (lv_at hl 1 rfl) ?_
  refine kS_i (wc := []) (wr := [(ts, .inr (8, [.ref dr, .ref cl, .ref cp, .ref vs, .int (nI num)])), (vs, .inl (cV, 3, .inr (.inr (.inr (.inr vf))))), (vw, .inr (7, [.ref fd, .ref ds, .ref po, .int (nI cn), .int (nI cr), .int (nI ep)]))]) (w2 := fun _ => [(ts, .inr (8, [.ref dr, .ref cl, .ref cp, .ref vs, .int (nI num)])), (vs, .inl (cV, 3, .inr (.inr (.inr (.inr vf))))), (vw, .inr (7, [.ref fd, .ref ds, .ref po, .int (nI cn), .int (nI cr), .int (nI ep)]))]) [.int (nI k)] [] Bd ⟨gi_app (gi_c0 k_306 (gi_c0 k_307 (gi_c0 k_1 gi_nil))) (gi_tb0 k_308), rfl, by decide, by decide⟩ (show (parseMethodDescriptor "(I)Z").map (fun d => d.parameters.length) = some 1 by decide +kernel) (c_Scr_isViewer (nI k) ) (by decide +kernel) ⟨Nat.le_of_ble_eq_true rfl, Nat.le_of_ble_eq_true rfl⟩ hG hP hD hS hA [] [0, 1, 2] [0, 1, 2] (by decide) rfl rfl (fun _ => rfl) hl.1 rfl (Nat.le_of_ble_eq_true rfl) d_Scr_about_1 (fun r1 u3 H locs hp2 hP hD hS => ?_)
  have hP : va_P D classes [(ts, .inr (8, [.ref dr, .ref cl, .ref cp, .ref vs, .int (nI num)])), (vs, .inl (cV, 3, .inr (.inr (.inr (.inr vf))))), (vw, .inr (7, [.ref fd, .ref ds, .ref po, .int (nI cn), .int (nI cr), .int (nI ep)]))] H := hP
  have hD : va_D AA [(ts, .inr (8, [.ref dr, .ref cl, .ref cp, .ref vs, .int (nI num)])), (vs, .inl (cV, 3, .inr (.inr (.inr (.inr vf))))), (vw, .inr (7, [.ref fd, .ref ds, .ref po, .int (nI cn), .int (nI cr), .int (nI ep)]))] := hD
  subst hp2
  refine nv_if_ne (tgt := 9) hx hb d_Scr_about_4 (by decide) (bt_lt _) (fun c_4 => ?_) (fun c_4 => ?_)
  · refine lv_aload_n hx hb d_Scr_about_9 rfl (lv_at hl 0 rfl) ?_
    refine va_get (D := D) (ci := 8) (v := .ref vs) (C := "TileScreen") (T := F_Scr) (N := 5) hx hb htb i_Scr hown hG.1 hP 0 rfl rfl 3 (by decide) (htb _ k_241) (fun _ h9 => h9) rfl d_Scr_about_10 ?_
    refine lv_iload_n hx hb d_Scr_about_13 rfl (lv_at hl 1 rfl) ?_
    refine va_aldq hx hb hG.1 hP 1 3 rfl rfl (vp_in_nI hk (by decide)) d_Scr_about_14 ?_
    rw [show vf ((nI k)).toNatClampNeg = some vw from by rw [nI_clamp (by omega)]; exact hvf]
    refine lv_astore_n (lv' := [(3, .ref vw), (0, .ref ts), (1, .int (nI k)), (2, .int q)]) hx hb d_Scr_about_15 rfl hl (by decide) rfl (fun ls hl => ?_)
    refine lv_iload_n hx hb d_Scr_about_16 rfl (lv_at hl 3 rfl) ?_
    refine lv_tableOut (tgt := 143) hx hb d_Scr_about_17 (tb_out hq) (by decide) ?_
    refine lv_iconst (v := -1) hx hb d_Scr_about_143 (by decide) ?_
    exact hret _ () _ _ _ _ d_Scr_about_144 rfl (rfl) hP hD hS
  · exact absurd ⟨k, hk, rfl⟩ (cB_0 c_4)
set_option maxHeartbeats 400000 in
set_option maxRecDepth 100000 in
theorem c_Scr_pump_0 (ts : Nat) (dr : Nat) (cl : Nat) (cp : Nat) (vs : Nat) (num : Nat) (vf : Nat → Option Nat) (k : Nat) (vw : Nat) (fd : Nat) (ds : Nat) (po : Nat) (cn : Nat) (ep : Nat) (hk : k < 3) (hvf : vf k = some vw) : CI (S := Unit) l classes NW D (TYS cI cZ cL cV) y_Scr_pump (.code y_Scr_pump b_Scr_pump 6 (some .int) :: TB) { frames := 1, cells := 0, slots := 0, locals := 20 } [.ref ts, .int (nI k)] [(ts, .inr (8, [.ref dr, .ref cl, .ref cp, .ref vs, .int (nI num)])), (vs, .inl (cV, 3, .inr (.inr (.inr (.inr vf))))), (vw, .inr (7, [.ref fd, .ref ds, .ref po, .int (nI cn), .int (nI 0), .int (nI ep)]))] (fun r u => r = nI 0) (fun u => [(ts, .inr (8, [.ref dr, .ref cl, .ref cp, .ref vs, .int (nI num)])), (vs, .inl (cV, 3, .inr (.inr (.inr (.inr vf))))), (vw, .inr (7, [.ref fd, .ref ds, .ref po, .int (nI cn), .int (nI 0), .int (nI ep)]))]) := by
  refine CI.of (by decide) (Nat.le_of_ble_eq_true rfl) ?_
  intro pr ev sT mM aR bW mE cO AA QQ ls Bd hG hA hP hD hS hl hret
  have Bd : bd pr cO b_Scr_pump 6 sT aR TB "TileScreen" mM := Bd
  obtain ⟨hx, hb, hml, hown, htb⟩ := id Bd
  have hl : lv_has ls 6 [(0, .ref ts), (1, .int (nI k))] := hl
  refine lv_iload_n hx hb d_Scr_pump_0 rfl (lv_at hl 1 rfl) ?_
  refine kS_i (wc := []) (wr := [(ts, .inr (8, [.ref dr, .ref cl, .ref cp, .ref vs, .int (nI num)])), (vs, .inl (cV, 3, .inr (.inr (.inr (.inr vf))))), (vw, .inr (7, [.ref fd, .ref ds, .ref po, .int (nI cn), .int (nI 0), .int (nI ep)]))]) (w2 := fun _ => [(ts, .inr (8, [.ref dr, .ref cl, .ref cp, .ref vs, .int (nI num)])), (vs, .inl (cV, 3, .inr (.inr (.inr (.inr vf))))), (vw, .inr (7, [.ref fd, .ref ds, .ref po, .int (nI cn), .int (nI 0), .int (nI ep)]))]) [.int (nI k)] [] Bd ⟨gi_app (gi_c0 k_306 (gi_c0 k_307 (gi_c0 k_1 gi_nil))) (gi_tb0 k_308), rfl, by decide, by decide⟩ (show (parseMethodDescriptor "(I)Z").map (fun d => d.parameters.length) = some 1 by decide +kernel) (c_Scr_isViewer (nI k) ) (by decide +kernel) ⟨Nat.le_of_ble_eq_true rfl, Nat.le_of_ble_eq_true rfl⟩ hG hP hD hS hA [] [0, 1, 2] [0, 1, 2] (by decide) rfl rfl (fun _ => rfl) hl.1 rfl (Nat.le_of_ble_eq_true rfl) d_Scr_pump_1 (fun r1 u3 H locs hp2 hP hD hS => ?_)
  have hP : va_P D classes [(ts, .inr (8, [.ref dr, .ref cl, .ref cp, .ref vs, .int (nI num)])), (vs, .inl (cV, 3, .inr (.inr (.inr (.inr vf))))), (vw, .inr (7, [.ref fd, .ref ds, .ref po, .int (nI cn), .int (nI 0), .int (nI ep)]))] H := hP
  have hD : va_D AA [(ts, .inr (8, [.ref dr, .ref cl, .ref cp, .ref vs, .int (nI num)])), (vs, .inl (cV, 3, .inr (.inr (.inr (.inr vf))))), (vw, .inr (7, [.ref fd, .ref ds, .ref po, .int (nI cn), .int (nI 0), .int (nI ep)]))] := hD
  subst hp2
  refine nv_if_ne (tgt := 9) hx hb d_Scr_pump_4 (by decide) (bt_lt _) (fun c_4 => ?_) (fun c_4 => ?_)
  · refine lv_aload_n hx hb d_Scr_pump_9 rfl (lv_at hl 0 rfl) ?_
    refine va_get (D := D) (ci := 8) (v := .ref vs) (C := "TileScreen") (T := F_Scr) (N := 5) hx hb htb i_Scr hown hG.1 hP 0 rfl rfl 3 (by decide) (htb _ k_241) (fun _ h9 => h9) rfl d_Scr_pump_10 ?_
    refine lv_iload_n hx hb d_Scr_pump_13 rfl (lv_at hl 1 rfl) ?_
    refine va_aldq hx hb hG.1 hP 1 3 rfl rfl (vp_in_nI hk (by decide)) d_Scr_pump_14 ?_
    rw [show vf ((nI k)).toNatClampNeg = some vw from by rw [nI_clamp (by omega)]; exact hvf]
    refine lv_astore_n (lv' := [(2, .ref vw), (0, .ref ts), (1, .int (nI k))]) hx hb d_Scr_pump_15 rfl hl (by decide) rfl (fun ls hl => ?_)
    refine lv_aload_n hx hb d_Scr_pump_16 rfl (lv_at hl 0 rfl) ?_
    refine va_getN (D := D) (ci := 7) (v := .ref fd) (C := "TileScreen$Viewer") (T := F_Viewer) (N := 6) hx hb htb i_Viewer hown hG.1 hP 2 rfl rfl 0 (by decide) (va_Nw.use rfl (hG.2 _ k_214).2) (fun _ h9 => h9) rfl d_Scr_pump_17 ?_
    refine lv_astore_n (lv' := [(3, .ref fd), (2, .ref vw), (0, .ref ts), (1, .int (nI k))]) hx hb d_Scr_pump_20 rfl hl (by decide) rfl (fun ls hl => ?_)
    refine lv_aload_n hx hb d_Scr_pump_21 rfl (lv_at hl 1 rfl) ?_
    refine va_getN (D := D) (ci := 7) (v := .int (nI 0)) (C := "TileScreen$Viewer") (T := F_Viewer) (N := 6) hx hb htb i_Viewer hown hG.1 hP 2 rfl rfl 4 (by decide) (va_Nw.use rfl (hG.2 _ k_222).2) (fun _ h9 => h9) rfl d_Scr_pump_22 ?_
    refine lv_istore (lv' := [(4, .int (nI 0)), (3, .ref fd), (2, .ref vw), (0, .ref ts), (1, .int (nI k))]) hx hb d_Scr_pump_25 hl (by decide) rfl (fun ls hl => ?_)
    refine lv_iconst (v := nI 0) hx hb d_Scr_pump_27 (by decide) ?_
    refine lv_istore (lv' := [(5, .int (nI 0)), (4, .int (nI 0)), (3, .ref fd), (2, .ref vw), (0, .ref ts), (1, .int (nI k))]) hx hb d_Scr_pump_28 hl (by decide) rfl (fun ls hl => ?_)
    refine lv_iload hx hb d_Scr_pump_30 (lv_at hl 0 rfl) ?_
    refine lv_iload hx hb d_Scr_pump_32 (lv_at hl 1 rfl) ?_
    refine nv_icmp_ge (tgt := 136) hx hb d_Scr_pump_34 (by decide) (by omega) (by omega) (fun _ => ?_) (fun h9 => absurd h9 (by decide))
    refine lv_iload hx hb d_Scr_pump_136 (lv_at hl 0 rfl) ?_
    exact hret _ () _ _ _ _ d_Scr_pump_138 rfl (rfl) hP hD hS
  · exact absurd ⟨k, hk, rfl⟩ (cB_0 c_4)
set_option maxHeartbeats 400000 in
set_option maxRecDepth 100000 in
theorem c_Scr_bytesBy (ts : Nat) (dr : Nat) (cl : Nat) (cp : Nat) (vs : Nat) (num : Nat) (vf : Nat → Option Nat) (k : Nat) (vw : Nat) (fd : Nat) (ds : Nat) (po : Nat) (cn : Nat) (cr : Nat) (ep : Nat) (se : Nat) (sn : Int64) (fc : Nat) (li : Nat) (co : Nat) (lo : Nat) (tw : Int32) (en : Int32) (K : Nat → Nat) (q : Nat) (hk : k < 3) (hvf : vf k = some vw) (hq : q < 7) : CI (S := Unit) l classes NW D (TYS cI cZ cL cV) y_Scr_bytesBy (.code y_Scr_bytesBy b_Scr_bytesBy 3 (some .int) :: TB) { frames := 1, cells := 0, slots := 0, locals := 20 } [.ref ts, .int (nI k), .int (nI q)] [(ts, .inr (8, [.ref dr, .ref cl, .ref cp, .ref vs, .int (nI num)])), (vs, .inl (cV, 3, .inr (.inr (.inr (.inr vf))))), (vw, .inr (7, [.ref fd, .ref ds, .ref po, .int (nI cn), .int (nI cr), .int (nI ep)])), (fd, .inr (5, [.ref se, .long sn, .ref fc, .ref li, .ref co, .ref lo, .int tw, .int en])), (co, .inl (cI, 7, .inl (nF K)))] (fun r u => r = nI (K q)) (fun u => [(ts, .inr (8, [.ref dr, .ref cl, .ref cp, .ref vs, .int (nI num)])), (vs, .inl (cV, 3, .inr (.inr (.inr (.inr vf))))), (vw, .inr (7, [.ref fd, .ref ds, .ref po, .int (nI cn), .int (nI cr), .int (nI ep)])), (fd, .inr (5, [.ref se, .long sn, .ref fc, .ref li, .ref co, .ref lo, .int tw, .int en])), (co, .inl (cI, 7, .inl (nF K)))]) := by
  refine CI.of (by decide) (Nat.le_of_ble_eq_true rfl) ?_
  intro pr ev sT mM aR bW mE cO AA QQ ls Bd hG hA hP hD hS hl hret
  have Bd : bd pr cO b_Scr_bytesBy 3 sT aR TB "TileScreen" mM := Bd
  obtain ⟨hx, hb, hml, hown, htb⟩ := id Bd
  have hl : lv_has ls 3 [(0, .ref ts), (1, .int (nI k)), (2, .int (nI q))] := hl
  refine lv_iload_n hx hb d_Scr_bytesBy_0 rfl (lv_at hl 1 rfl) ?_
  refine kS_i (wc := []) (wr := [(ts, .inr (8, [.ref dr, .ref cl, .ref cp, .ref vs, .int (nI num)])), (vs, .inl (cV, 3, .inr (.inr (.inr (.inr vf))))), (vw, .inr (7, [.ref fd, .ref ds, .ref po, .int (nI cn), .int (nI cr), .int (nI ep)])), (fd, .inr (5, [.ref se, .long sn, .ref fc, .ref li, .ref co, .ref lo, .int tw, .int en])), (co, .inl (cI, 7, .inl (nF K)))]) (w2 := fun _ => [(ts, .inr (8, [.ref dr, .ref cl, .ref cp, .ref vs, .int (nI num)])), (vs, .inl (cV, 3, .inr (.inr (.inr (.inr vf))))), (vw, .inr (7, [.ref fd, .ref ds, .ref po, .int (nI cn), .int (nI cr), .int (nI ep)])), (fd, .inr (5, [.ref se, .long sn, .ref fc, .ref li, .ref co, .ref lo, .int tw, .int en])), (co, .inl (cI, 7, .inl (nF K)))]) [.int (nI k)] [] Bd ⟨gi_app (gi_c0 k_306 (gi_c0 k_307 (gi_c0 k_1 gi_nil))) (gi_tb0 k_308), rfl, by decide, by decide⟩ (show (parseMethodDescriptor "(I)Z").map (fun d => d.parameters.length) = some 1 by decide +kernel) (c_Scr_isViewer (nI k) ) (by decide +kernel) ⟨Nat.le_of_ble_eq_true rfl, Nat.le_of_ble_eq_true rfl⟩ hG hP hD hS hA [] [0, 1, 2, 3, 4] [0, 1, 2, 3, 4] (by decide) rfl rfl (fun _ => rfl) hl.1 rfl (Nat.le_of_ble_eq_true rfl) d_Scr_bytesBy_1 (fun r1 u3 H locs hp2 hP hD hS => ?_)
  have hP : va_P D classes [(ts, .inr (8, [.ref dr, .ref cl, .ref cp, .ref vs, .int (nI num)])), (vs, .inl (cV, 3, .inr (.inr (.inr (.inr vf))))), (vw, .inr (7, [.ref fd, .ref ds, .ref po, .int (nI cn), .int (nI cr), .int (nI ep)])), (fd, .inr (5, [.ref se, .long sn, .ref fc, .ref li, .ref co, .ref lo, .int tw, .int en])), (co, .inl (cI, 7, .inl (nF K)))] H := hP
  have hD : va_D AA [(ts, .inr (8, [.ref dr, .ref cl, .ref cp, .ref vs, .int (nI num)])), (vs, .inl (cV, 3, .inr (.inr (.inr (.inr vf))))), (vw, .inr (7, [.ref fd, .ref ds, .ref po, .int (nI cn), .int (nI cr), .int (nI ep)])), (fd, .inr (5, [.ref se, .long sn, .ref fc, .ref li, .ref co, .ref lo, .int tw, .int en])), (co, .inl (cI, 7, .inl (nF K)))] := hD
  subst hp2
  refine nv_if_eq (tgt := 17) hx hb d_Scr_bytesBy_4 (by decide) (bt_lt _) (fun c_4 => ?_) (fun c_4 => ?_)
  · exact absurd ⟨k, hk, rfl⟩ (cB_0 c_4)
  · refine lv_iload_n hx hb d_Scr_bytesBy_7 rfl (lv_at hl 2 rfl) ?_
    refine nv_if_ltF hx hb 17 d_Scr_bytesBy_8 (by decide) (by omega) ?_
    refine lv_iload_n hx hb d_Scr_bytesBy_11 rfl (lv_at hl 2 rfl) ?_
    refine lv_bipush (v := nI 7) hx hb d_Scr_bytesBy_12 (by decide) ?_
    refine nv_icmp_lt (tgt := 19) hx hb d_Scr_bytesBy_14 (by decide) (by omega) (by omega) (fun c_14 => ?_) (fun c_14 => ?_)
    · refine lv_aload_n hx hb d_Scr_bytesBy_19 rfl (lv_at hl 0 rfl) ?_
      refine va_get (D := D) (ci := 8) (v := .ref vs) (C := "TileScreen") (T := F_Scr) (N := 5) hx hb htb i_Scr hown hG.1 hP 0 rfl rfl 3 (by decide) (htb _ k_241) (fun _ h9 => h9) rfl d_Scr_bytesBy_20 ?_
      refine lv_iload_n hx hb d_Scr_bytesBy_23 rfl (lv_at hl 1 rfl) ?_
      refine va_aldq hx hb hG.1 hP 1 3 rfl rfl (vp_in_nI hk (by decide)) d_Scr_bytesBy_24 ?_
      rw [show vf ((nI k)).toNatClampNeg = some vw from by rw [nI_clamp (by omega)]; exact hvf]
      refine va_getN (D := D) (ci := 7) (v := .ref fd) (C := "TileScreen$Viewer") (T := F_Viewer) (N := 6) hx hb htb i_Viewer hown hG.1 hP 2 rfl rfl 0 (by decide) (va_Nw.use rfl (hG.2 _ k_214).2) (fun _ h9 => h9) rfl d_Scr_bytesBy_25 ?_
      refine va_getN (D := D) (ci := 5) (v := .ref co) (C := "TileScreen$Feed") (T := F_Feed) (N := 8) hx hb htb i_Feed hown hG.1 hP 3 rfl rfl 4 (by decide) (va_Nw.use rfl (hG.2 _ k_129).2) (fun _ h9 => h9) rfl d_Scr_bytesBy_28 ?_
      refine lv_iload_n hx hb d_Scr_bytesBy_31 rfl (lv_at hl 2 rfl) ?_
      refine nv_iald hx hb hG.1 hP 4 0 rfl rfl (by omega) (by omega) d_Scr_bytesBy_32 ?_
      exact hret _ () _ _ _ _ d_Scr_bytesBy_33 rfl (rfl) hP hD hS
    · omega
set_option maxHeartbeats 400000 in
set_option maxRecDepth 100000 in
theorem c_Scr_bytesBy_no (ts : Nat) (dr : Nat) (cl : Nat) (cp : Nat) (vs : Nat) (num : Nat) (v : Int32) (q : Int32) (hno : ¬ (vwP v ∧ ∃ j, j < 7 ∧ q = nI j)) : CI (S := Unit) l classes NW D (TYS cI cZ cL cV) y_Scr_bytesBy (.code y_Scr_bytesBy b_Scr_bytesBy 3 (some .int) :: TB) { frames := 1, cells := 0, slots := 0, locals := 20 } [.ref ts, .int v, .int q] [(ts, .inr (8, [.ref dr, .ref cl, .ref cp, .ref vs, .int (nI num)]))] (fun r u => r = (-1)) (fun u => [(ts, .inr (8, [.ref dr, .ref cl, .ref cp, .ref vs, .int (nI num)]))]) := by
  refine CI.of (by decide) (Nat.le_of_ble_eq_true rfl) ?_
  intro pr ev sT mM aR bW mE cO AA QQ ls Bd hG hA hP hD hS hl hret
  have Bd : bd pr cO b_Scr_bytesBy 3 sT aR TB "TileScreen" mM := Bd
  obtain ⟨hx, hb, hml, hown, htb⟩ := id Bd
  have hl : lv_has ls 3 [(0, .ref ts), (1, .int v), (2, .int q)] := hl
  refine lv_iload_n hx hb d_Scr_bytesBy_0 rfl (lv_at hl 1 rfl) ?_
  refine kS_i (wc := []) (wr := [(ts, .inr (8, [.ref dr, .ref cl, .ref cp, .ref vs, .int (nI num)]))]) (w2 := fun _ => [(ts, .inr (8, [.ref dr, .ref cl, .ref cp, .ref vs, .int (nI num)]))]) [.int v] [] Bd ⟨gi_app (gi_c0 k_306 (gi_c0 k_307 (gi_c0 k_1 gi_nil))) (gi_tb0 k_308), rfl, by decide, by decide⟩ (show (parseMethodDescriptor "(I)Z").map (fun d => d.parameters.length) = some 1 by decide +kernel) (c_Scr_isViewer v ) (by decide +kernel) ⟨Nat.le_of_ble_eq_true rfl, Nat.le_of_ble_eq_true rfl⟩ hG hP hD hS hA [] [0] [0] (by decide) rfl rfl (fun _ => rfl) hl.1 rfl (Nat.le_of_ble_eq_true rfl) d_Scr_bytesBy_1 (fun r1 u3 H locs hp2 hP hD hS => ?_)
  have hP : va_P D classes [(ts, .inr (8, [.ref dr, .ref cl, .ref cp, .ref vs, .int (nI num)]))] H := hP
  have hD : va_D AA [(ts, .inr (8, [.ref dr, .ref cl, .ref cp, .ref vs, .int (nI num)]))] := hD
  subst hp2
  refine nv_if_eq (tgt := 17) hx hb d_Scr_bytesBy_4 (by decide) (bt_lt _) (fun c_4 => ?_) (fun c_4 => ?_)
  · refine lv_iconst (v := -1) hx hb d_Scr_bytesBy_17 (by decide) ?_
    exact hret _ () _ _ _ _ d_Scr_bytesBy_18 rfl (rfl) hP hD hS
  · refine lv_iload_n hx hb d_Scr_bytesBy_7 rfl (lv_at hl 2 rfl) ?_
    refine lv_if_lt (tgt := 17) hx hb d_Scr_bytesBy_8 (by decide) (fun c_8 => ?_) (fun c_8 => ?_)
    · refine lv_iconst (v := -1) hx hb d_Scr_bytesBy_17 (by decide) ?_
      exact hret _ () _ _ _ _ d_Scr_bytesBy_18 rfl (rfl) hP hD hS
    · refine lv_iload_n hx hb d_Scr_bytesBy_11 rfl (lv_at hl 2 rfl) ?_
      refine lv_bipush (v := nI 7) hx hb d_Scr_bytesBy_12 (by decide) ?_
      refine lv_icmp_lt (tgt := 19) hx hb d_Scr_bytesBy_14 (by decide) (fun c_14 => ?_) (fun c_14 => ?_)
      · exact absurd ⟨cB_1 c_4, ge_lt (by decide) c_8 (fun z => absurd c_14 (Int32.not_lt.mpr z))⟩ hno
      · refine lv_iconst (v := -1) hx hb d_Scr_bytesBy_17 (by decide) ?_
        exact hret _ () _ _ _ _ d_Scr_bytesBy_18 rfl (rfl) hP hD hS
set_option maxHeartbeats 400000 in
set_option maxRecDepth 100000 in
theorem c_Scr_onLine (ts : Nat) (dr : Nat) (cl : Nat) (cp : Nat) (vs : Nat) (num : Nat) (vf : Nat → Option Nat) (k : Nat) (vw : Nat) (fd : Nat) (ds : Nat) (po : Nat) (cn : Nat) (cr : Nat) (ep : Nat) (se : Nat) (sn : Int64) (fc : Nat) (li : Nat) (co : Nat) (lo : Nat) (tw : Int32) (en : Int32) (lb : Nat) (fi : Nat) (sz : Nat) (B : Nat → Nat) (q : Int32) (hk : k < 3) (hvf : vf k = some vw) (h1 : fi + sz ≤ 6247) : CI (S := Unit) l classes NW D (TYS cI cZ cL cV) y_Scr_onLine (.code y_Scr_onLine b_Scr_onLine 3 (some .int) :: TB) { frames := 1, cells := 0, slots := 0, locals := 21 } [.ref ts, .int (nI k), .int q] [(ts, .inr (8, [.ref dr, .ref cl, .ref cp, .ref vs, .int (nI num)])), (vs, .inl (cV, 3, .inr (.inr (.inr (.inr vf))))), (vw, .inr (7, [.ref fd, .ref ds, .ref po, .int (nI cn), .int (nI cr), .int (nI ep)])), (fd, .inr (5, [.ref se, .long sn, .ref fc, .ref li, .ref co, .ref lo, .int tw, .int en])), (li, .inr (2, [.ref lb, .int (nI fi), .int (nI sz)])), (lb, .inl (cI, 6247, .inl (nF B)))] (fun r u => (((∃ j, j < sz ∧ q = nI j ∧ r = nI (B (fi + j))) ∨ ((∀ j, j < sz → q ≠ nI j) ∧ r = -1)))) (fun u => [(ts, .inr (8, [.ref dr, .ref cl, .ref cp, .ref vs, .int (nI num)])), (vs, .inl (cV, 3, .inr (.inr (.inr (.inr vf))))), (vw, .inr (7, [.ref fd, .ref ds, .ref po, .int (nI cn), .int (nI cr), .int (nI ep)])), (fd, .inr (5, [.ref se, .long sn, .ref fc, .ref li, .ref co, .ref lo, .int tw, .int en])), (li, .inr (2, [.ref lb, .int (nI fi), .int (nI sz)])), (lb, .inl (cI, 6247, .inl (nF B)))]) := by
  refine CI.of (by decide) (Nat.le_of_ble_eq_true rfl) ?_
  intro pr ev sT mM aR bW mE cO AA QQ ls Bd hG hA hP hD hS hl hret
  have Bd : bd pr cO b_Scr_onLine 3 sT aR TB "TileScreen" mM := Bd
  obtain ⟨hx, hb, hml, hown, htb⟩ := id Bd
  have hl : lv_has ls 3 [(0, .ref ts), (1, .int (nI k)), (2, .int q)] := hl
  refine lv_iload_n hx hb d_Scr_onLine_0 rfl (lv_at hl 1 rfl) ?_
  refine kS_i (wc := []) (wr := [(ts, .inr (8, [.ref dr, .ref cl, .ref cp, .ref vs, .int (nI num)])), (vs, .inl (cV, 3, .inr (.inr (.inr (.inr vf))))), (vw, .inr (7, [.ref fd, .ref ds, .ref po, .int (nI cn), .int (nI cr), .int (nI ep)])), (fd, .inr (5, [.ref se, .long sn, .ref fc, .ref li, .ref co, .ref lo, .int tw, .int en])), (li, .inr (2, [.ref lb, .int (nI fi), .int (nI sz)])), (lb, .inl (cI, 6247, .inl (nF B)))]) (w2 := fun _ => [(ts, .inr (8, [.ref dr, .ref cl, .ref cp, .ref vs, .int (nI num)])), (vs, .inl (cV, 3, .inr (.inr (.inr (.inr vf))))), (vw, .inr (7, [.ref fd, .ref ds, .ref po, .int (nI cn), .int (nI cr), .int (nI ep)])), (fd, .inr (5, [.ref se, .long sn, .ref fc, .ref li, .ref co, .ref lo, .int tw, .int en])), (li, .inr (2, [.ref lb, .int (nI fi), .int (nI sz)])), (lb, .inl (cI, 6247, .inl (nF B)))]) [.int (nI k)] [] Bd ⟨gi_app (gi_c0 k_306 (gi_c0 k_307 (gi_c0 k_1 gi_nil))) (gi_tb0 k_308), rfl, by decide, by decide⟩ (show (parseMethodDescriptor "(I)Z").map (fun d => d.parameters.length) = some 1 by decide +kernel) (c_Scr_isViewer (nI k) ) (by decide +kernel) ⟨Nat.le_of_ble_eq_true rfl, Nat.le_of_ble_eq_true rfl⟩ hG hP hD hS hA [] [0, 1, 2, 3, 4, 5] [0, 1, 2, 3, 4, 5] (by decide) rfl rfl (fun _ => rfl) hl.1 rfl (Nat.le_of_ble_eq_true rfl) d_Scr_onLine_1 (fun r1 u3 H locs hp2 hP hD hS => ?_)
  have hP : va_P D classes [(ts, .inr (8, [.ref dr, .ref cl, .ref cp, .ref vs, .int (nI num)])), (vs, .inl (cV, 3, .inr (.inr (.inr (.inr vf))))), (vw, .inr (7, [.ref fd, .ref ds, .ref po, .int (nI cn), .int (nI cr), .int (nI ep)])), (fd, .inr (5, [.ref se, .long sn, .ref fc, .ref li, .ref co, .ref lo, .int tw, .int en])), (li, .inr (2, [.ref lb, .int (nI fi), .int (nI sz)])), (lb, .inl (cI, 6247, .inl (nF B)))] H := hP
  have hD : va_D AA [(ts, .inr (8, [.ref dr, .ref cl, .ref cp, .ref vs, .int (nI num)])), (vs, .inl (cV, 3, .inr (.inr (.inr (.inr vf))))), (vw, .inr (7, [.ref fd, .ref ds, .ref po, .int (nI cn), .int (nI cr), .int (nI ep)])), (fd, .inr (5, [.ref se, .long sn, .ref fc, .ref li, .ref co, .ref lo, .int tw, .int en])), (li, .inr (2, [.ref lb, .int (nI fi), .int (nI sz)])), (lb, .inl (cI, 6247, .inl (nF B)))] := hD
  subst hp2
  refine nv_if_eq (tgt := 26) hx hb d_Scr_onLine_4 (by decide) (bt_lt _) (fun c_4 => ?_) (fun c_4 => ?_)
  · exact absurd ⟨k, hk, rfl⟩ (cB_0 c_4)
  · refine lv_aload_n hx hb d_Scr_onLine_7 rfl (lv_at hl 0 rfl) ?_
    refine va_get (D := D) (ci := 8) (v := .ref vs) (C := "TileScreen") (T := F_Scr) (N := 5) hx hb htb i_Scr hown hG.1 hP 0 rfl rfl 3 (by decide) (htb _ k_241) (fun _ h9 => h9) rfl d_Scr_onLine_8 ?_
    refine lv_iload_n hx hb d_Scr_onLine_11 rfl (lv_at hl 1 rfl) ?_
    refine va_aldq hx hb hG.1 hP 1 3 rfl rfl (vp_in_nI hk (by decide)) d_Scr_onLine_12 ?_
    rw [show vf ((nI k)).toNatClampNeg = some vw from by rw [nI_clamp (by omega)]; exact hvf]
    refine va_getN (D := D) (ci := 7) (v := .ref fd) (C := "TileScreen$Viewer") (T := F_Viewer) (N := 6) hx hb htb i_Viewer hown hG.1 hP 2 rfl rfl 0 (by decide) (va_Nw.use rfl (hG.2 _ k_214).2) (fun _ h9 => h9) rfl d_Scr_onLine_13 ?_
    refine va_getN (D := D) (ci := 5) (v := .ref li) (C := "TileScreen$Feed") (T := F_Feed) (N := 8) hx hb htb i_Feed hown hG.1 hP 3 rfl rfl 3 (by decide) (va_Nw.use rfl (hG.2 _ k_127).2) (fun _ h9 => h9) rfl d_Scr_onLine_16 ?_
    refine lv_iload_n hx hb d_Scr_onLine_19 rfl (lv_at hl 2 rfl) ?_
    refine kV_i (wc := [(li, .inr (2, [.ref lb, .int (nI fi), .int (nI sz)])), (lb, .inl (cI, 6247, .inl (nF B)))]) (wr := [(ts, .inr (8, [.ref dr, .ref cl, .ref cp, .ref vs, .int (nI num)])), (vs, .inl (cV, 3, .inr (.inr (.inr (.inr vf))))), (vw, .inr (7, [.ref fd, .ref ds, .ref po, .int (nI cn), .int (nI cr), .int (nI ep)])), (fd, .inr (5, [.ref se, .long sn, .ref fc, .ref li, .ref co, .ref lo, .int tw, .int en]))]) (w2 := fun _ => [(ts, .inr (8, [.ref dr, .ref cl, .ref cp, .ref vs, .int (nI num)])), (vs, .inl (cV, 3, .inr (.inr (.inr (.inr vf))))), (vw, .inr (7, [.ref fd, .ref ds, .ref po, .int (nI cn), .int (nI cr), .int (nI ep)])), (fd, .inr (5, [.ref se, .long sn, .ref fc, .ref li, .ref co, .ref lo, .int tw, .int en])), (li, .inr (2, [.ref lb, .int (nI fi), .int (nI sz)])), (lb, .inl (cI, 6247, .inl (nF B)))]) [.int q] [] Bd ⟨gi_app (gi_c0 k_532 (gi_c0 k_533 (gi_c0 k_534 (gi_c0 k_6 gi_nil)))) (gi_tb0 k_535), rfl, by decide, by decide⟩ (show (parseMethodDescriptor "(I)I").map (fun d => d.parameters.length) = some 1 by decide +kernel) (c_Line_get li lb fi sz B q (by omega)) (by decide +kernel) ⟨Nat.le_of_ble_eq_true rfl, Nat.le_of_ble_eq_true rfl⟩ hG hP hD hS hA [4, 5] [0, 1, 2, 3] [0, 1, 2, 3, 4, 5] (by decide) rfl rfl (fun _ => rfl) (q0 := 0) rfl rfl rfl hl.1 rfl (Nat.le_of_ble_eq_true rfl) d_Scr_onLine_20 (fun r4 u6 H locs hp5 hP hD hS => ?_)
    have hP : va_P D classes [(ts, .inr (8, [.ref dr, .ref cl, .ref cp, .ref vs, .int (nI num)])), (vs, .inl (cV, 3, .inr (.inr (.inr (.inr vf))))), (vw, .inr (7, [.ref fd, .ref ds, .ref po, .int (nI cn), .int (nI cr), .int (nI ep)])), (fd, .inr (5, [.ref se, .long sn, .ref fc, .ref li, .ref co, .ref lo, .int tw, .int en])), (li, .inr (2, [.ref lb, .int (nI fi), .int (nI sz)])), (lb, .inl (cI, 6247, .inl (nF B)))] H := hP
    have hD : va_D AA [(ts, .inr (8, [.ref dr, .ref cl, .ref cp, .ref vs, .int (nI num)])), (vs, .inl (cV, 3, .inr (.inr (.inr (.inr vf))))), (vw, .inr (7, [.ref fd, .ref ds, .ref po, .int (nI cn), .int (nI cr), .int (nI ep)])), (fd, .inr (5, [.ref se, .long sn, .ref fc, .ref li, .ref co, .ref lo, .int tw, .int en])), (li, .inr (2, [.ref lb, .int (nI fi), .int (nI sz)])), (lb, .inl (cI, 6247, .inl (nF B)))] := hD
    refine lv_goto (tgt := 27) hx hb d_Scr_onLine_23 (by decide) ?_
    exact hret _ () _ _ _ _ d_Scr_onLine_27 rfl (hp5) hP hD hS
end
