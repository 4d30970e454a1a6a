section
variable {l : Launch} {D : va_G} {cI cZ cL cV : ClassId}
def oW (cL : ClassId) (ou : Nat) (f : Nat → Int64) : va_W := [(ou, .inl (cL, 1, .inr (.inl f)))]
/-- what stands behind the i-th call -/
def LN (p : Program) (l : Launch) (e : Env) (s : State) (m : MethodId) (below : List Frame) (meth : Method) (c : Code) (D : va_G) (cI cZ cL cV : ClassId) (b : Nat) (ba : Nat → Nat) (A : Nat → Nat → Nat) (vf : Nat → Option Nat) (ma : Nat → Nat) (ou : Nat) (i : Nat) : Prop :=
  ∀ (X : CS) (Y : MS) (f : Nat → Int64) (H : Heap) (locs : List Loc) (ls : Array Slot), cOk X → mOk Y → X.1 ≤ i + 1 → Y.2.2.2 1 = nI X.1 → va_P D classes (cW cI cV ba A vf X ++ (mW cI cZ ma Y ++ oW cL ou f)) H → va_D (fun q : Nat => s.heap.size ≤ q) (cW cI cV ba A vf X ++ (mW cI cZ ma Y ++ oW cL ou f)) → va_S (fun q : Nat => s.heap.size ≤ q) s.heap H locs → lv_has ls 7 [(0, .ref b), (1, .ref (ba 0)), (2, .ref (ma 0)), (3, .ref ou), (4, .int (nI (6 * i)))] → W p l e room_1 s m #[Value.ref b] below meth c H locs (106 + (i + 1)) (155700 + 6 * (i + 1)) (lw_Z below #[Value.ref b] s) (F0 m 669 ls [])
set_option maxHeartbeats 4000000 in
set_option maxRecDepth 100000 in
theorem ok_c : okI [0, 1, 2, 3, 4, 5, 6, 7, 8, 9, 10, 11, 12, 13, 14, 15, 16, 17, 18, 19, 20, 21, 22, 23, 24, 25, 26, 27, 28, 29, 30, 31, 32, 33, 34, 35, 36, 37, 38, 39, 40, 41, 42, 43, 44, 45, 46, 47, 48, 49, 50, 51, 52, 53, 54, 55, 56, 57, 58, 59, 60, 61, 62, 63, 64, 65, 66, 67, 68, 69, 70, 71, 72, 73, 74, 75, 76, 77, 78, 79, 80, 81, 82] [83, 84, 85, 86, 87, 88, 89, 90, 91, 92, 93, 94, 95, 96, 97, 98, 99, 100, 101, 102, 103, 104, 105] [23, 24, 25, 26, 27, 28, 29, 30, 31, 32, 33, 34, 35, 36, 37, 38, 39, 40, 41, 42, 43, 44, 45, 46, 47, 48, 49, 50, 51, 52, 53, 54, 55, 56, 57, 58, 59, 60, 61, 62, 63, 64, 65, 66, 67, 68, 69, 70, 71, 72, 73, 74, 75, 76, 77, 78, 79, 80, 81, 82, 83, 84, 85, 86, 87, 88, 89, 90, 91, 92, 93, 94, 95, 96, 97, 98, 99, 100, 101, 102, 103, 104, 105, 0, 1, 2, 3, 4, 5, 6, 7, 8, 9, 10, 11, 12, 13, 14, 15, 16, 17, 18, 19, 20, 21, 22] = true := by decide
set_option maxHeartbeats 4000000 in
set_option maxRecDepth 100000 in
theorem wl_c1 {cI cZ cL cV : ClassId} {ba : Nat → Nat} {A : Nat → Nat → Nat} {vf : Nat → Option Nat} {ma : Nat → Nat} {ou : Nat} (X : CS) (Y : MS) (f : Nat → Int64) : ([0, 1, 2, 3, 4, 5, 6, 7, 8, 9, 10, 11, 12, 13, 14, 15, 16, 17, 18, 19, 20, 21, 22, 23, 24, 25, 26, 27, 28, 29, 30, 31, 32, 33, 34, 35, 36, 37, 38, 39, 40, 41, 42, 43, 44, 45, 46, 47, 48, 49, 50, 51, 52, 53, 54, 55, 56, 57, 58, 59, 60, 61, 62, 63, 64, 65, 66, 67, 68, 69, 70, 71, 72, 73, 74, 75, 76, 77, 78, 79, 80, 81, 82] : List Nat).map (fun i => (cW cI cV ba A vf X ++ (mW cI cZ ma Y ++ oW cL ou f))[i]?) = (cW cI cV ba A vf X).map some := rfl
set_option maxHeartbeats 4000000 in
set_option maxRecDepth 100000 in
theorem wl_c2 {cI cZ cL cV : ClassId} {ba : Nat → Nat} {A : Nat → Nat → Nat} {vf : Nat → Option Nat} {ma : Nat → Nat} {ou : Nat} (X : CS) (Y : MS) (f : Nat → Int64) : ([83, 84, 85, 86, 87, 88, 89, 90, 91, 92, 93, 94, 95, 96, 97, 98, 99, 100, 101, 102, 103, 104, 105] : List Nat).map (fun i => (cW cI cV ba A vf X ++ (mW cI cZ ma Y ++ oW cL ou f))[i]?) = (mW cI cZ ma Y ++ oW cL ou f).map some := rfl
set_option maxHeartbeats 4000000 in
set_option maxRecDepth 100000 in
theorem wl_c3 {cI cZ cL cV : ClassId} {ba : Nat → Nat} {A : Nat → Nat → Nat} {vf : Nat → Option Nat} {ma : Nat → Nat} {ou : Nat} (X : CS) (Y : MS) (f : Nat → Int64) : ([23, 24, 25, 26, 27, 28, 29, 30, 31, 32, 33, 34, 35, 36, 37, 38, 39, 40, 41, 42, 43, 44, 45, 46, 47, 48, 49, 50, 51, 52, 53, 54, 55, 56, 57, 58, 59, 60, 61, 62, 63, 64, 65, 66, 67, 68, 69, 70, 71, 72, 73, 74, 75, 76, 77, 78, 79, 80, 81, 82, 83, 84, 85, 86, 87, 88, 89, 90, 91, 92, 93, 94, 95, 96, 97, 98, 99, 100, 101, 102, 103, 104, 105, 0, 1, 2, 3, 4, 5, 6, 7, 8, 9, 10, 11, 12, 13, 14, 15, 16, 17, 18, 19, 20, 21, 22] : List Nat).map (fun i => ((mW cI cZ ma Y ++ oW cL ou f) ++ (cW cI cV ba A vf X))[i]?) = (cW cI cV ba A vf X ++ (mW cI cZ ma Y ++ oW cL ou f)).map some := rfl
set_option maxHeartbeats 4000000 in
set_option maxRecDepth 100000 in
theorem ok_m : okI [83, 84, 85, 86, 87, 88, 89, 90, 91, 92, 93, 94, 95, 96, 97, 98, 99, 100, 101, 102, 103, 104] [0, 1, 2, 3, 4, 5, 6, 7, 8, 9, 10, 11, 12, 13, 14, 15, 16, 17, 18, 19, 20, 21, 22, 23, 24, 25, 26, 27, 28, 29, 30, 31, 32, 33, 34, 35, 36, 37, 38, 39, 40, 41, 42, 43, 44, 45, 46, 47, 48, 49, 50, 51, 52, 53, 54, 55, 56, 57, 58, 59, 60, 61, 62, 63, 64, 65, 66, 67, 68, 69, 70, 71, 72, 73, 74, 75, 76, 77, 78, 79, 80, 81, 82, 105] [0, 1, 2, 3, 4, 5, 6, 7, 8, 9, 10, 11, 12, 13, 14, 15, 16, 17, 18, 19, 20, 21, 22, 23, 24, 25, 26, 27, 28, 29, 30, 31, 32, 33, 34, 35, 36, 37, 38, 39, 40, 41, 42, 43, 44, 45, 46, 47, 48, 49, 50, 51, 52, 53, 54, 55, 56, 57, 58, 59, 60, 61, 62, 63, 64, 65, 66, 67, 68, 69, 70, 71, 72, 73, 74, 75, 76, 77, 78, 79, 80, 81, 82, 84, 85, 86, 87, 88, 89, 90, 91, 92, 93, 94, 95, 96, 97, 98, 99, 100, 101, 102, 103, 104, 105, 83] = true := by decide
set_option maxHeartbeats 4000000 in
set_option maxRecDepth 100000 in
theorem wl_m1 {cI cZ cL cV : ClassId} {ba : Nat → Nat} {A : Nat → Nat → Nat} {vf : Nat → Option Nat} {ma : Nat → Nat} {ou : Nat} (X : CS) (Y : MS) (f : Nat → Int64) : ([83, 84, 85, 86, 87, 88, 89, 90, 91, 92, 93, 94, 95, 96, 97, 98, 99, 100, 101, 102, 103, 104] : List Nat).map (fun i => (cW cI cV ba A vf X ++ (mW cI cZ ma Y ++ oW cL ou f))[i]?) = (mW cI cZ ma Y).map some := rfl
set_option maxHeartbeats 4000000 in
set_option maxRecDepth 100000 in
theorem wl_m2 {cI cZ cL cV : ClassId} {ba : Nat → Nat} {A : Nat → Nat → Nat} {vf : Nat → Option Nat} {ma : Nat → Nat} {ou : Nat} (X : CS) (Y : MS) (f : Nat → Int64) : ([0, 1, 2, 3, 4, 5, 6, 7, 8, 9, 10, 11, 12, 13, 14, 15, 16, 17, 18, 19, 20, 21, 22, 23, 24, 25, 26, 27, 28, 29, 30, 31, 32, 33, 34, 35, 36, 37, 38, 39, 40, 41, 42, 43, 44, 45, 46, 47, 48, 49, 50, 51, 52, 53, 54, 55, 56, 57, 58, 59, 60, 61, 62, 63, 64, 65, 66, 67, 68, 69, 70, 71, 72, 73, 74, 75, 76, 77, 78, 79, 80, 81, 82, 105] : List Nat).map (fun i => (cW cI cV ba A vf X ++ (mW cI cZ ma Y ++ oW cL ou f))[i]?) = (cW cI cV ba A vf X ++ oW cL ou f).map some := rfl
set_option maxHeartbeats 4000000 in
set_option maxRecDepth 100000 in
theorem wl_m3 {cI cZ cL cV : ClassId} {ba : Nat → Nat} {A : Nat → Nat → Nat} {vf : Nat → Option Nat} {ma : Nat → Nat} {ou : Nat} (X : CS) (Y : MS) (f : Nat → Int64) : ([0, 1, 2, 3, 4, 5, 6, 7, 8, 9, 10, 11, 12, 13, 14, 15, 16, 17, 18, 19, 20, 21, 22, 23, 24, 25, 26, 27, 28, 29, 30, 31, 32, 33, 34, 35, 36, 37, 38, 39, 40, 41, 42, 43, 44, 45, 46, 47, 48, 49, 50, 51, 52, 53, 54, 55, 56, 57, 58, 59, 60, 61, 62, 63, 64, 65, 66, 67, 68, 69, 70, 71, 72, 73, 74, 75, 76, 77, 78, 79, 80, 81, 82, 84, 85, 86, 87, 88, 89, 90, 91, 92, 93, 94, 95, 96, 97, 98, 99, 100, 101, 102, 103, 104, 105, 83] : List Nat).map (fun i => ((cW cI cV ba A vf X ++ oW cL ou f) ++ (mW cI cZ ma Y))[i]?) = (cW cI cV ba A vf X ++ (mW cI cZ ma Y ++ oW cL ou f)).map some := rfl
set_option maxHeartbeats 8000000 in
set_option maxRecDepth 100000 in
theorem lf_fill {p : Program} {l : Launch} {e : Env} {s : State} {m : MethodId} {below : List Frame} {meth : Method} {c : Code} {D : va_G} {cI cZ cL cV : ClassId} {b L : Nat} {xs : Nat → Int32} {H : Heap} {locs : List Loc} {ls : Array Slot} (ba : Nat → Nat) (A : Nat → Nat → Nat) (vf : Nat → Option Nat) (ma : Nat → Nat) (ou : Nat) (X : CS) (Y : MS) (f : Nat → Int64) (i : Nat) (x : Nat) (y : Nat) (w : Nat) (h : Nat) (k : Nat) (hL : L ≤ 3072) (hi : 6 * i + 6 ≤ L) (C0 : lw_At p s m meth c b L xs) (hst : l.stackTraces = false) (hXo : xOk (fun q : Nat => s.heap.size ≤ q) s s.heap) (hG : gk classes NW D (TYS cI cZ cL cV) s) (hvf9 : ∀ k, k < 3 → vf k = some (A k 0)) (hcX : cOk X) (hmY : mOk Y) (hnX : X.1 ≤ i) (hnb : Y.2.2.2 1 = nI X.1) (e1 : xs (6 * i + 1) = nI x) (e2 : xs (6 * i + 2) = nI y) (e3 : xs (6 * i + 3) = nI w) (e4 : xs (6 * i + 4) = nI h) (e5 : xs (6 * i + 5) = nI k) (h1 : 1 ≤ w) (h2 : 1 ≤ h) (h3 : x + w ≤ 64) (h4 : y + h ≤ 48) (hk : k < 65536) (hP : va_P D classes (cW cI cV ba A vf X ++ (mW cI cZ ma Y ++ oW cL ou f)) H) (hD : va_D (fun q : Nat => s.heap.size ≤ q) (cW cI cV ba A vf X ++ (mW cI cZ ma Y ++ oW cL ou f))) (hS : va_S (fun q : Nat => s.heap.size ≤ q) s.heap H locs) (hl : lv_has ls 7 [(0, .ref b), (1, .ref (ba 0)), (2, .ref (ma 0)), (3, .ref ou), (4, .int (nI (6 * i)))]) (hN : LN p l e s m below meth c D cI cZ cL cV b ba A vf ma ou i) : W p l e room_1 s m #[Value.ref b] below meth c H locs (106 + i) (155700 + 6 * i) (lw_Z below #[Value.ref b] s) (F0 m 112 ls []) := by
  obtain ⟨hx, hb, hr, hml, hown, hts, hX, hbl, hlocks, hgv⟩ := id C0
  have hA : ∀ q : Nat, s.heap.size ≤ q → (fun q : Nat => s.heap.size ≤ q) q := fun _ h => h
  have hbA : ¬ (fun q : Nat => s.heap.size ≤ q) b := Nat.not_le.mpr hbl
  have htb : ∀ w ∈ TB, w.before #[Value.ref b] s = true := fun w hw => hts w (List.mem_filter.mp hw).1
  have Bd : bd p c code 7 s #[Value.ref b] TB "TileScreenLaw" m := ⟨hx, hb, hml, hown, htb⟩
  refine lv_aload_n hx hb d_Law_law_112 rfl (lv_at hl 1 rfl) ?_
  refine lv_aload_n hx hb d_Law_law_113 rfl (lv_at hl 0 rfl) ?_
  refine lv_iload hx hb d_Law_law_114 (lv_at hl 4 rfl) ?_
  refine lv_iconst (v := nI 1) hx hb d_Law_law_116 (by decide) ?_
  refine nv_iadd hx hb d_Law_law_117 ?_
  refine va_sld hx hb hX hbl hbA hS (vp_in_nI (show 6 * i + 1 < L by omega) (by omega)) d_Law_law_118 ?_
  refine nv_top (y := (nI x)) ((congrArg xs (nI_clamp (by omega))).trans e1) ?_
  refine lv_aload_n hx hb d_Law_law_119 rfl (lv_at hl 0 rfl) ?_
  refine lv_iload hx hb d_Law_law_120 (lv_at hl 4 rfl) ?_
  refine lv_iconst (v := nI 2) hx hb d_Law_law_122 (by decide) ?_
  refine nv_iadd hx hb d_Law_law_123 ?_
  refine va_sld hx hb hX hbl hbA hS (vp_in_nI (show 6 * i + 2 < L by omega) (by omega)) d_Law_law_124 ?_
  refine nv_top (y := (nI y)) ((congrArg xs (nI_clamp (by omega))).trans e2) ?_
  refine lv_aload_n hx hb d_Law_law_125 rfl (lv_at hl 0 rfl) ?_
  refine lv_iload hx hb d_Law_law_126 (lv_at hl 4 rfl) ?_
  refine lv_iconst (v := nI 3) hx hb d_Law_law_128 (by decide) ?_
  refine nv_iadd hx hb d_Law_law_129 ?_
  refine va_sld hx hb hX hbl hbA hS (vp_in_nI (show 6 * i + 3 < L by omega) (by omega)) d_Law_law_130 ?_
  refine nv_top (y := (nI w)) ((congrArg xs (nI_clamp (by omega))).trans e3) ?_
  refine lv_aload_n hx hb d_Law_law_131 rfl (lv_at hl 0 rfl) ?_
  refine lv_iload hx hb d_Law_law_132 (lv_at hl 4 rfl) ?_
  refine lv_iconst (v := nI 4) hx hb d_Law_law_134 (by decide) ?_
  refine nv_iadd hx hb d_Law_law_135 ?_
  refine va_sld hx hb hX hbl hbA hS (vp_in_nI (show 6 * i + 4 < L by omega) (by omega)) d_Law_law_136 ?_
  refine nv_top (y := (nI h)) ((congrArg xs (nI_clamp (by omega))).trans e4) ?_
  refine lv_aload_n hx hb d_Law_law_137 rfl (lv_at hl 0 rfl) ?_
  refine lv_iload hx hb d_Law_law_138 (lv_at hl 4 rfl) ?_
  refine lv_iconst (v := nI 5) hx hb d_Law_law_140 (by decide) ?_
  refine nv_iadd hx hb d_Law_law_141 ?_
  refine va_sld hx hb hX hbl hbA hS (vp_in_nI (show 6 * i + 5 < L by omega) (by omega)) d_Law_law_142 ?_
  refine nv_top (y := (nI k)) ((congrArg xs (nI_clamp (by omega))).trans e5) ?_
  refine kV_i (wc := cW cI cV ba A vf X) (wr := mW cI cZ ma Y ++ oW cL ou f) (w2 := fun u1 => cW cI cV ba A vf (X.1, (fun j => [(rcF (X.2.1 0) x y w h (fun _ _ => k)), (X.2.1 1), (X.2.1 2)].getD j (fun _ => 0)), X.2.2) ++ (mW cI cZ ma Y ++ oW cL ou f)) [.int (nI x), .int (nI y), .int (nI w), .int (nI h), .int (nI k)] [] Bd ⟨gi_app (gi_c0 k_254 (gi_c0 k_255 (gi_c0 k_256 (gi_c0 k_1 gi_nil)))) (gi_tb0 k_257), rfl, by decide, by decide⟩ (show (parseMethodDescriptor "(IIIII)Z").map (fun d => d.parameters.length) = some 5 by decide +kernel) (s_fill X x y w h k hcX h1 h2 h3 h4 hk) (by decide +kernel) ⟨by show 106 + i + 0 ≤ 601024; omega, by show 155700 + 6 * i + 0 ≤ 7293034; omega⟩ hG hP hD hS hA [0, 1, 2, 3, 4, 5, 6, 7, 8, 9, 10, 11, 12, 13, 14, 15, 16, 17, 18, 19, 20, 21, 22, 23, 24, 25, 26, 27, 28, 29, 30, 31, 32, 33, 34, 35, 36, 37, 38, 39, 40, 41, 42, 43, 44, 45, 46, 47, 48, 49, 50, 51, 52, 53, 54, 55, 56, 57, 58, 59, 60, 61, 62, 63, 64, 65, 66, 67, 68, 69, 70, 71, 72, 73, 74, 75, 76, 77, 78, 79, 80, 81, 82] [83, 84, 85, 86, 87, 88, 89, 90, 91, 92, 93, 94, 95, 96, 97, 98, 99, 100, 101, 102, 103, 104, 105] [23, 24, 25, 26, 27, 28, 29, 30, 31, 32, 33, 34, 35, 36, 37, 38, 39, 40, 41, 42, 43, 44, 45, 46, 47, 48, 49, 50, 51, 52, 53, 54, 55, 56, 57, 58, 59, 60, 61, 62, 63, 64, 65, 66, 67, 68, 69, 70, 71, 72, 73, 74, 75, 76, 77, 78, 79, 80, 81, 82, 83, 84, 85, 86, 87, 88, 89, 90, 91, 92, 93, 94, 95, 96, 97, 98, 99, 100, 101, 102, 103, 104, 105, 0, 1, 2, 3, 4, 5, 6, 7, 8, 9, 10, 11, 12, 13, 14, 15, 16, 17, 18, 19, 20, 21, 22] ok_c (wl_c1 _ _ _) (wl_c2 _ _ _) (fun _ => wl_c3 _ _ _) (q0 := 0) rfl rfl rfl hl.1 rfl (Nat.le_of_ble_eq_true rfl) d_Law_law_143 (fun r1 u1 H locs hp1 hP hD hS => ?_)
  have hP : va_P D classes (cW cI cV ba A vf (X.1, (fun j => [(rcF (X.2.1 0) x y w h (fun _ _ => k)), (X.2.1 1), (X.2.1 2)].getD j (fun _ => 0)), X.2.2) ++ (mW cI cZ ma Y ++ oW cL ou f)) H := hP
  have hD : va_D (fun q : Nat => s.heap.size ≤ q) (cW cI cV ba A vf (X.1, (fun j => [(rcF (X.2.1 0) x y w h (fun _ _ => k)), (X.2.1 1), (X.2.1 2)].getD j (fun _ => 0)), X.2.2) ++ (mW cI cZ ma Y ++ oW cL ou f)) := hD
  refine lv_pop hx hb d_Law_law_146 rfl ?_
  refine lv_aload_n hx hb d_Law_law_147 rfl (lv_at hl 2 rfl) ?_
  refine lv_aload_n hx hb d_Law_law_148 rfl (lv_at hl 0 rfl) ?_
  refine lv_iload hx hb d_Law_law_149 (lv_at hl 4 rfl) ?_
  refine lv_iconst (v := nI 1) hx hb d_Law_law_151 (by decide) ?_
  refine nv_iadd hx hb d_Law_law_152 ?_
  refine va_sld hx hb hX hbl hbA hS (vp_in_nI (show 6 * i + 1 < L by omega) (by omega)) d_Law_law_153 ?_
  refine nv_top (y := (nI x)) ((congrArg xs (nI_clamp (by omega))).trans e1) ?_
  refine lv_aload_n hx hb d_Law_law_154 rfl (lv_at hl 0 rfl) ?_
  refine lv_iload hx hb d_Law_law_155 (lv_at hl 4 rfl) ?_
  refine lv_iconst (v := nI 2) hx hb d_Law_law_157 (by decide) ?_
  refine nv_iadd hx hb d_Law_law_158 ?_
  refine va_sld hx hb hX hbl hbA hS (vp_in_nI (show 6 * i + 2 < L by omega) (by omega)) d_Law_law_159 ?_
  refine nv_top (y := (nI y)) ((congrArg xs (nI_clamp (by omega))).trans e2) ?_
  refine lv_aload_n hx hb d_Law_law_160 rfl (lv_at hl 0 rfl) ?_
  refine lv_iload hx hb d_Law_law_161 (lv_at hl 4 rfl) ?_
  refine lv_iconst (v := nI 3) hx hb d_Law_law_163 (by decide) ?_
  refine nv_iadd hx hb d_Law_law_164 ?_
  refine va_sld hx hb hX hbl hbA hS (vp_in_nI (show 6 * i + 3 < L by omega) (by omega)) d_Law_law_165 ?_
  refine nv_top (y := (nI w)) ((congrArg xs (nI_clamp (by omega))).trans e3) ?_
  refine lv_aload_n hx hb d_Law_law_166 rfl (lv_at hl 0 rfl) ?_
  refine lv_iload hx hb d_Law_law_167 (lv_at hl 4 rfl) ?_
  refine lv_iconst (v := nI 4) hx hb d_Law_law_169 (by decide) ?_
  refine nv_iadd hx hb d_Law_law_170 ?_
  refine va_sld hx hb hX hbl hbA hS (vp_in_nI (show 6 * i + 4 < L by omega) (by omega)) d_Law_law_171 ?_
  refine nv_top (y := (nI h)) ((congrArg xs (nI_clamp (by omega))).trans e4) ?_
  refine lv_aload_n hx hb d_Law_law_172 rfl (lv_at hl 0 rfl) ?_
  refine lv_iload hx hb d_Law_law_173 (lv_at hl 4 rfl) ?_
  refine lv_iconst (v := nI 5) hx hb d_Law_law_175 (by decide) ?_
  refine nv_iadd hx hb d_Law_law_176 ?_
  refine va_sld hx hb hX hbl hbA hS (vp_in_nI (show 6 * i + 5 < L by omega) (by omega)) d_Law_law_177 ?_
  refine nv_top (y := (nI k)) ((congrArg xs (nI_clamp (by omega))).trans e5) ?_
  refine kV_i (wc := mW cI cZ ma Y) (wr := cW cI cV ba A vf (X.1, (fun j => [(rcF (X.2.1 0) x y w h (fun _ _ => k)), (X.2.1 1), (X.2.1 2)].getD j (fun _ => 0)), X.2.2) ++ oW cL ou f) (w2 := fun u2 => cW cI cV ba A vf (X.1, (fun j => [(rcF (X.2.1 0) x y w h (fun _ _ => k)), (X.2.1 1), (X.2.1 2)].getD j (fun _ => 0)), X.2.2) ++ (mW cI cZ ma u2 ++ oW cL ou f)) [.int (nI x), .int (nI y), .int (nI w), .int (nI h), .int (nI k)] [] Bd ⟨gi_app (gi_c0 k_718 (gi_c0 k_719 (gi_c0 k_720 (gi_c0 k_10 gi_nil)))) (gi_tb0 k_721), rfl, by decide, by decide⟩ (show (parseMethodDescriptor "(IIIII)Z").map (fun d => d.parameters.length) = some 5 by decide +kernel) (m_fill Y x y w h k hmY h1 h2 h3 h4 hk) (by decide +kernel) ⟨by show 106 + i + 0 ≤ 601024; omega, by show 155700 + 6 * i + 0 ≤ 7293034; omega⟩ hG hP hD hS hA [83, 84, 85, 86, 87, 88, 89, 90, 91, 92, 93, 94, 95, 96, 97, 98, 99, 100, 101, 102, 103, 104] [0, 1, 2, 3, 4, 5, 6, 7, 8, 9, 10, 11, 12, 13, 14, 15, 16, 17, 18, 19, 20, 21, 22, 23, 24, 25, 26, 27, 28, 29, 30, 31, 32, 33, 34, 35, 36, 37, 38, 39, 40, 41, 42, 43, 44, 45, 46, 47, 48, 49, 50, 51, 52, 53, 54, 55, 56, 57, 58, 59, 60, 61, 62, 63, 64, 65, 66, 67, 68, 69, 70, 71, 72, 73, 74, 75, 76, 77, 78, 79, 80, 81, 82, 105] [0, 1, 2, 3, 4, 5, 6, 7, 8, 9, 10, 11, 12, 13, 14, 15, 16, 17, 18, 19, 20, 21, 22, 23, 24, 25, 26, 27, 28, 29, 30, 31, 32, 33, 34, 35, 36, 37, 38, 39, 40, 41, 42, 43, 44, 45, 46, 47, 48, 49, 50, 51, 52, 53, 54, 55, 56, 57, 58, 59, 60, 61, 62, 63, 64, 65, 66, 67, 68, 69, 70, 71, 72, 73, 74, 75, 76, 77, 78, 79, 80, 81, 82, 84, 85, 86, 87, 88, 89, 90, 91, 92, 93, 94, 95, 96, 97, 98, 99, 100, 101, 102, 103, 104, 105, 83] ok_m (wl_m1 _ _ _) (wl_m2 _ _ _) (fun _ => wl_m3 _ _ _) (q0 := 0) rfl rfl rfl hl.1 rfl (Nat.le_of_ble_eq_true rfl) d_Law_law_178 (fun r2 u2 H locs hp2 hP hD hS => ?_)
  have hP : va_P D classes (cW cI cV ba A vf (X.1, (fun j => [(rcF (X.2.1 0) x y w h (fun _ _ => k)), (X.2.1 1), (X.2.1 2)].getD j (fun _ => 0)), X.2.2) ++ (mW cI cZ ma u2 ++ oW cL ou f)) H := hP
  have hD : va_D (fun q : Nat => s.heap.size ≤ q) (cW cI cV ba A vf (X.1, (fun j => [(rcF (X.2.1 0) x y w h (fun _ _ => k)), (X.2.1 1), (X.2.1 2)].getD j (fun _ => 0)), X.2.2) ++ (mW cI cZ ma u2 ++ oW cL ou f)) := hD
  refine lv_pop hx hb d_Law_law_181 rfl ?_
  refine lv_goto (tgt := 669) hx hb d_Law_law_182 (by decide) ?_
  refine W.widen (k := 106 + (i + 1)) (n := 155700 + 6 * (i + 1)) (by show 106 + i ≤ 106 + (i + 1); omega) (by show 155700 + 6 * i ≤ 155700 + 6 * (i + 1); omega) ?_
  exact hN (X.1, (fun j => [(rcF (X.2.1 0) x y w h (fun _ _ => k)), (X.2.1 1), (X.2.1 2)].getD j (fun _ => 0)), X.2.2) u2 f H locs _ (⟨pic_ok (rcF_lt (hcX.1 0) (fun _ _ => hk)) (hcX.1 1) (hcX.1 2) (by decide), hcX.2⟩) (hp2.1) (by omega) (hp2.2.2.trans hnb) hP hD hS (lv_sub hl [0, 1, 2, 3, 4] rfl)
set_option maxHeartbeats 8000000 in
set_option maxRecDepth 100000 in
theorem lf_fillN {p : Program} {l : Launch} {e : Env} {s : State} {m : MethodId} {below : List Frame} {meth : Method} {c : Code} {D : va_G} {cI cZ cL cV : ClassId} {b L : Nat} {xs : Nat → Int32} {H : Heap} {locs : List Loc} {ls : Array Slot} (ba : Nat → Nat) (A : Nat → Nat → Nat) (vf : Nat → Option Nat) (ma : Nat → Nat) (ou : Nat) (X : CS) (Y : MS) (f : Nat → Int64) (i : Nat)  (hL : L ≤ 3072) (hi : 6 * i + 6 ≤ L) (C0 : lw_At p s m meth c b L xs) (hst : l.stackTraces = false) (hXo : xOk (fun q : Nat => s.heap.size ≤ q) s s.heap) (hG : gk classes NW D (TYS cI cZ cL cV) s) (hvf9 : ∀ k, k < 3 → vf k = some (A k 0)) (hcX : cOk X) (hmY : mOk Y) (hnX : X.1 ≤ i) (hnb : Y.2.2.2 1 = nI X.1) (hno : ¬ (reP (xs (6 * i + 1)) (xs (6 * i + 2)) (xs (6 * i + 3)) (xs (6 * i + 4)) ∧ coP (xs (6 * i + 5)))) (hP : va_P D classes (cW cI cV ba A vf X ++ (mW cI cZ ma Y ++ oW cL ou f)) H) (hD : va_D (fun q : Nat => s.heap.size ≤ q) (cW cI cV ba A vf X ++ (mW cI cZ ma Y ++ oW cL ou f))) (hS : va_S (fun q : Nat => s.heap.size ≤ q) s.heap H locs) (hl : lv_has ls 7 [(0, .ref b), (1, .ref (ba 0)), (2, .ref (ma 0)), (3, .ref ou), (4, .int (nI (6 * i)))]) (hN : LN p l e s m below meth c D cI cZ cL cV b ba A vf ma ou i) : W p l e room_1 s m #[Value.ref b] below meth c H locs (106 + i) (155700 + 6 * i) (lw_Z below #[Value.ref b] s) (F0 m 112 ls []) := by
  obtain ⟨hx, hb, hr, hml, hown, hts, hX, hbl, hlocks, hgv⟩ := id C0
  have hA : ∀ q : Nat, s.heap.size ≤ q → (fun q : Nat => s.heap.size ≤ q) q := fun _ h => h
  have hbA : ¬ (fun q : Nat => s.heap.size ≤ q) b := Nat.not_le.mpr hbl
  have htb : ∀ w ∈ TB, w.before #[Value.ref b] s = true := fun w hw => hts w (List.mem_filter.mp hw).1
  have Bd : bd p c code 7 s #[Value.ref b] TB "TileScreenLaw" m := ⟨hx, hb, hml, hown, htb⟩
  refine lv_aload_n hx hb d_Law_law_112 rfl (lv_at hl 1 rfl) ?_
  refine lv_aload_n hx hb d_Law_law_113 rfl (lv_at hl 0 rfl) ?_
  refine lv_iload hx hb d_Law_law_114 (lv_at hl 4 rfl) ?_
  refine lv_iconst (v := nI 1) hx hb d_Law_law_116 (by decide) ?_
  refine nv_iadd hx hb d_Law_law_117 ?_
  refine va_sld hx hb hX hbl hbA hS (vp_in_nI (show 6 * i + 1 < L by omega) (by omega)) d_Law_law_118 ?_
  refine nv_top (y := (xs (6 * i + 1))) ((congrArg xs (nI_clamp (by omega)))) ?_
  refine lv_aload_n hx hb d_Law_law_119 rfl (lv_at hl 0 rfl) ?_
  refine lv_iload hx hb d_Law_law_120 (lv_at hl 4 rfl) ?_
  refine lv_iconst (v := nI 2) hx hb d_Law_law_122 (by decide) ?_
  refine nv_iadd hx hb d_Law_law_123 ?_
  refine va_sld hx hb hX hbl hbA hS (vp_in_nI (show 6 * i + 2 < L by omega) (by omega)) d_Law_law_124 ?_
  refine nv_top (y := (xs (6 * i + 2))) ((congrArg xs (nI_clamp (by omega)))) ?_
  refine lv_aload_n hx hb d_Law_law_125 rfl (lv_at hl 0 rfl) ?_
  refine lv_iload hx hb d_Law_law_126 (lv_at hl 4 rfl) ?_
  refine lv_iconst (v := nI 3) hx hb d_Law_law_128 (by decide) ?_
  refine nv_iadd hx hb d_Law_law_129 ?_
  refine va_sld hx hb hX hbl hbA hS (vp_in_nI (show 6 * i + 3 < L by omega) (by omega)) d_Law_law_130 ?_
  refine nv_top (y := (xs (6 * i + 3))) ((congrArg xs (nI_clamp (by omega)))) ?_
  refine lv_aload_n hx hb d_Law_law_131 rfl (lv_at hl 0 rfl) ?_
  refine lv_iload hx hb d_Law_law_132 (lv_at hl 4 rfl) ?_
  refine lv_iconst (v := nI 4) hx hb d_Law_law_134 (by decide) ?_
  refine nv_iadd hx hb d_Law_law_135 ?_
  refine va_sld hx hb hX hbl hbA hS (vp_in_nI (show 6 * i + 4 < L by omega) (by omega)) d_Law_law_136 ?_
  refine nv_top (y := (xs (6 * i + 4))) ((congrArg xs (nI_clamp (by omega)))) ?_
  refine lv_aload_n hx hb d_Law_law_137 rfl (lv_at hl 0 rfl) ?_
  refine lv_iload hx hb d_Law_law_138 (lv_at hl 4 rfl) ?_
  refine lv_iconst (v := nI 5) hx hb d_Law_law_140 (by decide) ?_
  refine nv_iadd hx hb d_Law_law_141 ?_
  refine va_sld hx hb hX hbl hbA hS (vp_in_nI (show 6 * i + 5 < L by omega) (by omega)) d_Law_law_142 ?_
  refine nv_top (y := (xs (6 * i + 5))) ((congrArg xs (nI_clamp (by omega)))) ?_
  refine kV_i (wc := cW cI cV ba A vf X) (wr := mW cI cZ ma Y ++ oW cL ou f) (w2 := fun u1 => cW cI cV ba A vf X ++ (mW cI cZ ma Y ++ oW cL ou f)) [.int (xs (6 * i + 1)), .int (xs (6 * i + 2)), .int (xs (6 * i + 3)), .int (xs (6 * i + 4)), .int (xs (6 * i + 5))] [] Bd ⟨gi_app (gi_c0 k_254 (gi_c0 k_255 (gi_c0 k_256 (gi_c0 k_1 gi_nil)))) (gi_tb0 k_257), rfl, by decide, by decide⟩ (show (parseMethodDescriptor "(IIIII)Z").map (fun d => d.parameters.length) = some 5 by decide +kernel) (CI.no (c_Scr_fill_no (ba 0) (ba 1) (ba 3) (ba 5) (ba 7) X.1 (xs (6 * i + 1)) (xs (6 * i + 2)) (xs (6 * i + 3)) (xs (6 * i + 4)) (xs (6 * i + 5)) hno)) (by decide +kernel) ⟨by show 106 + i + 0 ≤ 601024; omega, by show 155700 + 6 * i + 0 ≤ 7293034; omega⟩ hG hP hD hS hA [0, 1, 2, 3, 4, 5, 6, 7, 8, 9, 10, 11, 12, 13, 14, 15, 16, 17, 18, 19, 20, 21, 22, 23, 24, 25, 26, 27, 28, 29, 30, 31, 32, 33, 34, 35, 36, 37, 38, 39, 40, 41, 42, 43, 44, 45, 46, 47, 48, 49, 50, 51, 52, 53, 54, 55, 56, 57, 58, 59, 60, 61, 62, 63, 64, 65, 66, 67, 68, 69, 70, 71, 72, 73, 74, 75, 76, 77, 78, 79, 80, 81, 82] [83, 84, 85, 86, 87, 88, 89, 90, 91, 92, 93, 94, 95, 96, 97, 98, 99, 100, 101, 102, 103, 104, 105] [23, 24, 25, 26, 27, 28, 29, 30, 31, 32, 33, 34, 35, 36, 37, 38, 39, 40, 41, 42, 43, 44, 45, 46, 47, 48, 49, 50, 51, 52, 53, 54, 55, 56, 57, 58, 59, 60, 61, 62, 63, 64, 65, 66, 67, 68, 69, 70, 71, 72, 73, 74, 75, 76, 77, 78, 79, 80, 81, 82, 83, 84, 85, 86, 87, 88, 89, 90, 91, 92, 93, 94, 95, 96, 97, 98, 99, 100, 101, 102, 103, 104, 105, 0, 1, 2, 3, 4, 5, 6, 7, 8, 9, 10, 11, 12, 13, 14, 15, 16, 17, 18, 19, 20, 21, 22] ok_c (wl_c1 _ _ _) (wl_c2 _ _ _) (fun _ => wl_c3 _ _ _) (q0 := 0) rfl rfl rfl hl.1 rfl (Nat.le_of_ble_eq_true rfl) d_Law_law_143 (fun r1 u1 H locs hp1 hP hD hS => ?_)
  have hP : va_P D classes (cW cI cV ba A vf X ++ (mW cI cZ ma Y ++ oW cL ou f)) H := hP
  have hD : va_D (fun q : Nat => s.heap.size ≤ q) (cW cI cV ba A vf X ++ (mW cI cZ ma Y ++ oW cL ou f)) := hD
  refine lv_pop hx hb d_Law_law_146 rfl ?_
  refine lv_aload_n hx hb d_Law_law_147 rfl (lv_at hl 2 rfl) ?_
  refine lv_aload_n hx hb d_Law_law_148 rfl (lv_at hl 0 rfl) ?_
  refine lv_iload hx hb d_Law_law_149 (lv_at hl 4 rfl) ?_
  refine lv_iconst (v := nI 1) hx hb d_Law_law_151 (by decide) ?_
  refine nv_iadd hx hb d_Law_law_152 ?_
  refine va_sld hx hb hX hbl hbA hS (vp_in_nI (show 6 * i + 1 < L by omega) (by omega)) d_Law_law_153 ?_
  refine nv_top (y := (xs (6 * i + 1))) ((congrArg xs (nI_clamp (by omega)))) ?_
  refine lv_aload_n hx hb d_Law_law_154 rfl (lv_at hl 0 rfl) ?_
  refine lv_iload hx hb d_Law_law_155 (lv_at hl 4 rfl) ?_
  refine lv_iconst (v := nI 2) hx hb d_Law_law_157 (by decide) ?_
  refine nv_iadd hx hb d_Law_law_158 ?_
  refine va_sld hx hb hX hbl hbA hS (vp_in_nI (show 6 * i + 2 < L by omega) (by omega)) d_Law_law_159 ?_
  refine nv_top (y := (xs (6 * i + 2))) ((congrArg xs (nI_clamp (by omega)))) ?_
  refine lv_aload_n hx hb d_Law_law_160 rfl (lv_at hl 0 rfl) ?_
  refine lv_iload hx hb d_Law_law_161 (lv_at hl 4 rfl) ?_
  refine lv_iconst (v := nI 3) hx hb d_Law_law_163 (by decide) ?_
  refine nv_iadd hx hb d_Law_law_164 ?_
  refine va_sld hx hb hX hbl hbA hS (vp_in_nI (show 6 * i + 3 < L by omega) (by omega)) d_Law_law_165 ?_
  refine nv_top (y := (xs (6 * i + 3))) ((congrArg xs (nI_clamp (by omega)))) ?_
  refine lv_aload_n hx hb d_Law_law_166 rfl (lv_at hl 0 rfl) ?_
  refine lv_iload hx hb d_Law_law_167 (lv_at hl 4 rfl) ?_
  refine lv_iconst (v := nI 4) hx hb d_Law_law_169 (by decide) ?_
  refine nv_iadd hx hb d_Law_law_170 ?_
  refine va_sld hx hb hX hbl hbA hS (vp_in_nI (show 6 * i + 4 < L by omega) (by omega)) d_Law_law_171 ?_
  refine nv_top (y := (xs (6 * i + 4))) ((congrArg xs (nI_clamp (by omega)))) ?_
  refine lv_aload_n hx hb d_Law_law_172 rfl (lv_at hl 0 rfl) ?_
  refine lv_iload hx hb d_Law_law_173 (lv_at hl 4 rfl) ?_
  refine lv_iconst (v := nI 5) hx hb d_Law_law_175 (by decide) ?_
  refine nv_iadd hx hb d_Law_law_176 ?_
  refine va_sld hx hb hX hbl hbA hS (vp_in_nI (show 6 * i + 5 < L by omega) (by omega)) d_Law_law_177 ?_
  refine nv_top (y := (xs (6 * i + 5))) ((congrArg xs (nI_clamp (by omega)))) ?_
  refine kV_i (wc := mW cI cZ ma Y) (wr := cW cI cV ba A vf X ++ oW cL ou f) (w2 := fun u2 => cW cI cV ba A vf X ++ (mW cI cZ ma u2 ++ oW cL ou f)) [.int (xs (6 * i + 1)), .int (xs (6 * i + 2)), .int (xs (6 * i + 3)), .int (xs (6 * i + 4)), .int (xs (6 * i + 5))] [] Bd ⟨gi_app (gi_c0 k_718 (gi_c0 k_719 (gi_c0 k_720 (gi_c0 k_10 gi_nil)))) (gi_tb0 k_721), rfl, by decide, by decide⟩ (show (parseMethodDescriptor "(IIIII)Z").map (fun d => d.parameters.length) = some 5 by decide +kernel) (m_fillN Y (xs (6 * i + 1)) (xs (6 * i + 2)) (xs (6 * i + 3)) (xs (6 * i + 4)) (xs (6 * i + 5)) hmY hno) (by decide +kernel) ⟨by show 106 + i + 0 ≤ 601024; omega, by show 155700 + 6 * i + 0 ≤ 7293034; omega⟩ hG hP hD hS hA [83, 84, 85, 86, 87, 88, 89, 90, 91, 92, 93, 94, 95, 96, 97, 98, 99, 100, 101, 102, 103, 104] [0, 1, 2, 3, 4, 5, 6, 7, 8, 9, 10, 11, 12, 13, 14, 15, 16, 17, 18, 19, 20, 21, 22, 23, 24, 25, 26, 27, 28, 29, 30, 31, 32, 33, 34, 35, 36, 37, 38, 39, 40, 41, 42, 43, 44, 45, 46, 47, 48, 49, 50, 51, 52, 53, 54, 55, 56, 57, 58, 59, 60, 61, 62, 63, 64, 65, 66, 67, 68, 69, 70, 71, 72, 73, 74, 75, 76, 77, 78, 79, 80, 81, 82, 105] [0, 1, 2, 3, 4, 5, 6, 7, 8, 9, 10, 11, 12, 13, 14, 15, 16, 17, 18, 19, 20, 21, 22, 23, 24, 25, 26, 27, 28, 29, 30, 31, 32, 33, 34, 35, 36, 37, 38, 39, 40, 41, 42, 43, 44, 45, 46, 47, 48, 49, 50, 51, 52, 53, 54, 55, 56, 57, 58, 59, 60, 61, 62, 63, 64, 65, 66, 67, 68, 69, 70, 71, 72, 73, 74, 75, 76, 77, 78, 79, 80, 81, 82, 84, 85, 86, 87, 88, 89, 90, 91, 92, 93, 94, 95, 96, 97, 98, 99, 100, 101, 102, 103, 104, 105, 83] ok_m (wl_m1 _ _ _) (wl_m2 _ _ _) (fun _ => wl_m3 _ _ _) (q0 := 0) rfl rfl rfl hl.1 rfl (Nat.le_of_ble_eq_true rfl) d_Law_law_178 (fun r2 u2 H locs hp2 hP hD hS => ?_)
  have hP : va_P D classes (cW cI cV ba A vf X ++ (mW cI cZ ma u2 ++ oW cL ou f)) H := hP
  have hD : va_D (fun q : Nat => s.heap.size ≤ q) (cW cI cV ba A vf X ++ (mW cI cZ ma u2 ++ oW cL ou f)) := hD
  refine lv_pop hx hb d_Law_law_181 rfl ?_
  refine lv_goto (tgt := 669) hx hb d_Law_law_182 (by decide) ?_
  refine W.widen (k := 106 + (i + 1)) (n := 155700 + 6 * (i + 1)) (by show 106 + i ≤ 106 + (i + 1); omega) (by show 155700 + 6 * i ≤ 155700 + 6 * (i + 1); omega) ?_
  exact hN X u2 f H locs _ (hcX) (hp2.1) (by omega) (hp2.2.2.trans hnb) hP hD hS (lv_sub hl [0, 1, 2, 3, 4] rfl)
set_option maxHeartbeats 8000000 in
set_option maxRecDepth 100000 in
theorem lf_blit {p : Program} {l : Launch} {e : Env} {s : State} {m : MethodId} {below : List Frame} {meth : Method} {c : Code} {D : va_G} {cI cZ cL cV : ClassId} {b L : Nat} {xs : Nat → Int32} {H : Heap} {locs : List Loc} {ls : Array Slot} (ba : Nat → Nat) (A : Nat → Nat → Nat) (vf : Nat → Option Nat) (ma : Nat → Nat) (ou : Nat) (X : CS) (Y : MS) (f : Nat → Int64) (i : Nat) (p9 : Nat) (s9 : Nat) (x : Nat) (y : Nat) (hL : L ≤ 3072) (hi : 6 * i + 6 ≤ L) (C0 : lw_At p s m meth c b L xs) (hst : l.stackTraces = false) (hXo : xOk (fun q : Nat => s.heap.size ≤ q) s s.heap) (hG : gk classes NW D (TYS cI cZ cL cV) s) (hvf9 : ∀ k, k < 3 → vf k = some (A k 0)) (hcX : cOk X) (hmY : mOk Y) (hnX : X.1 ≤ i) (hnb : Y.2.2.2 1 = nI X.1) (e1 : xs (6 * i + 1) = nI p9) (e2 : xs (6 * i + 2) = nI s9) (e3 : xs (6 * i + 3) = nI x) (e4 : xs (6 * i + 4) = nI y) (hp : p9 < 2 ^ 31) (hs1 : 1 ≤ s9) (hs2 : s9 < 2 ^ 31) (h2 : 1 ≤ ((s9 - 1) / 64)) (h3 : p9 % 64 + ((s9 - 1) % 64 + 1) ≤ 64) (h4 : p9 / 64 + ((s9 - 1) / 64) ≤ 48) (h5 : x + ((s9 - 1) % 64 + 1) ≤ 64) (h6 : y + ((s9 - 1) / 64) ≤ 48) (hP : va_P D classes (cW cI cV ba A vf X ++ (mW cI cZ ma Y ++ oW cL ou f)) H) (hD : va_D (fun q : Nat => s.heap.size ≤ q) (cW cI cV ba A vf X ++ (mW cI cZ ma Y ++ oW cL ou f))) (hS : va_S (fun q : Nat => s.heap.size ≤ q) s.heap H locs) (hl : lv_has ls 7 [(0, .ref b), (1, .ref (ba 0)), (2, .ref (ma 0)), (3, .ref ou), (4, .int (nI (6 * i)))]) (hN : LN p l e s m below meth c D cI cZ cL cV b ba A vf ma ou i) : W p l e room_1 s m #[Value.ref b] below meth c H locs (106 + i) (155700 + 6 * i) (lw_Z below #[Value.ref b] s) (F0 m 185 ls []) := by
  obtain ⟨hx, hb, hr, hml, hown, hts, hX, hbl, hlocks, hgv⟩ := id C0
  have hA : ∀ q : Nat, s.heap.size ≤ q → (fun q : Nat => s.heap.size ≤ q) q := fun _ h => h
  have hbA : ¬ (fun q : Nat => s.heap.size ≤ q) b := Nat.not_le.mpr hbl
  have htb : ∀ w ∈ TB, w.before #[Value.ref b] s = true := fun w hw => hts w (List.mem_filter.mp hw).1
  have Bd : bd p c code 7 s #[Value.ref b] TB "TileScreenLaw" m := ⟨hx, hb, hml, hown, htb⟩
  refine lv_aload_n hx hb d_Law_law_185 rfl (lv_at hl 1 rfl) ?_
  refine lv_aload_n hx hb d_Law_law_186 rfl (lv_at hl 0 rfl) ?_
  refine lv_iload hx hb d_Law_law_187 (lv_at hl 4 rfl) ?_
  refine lv_iconst (v := nI 1) hx hb d_Law_law_189 (by decide) ?_
  refine nv_iadd hx hb d_Law_law_190 ?_
  refine va_sld hx hb hX hbl hbA hS (vp_in_nI (show 6 * i + 1 < L by omega) (by omega)) d_Law_law_191 ?_
  refine nv_top (y := (nI p9)) ((congrArg xs (nI_clamp (by omega))).trans e1) ?_
  refine lv_aload_n hx hb d_Law_law_192 rfl (lv_at hl 0 rfl) ?_
  refine lv_iload hx hb d_Law_law_193 (lv_at hl 4 rfl) ?_
  refine lv_iconst (v := nI 2) hx hb d_Law_law_195 (by decide) ?_
  refine nv_iadd hx hb d_Law_law_196 ?_
  refine va_sld hx hb hX hbl hbA hS (vp_in_nI (show 6 * i + 2 < L by omega) (by omega)) d_Law_law_197 ?_
  refine nv_top (y := (nI s9)) ((congrArg xs (nI_clamp (by omega))).trans e2) ?_
  refine lv_aload_n hx hb d_Law_law_198 rfl (lv_at hl 0 rfl) ?_
  refine lv_iload hx hb d_Law_law_199 (lv_at hl 4 rfl) ?_
  refine lv_iconst (v := nI 3) hx hb d_Law_law_201 (by decide) ?_
  refine nv_iadd hx hb d_Law_law_202 ?_
  refine va_sld hx hb hX hbl hbA hS (vp_in_nI (show 6 * i + 3 < L by omega) (by omega)) d_Law_law_203 ?_
  refine nv_top (y := (nI x)) ((congrArg xs (nI_clamp (by omega))).trans e3) ?_
  refine lv_aload_n hx hb d_Law_law_204 rfl (lv_at hl 0 rfl) ?_
  refine lv_iload hx hb d_Law_law_205 (lv_at hl 4 rfl) ?_
  refine lv_iconst (v := nI 4) hx hb d_Law_law_207 (by decide) ?_
  refine nv_iadd hx hb d_Law_law_208 ?_
  refine va_sld hx hb hX hbl hbA hS (vp_in_nI (show 6 * i + 4 < L by omega) (by omega)) d_Law_law_209 ?_
  refine nv_top (y := (nI y)) ((congrArg xs (nI_clamp (by omega))).trans e4) ?_
  refine kV_i (wc := cW cI cV ba A vf X) (wr := mW cI cZ ma Y ++ oW cL ou f) (w2 := fun u1 => cW cI cV ba A vf (X.1, (fun j => [(rcF (X.2.1 0) x y ((s9 - 1) % 64 + 1) ((s9 - 1) / 64) (fun i j => (X.2.1 0) (ti (p9 % 64 + i) (p9 / 64 + j)))), (X.2.1 1), (X.2.1 0)].getD j (fun _ => 0)), X.2.2) ++ (mW cI cZ ma Y ++ oW cL ou f)) [.int (nI p9), .int (nI s9), .int (nI x), .int (nI y)] [] Bd ⟨gi_app (gi_c0 k_275 (gi_c0 k_276 (gi_c0 k_277 (gi_c0 k_1 gi_nil)))) (gi_tb0 k_278), rfl, by decide, by decide⟩ (show (parseMethodDescriptor "(IIII)Z").map (fun d => d.parameters.length) = some 4 by decide +kernel) (s_blit X p9 s9 x y hcX hp hs1 hs2 h2 h3 h4 h5 h6) (by decide +kernel) ⟨by show 106 + i + 0 ≤ 601024; omega, by show 155700 + 6 * i + 0 ≤ 7293034; omega⟩ hG hP hD hS hA [0, 1, 2, 3, 4, 5, 6, 7, 8, 9, 10, 11, 12, 13, 14, 15, 16, 17, 18, 19, 20, 21, 22, 23, 24, 25, 26, 27, 28, 29, 30, 31, 32, 33, 34, 35, 36, 37, 38, 39, 40, 41, 42, 43, 44, 45, 46, 47, 48, 49, 50, 51, 52, 53, 54, 55, 56, 57, 58, 59, 60, 61, 62, 63, 64, 65, 66, 67, 68, 69, 70, 71, 72, 73, 74, 75, 76, 77, 78, 79, 80, 81, 82] [83, 84, 85, 86, 87, 88, 89, 90, 91, 92, 93, 94, 95, 96, 97, 98, 99, 100, 101, 102, 103, 104, 105] [23, 24, 25, 26, 27, 28, 29, 30, 31, 32, 33, 34, 35, 36, 37, 38, 39, 40, 41, 42, 43, 44, 45, 46, 47, 48, 49, 50, 51, 52, 53, 54, 55, 56, 57, 58, 59, 60, 61, 62, 63, 64, 65, 66, 67, 68, 69, 70, 71, 72, 73, 74, 75, 76, 77, 78, 79, 80, 81, 82, 83, 84, 85, 86, 87, 88, 89, 90, 91, 92, 93, 94, 95, 96, 97, 98, 99, 100, 101, 102, 103, 104, 105, 0, 1, 2, 3, 4, 5, 6, 7, 8, 9, 10, 11, 12, 13, 14, 15, 16, 17, 18, 19, 20, 21, 22] ok_c (wl_c1 _ _ _) (wl_c2 _ _ _) (fun _ => wl_c3 _ _ _) (q0 := 0) rfl rfl rfl hl.1 rfl (Nat.le_of_ble_eq_true rfl) d_Law_law_210 (fun r1 u1 H locs hp1 hP hD hS => ?_)
  have hP : va_P D classes (cW cI cV ba A vf (X.1, (fun j => [(rcF (X.2.1 0) x y ((s9 - 1) % 64 + 1) ((s9 - 1) / 64) (fun i j => (X.2.1 0) (ti (p9 % 64 + i) (p9 / 64 + j)))), (X.2.1 1), (X.2.1 0)].getD j (fun _ => 0)), X.2.2) ++ (mW cI cZ ma Y ++ oW cL ou f)) H := hP
  have hD : va_D (fun q : Nat => s.heap.size ≤ q) (cW cI cV ba A vf (X.1, (fun j => [(rcF (X.2.1 0) x y ((s9 - 1) % 64 + 1) ((s9 - 1) / 64) (fun i j => (X.2.1 0) (ti (p9 % 64 + i) (p9 / 64 + j)))), (X.2.1 1), (X.2.1 0)].getD j (fun _ => 0)), X.2.2) ++ (mW cI cZ ma Y ++ oW cL ou f)) := hD
  refine lv_pop hx hb d_Law_law_213 rfl ?_
  refine lv_aload_n hx hb d_Law_law_214 rfl (lv_at hl 2 rfl) ?_
  refine lv_aload_n hx hb d_Law_law_215 rfl (lv_at hl 0 rfl) ?_
  refine lv_iload hx hb d_Law_law_216 (lv_at hl 4 rfl) ?_
  refine lv_iconst (v := nI 1) hx hb d_Law_law_218 (by decide) ?_
  refine nv_iadd hx hb d_Law_law_219 ?_
  refine va_sld hx hb hX hbl hbA hS (vp_in_nI (show 6 * i + 1 < L by omega) (by omega)) d_Law_law_220 ?_
  refine nv_top (y := (nI p9)) ((congrArg xs (nI_clamp (by omega))).trans e1) ?_
  refine lv_aload_n hx hb d_Law_law_221 rfl (lv_at hl 0 rfl) ?_
  refine lv_iload hx hb d_Law_law_222 (lv_at hl 4 rfl) ?_
  refine lv_iconst (v := nI 2) hx hb d_Law_law_224 (by decide) ?_
  refine nv_iadd hx hb d_Law_law_225 ?_
  refine va_sld hx hb hX hbl hbA hS (vp_in_nI (show 6 * i + 2 < L by omega) (by omega)) d_Law_law_226 ?_
  refine nv_top (y := (nI s9)) ((congrArg xs (nI_clamp (by omega))).trans e2) ?_
  refine lv_aload_n hx hb d_Law_law_227 rfl (lv_at hl 0 rfl) ?_
  refine lv_iload hx hb d_Law_law_228 (lv_at hl 4 rfl) ?_
  refine lv_iconst (v := nI 3) hx hb d_Law_law_230 (by decide) ?_
  refine nv_iadd hx hb d_Law_law_231 ?_
  refine va_sld hx hb hX hbl hbA hS (vp_in_nI (show 6 * i + 3 < L by omega) (by omega)) d_Law_law_232 ?_
  refine nv_top (y := (nI x)) ((congrArg xs (nI_clamp (by omega))).trans e3) ?_
  refine lv_aload_n hx hb d_Law_law_233 rfl (lv_at hl 0 rfl) ?_
  refine lv_iload hx hb d_Law_law_234 (lv_at hl 4 rfl) ?_
  refine lv_iconst (v := nI 4) hx hb d_Law_law_236 (by decide) ?_
  refine nv_iadd hx hb d_Law_law_237 ?_
  refine va_sld hx hb hX hbl hbA hS (vp_in_nI (show 6 * i + 4 < L by omega) (by omega)) d_Law_law_238 ?_
  refine nv_top (y := (nI y)) ((congrArg xs (nI_clamp (by omega))).trans e4) ?_
  refine kV_i (wc := mW cI cZ ma Y) (wr := cW cI cV ba A vf (X.1, (fun j => [(rcF (X.2.1 0) x y ((s9 - 1) % 64 + 1) ((s9 - 1) / 64) (fun i j => (X.2.1 0) (ti (p9 % 64 + i) (p9 / 64 + j)))), (X.2.1 1), (X.2.1 0)].getD j (fun _ => 0)), X.2.2) ++ oW cL ou f) (w2 := fun u2 => cW cI cV ba A vf (X.1, (fun j => [(rcF (X.2.1 0) x y ((s9 - 1) % 64 + 1) ((s9 - 1) / 64) (fun i j => (X.2.1 0) (ti (p9 % 64 + i) (p9 / 64 + j)))), (X.2.1 1), (X.2.1 0)].getD j (fun _ => 0)), X.2.2) ++ (mW cI cZ ma u2 ++ oW cL ou f)) [.int (nI p9), .int (nI s9), .int (nI x), .int (nI y)] [] Bd ⟨gi_app (gi_c0 k_729 (gi_c0 k_730 (gi_c0 k_731 (gi_c0 k_10 gi_nil)))) (gi_tb0 k_732), rfl, by decide, by decide⟩ (show (parseMethodDescriptor "(IIII)Z").map (fun d => d.parameters.length) = some 4 by decide +kernel) (m_blit Y p9 s9 x y hmY hp hs1 hs2 h2 h3 h4 h5 h6) (by decide +kernel) ⟨by show 106 + i + 0 ≤ 601024; omega, by show 155700 + 6 * i + 0 ≤ 7293034; omega⟩ hG hP hD hS hA [83, 84, 85, 86, 87, 88, 89, 90, 91, 92, 93, 94, 95, 96, 97, 98, 99, 100, 101, 102, 103, 104] [0, 1, 2, 3, 4, 5, 6, 7, 8, 9, 10, 11, 12, 13, 14, 15, 16, 17, 18, 19, 20, 21, 22, 23, 24, 25, 26, 27, 28, 29, 30, 31, 32, 33, 34, 35, 36, 37, 38, 39, 40, 41, 42, 43, 44, 45, 46, 47, 48, 49, 50, 51, 52, 53, 54, 55, 56, 57, 58, 59, 60, 61, 62, 63, 64, 65, 66, 67, 68, 69, 70, 71, 72, 73, 74, 75, 76, 77, 78, 79, 80, 81, 82, 105] [0, 1, 2, 3, 4, 5, 6, 7, 8, 9, 10, 11, 12, 13, 14, 15, 16, 17, 18, 19, 20, 21, 22, 23, 24, 25, 26, 27, 28, 29, 30, 31, 32, 33, 34, 35, 36, 37, 38, 39, 40, 41, 42, 43, 44, 45, 46, 47, 48, 49, 50, 51, 52, 53, 54, 55, 56, 57, 58, 59, 60, 61, 62, 63, 64, 65, 66, 67, 68, 69, 70, 71, 72, 73, 74, 75, 76, 77, 78, 79, 80, 81, 82, 84, 85, 86, 87, 88, 89, 90, 91, 92, 93, 94, 95, 96, 97, 98, 99, 100, 101, 102, 103, 104, 105, 83] ok_m (wl_m1 _ _ _) (wl_m2 _ _ _) (fun _ => wl_m3 _ _ _) (q0 := 0) rfl rfl rfl hl.1 rfl (Nat.le_of_ble_eq_true rfl) d_Law_law_239 (fun r2 u2 H locs hp2 hP hD hS => ?_)
  have hP : va_P D classes (cW cI cV ba A vf (X.1, (fun j => [(rcF (X.2.1 0) x y ((s9 - 1) % 64 + 1) ((s9 - 1) / 64) (fun i j => (X.2.1 0) (ti (p9 % 64 + i) (p9 / 64 + j)))), (X.2.1 1), (X.2.1 0)].getD j (fun _ => 0)), X.2.2) ++ (mW cI cZ ma u2 ++ oW cL ou f)) H := hP
  have hD : va_D (fun q : Nat => s.heap.size ≤ q) (cW cI cV ba A vf (X.1, (fun j => [(rcF (X.2.1 0) x y ((s9 - 1) % 64 + 1) ((s9 - 1) / 64) (fun i j => (X.2.1 0) (ti (p9 % 64 + i) (p9 / 64 + j)))), (X.2.1 1), (X.2.1 0)].getD j (fun _ => 0)), X.2.2) ++ (mW cI cZ ma u2 ++ oW cL ou f)) := hD
  refine lv_pop hx hb d_Law_law_242 rfl ?_
  refine lv_goto (tgt := 669) hx hb d_Law_law_243 (by decide) ?_
  refine W.widen (k := 106 + (i + 1)) (n := 155700 + 6 * (i + 1)) (by show 106 + i ≤ 106 + (i + 1); omega) (by show 155700 + 6 * i ≤ 155700 + 6 * (i + 1); omega) ?_
  exact hN (X.1, (fun j => [(rcF (X.2.1 0) x y ((s9 - 1) % 64 + 1) ((s9 - 1) / 64) (fun i j => (X.2.1 0) (ti (p9 % 64 + i) (p9 / 64 + j)))), (X.2.1 1), (X.2.1 0)].getD j (fun _ => 0)), X.2.2) u2 f H locs _ (⟨pic_ok (rcF_lt (hcX.1 0) (fun _ _ => hcX.1 0 _)) (hcX.1 1) (hcX.1 0) (by decide), hcX.2⟩) (hp2.1) (by omega) (hp2.2.2.trans hnb) hP hD hS (lv_sub hl [0, 1, 2, 3, 4] rfl)
set_option maxHeartbeats 8000000 in
set_option maxRecDepth 100000 in
theorem lf_blitN {p : Program} {l : Launch} {e : Env} {s : State} {m : MethodId} {below : List Frame} {meth : Method} {c : Code} {D : va_G} {cI cZ cL cV : ClassId} {b L : Nat} {xs : Nat → Int32} {H : Heap} {locs : List Loc} {ls : Array Slot} (ba : Nat → Nat) (A : Nat → Nat → Nat) (vf : Nat → Option Nat) (ma : Nat → Nat) (ou : Nat) (X : CS) (Y : MS) (f : Nat → Int64) (i : Nat)  (hL : L ≤ 3072) (hi : 6 * i + 6 ≤ L) (C0 : lw_At p s m meth c b L xs) (hst : l.stackTraces = false) (hXo : xOk (fun q : Nat => s.heap.size ≤ q) s s.heap) (hG : gk classes NW D (TYS cI cZ cL cV) s) (hvf9 : ∀ k, k < 3 → vf k = some (A k 0)) (hcX : cOk X) (hmY : mOk Y) (hnX : X.1 ≤ i) (hnb : Y.2.2.2 1 = nI X.1) (hno : ¬ blP (xs (6 * i + 1)) (xs (6 * i + 2)) (xs (6 * i + 3)) (xs (6 * i + 4))) (hP : va_P D classes (cW cI cV ba A vf X ++ (mW cI cZ ma Y ++ oW cL ou f)) H) (hD : va_D (fun q : Nat => s.heap.size ≤ q) (cW cI cV ba A vf X ++ (mW cI cZ ma Y ++ oW cL ou f))) (hS : va_S (fun q : Nat => s.heap.size ≤ q) s.heap H locs) (hl : lv_has ls 7 [(0, .ref b), (1, .ref (ba 0)), (2, .ref (ma 0)), (3, .ref ou), (4, .int (nI (6 * i)))]) (hN : LN p l e s m below meth c D cI cZ cL cV b ba A vf ma ou i) : W p l e room_1 s m #[Value.ref b] below meth c H locs (106 + i) (155700 + 6 * i) (lw_Z below #[Value.ref b] s) (F0 m 185 ls []) := by
  obtain ⟨hx, hb, hr, hml, hown, hts, hX, hbl, hlocks, hgv⟩ := id C0
  have hA : ∀ q : Nat, s.heap.size ≤ q → (fun q : Nat => s.heap.size ≤ q) q := fun _ h => h
  have hbA : ¬ (fun q : Nat => s.heap.size ≤ q) b := Nat.not_le.mpr hbl
  have htb : ∀ w ∈ TB, w.before #[Value.ref b] s = true := fun w hw => hts w (List.mem_filter.mp hw).1
  have Bd : bd p c code 7 s #[Value.ref b] TB "TileScreenLaw" m := ⟨hx, hb, hml, hown, htb⟩
  refine lv_aload_n hx hb d_Law_law_185 rfl (lv_at hl 1 rfl) ?_
  refine lv_aload_n hx hb d_Law_law_186 rfl (lv_at hl 0 rfl) ?_
  refine lv_iload hx hb d_Law_law_187 (lv_at hl 4 rfl) ?_
  refine lv_iconst (v := nI 1) hx hb d_Law_law_189 (by decide) ?_
  refine nv_iadd hx hb d_Law_law_190 ?_
  refine va_sld hx hb hX hbl hbA hS (vp_in_nI (show 6 * i + 1 < L by omega) (by omega)) d_Law_law_191 ?_
  refine nv_top (y := (xs (6 * i + 1))) ((congrArg xs (nI_clamp (by omega)))) ?_
  refine lv_aload_n hx hb d_Law_law_192 rfl (lv_at hl 0 rfl) ?_
  refine lv_iload hx hb d_Law_law_193 (lv_at hl 4 rfl) ?_
  refine lv_iconst (v := nI 2) hx hb d_Law_law_195 (by decide) ?_
  refine nv_iadd hx hb d_Law_law_196 ?_
  refine va_sld hx hb hX hbl hbA hS (vp_in_nI (show 6 * i + 2 < L by omega) (by omega)) d_Law_law_197 ?_
  refine nv_top (y := (xs (6 * i + 2))) ((congrArg xs (nI_clamp (by omega)))) ?_
  refine lv_aload_n hx hb d_Law_law_198 rfl (lv_at hl 0 rfl) ?_
  refine lv_iload hx hb d_Law_law_199 (lv_at hl 4 rfl) ?_
  refine lv_iconst (v := nI 3) hx hb d_Law_law_201 (by decide) ?_
  refine nv_iadd hx hb d_Law_law_202 ?_
  refine va_sld hx hb hX hbl hbA hS (vp_in_nI (show 6 * i + 3 < L by omega) (by omega)) d_Law_law_203 ?_
  refine nv_top (y := (xs (6 * i + 3))) ((congrArg xs (nI_clamp (by omega)))) ?_
  refine lv_aload_n hx hb d_Law_law_204 rfl (lv_at hl 0 rfl) ?_
  refine lv_iload hx hb d_Law_law_205 (lv_at hl 4 rfl) ?_
  refine lv_iconst (v := nI 4) hx hb d_Law_law_207 (by decide) ?_
  refine nv_iadd hx hb d_Law_law_208 ?_
  refine va_sld hx hb hX hbl hbA hS (vp_in_nI (show 6 * i + 4 < L by omega) (by omega)) d_Law_law_209 ?_
  refine nv_top (y := (xs (6 * i + 4))) ((congrArg xs (nI_clamp (by omega)))) ?_
  refine kV_i (wc := cW cI cV ba A vf X) (wr := mW cI cZ ma Y ++ oW cL ou f) (w2 := fun u1 => cW cI cV ba A vf X ++ (mW cI cZ ma Y ++ oW cL ou f)) [.int (xs (6 * i + 1)), .int (xs (6 * i + 2)), .int (xs (6 * i + 3)), .int (xs (6 * i + 4))] [] Bd ⟨gi_app (gi_c0 k_275 (gi_c0 k_276 (gi_c0 k_277 (gi_c0 k_1 gi_nil)))) (gi_tb0 k_278), rfl, by decide, by decide⟩ (show (parseMethodDescriptor "(IIII)Z").map (fun d => d.parameters.length) = some 4 by decide +kernel) (CI.no (c_Scr_blit_no (ba 0) (ba 1) (ba 3) (ba 5) (ba 7) X.1 (xs (6 * i + 1)) (xs (6 * i + 2)) (xs (6 * i + 3)) (xs (6 * i + 4)) hno)) (by decide +kernel) ⟨by show 106 + i + 0 ≤ 601024; omega, by show 155700 + 6 * i + 0 ≤ 7293034; omega⟩ hG hP hD hS hA [0, 1, 2, 3, 4, 5, 6, 7, 8, 9, 10, 11, 12, 13, 14, 15, 16, 17, 18, 19, 20, 21, 22, 23, 24, 25, 26, 27, 28, 29, 30, 31, 32, 33, 34, 35, 36, 37, 38, 39, 40, 41, 42, 43, 44, 45, 46, 47, 48, 49, 50, 51, 52, 53, 54, 55, 56, 57, 58, 59, 60, 61, 62, 63, 64, 65, 66, 67, 68, 69, 70, 71, 72, 73, 74, 75, 76, 77, 78, 79, 80, 81, 82] [83, 84, 85, 86, 87, 88, 89, 90, 91, 92, 93, 94, 95, 96, 97, 98, 99, 100, 101, 102, 103, 104, 105] [23, 24, 25, 26, 27, 28, 29, 30, 31, 32, 33, 34, 35, 36, 37, 38, 39, 40, 41, 42, 43, 44, 45, 46, 47, 48, 49, 50, 51, 52, 53, 54, 55, 56, 57, 58, 59, 60, 61, 62, 63, 64, 65, 66, 67, 68, 69, 70, 71, 72, 73, 74, 75, 76, 77, 78, 79, 80, 81, 82, 83, 84, 85, 86, 87, 88, 89, 90, 91, 92, 93, 94, 95, 96, 97, 98, 99, 100, 101, 102, 103, 104, 105, 0, 1, 2, 3, 4, 5, 6, 7, 8, 9, 10, 11, 12, 13, 14, 15, 16, 17, 18, 19, 20, 21, 22] ok_c (wl_c1 _ _ _) (wl_c2 _ _ _) (fun _ => wl_c3 _ _ _) (q0 := 0) rfl rfl rfl hl.1 rfl (Nat.le_of_ble_eq_true rfl) d_Law_law_210 (fun r1 u1 H locs hp1 hP hD hS => ?_)
  have hP : va_P D classes (cW cI cV ba A vf X ++ (mW cI cZ ma Y ++ oW cL ou f)) H := hP
  have hD : va_D (fun q : Nat => s.heap.size ≤ q) (cW cI cV ba A vf X ++ (mW cI cZ ma Y ++ oW cL ou f)) := hD
  refine lv_pop hx hb d_Law_law_213 rfl ?_
  refine lv_aload_n hx hb d_Law_law_214 rfl (lv_at hl 2 rfl) ?_
  refine lv_aload_n hx hb d_Law_law_215 rfl (lv_at hl 0 rfl) ?_
  refine lv_iload hx hb d_Law_law_216 (lv_at hl 4 rfl) ?_
  refine lv_iconst (v := nI 1) hx hb d_Law_law_218 (by decide) ?_
  refine nv_iadd hx hb d_Law_law_219 ?_
  refine va_sld hx hb hX hbl hbA hS (vp_in_nI (show 6 * i + 1 < L by omega) (by omega)) d_Law_law_220 ?_
  refine nv_top (y := (xs (6 * i + 1))) ((congrArg xs (nI_clamp (by omega)))) ?_
  refine lv_aload_n hx hb d_Law_law_221 rfl (lv_at hl 0 rfl) ?_
  refine lv_iload hx hb d_Law_law_222 (lv_at hl 4 rfl) ?_
  refine lv_iconst (v := nI 2) hx hb d_Law_law_224 (by decide) ?_
  refine nv_iadd hx hb d_Law_law_225 ?_
  refine va_sld hx hb hX hbl hbA hS (vp_in_nI (show 6 * i + 2 < L by omega) (by omega)) d_Law_law_226 ?_
  refine nv_top (y := (xs (6 * i + 2))) ((congrArg xs (nI_clamp (by omega)))) ?_
  refine lv_aload_n hx hb d_Law_law_227 rfl (lv_at hl 0 rfl) ?_
  refine lv_iload hx hb d_Law_law_228 (lv_at hl 4 rfl) ?_
  refine lv_iconst (v := nI 3) hx hb d_Law_law_230 (by decide) ?_
  refine nv_iadd hx hb d_Law_law_231 ?_
  refine va_sld hx hb hX hbl hbA hS (vp_in_nI (show 6 * i + 3 < L by omega) (by omega)) d_Law_law_232 ?_
  refine nv_top (y := (xs (6 * i + 3))) ((congrArg xs (nI_clamp (by omega)))) ?_
  refine lv_aload_n hx hb d_Law_law_233 rfl (lv_at hl 0 rfl) ?_
  refine lv_iload hx hb d_Law_law_234 (lv_at hl 4 rfl) ?_
  refine lv_iconst (v := nI 4) hx hb d_Law_law_236 (by decide) ?_
  refine nv_iadd hx hb d_Law_law_237 ?_
  refine va_sld hx hb hX hbl hbA hS (vp_in_nI (show 6 * i + 4 < L by omega) (by omega)) d_Law_law_238 ?_
  refine nv_top (y := (xs (6 * i + 4))) ((congrArg xs (nI_clamp (by omega)))) ?_
  refine kV_i (wc := mW cI cZ ma Y) (wr := cW cI cV ba A vf X ++ oW cL ou f) (w2 := fun u2 => cW cI cV ba A vf X ++ (mW cI cZ ma u2 ++ oW cL ou f)) [.int (xs (6 * i + 1)), .int (xs (6 * i + 2)), .int (xs (6 * i + 3)), .int (xs (6 * i + 4))] [] Bd ⟨gi_app (gi_c0 k_729 (gi_c0 k_730 (gi_c0 k_731 (gi_c0 k_10 gi_nil)))) (gi_tb0 k_732), rfl, by decide, by decide⟩ (show (parseMethodDescriptor "(IIII)Z").map (fun d => d.parameters.length) = some 4 by decide +kernel) (m_blitN Y (xs (6 * i + 1)) (xs (6 * i + 2)) (xs (6 * i + 3)) (xs (6 * i + 4)) hmY hno) (by decide +kernel) ⟨by show 106 + i + 0 ≤ 601024; omega, by show 155700 + 6 * i + 0 ≤ 7293034; omega⟩ hG hP hD hS hA [83, 84, 85, 86, 87, 88, 89, 90, 91, 92, 93, 94, 95, 96, 97, 98, 99, 100, 101, 102, 103, 104] [0, 1, 2, 3, 4, 5, 6, 7, 8, 9, 10, 11, 12, 13, 14, 15, 16, 17, 18, 19, 20, 21, 22, 23, 24, 25, 26, 27, 28, 29, 30, 31, 32, 33, 34, 35, 36, 37, 38, 39, 40, 41, 42, 43, 44, 45, 46, 47, 48, 49, 50, 51, 52, 53, 54, 55, 56, 57, 58, 59, 60, 61, 62, 63, 64, 65, 66, 67, 68, 69, 70, 71, 72, 73, 74, 75, 76, 77, 78, 79, 80, 81, 82, 105] [0, 1, 2, 3, 4, 5, 6, 7, 8, 9, 10, 11, 12, 13, 14, 15, 16, 17, 18, 19, 20, 21, 22, 23, 24, 25, 26, 27, 28, 29, 30, 31, 32, 33, 34, 35, 36, 37, 38, 39, 40, 41, 42, 43, 44, 45, 46, 47, 48, 49, 50, 51, 52, 53, 54, 55, 56, 57, 58, 59, 60, 61, 62, 63, 64, 65, 66, 67, 68, 69, 70, 71, 72, 73, 74, 75, 76, 77, 78, 79, 80, 81, 82, 84, 85, 86, 87, 88, 89, 90, 91, 92, 93, 94, 95, 96, 97, 98, 99, 100, 101, 102, 103, 104, 105, 83] ok_m (wl_m1 _ _ _) (wl_m2 _ _ _) (fun _ => wl_m3 _ _ _) (q0 := 0) rfl rfl rfl hl.1 rfl (Nat.le_of_ble_eq_true rfl) d_Law_law_239 (fun r2 u2 H locs hp2 hP hD hS => ?_)
  have hP : va_P D classes (cW cI cV ba A vf X ++ (mW cI cZ ma u2 ++ oW cL ou f)) H := hP
  have hD : va_D (fun q : Nat => s.heap.size ≤ q) (cW cI cV ba A vf X ++ (mW cI cZ ma u2 ++ oW cL ou f)) := hD
  refine lv_pop hx hb d_Law_law_242 rfl ?_
  refine lv_goto (tgt := 669) hx hb d_Law_law_243 (by decide) ?_
  refine W.widen (k := 106 + (i + 1)) (n := 155700 + 6 * (i + 1)) (by show 106 + i ≤ 106 + (i + 1); omega) (by show 155700 + 6 * i ≤ 155700 + 6 * (i + 1); omega) ?_
  exact hN X u2 f H locs _ (hcX) (hp2.1) (by omega) (hp2.2.2.trans hnb) hP hD hS (lv_sub hl [0, 1, 2, 3, 4] rfl)
set_option maxHeartbeats 8000000 in
set_option maxRecDepth 100000 in
theorem lf_shade {p : Program} {l : Launch} {e : Env} {s : State} {m : MethodId} {below : List Frame} {meth : Method} {c : Code} {D : va_G} {cI cZ cL cV : ClassId} {b L : Nat} {xs : Nat → Int32} {H : Heap} {locs : List Loc} {ls : Array Slot} (ba : Nat → Nat) (A : Nat → Nat → Nat) (vf : Nat → Option Nat) (ma : Nat → Nat) (ou : Nat) (X : CS) (Y : MS) (f : Nat → Int64) (i : Nat) (t : Nat) (r9 : Nat) (k : Nat) (hL : L ≤ 3072) (hi : 6 * i + 6 ≤ L) (C0 : lw_At p s m meth c b L xs) (hst : l.stackTraces = false) (hXo : xOk (fun q : Nat => s.heap.size ≤ q) s s.heap) (hG : gk classes NW D (TYS cI cZ cL cV) s) (hvf9 : ∀ k, k < 3 → vf k = some (A k 0)) (hcX : cOk X) (hmY : mOk Y) (hnX : X.1 ≤ i) (hnb : Y.2.2.2 1 = nI X.1) (e1 : xs (6 * i + 1) = nI t) (e2 : xs (6 * i + 2) = nI r9) (e3 : xs (6 * i + 3) = nI k) (ht : t < 48) (hr9 : r9 < 8) (hk : k < 65536) (hP : va_P D classes (cW cI cV ba A vf X ++ (mW cI cZ ma Y ++ oW cL ou f)) H) (hD : va_D (fun q : Nat => s.heap.size ≤ q) (cW cI cV ba A vf X ++ (mW cI cZ ma Y ++ oW cL ou f))) (hS : va_S (fun q : Nat => s.heap.size ≤ q) s.heap H locs) (hl : lv_has ls 7 [(0, .ref b), (1, .ref (ba 0)), (2, .ref (ma 0)), (3, .ref ou), (4, .int (nI (6 * i)))]) (hN : LN p l e s m below meth c D cI cZ cL cV b ba A vf ma ou i) : W p l e room_1 s m #[Value.ref b] below meth c H locs (106 + i) (155700 + 6 * i) (lw_Z below #[Value.ref b] s) (F0 m 246 ls []) := by
  obtain ⟨hx, hb, hr, hml, hown, hts, hX, hbl, hlocks, hgv⟩ := id C0
  have hA : ∀ q : Nat, s.heap.size ≤ q → (fun q : Nat => s.heap.size ≤ q) q := fun _ h => h
  have hbA : ¬ (fun q : Nat => s.heap.size ≤ q) b := Nat.not_le.mpr hbl
  have htb : ∀ w ∈ TB, w.before #[Value.ref b] s = true := fun w hw => hts w (List.mem_filter.mp hw).1
  have Bd : bd p c code 7 s #[Value.ref b] TB "TileScreenLaw" m := ⟨hx, hb, hml, hown, htb⟩
  refine lv_aload_n hx hb d_Law_law_246 rfl (lv_at hl 1 rfl) ?_
  refine lv_aload_n hx hb d_Law_law_247 rfl (lv_at hl 0 rfl) ?_
  refine lv_iload hx hb d_Law_law_248 (lv_at hl 4 rfl) ?_
  refine lv_iconst (v := nI 1) hx hb d_Law_law_250 (by decide) ?_
  refine nv_iadd hx hb d_Law_law_251 ?_
  refine va_sld hx hb hX hbl hbA hS (vp_in_nI (show 6 * i + 1 < L by omega) (by omega)) d_Law_law_252 ?_
  refine nv_top (y := (nI t)) ((congrArg xs (nI_clamp (by omega))).trans e1) ?_
  refine lv_aload_n hx hb d_Law_law_253 rfl (lv_at hl 0 rfl) ?_
  refine lv_iload hx hb d_Law_law_254 (lv_at hl 4 rfl) ?_
  refine lv_iconst (v := nI 2) hx hb d_Law_law_256 (by decide) ?_
  refine nv_iadd hx hb d_Law_law_257 ?_
  refine va_sld hx hb hX hbl hbA hS (vp_in_nI (show 6 * i + 2 < L by omega) (by omega)) d_Law_law_258 ?_
  refine nv_top (y := (nI r9)) ((congrArg xs (nI_clamp (by omega))).trans e2) ?_
  refine lv_aload_n hx hb d_Law_law_259 rfl (lv_at hl 0 rfl) ?_
  refine lv_iload hx hb d_Law_law_260 (lv_at hl 4 rfl) ?_
  refine lv_iconst (v := nI 3) hx hb d_Law_law_262 (by decide) ?_
  refine nv_iadd hx hb d_Law_law_263 ?_
  refine va_sld hx hb hX hbl hbA hS (vp_in_nI (show 6 * i + 3 < L by omega) (by omega)) d_Law_law_264 ?_
  refine nv_top (y := (nI k)) ((congrArg xs (nI_clamp (by omega))).trans e3) ?_
  refine lv_aload_n hx hb d_Law_law_265 rfl (lv_at hl 0 rfl) ?_
  refine lv_iload hx hb d_Law_law_266 (lv_at hl 4 rfl) ?_
  refine lv_iconst (v := nI 4) hx hb d_Law_law_268 (by decide) ?_
  refine nv_iadd hx hb d_Law_law_269 ?_
  refine va_sld hx hb hX hbl hbA hS (vp_in_nI (show 6 * i + 4 < L by omega) (by omega)) d_Law_law_270 ?_
  refine nv_top (y := (xs (6 * i + 4))) ((congrArg xs (nI_clamp (by omega)))) ?_
  refine kV_i (wc := cW cI cV ba A vf X) (wr := mW cI cZ ma Y ++ oW cL ou f) (w2 := fun u1 => cW cI cV ba A vf (X.1, (fun j => [(pset (X.2.1 0) (t * 64 + r9 * 8) 8 (shv k (xs (6 * i + 4)))), (X.2.1 1), (X.2.1 2)].getD j (fun _ => 0)), X.2.2) ++ (mW cI cZ ma Y ++ oW cL ou f)) [.int (nI t), .int (nI r9), .int (nI k), .int (xs (6 * i + 4))] [] Bd ⟨gi_app (gi_c0 k_293 (gi_c0 k_294 (gi_c0 k_295 (gi_c0 k_1 gi_nil)))) (gi_tb0 k_296), rfl, by decide, by decide⟩ (show (parseMethodDescriptor "(IIII)Z").map (fun d => d.parameters.length) = some 4 by decide +kernel) (s_shade X t r9 k (xs (6 * i + 4)) hcX ht hr9 hk) (by decide +kernel) ⟨by show 106 + i + 0 ≤ 601024; omega, by show 155700 + 6 * i + 0 ≤ 7293034; omega⟩ hG hP hD hS hA [0, 1, 2, 3, 4, 5, 6, 7, 8, 9, 10, 11, 12, 13, 14, 15, 16, 17, 18, 19, 20, 21, 22, 23, 24, 25, 26, 27, 28, 29, 30, 31, 32, 33, 34, 35, 36, 37, 38, 39, 40, 41, 42, 43, 44, 45, 46, 47, 48, 49, 50, 51, 52, 53, 54, 55, 56, 57, 58, 59, 60, 61, 62, 63, 64, 65, 66, 67, 68, 69, 70, 71, 72, 73, 74, 75, 76, 77, 78, 79, 80, 81, 82] [83, 84, 85, 86, 87, 88, 89, 90, 91, 92, 93, 94, 95, 96, 97, 98, 99, 100, 101, 102, 103, 104, 105] [23, 24, 25, 26, 27, 28, 29, 30, 31, 32, 33, 34, 35, 36, 37, 38, 39, 40, 41, 42, 43, 44, 45, 46, 47, 48, 49, 50, 51, 52, 53, 54, 55, 56, 57, 58, 59, 60, 61, 62, 63, 64, 65, 66, 67, 68, 69, 70, 71, 72, 73, 74, 75, 76, 77, 78, 79, 80, 81, 82, 83, 84, 85, 86, 87, 88, 89, 90, 91, 92, 93, 94, 95, 96, 97, 98, 99, 100, 101, 102, 103, 104, 105, 0, 1, 2, 3, 4, 5, 6, 7, 8, 9, 10, 11, 12, 13, 14, 15, 16, 17, 18, 19, 20, 21, 22] ok_c (wl_c1 _ _ _) (wl_c2 _ _ _) (fun _ => wl_c3 _ _ _) (q0 := 0) rfl rfl rfl hl.1 rfl (Nat.le_of_ble_eq_true rfl) d_Law_law_271 (fun r1 u1 H locs hp1 hP hD hS => ?_)
  have hP : va_P D classes (cW cI cV ba A vf (X.1, (fun j => [(pset (X.2.1 0) (t * 64 + r9 * 8) 8 (shv k (xs (6 * i + 4)))), (X.2.1 1), (X.2.1 2)].getD j (fun _ => 0)), X.2.2) ++ (mW cI cZ ma Y ++ oW cL ou f)) H := hP
  have hD : va_D (fun q : Nat => s.heap.size ≤ q) (cW cI cV ba A vf (X.1, (fun j => [(pset (X.2.1 0) (t * 64 + r9 * 8) 8 (shv k (xs (6 * i + 4)))), (X.2.1 1), (X.2.1 2)].getD j (fun _ => 0)), X.2.2) ++ (mW cI cZ ma Y ++ oW cL ou f)) := hD
  refine lv_aload_n hx hb d_Law_law_274 rfl (lv_at hl 2 rfl) ?_
  refine lv_aload_n hx hb d_Law_law_275 rfl (lv_at hl 0 rfl) ?_
  refine lv_iload hx hb d_Law_law_276 (lv_at hl 4 rfl) ?_
  refine lv_iconst (v := nI 1) hx hb d_Law_law_278 (by decide) ?_
  refine nv_iadd hx hb d_Law_law_279 ?_
  refine va_sld hx hb hX hbl hbA hS (vp_in_nI (show 6 * i + 1 < L by omega) (by omega)) d_Law_law_280 ?_
  refine nv_top (y := (nI t)) ((congrArg xs (nI_clamp (by omega))).trans e1) ?_
  refine lv_aload_n hx hb d_Law_law_281 rfl (lv_at hl 0 rfl) ?_
  refine lv_iload hx hb d_Law_law_282 (lv_at hl 4 rfl) ?_
  refine lv_iconst (v := nI 2) hx hb d_Law_law_284 (by decide) ?_
  refine nv_iadd hx hb d_Law_law_285 ?_
  refine va_sld hx hb hX hbl hbA hS (vp_in_nI (show 6 * i + 2 < L by omega) (by omega)) d_Law_law_286 ?_
  refine nv_top (y := (nI r9)) ((congrArg xs (nI_clamp (by omega))).trans e2) ?_
  refine lv_aload_n hx hb d_Law_law_287 rfl (lv_at hl 0 rfl) ?_
  refine lv_iload hx hb d_Law_law_288 (lv_at hl 4 rfl) ?_
  refine lv_iconst (v := nI 3) hx hb d_Law_law_290 (by decide) ?_
  refine nv_iadd hx hb d_Law_law_291 ?_
  refine va_sld hx hb hX hbl hbA hS (vp_in_nI (show 6 * i + 3 < L by omega) (by omega)) d_Law_law_292 ?_
  refine nv_top (y := (nI k)) ((congrArg xs (nI_clamp (by omega))).trans e3) ?_
  refine lv_aload_n hx hb d_Law_law_293 rfl (lv_at hl 0 rfl) ?_
  refine lv_iload hx hb d_Law_law_294 (lv_at hl 4 rfl) ?_
  refine lv_iconst (v := nI 4) hx hb d_Law_law_296 (by decide) ?_
  refine nv_iadd hx hb d_Law_law_297 ?_
  refine va_sld hx hb hX hbl hbA hS (vp_in_nI (show 6 * i + 4 < L by omega) (by omega)) d_Law_law_298 ?_
  refine nv_top (y := (xs (6 * i + 4))) ((congrArg xs (nI_clamp (by omega)))) ?_
  refine kV_i (wc := mW cI cZ ma Y) (wr := cW cI cV ba A vf (X.1, (fun j => [(pset (X.2.1 0) (t * 64 + r9 * 8) 8 (shv k (xs (6 * i + 4)))), (X.2.1 1), (X.2.1 2)].getD j (fun _ => 0)), X.2.2) ++ oW cL ou f) (w2 := fun u2 => cW cI cV ba A vf (X.1, (fun j => [(pset (X.2.1 0) (t * 64 + r9 * 8) 8 (shv k (xs (6 * i + 4)))), (X.2.1 1), (X.2.1 2)].getD j (fun _ => 0)), X.2.2) ++ (mW cI cZ ma u2 ++ oW cL ou f)) [.int (nI t), .int (nI r9), .int (nI k), .int (xs (6 * i + 4))] [.int r1] Bd ⟨gi_app (gi_c0 k_737 (gi_c0 k_738 (gi_c0 k_739 (gi_c0 k_10 gi_nil)))) (gi_tb0 k_740), rfl, by decide, by decide⟩ (show (parseMethodDescriptor "(IIII)Z").map (fun d => d.parameters.length) = some 4 by decide +kernel) (m_shade Y t r9 k (xs (6 * i + 4)) hmY ht hr9 hk) (by decide +kernel) ⟨by show 106 + i + 0 ≤ 601024; omega, by show 155700 + 6 * i + 0 ≤ 7293034; omega⟩ hG hP hD hS hA [83, 84, 85, 86, 87, 88, 89, 90, 91, 92, 93, 94, 95, 96, 97, 98, 99, 100, 101, 102, 103, 104] [0, 1, 2, 3, 4, 5, 6, 7, 8, 9, 10, 11, 12, 13, 14, 15, 16, 17, 18, 19, 20, 21, 22, 23, 24, 25, 26, 27, 28, 29, 30, 31, 32, 33, 34, 35, 36, 37, 38, 39, 40, 41, 42, 43, 44, 45, 46, 47, 48, 49, 50, 51, 52, 53, 54, 55, 56, 57, 58, 59, 60, 61, 62, 63, 64, 65, 66, 67, 68, 69, 70, 71, 72, 73, 74, 75, 76, 77, 78, 79, 80, 81, 82, 105] [0, 1, 2, 3, 4, 5, 6, 7, 8, 9, 10, 11, 12, 13, 14, 15, 16, 17, 18, 19, 20, 21, 22, 23, 24, 25, 26, 27, 28, 29, 30, 31, 32, 33, 34, 35, 36, 37, 38, 39, 40, 41, 42, 43, 44, 45, 46, 47, 48, 49, 50, 51, 52, 53, 54, 55, 56, 57, 58, 59, 60, 61, 62, 63, 64, 65, 66, 67, 68, 69, 70, 71, 72, 73, 74, 75, 76, 77, 78, 79, 80, 81, 82, 84, 85, 86, 87, 88, 89, 90, 91, 92, 93, 94, 95, 96, 97, 98, 99, 100, 101, 102, 103, 104, 105, 83] ok_m (wl_m1 _ _ _) (wl_m2 _ _ _) (fun _ => wl_m3 _ _ _) (q0 := 0) rfl rfl rfl hl.1 rfl (Nat.le_of_ble_eq_true rfl) d_Law_law_299 (fun r2 u2 H locs hp2 hP hD hS => ?_)
  have hP : va_P D classes (cW cI cV ba A vf (X.1, (fun j => [(pset (X.2.1 0) (t * 64 + r9 * 8) 8 (shv k (xs (6 * i + 4)))), (X.2.1 1), (X.2.1 2)].getD j (fun _ => 0)), X.2.2) ++ (mW cI cZ ma u2 ++ oW cL ou f)) H := hP
  have hD : va_D (fun q : Nat => s.heap.size ≤ q) (cW cI cV ba A vf (X.1, (fun j => [(pset (X.2.1 0) (t * 64 + r9 * 8) 8 (shv k (xs (6 * i + 4)))), (X.2.1 1), (X.2.1 2)].getD j (fun _ => 0)), X.2.2) ++ (mW cI cZ ma u2 ++ oW cL ou f)) := hD
  refine lv_icmp_eq (tgt := 669) hx hb d_Law_law_302 (by decide) (fun c9 => ?_) (fun c9 => absurd (hp1.trans hp2.2.1.symm) c9)
  refine W.widen (k := 106 + (i + 1)) (n := 155700 + 6 * (i + 1)) (by show 106 + i ≤ 106 + (i + 1); omega) (by show 155700 + 6 * i ≤ 155700 + 6 * (i + 1); omega) ?_
  exact hN (X.1, (fun j => [(pset (X.2.1 0) (t * 64 + r9 * 8) 8 (shv k (xs (6 * i + 4)))), (X.2.1 1), (X.2.1 2)].getD j (fun _ => 0)), X.2.2) u2 f H locs _ (⟨pic_ok (pset_lt (hcX.1 0) (fun _ _ => shv_lt _ _ _)) (hcX.1 1) (hcX.1 2) (by decide), hcX.2⟩) (hp2.1) (by omega) (hp2.2.2.trans hnb) hP hD hS (lv_sub hl [0, 1, 2, 3, 4] rfl)
set_option maxHeartbeats 8000000 in
set_option maxRecDepth 100000 in
theorem lf_shadeN {p : Program} {l : Launch} {e : Env} {s : State} {m : MethodId} {below : List Frame} {meth : Method} {c : Code} {D : va_G} {cI cZ cL cV : ClassId} {b L : Nat} {xs : Nat → Int32} {H : Heap} {locs : List Loc} {ls : Array Slot} (ba : Nat → Nat) (A : Nat → Nat → Nat) (vf : Nat → Option Nat) (ma : Nat → Nat) (ou : Nat) (X : CS) (Y : MS) (f : Nat → Int64) (i : Nat)  (hL : L ≤ 3072) (hi : 6 * i + 6 ≤ L) (C0 : lw_At p s m meth c b L xs) (hst : l.stackTraces = false) (hXo : xOk (fun q : Nat => s.heap.size ≤ q) s s.heap) (hG : gk classes NW D (TYS cI cZ cL cV) s) (hvf9 : ∀ k, k < 3 → vf k = some (A k 0)) (hcX : cOk X) (hmY : mOk Y) (hnX : X.1 ≤ i) (hnb : Y.2.2.2 1 = nI X.1) (hno : ¬ ((∃ a, a < 48 ∧ xs (6 * i + 1) = nI a) ∧ (∃ b, b < 8 ∧ xs (6 * i + 2) = nI b) ∧ coP (xs (6 * i + 3)))) (hP : va_P D classes (cW cI cV ba A vf X ++ (mW cI cZ ma Y ++ oW cL ou f)) H) (hD : va_D (fun q : Nat => s.heap.size ≤ q) (cW cI cV ba A vf X ++ (mW cI cZ ma Y ++ oW cL ou f))) (hS : va_S (fun q : Nat => s.heap.size ≤ q) s.heap H locs) (hl : lv_has ls 7 [(0, .ref b), (1, .ref (ba 0)), (2, .ref (ma 0)), (3, .ref ou), (4, .int (nI (6 * i)))]) (hN : LN p l e s m below meth c D cI cZ cL cV b ba A vf ma ou i) : W p l e room_1 s m #[Value.ref b] below meth c H locs (106 + i) (155700 + 6 * i) (lw_Z below #[Value.ref b] s) (F0 m 246 ls []) := by
  obtain ⟨hx, hb, hr, hml, hown, hts, hX, hbl, hlocks, hgv⟩ := id C0
  have hA : ∀ q : Nat, s.heap.size ≤ q → (fun q : Nat => s.heap.size ≤ q) q := fun _ h => h
  have hbA : ¬ (fun q : Nat => s.heap.size ≤ q) b := Nat.not_le.mpr hbl
  have htb : ∀ w ∈ TB, w.before #[Value.ref b] s = true := fun w hw => hts w (List.mem_filter.mp hw).1
  have Bd : bd p c code 7 s #[Value.ref b] TB "TileScreenLaw" m := ⟨hx, hb, hml, hown, htb⟩
  refine lv_aload_n hx hb d_Law_law_246 rfl (lv_at hl 1 rfl) ?_
  refine lv_aload_n hx hb d_Law_law_247 rfl (lv_at hl 0 rfl) ?_
  refine lv_iload hx hb d_Law_law_248 (lv_at hl 4 rfl) ?_
  refine lv_iconst (v := nI 1) hx hb d_Law_law_250 (by decide) ?_
  refine nv_iadd hx hb d_Law_law_251 ?_
  refine va_sld hx hb hX hbl hbA hS (vp_in_nI (show 6 * i + 1 < L by omega) (by omega)) d_Law_law_252 ?_
  refine nv_top (y := (xs (6 * i + 1))) ((congrArg xs (nI_clamp (by omega)))) ?_
  refine lv_aload_n hx hb d_Law_law_253 rfl (lv_at hl 0 rfl) ?_
  refine lv_iload hx hb d_Law_law_254 (lv_at hl 4 rfl) ?_
  refine lv_iconst (v := nI 2) hx hb d_Law_law_256 (by decide) ?_
  refine nv_iadd hx hb d_Law_law_257 ?_
  refine va_sld hx hb hX hbl hbA hS (vp_in_nI (show 6 * i + 2 < L by omega) (by omega)) d_Law_law_258 ?_
  refine nv_top (y := (xs (6 * i + 2))) ((congrArg xs (nI_clamp (by omega)))) ?_
  refine lv_aload_n hx hb d_Law_law_259 rfl (lv_at hl 0 rfl) ?_
  refine lv_iload hx hb d_Law_law_260 (lv_at hl 4 rfl) ?_
  refine lv_iconst (v := nI 3) hx hb d_Law_law_262 (by decide) ?_
  refine nv_iadd hx hb d_Law_law_263 ?_
  refine va_sld hx hb hX hbl hbA hS (vp_in_nI (show 6 * i + 3 < L by omega) (by omega)) d_Law_law_264 ?_
  refine nv_top (y := (xs (6 * i + 3))) ((congrArg xs (nI_clamp (by omega)))) ?_
  refine lv_aload_n hx hb d_Law_law_265 rfl (lv_at hl 0 rfl) ?_
  refine lv_iload hx hb d_Law_law_266 (lv_at hl 4 rfl) ?_
  refine lv_iconst (v := nI 4) hx hb d_Law_law_268 (by decide) ?_
  refine nv_iadd hx hb d_Law_law_269 ?_
  refine va_sld hx hb hX hbl hbA hS (vp_in_nI (show 6 * i + 4 < L by omega) (by omega)) d_Law_law_270 ?_
  refine nv_top (y := (xs (6 * i + 4))) ((congrArg xs (nI_clamp (by omega)))) ?_
  refine kV_i (wc := cW cI cV ba A vf X) (wr := mW cI cZ ma Y ++ oW cL ou f) (w2 := fun u1 => cW cI cV ba A vf X ++ (mW cI cZ ma Y ++ oW cL ou f)) [.int (xs (6 * i + 1)), .int (xs (6 * i + 2)), .int (xs (6 * i + 3)), .int (xs (6 * i + 4))] [] Bd ⟨gi_app (gi_c0 k_293 (gi_c0 k_294 (gi_c0 k_295 (gi_c0 k_1 gi_nil)))) (gi_tb0 k_296), rfl, by decide, by decide⟩ (show (parseMethodDescriptor "(IIII)Z").map (fun d => d.parameters.length) = some 4 by decide +kernel) (CI.no (c_Scr_shade_no (ba 0) (ba 1) (ba 3) (ba 5) (ba 7) X.1 (xs (6 * i + 1)) (xs (6 * i + 2)) (xs (6 * i + 3)) (xs (6 * i + 4)) hno)) (by decide +kernel) ⟨by show 106 + i + 0 ≤ 601024; omega, by show 155700 + 6 * i + 0 ≤ 7293034; omega⟩ hG hP hD hS hA [0, 1, 2, 3, 4, 5, 6, 7, 8, 9, 10, 11, 12, 13, 14, 15, 16, 17, 18, 19, 20, 21, 22, 23, 24, 25, 26, 27, 28, 29, 30, 31, 32, 33, 34, 35, 36, 37, 38, 39, 40, 41, 42, 43, 44, 45, 46, 47, 48, 49, 50, 51, 52, 53, 54, 55, 56, 57, 58, 59, 60, 61, 62, 63, 64, 65, 66, 67, 68, 69, 70, 71, 72, 73, 74, 75, 76, 77, 78, 79, 80, 81, 82] [83, 84, 85, 86, 87, 88, 89, 90, 91, 92, 93, 94, 95, 96, 97, 98, 99, 100, 101, 102, 103, 104, 105] [23, 24, 25, 26, 27, 28, 29, 30, 31, 32, 33, 34, 35, 36, 37, 38, 39, 40, 41, 42, 43, 44, 45, 46, 47, 48, 49, 50, 51, 52, 53, 54, 55, 56, 57, 58, 59, 60, 61, 62, 63, 64, 65, 66, 67, 68, 69, 70, 71, 72, 73, 74, 75, 76, 77, 78, 79, 80, 81, 82, 83, 84, 85, 86, 87, 88, 89, 90, 91, 92, 93, 94, 95, 96, 97, 98, 99, 100, 101, 102, 103, 104, 105, 0, 1, 2, 3, 4, 5, 6, 7, 8, 9, 10, 11, 12, 13, 14, 15, 16, 17, 18, 19, 20, 21, 22] ok_c (wl_c1 _ _ _) (wl_c2 _ _ _) (fun _ => wl_c3 _ _ _) (q0 := 0) rfl rfl rfl hl.1 rfl (Nat.le_of_ble_eq_true rfl) d_Law_law_271 (fun r1 u1 H locs hp1 hP hD hS => ?_)
  have hP : va_P D classes (cW cI cV ba A vf X ++ (mW cI cZ ma Y ++ oW cL ou f)) H := hP
  have hD : va_D (fun q : Nat => s.heap.size ≤ q) (cW cI cV ba A vf X ++ (mW cI cZ ma Y ++ oW cL ou f)) := hD
  refine lv_aload_n hx hb d_Law_law_274 rfl (lv_at hl 2 rfl) ?_
  refine lv_aload_n hx hb d_Law_law_275 rfl (lv_at hl 0 rfl) ?_
  refine lv_iload hx hb d_Law_law_276 (lv_at hl 4 rfl) ?_
  refine lv_iconst (v := nI 1) hx hb d_Law_law_278 (by decide) ?_
  refine nv_iadd hx hb d_Law_law_279 ?_
  refine va_sld hx hb hX hbl hbA hS (vp_in_nI (show 6 * i + 1 < L by omega) (by omega)) d_Law_law_280 ?_
  refine nv_top (y := (xs (6 * i + 1))) ((congrArg xs (nI_clamp (by omega)))) ?_
  refine lv_aload_n hx hb d_Law_law_281 rfl (lv_at hl 0 rfl) ?_
  refine lv_iload hx hb d_Law_law_282 (lv_at hl 4 rfl) ?_
  refine lv_iconst (v := nI 2) hx hb d_Law_law_284 (by decide) ?_
  refine nv_iadd hx hb d_Law_law_285 ?_
  refine va_sld hx hb hX hbl hbA hS (vp_in_nI (show 6 * i + 2 < L by omega) (by omega)) d_Law_law_286 ?_
  refine nv_top (y := (xs (6 * i + 2))) ((congrArg xs (nI_clamp (by omega)))) ?_
  refine lv_aload_n hx hb d_Law_law_287 rfl (lv_at hl 0 rfl) ?_
  refine lv_iload hx hb d_Law_law_288 (lv_at hl 4 rfl) ?_
  refine lv_iconst (v := nI 3) hx hb d_Law_law_290 (by decide) ?_
  refine nv_iadd hx hb d_Law_law_291 ?_
  refine va_sld hx hb hX hbl hbA hS (vp_in_nI (show 6 * i + 3 < L by omega) (by omega)) d_Law_law_292 ?_
  refine nv_top (y := (xs (6 * i + 3))) ((congrArg xs (nI_clamp (by omega)))) ?_
  refine lv_aload_n hx hb d_Law_law_293 rfl (lv_at hl 0 rfl) ?_
  refine lv_iload hx hb d_Law_law_294 (lv_at hl 4 rfl) ?_
  refine lv_iconst (v := nI 4) hx hb d_Law_law_296 (by decide) ?_
  refine nv_iadd hx hb d_Law_law_297 ?_
  refine va_sld hx hb hX hbl hbA hS (vp_in_nI (show 6 * i + 4 < L by omega) (by omega)) d_Law_law_298 ?_
  refine nv_top (y := (xs (6 * i + 4))) ((congrArg xs (nI_clamp (by omega)))) ?_
  refine kV_i (wc := mW cI cZ ma Y) (wr := cW cI cV ba A vf X ++ oW cL ou f) (w2 := fun u2 => cW cI cV ba A vf X ++ (mW cI cZ ma u2 ++ oW cL ou f)) [.int (xs (6 * i + 1)), .int (xs (6 * i + 2)), .int (xs (6 * i + 3)), .int (xs (6 * i + 4))] [.int r1] Bd ⟨gi_app (gi_c0 k_737 (gi_c0 k_738 (gi_c0 k_739 (gi_c0 k_10 gi_nil)))) (gi_tb0 k_740), rfl, by decide, by decide⟩ (show (parseMethodDescriptor "(IIII)Z").map (fun d => d.parameters.length) = some 4 by decide +kernel) (m_shadeN Y (xs (6 * i + 1)) (xs (6 * i + 2)) (xs (6 * i + 3)) (xs (6 * i + 4)) hmY hno) (by decide +kernel) ⟨by show 106 + i + 0 ≤ 601024; omega, by show 155700 + 6 * i + 0 ≤ 7293034; omega⟩ hG hP hD hS hA [83, 84, 85, 86, 87, 88, 89, 90, 91, 92, 93, 94, 95, 96, 97, 98, 99, 100, 101, 102, 103, 104] [0, 1, 2, 3, 4, 5, 6, 7, 8, 9, 10, 11, 12, 13, 14, 15, 16, 17, 18, 19, 20, 21, 22, 23, 24, 25, 26, 27, 28, 29, 30, 31, 32, 33, 34, 35, 36, 37, 38, 39, 40, 41, 42, 43, 44, 45, 46, 47, 48, 49, 50, 51, 52, 53, 54, 55, 56, 57, 58, 59, 60, 61, 62, 63, 64, 65, 66, 67, 68, 69, 70, 71, 72, 73, 74, 75, 76, 77, 78, 79, 80, 81, 82, 105] [0, 1, 2, 3, 4, 5, 6, 7, 8, 9, 10, 11, 12, 13, 14, 15, 16, 17, 18, 19, 20, 21, 22, 23, 24, 25, 26, 27, 28, 29, 30, 31, 32, 33, 34, 35, 36, 37, 38, 39, 40, 41, 42, 43, 44, 45, 46, 47, 48, 49, 50, 51, 52, 53, 54, 55, 56, 57, 58, 59, 60, 61, 62, 63, 64, 65, 66, 67, 68, 69, 70, 71, 72, 73, 74, 75, 76, 77, 78, 79, 80, 81, 82, 84, 85, 86, 87, 88, 89, 90, 91, 92, 93, 94, 95, 96, 97, 98, 99, 100, 101, 102, 103, 104, 105, 83] ok_m (wl_m1 _ _ _) (wl_m2 _ _ _) (fun _ => wl_m3 _ _ _) (q0 := 0) rfl rfl rfl hl.1 rfl (Nat.le_of_ble_eq_true rfl) d_Law_law_299 (fun r2 u2 H locs hp2 hP hD hS => ?_)
  have hP : va_P D classes (cW cI cV ba A vf X ++ (mW cI cZ ma u2 ++ oW cL ou f)) H := hP
  have hD : va_D (fun q : Nat => s.heap.size ≤ q) (cW cI cV ba A vf X ++ (mW cI cZ ma u2 ++ oW cL ou f)) := hD
  refine lv_icmp_eq (tgt := 669) hx hb d_Law_law_302 (by decide) (fun c9 => ?_) (fun c9 => absurd (hp1.trans hp2.2.1.symm) c9)
  refine W.widen (k := 106 + (i + 1)) (n := 155700 + 6 * (i + 1)) (by show 106 + i ≤ 106 + (i + 1); omega) (by show 155700 + 6 * i ≤ 155700 + 6 * (i + 1); omega) ?_
  exact hN X u2 f H locs _ (hcX) (hp2.1) (by omega) (hp2.2.2.trans hnb) hP hD hS (lv_sub hl [0, 1, 2, 3, 4] rfl)
set_option maxHeartbeats 8000000 in
set_option maxRecDepth 100000 in
theorem lf_frame {p : Program} {l : Launch} {e : Env} {s : State} {m : MethodId} {below : List Frame} {meth : Method} {c : Code} {D : va_G} {cI cZ cL cV : ClassId} {b L : Nat} {xs : Nat → Int32} {H : Heap} {locs : List Loc} {ls : Array Slot} (ba : Nat → Nat) (A : Nat → Nat → Nat) (vf : Nat → Option Nat) (ma : Nat → Nat) (ou : Nat) (X : CS) (Y : MS) (f : Nat → Int64) (i : Nat)  (hL : L ≤ 3072) (hi : 6 * i + 6 ≤ L) (C0 : lw_At p s m meth c b L xs) (hst : l.stackTraces = false) (hXo : xOk (fun q : Nat => s.heap.size ≤ q) s s.heap) (hG : gk classes NW D (TYS cI cZ cL cV) s) (hvf9 : ∀ k, k < 3 → vf k = some (A k 0)) (hcX : cOk X) (hmY : mOk Y) (hnX : X.1 ≤ i) (hnb : Y.2.2.2 1 = nI X.1)  (hP : va_P D classes (cW cI cV ba A vf X ++ (mW cI cZ ma Y ++ oW cL ou f)) H) (hD : va_D (fun q : Nat => s.heap.size ≤ q) (cW cI cV ba A vf X ++ (mW cI cZ ma Y ++ oW cL ou f))) (hS : va_S (fun q : Nat => s.heap.size ≤ q) s.heap H locs) (hl : lv_has ls 7 [(0, .ref b), (1, .ref (ba 0)), (2, .ref (ma 0)), (3, .ref ou), (4, .int (nI (6 * i)))]) (hN : LN p l e s m below meth c D cI cZ cL cV b ba A vf ma ou i) : W p l e room_1 s m #[Value.ref b] below meth c H locs (106 + i) (155700 + 6 * i) (lw_Z below #[Value.ref b] s) (F0 m 307 ls []) := by
  obtain ⟨hx, hb, hr, hml, hown, hts, hX, hbl, hlocks, hgv⟩ := id C0
  have hA : ∀ q : Nat, s.heap.size ≤ q → (fun q : Nat => s.heap.size ≤ q) q := fun _ h => h
  have hbA : ¬ (fun q : Nat => s.heap.size ≤ q) b := Nat.not_le.mpr hbl
  have htb : ∀ w ∈ TB, w.before #[Value.ref b] s = true := fun w hw => hts w (List.mem_filter.mp hw).1
  have Bd : bd p c code 7 s #[Value.ref b] TB "TileScreenLaw" m := ⟨hx, hb, hml, hown, htb⟩
  refine lv_aload_n hx hb d_Law_law_307 rfl (lv_at hl 1 rfl) ?_
  refine kV_i (wc := cW cI cV ba A vf X) (wr := mW cI cZ ma Y ++ oW cL ou f) (w2 := fun u1 => cW cI cV ba A vf (X.1 + 1, (fun j => [(X.2.1 0), (X.2.1 0), (X.2.1 2)].getD j (fun _ => 0)), X.2.2) ++ (mW cI cZ ma Y ++ oW cL ou f)) [] [] Bd ⟨gi_app (gi_c0 k_298 (gi_c0 k_299 (gi_c0 k_300 (gi_c0 k_1 gi_nil)))) (gi_tb0 k_301), rfl, by decide, by decide⟩ (show (parseMethodDescriptor "()I").map (fun d => d.parameters.length) = some 0 by decide +kernel) (s_frame X hcX) (by decide +kernel) ⟨by show 106 + i + 0 ≤ 601024; omega, by show 155700 + 6 * i + 0 ≤ 7293034; omega⟩ hG hP hD hS hA [0, 1, 2, 3, 4, 5, 6, 7, 8, 9, 10, 11, 12, 13, 14, 15, 16, 17, 18, 19, 20, 21, 22, 23, 24, 25, 26, 27, 28, 29, 30, 31, 32, 33, 34, 35, 36, 37, 38, 39, 40, 41, 42, 43, 44, 45, 46, 47, 48, 49, 50, 51, 52, 53, 54, 55, 56, 57, 58, 59, 60, 61, 62, 63, 64, 65, 66, 67, 68, 69, 70, 71, 72, 73, 74, 75, 76, 77, 78, 79, 80, 81, 82] [83, 84, 85, 86, 87, 88, 89, 90, 91, 92, 93, 94, 95, 96, 97, 98, 99, 100, 101, 102, 103, 104, 105] [23, 24, 25, 26, 27, 28, 29, 30, 31, 32, 33, 34, 35, 36, 37, 38, 39, 40, 41, 42, 43, 44, 45, 46, 47, 48, 49, 50, 51, 52, 53, 54, 55, 56, 57, 58, 59, 60, 61, 62, 63, 64, 65, 66, 67, 68, 69, 70, 71, 72, 73, 74, 75, 76, 77, 78, 79, 80, 81, 82, 83, 84, 85, 86, 87, 88, 89, 90, 91, 92, 93, 94, 95, 96, 97, 98, 99, 100, 101, 102, 103, 104, 105, 0, 1, 2, 3, 4, 5, 6, 7, 8, 9, 10, 11, 12, 13, 14, 15, 16, 17, 18, 19, 20, 21, 22] ok_c (wl_c1 _ _ _) (wl_c2 _ _ _) (fun _ => wl_c3 _ _ _) (q0 := 0) rfl rfl rfl hl.1 rfl (Nat.le_of_ble_eq_true rfl) d_Law_law_308 (fun r1 u1 H locs hp1 hP hD hS => ?_)
  have hP : va_P D classes (cW cI cV ba A vf (X.1 + 1, (fun j => [(X.2.1 0), (X.2.1 0), (X.2.1 2)].getD j (fun _ => 0)), X.2.2) ++ (mW cI cZ ma Y ++ oW cL ou f)) H := hP
  have hD : va_D (fun q : Nat => s.heap.size ≤ q) (cW cI cV ba A vf (X.1 + 1, (fun j => [(X.2.1 0), (X.2.1 0), (X.2.1 2)].getD j (fun _ => 0)), X.2.2) ++ (mW cI cZ ma Y ++ oW cL ou f)) := hD
  refine lv_pop hx hb d_Law_law_311 rfl ?_
  refine lv_aload_n hx hb d_Law_law_312 rfl (lv_at hl 2 rfl) ?_
  refine kV_i (wc := mW cI cZ ma Y) (wr := cW cI cV ba A vf (X.1 + 1, (fun j => [(X.2.1 0), (X.2.1 0), (X.2.1 2)].getD j (fun _ => 0)), X.2.2) ++ oW cL ou f) (w2 := fun u2 => cW cI cV ba A vf (X.1 + 1, (fun j => [(X.2.1 0), (X.2.1 0), (X.2.1 2)].getD j (fun _ => 0)), X.2.2) ++ (mW cI cZ ma u2 ++ oW cL ou f)) [] [] Bd ⟨gi_app (gi_c0 k_745 (gi_c0 k_746 (gi_c0 k_747 (gi_c0 k_10 gi_nil)))) (gi_tb0 k_748), rfl, by decide, by decide⟩ (show (parseMethodDescriptor "()I").map (fun d => d.parameters.length) = some 0 by decide +kernel) (m_frame Y hmY) (by decide +kernel) ⟨by show 106 + i + 0 ≤ 601024; omega, by show 155700 + 6 * i + 0 ≤ 7293034; omega⟩ hG hP hD hS hA [83, 84, 85, 86, 87, 88, 89, 90, 91, 92, 93, 94, 95, 96, 97, 98, 99, 100, 101, 102, 103, 104] [0, 1, 2, 3, 4, 5, 6, 7, 8, 9, 10, 11, 12, 13, 14, 15, 16, 17, 18, 19, 20, 21, 22, 23, 24, 25, 26, 27, 28, 29, 30, 31, 32, 33, 34, 35, 36, 37, 38, 39, 40, 41, 42, 43, 44, 45, 46, 47, 48, 49, 50, 51, 52, 53, 54, 55, 56, 57, 58, 59, 60, 61, 62, 63, 64, 65, 66, 67, 68, 69, 70, 71, 72, 73, 74, 75, 76, 77, 78, 79, 80, 81, 82, 105] [0, 1, 2, 3, 4, 5, 6, 7, 8, 9, 10, 11, 12, 13, 14, 15, 16, 17, 18, 19, 20, 21, 22, 23, 24, 25, 26, 27, 28, 29, 30, 31, 32, 33, 34, 35, 36, 37, 38, 39, 40, 41, 42, 43, 44, 45, 46, 47, 48, 49, 50, 51, 52, 53, 54, 55, 56, 57, 58, 59, 60, 61, 62, 63, 64, 65, 66, 67, 68, 69, 70, 71, 72, 73, 74, 75, 76, 77, 78, 79, 80, 81, 82, 84, 85, 86, 87, 88, 89, 90, 91, 92, 93, 94, 95, 96, 97, 98, 99, 100, 101, 102, 103, 104, 105, 83] ok_m (wl_m1 _ _ _) (wl_m2 _ _ _) (fun _ => wl_m3 _ _ _) (q0 := 0) rfl rfl rfl hl.1 rfl (Nat.le_of_ble_eq_true rfl) d_Law_law_313 (fun r2 u2 H locs hp2 hP hD hS => ?_)
  have hP : va_P D classes (cW cI cV ba A vf (X.1 + 1, (fun j => [(X.2.1 0), (X.2.1 0), (X.2.1 2)].getD j (fun _ => 0)), X.2.2) ++ (mW cI cZ ma u2 ++ oW cL ou f)) H := hP
  have hD : va_D (fun q : Nat => s.heap.size ≤ q) (cW cI cV ba A vf (X.1 + 1, (fun j => [(X.2.1 0), (X.2.1 0), (X.2.1 2)].getD j (fun _ => 0)), X.2.2) ++ (mW cI cZ ma u2 ++ oW cL ou f)) := hD
  refine lv_pop hx hb d_Law_law_316 rfl ?_
  refine lv_goto (tgt := 669) hx hb d_Law_law_317 (by decide) ?_
  refine W.widen (k := 106 + (i + 1)) (n := 155700 + 6 * (i + 1)) (by show 106 + i ≤ 106 + (i + 1); omega) (by show 155700 + 6 * i ≤ 155700 + 6 * (i + 1); omega) ?_
  exact hN (X.1 + 1, (fun j => [(X.2.1 0), (X.2.1 0), (X.2.1 2)].getD j (fun _ => 0)), X.2.2) u2 f H locs _ (⟨pic_ok (hcX.1 0) (hcX.1 0) (hcX.1 2) (by decide), hcX.2⟩) (hp2.1) (by show X.1 + 1 ≤ i + 1; omega) (hp2.2.2.trans (by rw [hnb]; exact nI_add X.1 1)) hP hD hS (lv_sub hl [0, 1, 2, 3, 4] rfl)
set_option maxHeartbeats 8000000 in
set_option maxRecDepth 100000 in
theorem lf_join00 {p : Program} {l : Launch} {e : Env} {s : State} {m : MethodId} {below : List Frame} {meth : Method} {c : Code} {D : va_G} {cI cZ cL cV : ClassId} {b L : Nat} {xs : Nat → Int32} {H : Heap} {locs : List Loc} {ls : Array Slot} (ba : Nat → Nat) (A : Nat → Nat → Nat) (vf : Nat → Option Nat) (ma : Nat → Nat) (ou : Nat) (X : CS) (Y : MS) (f : Nat → Int64) (i : Nat) (k : Nat) (hL : L ≤ 3072) (hi : 6 * i + 6 ≤ L) (C0 : lw_At p s m meth c b L xs) (hst : l.stackTraces = false) (hXo : xOk (fun q : Nat => s.heap.size ≤ q) s s.heap) (hG : gk classes NW D (TYS cI cZ cL cV) s) (hvf9 : ∀ k, k < 3 → vf k = some (A k 0)) (hcX : cOk X) (hmY : mOk Y) (hnX : X.1 ≤ i) (hnb : Y.2.2.2 1 = nI X.1) (e1 : xs (6 * i + 1) = nI k) (hk : k < 3) (hc : (X.2.2 k).1 0 = 0) (hcm : Y.2.1 10 k = 0) (hP : va_P D classes (cW cI cV ba A vf X ++ (mW cI cZ ma Y ++ oW cL ou f)) H) (hD : va_D (fun q : Nat => s.heap.size ≤ q) (cW cI cV ba A vf X ++ (mW cI cZ ma Y ++ oW cL ou f))) (hS : va_S (fun q : Nat => s.heap.size ≤ q) s.heap H locs) (hl : lv_has ls 7 [(0, .ref b), (1, .ref (ba 0)), (2, .ref (ma 0)), (3, .ref ou), (4, .int (nI (6 * i)))]) (hN : LN p l e s m below meth c D cI cZ cL cV b ba A vf ma ou i) : W p l e room_1 s m #[Value.ref b] below meth c H locs (106 + i) (155700 + 6 * i) (lw_Z below #[Value.ref b] s) (F0 m 320 ls []) := by
  obtain ⟨hx, hb, hr, hml, hown, hts, hX, hbl, hlocks, hgv⟩ := id C0
  have hA : ∀ q : Nat, s.heap.size ≤ q → (fun q : Nat => s.heap.size ≤ q) q := fun _ h => h
  have hbA : ¬ (fun q : Nat => s.heap.size ≤ q) b := Nat.not_le.mpr hbl
  have htb : ∀ w ∈ TB, w.before #[Value.ref b] s = true := fun w hw => hts w (List.mem_filter.mp hw).1
  have Bd : bd p c code 7 s #[Value.ref b] TB "TileScreenLaw" m := ⟨hx, hb, hml, hown, htb⟩
  refine lv_aload_n hx hb d_Law_law_320 rfl (lv_at hl 1 rfl) ?_
  refine lv_aload_n hx hb d_Law_law_321 rfl (lv_at hl 0 rfl) ?_
  refine lv_iload hx hb d_Law_law_322 (lv_at hl 4 rfl) ?_
  refine lv_iconst (v := nI 1) hx hb d_Law_law_324 (by decide) ?_
  refine nv_iadd hx hb d_Law_law_325 ?_
  refine va_sld hx hb hX hbl hbA hS (vp_in_nI (show 6 * i + 1 < L by omega) (by omega)) d_Law_law_326 ?_
  refine nv_top (y := (nI k)) ((congrArg xs (nI_clamp (by omega))).trans e1) ?_
  refine kV_i (wc := cW cI cV ba A vf X) (wr := mW cI cZ ma Y ++ oW cL ou f) (w2 := fun u1 => cW cI cV ba A vf (X.1, X.2.1, fun j => if j = k then u1 else X.2.2 j) ++ (mW cI cZ ma Y ++ oW cL ou f)) [.int (nI k)] [] Bd ⟨gi_app (gi_c0 k_302 (gi_c0 k_303 (gi_c0 k_304 (gi_c0 k_1 gi_nil)))) (gi_tb0 k_305), rfl, by decide, by decide⟩ (show (parseMethodDescriptor "(I)Z").map (fun d => d.parameters.length) = some 1 by decide +kernel) (CI.view k hk (v_join X.1 X.2.1 (A k) (X.2.2 k) k  hk (hvf9 k hk) hcX.1 (hcX.2 k) hc)) (by decide +kernel) ⟨by show 106 + i + 0 ≤ 601024; omega, by show 155700 + 6 * i + 0 ≤ 7293034; omega⟩ hG hP hD hS hA [0, 1, 2, 3, 4, 5, 6, 7, 8, 9, 10, 11, 12, 13, 14, 15, 16, 17, 18, 19, 20, 21, 22, 23, 24, 25, 26, 27, 28, 29, 30, 31, 32, 33, 34, 35, 36, 37, 38, 39, 40, 41, 42, 43, 44, 45, 46, 47, 48, 49, 50, 51, 52, 53, 54, 55, 56, 57, 58, 59, 60, 61, 62, 63, 64, 65, 66, 67, 68, 69, 70, 71, 72, 73, 74, 75, 76, 77, 78, 79, 80, 81, 82] [83, 84, 85, 86, 87, 88, 89, 90, 91, 92, 93, 94, 95, 96, 97, 98, 99, 100, 101, 102, 103, 104, 105] [23, 24, 25, 26, 27, 28, 29, 30, 31, 32, 33, 34, 35, 36, 37, 38, 39, 40, 41, 42, 43, 44, 45, 46, 47, 48, 49, 50, 51, 52, 53, 54, 55, 56, 57, 58, 59, 60, 61, 62, 63, 64, 65, 66, 67, 68, 69, 70, 71, 72, 73, 74, 75, 76, 77, 78, 79, 80, 81, 82, 83, 84, 85, 86, 87, 88, 89, 90, 91, 92, 93, 94, 95, 96, 97, 98, 99, 100, 101, 102, 103, 104, 105, 0, 1, 2, 3, 4, 5, 6, 7, 8, 9, 10, 11, 12, 13, 14, 15, 16, 17, 18, 19, 20, 21, 22] ok_c (wl_c1 _ _ _) (wl_c2 _ _ _) (fun _ => wl_c3 _ _ _) (q0 := 0) rfl rfl rfl hl.1 rfl (Nat.le_of_ble_eq_true rfl) d_Law_law_327 (fun r1 u1 H locs hp1 hP hD hS => ?_)
  have hP : va_P D classes (cW cI cV ba A vf (X.1, X.2.1, fun j => if j = k then u1 else X.2.2 j) ++ (mW cI cZ ma Y ++ oW cL ou f)) H := hP
  have hD : va_D (fun q : Nat => s.heap.size ≤ q) (cW cI cV ba A vf (X.1, X.2.1, fun j => if j = k then u1 else X.2.2 j) ++ (mW cI cZ ma Y ++ oW cL ou f)) := hD
  refine lv_pop hx hb d_Law_law_330 rfl ?_
  refine lv_aload_n hx hb d_Law_law_331 rfl (lv_at hl 2 rfl) ?_
  refine lv_aload_n hx hb d_Law_law_332 rfl (lv_at hl 0 rfl) ?_
  refine lv_iload hx hb d_Law_law_333 (lv_at hl 4 rfl) ?_
  refine lv_iconst (v := nI 1) hx hb d_Law_law_335 (by decide) ?_
  refine nv_iadd hx hb d_Law_law_336 ?_
  refine va_sld hx hb hX hbl hbA hS (vp_in_nI (show 6 * i + 1 < L by omega) (by omega)) d_Law_law_337 ?_
  refine nv_top (y := (nI k)) ((congrArg xs (nI_clamp (by omega))).trans e1) ?_
  refine kV_i (wc := mW cI cZ ma Y) (wr := cW cI cV ba A vf (X.1, X.2.1, fun j => if j = k then u1 else X.2.2 j) ++ oW cL ou f) (w2 := fun u2 => cW cI cV ba A vf (X.1, X.2.1, fun j => if j = k then u1 else X.2.2 j) ++ (mW cI cZ ma u2 ++ oW cL ou f)) [.int (nI k)] [] Bd ⟨gi_app (gi_c0 k_749 (gi_c0 k_750 (gi_c0 k_751 (gi_c0 k_10 gi_nil)))) (gi_tb0 k_752), rfl, by decide, by decide⟩ (show (parseMethodDescriptor "(I)Z").map (fun d => d.parameters.length) = some 1 by decide +kernel) (m_join Y k hmY hk hcm) (by decide +kernel) ⟨by show 106 + i + 0 ≤ 601024; omega, by show 155700 + 6 * i + 0 ≤ 7293034; omega⟩ hG hP hD hS hA [83, 84, 85, 86, 87, 88, 89, 90, 91, 92, 93, 94, 95, 96, 97, 98, 99, 100, 101, 102, 103, 104] [0, 1, 2, 3, 4, 5, 6, 7, 8, 9, 10, 11, 12, 13, 14, 15, 16, 17, 18, 19, 20, 21, 22, 23, 24, 25, 26, 27, 28, 29, 30, 31, 32, 33, 34, 35, 36, 37, 38, 39, 40, 41, 42, 43, 44, 45, 46, 47, 48, 49, 50, 51, 52, 53, 54, 55, 56, 57, 58, 59, 60, 61, 62, 63, 64, 65, 66, 67, 68, 69, 70, 71, 72, 73, 74, 75, 76, 77, 78, 79, 80, 81, 82, 105] [0, 1, 2, 3, 4, 5, 6, 7, 8, 9, 10, 11, 12, 13, 14, 15, 16, 17, 18, 19, 20, 21, 22, 23, 24, 25, 26, 27, 28, 29, 30, 31, 32, 33, 34, 35, 36, 37, 38, 39, 40, 41, 42, 43, 44, 45, 46, 47, 48, 49, 50, 51, 52, 53, 54, 55, 56, 57, 58, 59, 60, 61, 62, 63, 64, 65, 66, 67, 68, 69, 70, 71, 72, 73, 74, 75, 76, 77, 78, 79, 80, 81, 82, 84, 85, 86, 87, 88, 89, 90, 91, 92, 93, 94, 95, 96, 97, 98, 99, 100, 101, 102, 103, 104, 105, 83] ok_m (wl_m1 _ _ _) (wl_m2 _ _ _) (fun _ => wl_m3 _ _ _) (q0 := 0) rfl rfl rfl hl.1 rfl (Nat.le_of_ble_eq_true rfl) d_Law_law_338 (fun r2 u2 H locs hp2 hP hD hS => ?_)
  have hP : va_P D classes (cW cI cV ba A vf (X.1, X.2.1, fun j => if j = k then u1 else X.2.2 j) ++ (mW cI cZ ma u2 ++ oW cL ou f)) H := hP
  have hD : va_D (fun q : Nat => s.heap.size ≤ q) (cW cI cV ba A vf (X.1, X.2.1, fun j => if j = k then u1 else X.2.2 j) ++ (mW cI cZ ma u2 ++ oW cL ou f)) := hD
  refine lv_pop hx hb d_Law_law_341 rfl ?_
  refine lv_goto (tgt := 669) hx hb d_Law_law_342 (by decide) ?_
  refine W.widen (k := 106 + (i + 1)) (n := 155700 + 6 * (i + 1)) (by show 106 + i ≤ 106 + (i + 1); omega) (by show 155700 + 6 * i ≤ 155700 + 6 * (i + 1); omega) ?_
  exact hN (X.1, X.2.1, fun j => if j = k then u1 else X.2.2 j) u2 f H locs _ (cOk.view hcX hp1) (hp2.1) (by omega) (hp2.2.trans hnb) hP hD hS (lv_sub hl [0, 1, 2, 3, 4] rfl)
set_option maxHeartbeats 8000000 in
set_option maxRecDepth 100000 in
theorem lf_cut00 {p : Program} {l : Launch} {e : Env} {s : State} {m : MethodId} {below : List Frame} {meth : Method} {c : Code} {D : va_G} {cI cZ cL cV : ClassId} {b L : Nat} {xs : Nat → Int32} {H : Heap} {locs : List Loc} {ls : Array Slot} (ba : Nat → Nat) (A : Nat → Nat → Nat) (vf : Nat → Option Nat) (ma : Nat → Nat) (ou : Nat) (X : CS) (Y : MS) (f : Nat → Int64) (i : Nat) (k : Nat) (hL : L ≤ 3072) (hi : 6 * i + 6 ≤ L) (C0 : lw_At p s m meth c b L xs) (hst : l.stackTraces = false) (hXo : xOk (fun q : Nat => s.heap.size ≤ q) s s.heap) (hG : gk classes NW D (TYS cI cZ cL cV) s) (hvf9 : ∀ k, k < 3 → vf k = some (A k 0)) (hcX : cOk X) (hmY : mOk Y) (hnX : X.1 ≤ i) (hnb : Y.2.2.2 1 = nI X.1) (e1 : xs (6 * i + 1) = nI k) (hk : k < 3) (hc : (X.2.2 k).1 0 = 0) (hcm : Y.2.1 10 k = 0) (hP : va_P D classes (cW cI cV ba A vf X ++ (mW cI cZ ma Y ++ oW cL ou f)) H) (hD : va_D (fun q : Nat => s.heap.size ≤ q) (cW cI cV ba A vf X ++ (mW cI cZ ma Y ++ oW cL ou f))) (hS : va_S (fun q : Nat => s.heap.size ≤ q) s.heap H locs) (hl : lv_has ls 7 [(0, .ref b), (1, .ref (ba 0)), (2, .ref (ma 0)), (3, .ref ou), (4, .int (nI (6 * i)))]) (hN : LN p l e s m below meth c D cI cZ cL cV b ba A vf ma ou i) : W p l e room_1 s m #[Value.ref b] below meth c H locs (106 + i) (155700 + 6 * i) (lw_Z below #[Value.ref b] s) (F0 m 345 ls []) := by
  obtain ⟨hx, hb, hr, hml, hown, hts, hX, hbl, hlocks, hgv⟩ := id C0
  have hA : ∀ q : Nat, s.heap.size ≤ q → (fun q : Nat => s.heap.size ≤ q) q := fun _ h => h
  have hbA : ¬ (fun q : Nat => s.heap.size ≤ q) b := Nat.not_le.mpr hbl
  have htb : ∀ w ∈ TB, w.before #[Value.ref b] s = true := fun w hw => hts w (List.mem_filter.mp hw).1
  have Bd : bd p c code 7 s #[Value.ref b] TB "TileScreenLaw" m := ⟨hx, hb, hml, hown, htb⟩
  refine lv_aload_n hx hb d_Law_law_345 rfl (lv_at hl 1 rfl) ?_
  refine lv_aload_n hx hb d_Law_law_346 rfl (lv_at hl 0 rfl) ?_
  refine lv_iload hx hb d_Law_law_347 (lv_at hl 4 rfl) ?_
  refine lv_iconst (v := nI 1) hx hb d_Law_law_349 (by decide) ?_
  refine nv_iadd hx hb d_Law_law_350 ?_
  refine va_sld hx hb hX hbl hbA hS (vp_in_nI (show 6 * i + 1 < L by omega) (by omega)) d_Law_law_351 ?_
  refine nv_top (y := (nI k)) ((congrArg xs (nI_clamp (by omega))).trans e1) ?_
  refine kV_i (wc := cW cI cV ba A vf X) (wr := mW cI cZ ma Y ++ oW cL ou f) (w2 := fun u1 => cW cI cV ba A vf (X.1, X.2.1, fun j => if j = k then u1 else X.2.2 j) ++ (mW cI cZ ma Y ++ oW cL ou f)) [.int (nI k)] [] Bd ⟨gi_app (gi_c0 k_318 (gi_c0 k_319 (gi_c0 k_320 (gi_c0 k_1 gi_nil)))) (gi_tb0 k_321), rfl, by decide, by decide⟩ (show (parseMethodDescriptor "(I)Z").map (fun d => d.parameters.length) = some 1 by decide +kernel) (CI.view k hk (v_cutD X.1 X.2.1 (A k) (X.2.2 k) k  hk (hvf9 k hk) hcX.1 (hcX.2 k) hc)) (by decide +kernel) ⟨by show 106 + i + 0 ≤ 601024; omega, by show 155700 + 6 * i + 0 ≤ 7293034; omega⟩ hG hP hD hS hA [0, 1, 2, 3, 4, 5, 6, 7, 8, 9, 10, 11, 12, 13, 14, 15, 16, 17, 18, 19, 20, 21, 22, 23, 24, 25, 26, 27, 28, 29, 30, 31, 32, 33, 34, 35, 36, 37, 38, 39, 40, 41, 42, 43, 44, 45, 46, 47, 48, 49, 50, 51, 52, 53, 54, 55, 56, 57, 58, 59, 60, 61, 62, 63, 64, 65, 66, 67, 68, 69, 70, 71, 72, 73, 74, 75, 76, 77, 78, 79, 80, 81, 82] [83, 84, 85, 86, 87, 88, 89, 90, 91, 92, 93, 94, 95, 96, 97, 98, 99, 100, 101, 102, 103, 104, 105] [23, 24, 25, 26, 27, 28, 29, 30, 31, 32, 33, 34, 35, 36, 37, 38, 39, 40, 41, 42, 43, 44, 45, 46, 47, 48, 49, 50, 51, 52, 53, 54, 55, 56, 57, 58, 59, 60, 61, 62, 63, 64, 65, 66, 67, 68, 69, 70, 71, 72, 73, 74, 75, 76, 77, 78, 79, 80, 81, 82, 83, 84, 85, 86, 87, 88, 89, 90, 91, 92, 93, 94, 95, 96, 97, 98, 99, 100, 101, 102, 103, 104, 105, 0, 1, 2, 3, 4, 5, 6, 7, 8, 9, 10, 11, 12, 13, 14, 15, 16, 17, 18, 19, 20, 21, 22] ok_c (wl_c1 _ _ _) (wl_c2 _ _ _) (fun _ => wl_c3 _ _ _) (q0 := 0) rfl rfl rfl hl.1 rfl (Nat.le_of_ble_eq_true rfl) d_Law_law_352 (fun r1 u1 H locs hp1 hP hD hS => ?_)
  have hP : va_P D classes (cW cI cV ba A vf (X.1, X.2.1, fun j => if j = k then u1 else X.2.2 j) ++ (mW cI cZ ma Y ++ oW cL ou f)) H := hP
  have hD : va_D (fun q : Nat => s.heap.size ≤ q) (cW cI cV ba A vf (X.1, X.2.1, fun j => if j = k then u1 else X.2.2 j) ++ (mW cI cZ ma Y ++ oW cL ou f)) := hD
  refine lv_pop hx hb d_Law_law_355 rfl ?_
  refine lv_aload_n hx hb d_Law_law_356 rfl (lv_at hl 2 rfl) ?_
  refine lv_aload_n hx hb d_Law_law_357 rfl (lv_at hl 0 rfl) ?_
  refine lv_iload hx hb d_Law_law_358 (lv_at hl 4 rfl) ?_
  refine lv_iconst (v := nI 1) hx hb d_Law_law_360 (by decide) ?_
  refine nv_iadd hx hb d_Law_law_361 ?_
  refine va_sld hx hb hX hbl hbA hS (vp_in_nI (show 6 * i + 1 < L by omega) (by omega)) d_Law_law_362 ?_
  refine nv_top (y := (nI k)) ((congrArg xs (nI_clamp (by omega))).trans e1) ?_
  refine kV_i (wc := mW cI cZ ma Y) (wr := cW cI cV ba A vf (X.1, X.2.1, fun j => if j = k then u1 else X.2.2 j) ++ oW cL ou f) (w2 := fun u2 => cW cI cV ba A vf (X.1, X.2.1, fun j => if j = k then u1 else X.2.2 j) ++ (mW cI cZ ma u2 ++ oW cL ou f)) [.int (nI k)] [] Bd ⟨gi_app (gi_c0 k_756 (gi_c0 k_757 (gi_c0 k_758 (gi_c0 k_10 gi_nil)))) (gi_tb0 k_759), rfl, by decide, by decide⟩ (show (parseMethodDescriptor "(I)Z").map (fun d => d.parameters.length) = some 1 by decide +kernel) (m_cutI Y k hmY hk hcm) (by decide +kernel) ⟨by show 106 + i + 0 ≤ 601024; omega, by show 155700 + 6 * i + 0 ≤ 7293034; omega⟩ hG hP hD hS hA [83, 84, 85, 86, 87, 88, 89, 90, 91, 92, 93, 94, 95, 96, 97, 98, 99, 100, 101, 102, 103, 104] [0, 1, 2, 3, 4, 5, 6, 7, 8, 9, 10, 11, 12, 13, 14, 15, 16, 17, 18, 19, 20, 21, 22, 23, 24, 25, 26, 27, 28, 29, 30, 31, 32, 33, 34, 35, 36, 37, 38, 39, 40, 41, 42, 43, 44, 45, 46, 47, 48, 49, 50, 51, 52, 53, 54, 55, 56, 57, 58, 59, 60, 61, 62, 63, 64, 65, 66, 67, 68, 69, 70, 71, 72, 73, 74, 75, 76, 77, 78, 79, 80, 81, 82, 105] [0, 1, 2, 3, 4, 5, 6, 7, 8, 9, 10, 11, 12, 13, 14, 15, 16, 17, 18, 19, 20, 21, 22, 23, 24, 25, 26, 27, 28, 29, 30, 31, 32, 33, 34, 35, 36, 37, 38, 39, 40, 41, 42, 43, 44, 45, 46, 47, 48, 49, 50, 51, 52, 53, 54, 55, 56, 57, 58, 59, 60, 61, 62, 63, 64, 65, 66, 67, 68, 69, 70, 71, 72, 73, 74, 75, 76, 77, 78, 79, 80, 81, 82, 84, 85, 86, 87, 88, 89, 90, 91, 92, 93, 94, 95, 96, 97, 98, 99, 100, 101, 102, 103, 104, 105, 83] ok_m (wl_m1 _ _ _) (wl_m2 _ _ _) (fun _ => wl_m3 _ _ _) (q0 := 0) rfl rfl rfl hl.1 rfl (Nat.le_of_ble_eq_true rfl) d_Law_law_363 (fun r2 u2 H locs hp2 hP hD hS => ?_)
  have hP : va_P D classes (cW cI cV ba A vf (X.1, X.2.1, fun j => if j = k then u1 else X.2.2 j) ++ (mW cI cZ ma u2 ++ oW cL ou f)) H := hP
  have hD : va_D (fun q : Nat => s.heap.size ≤ q) (cW cI cV ba A vf (X.1, X.2.1, fun j => if j = k then u1 else X.2.2 j) ++ (mW cI cZ ma u2 ++ oW cL ou f)) := hD
  refine lv_pop hx hb d_Law_law_366 rfl ?_
  refine lv_goto (tgt := 669) hx hb d_Law_law_367 (by decide) ?_
  refine W.widen (k := 106 + (i + 1)) (n := 155700 + 6 * (i + 1)) (by show 106 + i ≤ 106 + (i + 1); omega) (by show 155700 + 6 * i ≤ 155700 + 6 * (i + 1); omega) ?_
  exact hN (X.1, X.2.1, fun j => if j = k then u1 else X.2.2 j) u2 f H locs _ (cOk.view hcX hp1) (hp2.1) (by omega) (hp2.2.trans hnb) hP hD hS (lv_sub hl [0, 1, 2, 3, 4] rfl)
set_option maxHeartbeats 8000000 in
set_option maxRecDepth 100000 in
theorem lf_join01 {p : Program} {l : Launch} {e : Env} {s : State} {m : MethodId} {below : List Frame} {meth : Method} {c : Code} {D : va_G} {cI cZ cL cV : ClassId} {b L : Nat} {xs : Nat → Int32} {H : Heap} {locs : List Loc} {ls : Array Slot} (ba : Nat → Nat) (A : Nat → Nat → Nat) (vf : Nat → Option Nat) (ma : Nat → Nat) (ou : Nat) (X : CS) (Y : MS) (f : Nat → Int64) (i : Nat) (k : Nat) (hL : L ≤ 3072) (hi : 6 * i + 6 ≤ L) (C0 : lw_At p s m meth c b L xs) (hst : l.stackTraces = false) (hXo : xOk (fun q : Nat => s.heap.size ≤ q) s s.heap) (hG : gk classes NW D (TYS cI cZ cL cV) s) (hvf9 : ∀ k, k < 3 → vf k = some (A k 0)) (hcX : cOk X) (hmY : mOk Y) (hnX : X.1 ≤ i) (hnb : Y.2.2.2 1 = nI X.1) (e1 : xs (6 * i + 1) = nI k) (hk : k < 3) (hc : (X.2.2 k).1 0 = 0) (hcm : Y.2.1 10 k ≠ 0) (hP : va_P D classes (cW cI cV ba A vf X ++ (mW cI cZ ma Y ++ oW cL ou f)) H) (hD : va_D (fun q : Nat => s.heap.size ≤ q) (cW cI cV ba A vf X ++ (mW cI cZ ma Y ++ oW cL ou f))) (hS : va_S (fun q : Nat => s.heap.size ≤ q) s.heap H locs) (hl : lv_has ls 7 [(0, .ref b), (1, .ref (ba 0)), (2, .ref (ma 0)), (3, .ref ou), (4, .int (nI (6 * i)))]) (hN : LN p l e s m below meth c D cI cZ cL cV b ba A vf ma ou i) : W p l e room_1 s m #[Value.ref b] below meth c H locs (106 + i) (155700 + 6 * i) (lw_Z below #[Value.ref b] s) (F0 m 320 ls []) := by
  obtain ⟨hx, hb, hr, hml, hown, hts, hX, hbl, hlocks, hgv⟩ := id C0
  have hA : ∀ q : Nat, s.heap.size ≤ q → (fun q : Nat => s.heap.size ≤ q) q := fun _ h => h
  have hbA : ¬ (fun q : Nat => s.heap.size ≤ q) b := Nat.not_le.mpr hbl
  have htb : ∀ w ∈ TB, w.before #[Value.ref b] s = true := fun w hw => hts w (List.mem_filter.mp hw).1
  have Bd : bd p c code 7 s #[Value.ref b] TB "TileScreenLaw" m := ⟨hx, hb, hml, hown, htb⟩
  refine lv_aload_n hx hb d_Law_law_320 rfl (lv_at hl 1 rfl) ?_
  refine lv_aload_n hx hb d_Law_law_321 rfl (lv_at hl 0 rfl) ?_
  refine lv_iload hx hb d_Law_law_322 (lv_at hl 4 rfl) ?_
  refine lv_iconst (v := nI 1) hx hb d_Law_law_324 (by decide) ?_
  refine nv_iadd hx hb d_Law_law_325 ?_
  refine va_sld hx hb hX hbl hbA hS (vp_in_nI (show 6 * i + 1 < L by omega) (by omega)) d_Law_law_326 ?_
  refine nv_top (y := (nI k)) ((congrArg xs (nI_clamp (by omega))).trans e1) ?_
  refine kV_i (wc := cW cI cV ba A vf X) (wr := mW cI cZ ma Y ++ oW cL ou f) (w2 := fun u1 => cW cI cV ba A vf (X.1, X.2.1, fun j => if j = k then u1 else X.2.2 j) ++ (mW cI cZ ma Y ++ oW cL ou f)) [.int (nI k)] [] Bd ⟨gi_app (gi_c0 k_302 (gi_c0 k_303 (gi_c0 k_304 (gi_c0 k_1 gi_nil)))) (gi_tb0 k_305), rfl, by decide, by decide⟩ (show (parseMethodDescriptor "(I)Z").map (fun d => d.parameters.length) = some 1 by decide +kernel) (CI.view k hk (v_join X.1 X.2.1 (A k) (X.2.2 k) k  hk (hvf9 k hk) hcX.1 (hcX.2 k) hc)) (by decide +kernel) ⟨by show 106 + i + 0 ≤ 601024; omega, by show 155700 + 6 * i + 0 ≤ 7293034; omega⟩ hG hP hD hS hA [0, 1, 2, 3, 4, 5, 6, 7, 8, 9, 10, 11, 12, 13, 14, 15, 16, 17, 18, 19, 20, 21, 22, 23, 24, 25, 26, 27, 28, 29, 30, 31, 32, 33, 34, 35, 36, 37, 38, 39, 40, 41, 42, 43, 44, 45, 46, 47, 48, 49, 50, 51, 52, 53, 54, 55, 56, 57, 58, 59, 60, 61, 62, 63, 64, 65, 66, 67, 68, 69, 70, 71, 72, 73, 74, 75, 76, 77, 78, 79, 80, 81, 82] [83, 84, 85, 86, 87, 88, 89, 90, 91, 92, 93, 94, 95, 96, 97, 98, 99, 100, 101, 102, 103, 104, 105] [23, 24, 25, 26, 27, 28, 29, 30, 31, 32, 33, 34, 35, 36, 37, 38, 39, 40, 41, 42, 43, 44, 45, 46, 47, 48, 49, 50, 51, 52, 53, 54, 55, 56, 57, 58, 59, 60, 61, 62, 63, 64, 65, 66, 67, 68, 69, 70, 71, 72, 73, 74, 75, 76, 77, 78, 79, 80, 81, 82, 83, 84, 85, 86, 87, 88, 89, 90, 91, 92, 93, 94, 95, 96, 97, 98, 99, 100, 101, 102, 103, 104, 105, 0, 1, 2, 3, 4, 5, 6, 7, 8, 9, 10, 11, 12, 13, 14, 15, 16, 17, 18, 19, 20, 21, 22] ok_c (wl_c1 _ _ _) (wl_c2 _ _ _) (fun _ => wl_c3 _ _ _) (q0 := 0) rfl rfl rfl hl.1 rfl (Nat.le_of_ble_eq_true rfl) d_Law_law_327 (fun r1 u1 H locs hp1 hP hD hS => ?_)
  have hP : va_P D classes (cW cI cV ba A vf (X.1, X.2.1, fun j => if j = k then u1 else X.2.2 j) ++ (mW cI cZ ma Y ++ oW cL ou f)) H := hP
  have hD : va_D (fun q : Nat => s.heap.size ≤ q) (cW cI cV ba A vf (X.1, X.2.1, fun j => if j = k then u1 else X.2.2 j) ++ (mW cI cZ ma Y ++ oW cL ou f)) := hD
  refine lv_pop hx hb d_Law_law_330 rfl ?_
  refine lv_aload_n hx hb d_Law_law_331 rfl (lv_at hl 2 rfl) ?_
  refine lv_aload_n hx hb d_Law_law_332 rfl (lv_at hl 0 rfl) ?_
  refine lv_iload hx hb d_Law_law_333 (lv_at hl 4 rfl) ?_
  refine lv_iconst (v := nI 1) hx hb d_Law_law_335 (by decide) ?_
  refine nv_iadd hx hb d_Law_law_336 ?_
  refine va_sld hx hb hX hbl hbA hS (vp_in_nI (show 6 * i + 1 < L by omega) (by omega)) d_Law_law_337 ?_
  refine nv_top (y := (nI k)) ((congrArg xs (nI_clamp (by omega))).trans e1) ?_
  refine kV_i (wc := mW cI cZ ma Y) (wr := cW cI cV ba A vf (X.1, X.2.1, fun j => if j = k then u1 else X.2.2 j) ++ oW cL ou f) (w2 := fun u2 => cW cI cV ba A vf (X.1, X.2.1, fun j => if j = k then u1 else X.2.2 j) ++ (mW cI cZ ma u2 ++ oW cL ou f)) [.int (nI k)] [] Bd ⟨gi_app (gi_c0 k_749 (gi_c0 k_750 (gi_c0 k_751 (gi_c0 k_10 gi_nil)))) (gi_tb0 k_752), rfl, by decide, by decide⟩ (show (parseMethodDescriptor "(I)Z").map (fun d => d.parameters.length) = some 1 by decide +kernel) (m_joinI Y k hmY hk hcm) (by decide +kernel) ⟨by show 106 + i + 0 ≤ 601024; omega, by show 155700 + 6 * i + 0 ≤ 7293034; omega⟩ hG hP hD hS hA [83, 84, 85, 86, 87, 88, 89, 90, 91, 92, 93, 94, 95, 96, 97, 98, 99, 100, 101, 102, 103, 104] [0, 1, 2, 3, 4, 5, 6, 7, 8, 9, 10, 11, 12, 13, 14, 15, 16, 17, 18, 19, 20, 21, 22, 23, 24, 25, 26, 27, 28, 29, 30, 31, 32, 33, 34, 35, 36, 37, 38, 39, 40, 41, 42, 43, 44, 45, 46, 47, 48, 49, 50, 51, 52, 53, 54, 55, 56, 57, 58, 59, 60, 61, 62, 63, 64, 65, 66, 67, 68, 69, 70, 71, 72, 73, 74, 75, 76, 77, 78, 79, 80, 81, 82, 105] [0, 1, 2, 3, 4, 5, 6, 7, 8, 9, 10, 11, 12, 13, 14, 15, 16, 17, 18, 19, 20, 21, 22, 23, 24, 25, 26, 27, 28, 29, 30, 31, 32, 33, 34, 35, 36, 37, 38, 39, 40, 41, 42, 43, 44, 45, 46, 47, 48, 49, 50, 51, 52, 53, 54, 55, 56, 57, 58, 59, 60, 61, 62, 63, 64, 65, 66, 67, 68, 69, 70, 71, 72, 73, 74, 75, 76, 77, 78, 79, 80, 81, 82, 84, 85, 86, 87, 88, 89, 90, 91, 92, 93, 94, 95, 96, 97, 98, 99, 100, 101, 102, 103, 104, 105, 83] ok_m (wl_m1 _ _ _) (wl_m2 _ _ _) (fun _ => wl_m3 _ _ _) (q0 := 0) rfl rfl rfl hl.1 rfl (Nat.le_of_ble_eq_true rfl) d_Law_law_338 (fun r2 u2 H locs hp2 hP hD hS => ?_)
  have hP : va_P D classes (cW cI cV ba A vf (X.1, X.2.1, fun j => if j = k then u1 else X.2.2 j) ++ (mW cI cZ ma u2 ++ oW cL ou f)) H := hP
  have hD : va_D (fun q : Nat => s.heap.size ≤ q) (cW cI cV ba A vf (X.1, X.2.1, fun j => if j = k then u1 else X.2.2 j) ++ (mW cI cZ ma u2 ++ oW cL ou f)) := hD
  refine lv_pop hx hb d_Law_law_341 rfl ?_
  refine lv_goto (tgt := 669) hx hb d_Law_law_342 (by decide) ?_
  refine W.widen (k := 106 + (i + 1)) (n := 155700 + 6 * (i + 1)) (by show 106 + i ≤ 106 + (i + 1); omega) (by show 155700 + 6 * i ≤ 155700 + 6 * (i + 1); omega) ?_
  exact hN (X.1, X.2.1, fun j => if j = k then u1 else X.2.2 j) u2 f H locs _ (cOk.view hcX hp1) (hp2.1) (by omega) (hp2.2.trans hnb) hP hD hS (lv_sub hl [0, 1, 2, 3, 4] rfl)
end
