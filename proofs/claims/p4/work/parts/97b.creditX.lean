section
variable {l : Launch} {D : va_G} {cI cZ cL cV : ClassId}
theorem vx_cs {l : Launch} {y : MethodName} {ws : List Cond} {rm : Room} {Pc Pc2 : Array Value → State → Prop} {Qc Qc2 : Array Value → State → Outcome → State → Prop} {XC XC2 : String → State → State → Prop} {mc ms : Nat} {free free2 : Addr → Prop} (h : vx_Met l y ws rm Pc Qc XC mc ms free) (hP : ∀ a s, Pc2 a s → Pc a s) (hQ : ∀ a s o t, Pc2 a s → vx_Q Qc XC mc ms free a s o t → vx_Q Qc2 XC2 mc ms free2 a s o t) : vx_Met l y ws rm Pc2 Qc2 XC2 mc ms free2 := by
  intro p e ha hc hk s m args below hfr hap hpc hK
  obtain ⟨n, o, h1, h2, h3, hq⟩ := h p e ha hc hk s m args below hfr hap (hP _ _ hpc) hK
  exact ⟨n, o, h1, h2, h3, hQ _ _ _ _ hpc hq⟩
theorem CX.frame {l : Launch} {cl : List vw_C} {nw : List Cond} {D : va_G} {tys : List (ClassId × FieldType)} {y : MethodName} {ws : List Cond} {rm : Room} {av : List Value} {wc wr : va_W} {E0 : String}
    (h : CX l cl nw D tys y ws rm av wc E0) (W0 : va_W) (isC isR isB : List Nat) (hok : okI isC isR isB = true) (hC : isC.map (fun i => W0[i]?) = wc.map some) (hR : isR.map (fun i => W0[i]?) = wr.map some) (hB2 : isB.map (fun i => (wr ++ wc)[i]?) = W0.map some) : CX l cl nw D tys y ws rm av W0 E0 := by
  have hF : ∀ sz q, va_A wc sz q → va_A W0 sz q := by
    intro sz q h9
    rcases h9 with ⟨k, e, hk⟩ | h9
    · have h1 : (wc.map some)[k]? = some (some (q, e)) := by rw [List.getElem?_map, hk]; rfl
      rw [← hC, List.getElem?_map] at h1
      cases h2 : isC[k]? with
      | none => rw [h2] at h1; cases h1
      | some i =>
        rw [h2] at h1
        exact Or.inl ⟨i, e, Option.some.inj h1⟩
    · exact Or.inr h9
  intro sz
  refine vx_cs (h sz) ?_ ?_
  · intro a s q
    obtain ⟨⟨q0, q1, qP, qK, qD⟩, qX⟩ := q
    exact ⟨⟨q0, q1, hP_in qP isC hC, qK, qD.sub isC (okI.ok hok).1 hC⟩, qX.narrow (hF sz)⟩
  · intro a s o t q hq
    obtain ⟨⟨q0, q1, qP, qK, qD⟩, qX⟩ := q
    rcases hq with ⟨⟨⟨r, u, ho, hp, -⟩, -⟩, -⟩ | ⟨z, ho, E, ce, L9, ⟨u, hp, ⟨hE, hP1, hD1⟩, hz, hk⟩, g1, g2, g3, g4, g5, g6⟩
    · exact hp.elim
    · subst q1
      obtain ⟨hP2, hD2⟩ := va_join qP (qD.self (sz := s.heap.size)) isC isR hC hR (okI.ok hok).2.1 (okI.ok hok).2.2.2 hk (hF s.heap.size) hP1 hD1
      exact Or.inr ⟨z, ho, E, ce, L9, ⟨u, hp, ⟨hE, hP_in hP2 isB hB2, hD2.sub isB (okI.ok hok).2.2.1 hB2⟩, hz, fun q9 h1 h2 => hk q9 h1 (fun h3 => h2 (hF _ q9 h3))⟩, g1, g2, g3, g4, g5, fun q9 h9 => hF _ _ (g6 q9 h9)⟩
set_option maxHeartbeats 4000000 in
set_option maxRecDepth 100000 in
theorem CX.view {y : MethodName} {ws : List Cond} {rm : Room} {av : List Value} {b : Nat → Nat} {A : Nat → Nat → Nat} {vf : Nat → Option Nat} {x : CS} {E0 : String} (k : Nat) (hk : k < 3)
    (h : CX l classes NW D (TYS cI cZ cL cV) y ws rm av (tW cI cV b vf x.1 x.2.1 ++ vW cI (A k) (x.2.2 k)) E0) : CX l classes NW D (TYS cI cZ cL cV) y ws rm av (cW cI cV b A vf x) E0 := by
  rcases (show k = 0 ∨ k = 1 ∨ k = 2 by omega) with rfl | rfl | rfl
  · exact CX.frame (wr := vW cI (A 1) (x.2.2 1) ++ vW cI (A 2) (x.2.2 2)) h (cW cI cV b A vf x) [0, 1, 2, 3, 4, 5, 6, 7, 8, 9, 10, 11, 12, 13, 14, 15, 16, 17, 18, 19, 20, 21, 22, 23, 24, 25, 26, 27, 28, 29, 30, 31, 32] [33, 34, 35, 36, 37, 38, 39, 40, 41, 42, 43, 44, 45, 46, 47, 48, 49, 50, 51, 52, 53, 54, 55, 56, 57, 58, 59, 60, 61, 62, 63, 64, 65, 66, 67, 68, 69, 70, 71, 72, 73, 74, 75, 76, 77, 78, 79, 80, 81, 82] [50, 51, 52, 53, 54, 55, 56, 57, 58, 59, 60, 61, 62, 63, 64, 65, 66, 67, 68, 69, 70, 71, 72, 73, 74, 75, 76, 77, 78, 79, 80, 81, 82, 0, 1, 2, 3, 4, 5, 6, 7, 8, 9, 10, 11, 12, 13, 14, 15, 16, 17, 18, 19, 20, 21, 22, 23, 24, 25, 26, 27, 28, 29, 30, 31, 32, 33, 34, 35, 36, 37, 38, 39, 40, 41, 42, 43, 44, 45, 46, 47, 48, 49] (by decide) rfl rfl rfl
  · exact CX.frame (wr := vW cI (A 0) (x.2.2 0) ++ vW cI (A 2) (x.2.2 2)) h (cW cI cV b A vf x) [0, 1, 2, 3, 4, 5, 6, 7, 33, 34, 35, 36, 37, 38, 39, 40, 41, 42, 43, 44, 45, 46, 47, 48, 49, 50, 51, 52, 53, 54, 55, 56, 57] [8, 9, 10, 11, 12, 13, 14, 15, 16, 17, 18, 19, 20, 21, 22, 23, 24, 25, 26, 27, 28, 29, 30, 31, 32, 58, 59, 60, 61, 62, 63, 64, 65, 66, 67, 68, 69, 70, 71, 72, 73, 74, 75, 76, 77, 78, 79, 80, 81, 82] [50, 51, 52, 53, 54, 55, 56, 57, 0, 1, 2, 3, 4, 5, 6, 7, 8, 9, 10, 11, 12, 13, 14, 15, 16, 17, 18, 19, 20, 21, 22, 23, 24, 58, 59, 60, 61, 62, 63, 64, 65, 66, 67, 68, 69, 70, 71, 72, 73, 74, 75, 76, 77, 78, 79, 80, 81, 82, 25, 26, 27, 28, 29, 30, 31, 32, 33, 34, 35, 36, 37, 38, 39, 40, 41, 42, 43, 44, 45, 46, 47, 48, 49] (by decide) rfl rfl rfl
  · exact CX.frame (wr := vW cI (A 0) (x.2.2 0) ++ vW cI (A 1) (x.2.2 1)) h (cW cI cV b A vf x) [0, 1, 2, 3, 4, 5, 6, 7, 58, 59, 60, 61, 62, 63, 64, 65, 66, 67, 68, 69, 70, 71, 72, 73, 74, 75, 76, 77, 78, 79, 80, 81, 82] [8, 9, 10, 11, 12, 13, 14, 15, 16, 17, 18, 19, 20, 21, 22, 23, 24, 25, 26, 27, 28, 29, 30, 31, 32, 33, 34, 35, 36, 37, 38, 39, 40, 41, 42, 43, 44, 45, 46, 47, 48, 49, 50, 51, 52, 53, 54, 55, 56, 57] [50, 51, 52, 53, 54, 55, 56, 57, 0, 1, 2, 3, 4, 5, 6, 7, 8, 9, 10, 11, 12, 13, 14, 15, 16, 17, 18, 19, 20, 21, 22, 23, 24, 25, 26, 27, 28, 29, 30, 31, 32, 33, 34, 35, 36, 37, 38, 39, 40, 41, 42, 43, 44, 45, 46, 47, 48, 49, 58, 59, 60, 61, 62, 63, 64, 65, 66, 67, 68, 69, 70, 71, 72, 73, 74, 75, 76, 77, 78, 79, 80, 81, 82] (by decide) rfl rfl rfl
set_option maxHeartbeats 4000000 in
set_option maxRecDepth 100000 in
theorem CX.no {y : MethodName} {ws : List Cond} {rm : Room} {av : List Value} {b : Nat → Nat} {A : Nat → Nat → Nat} {vf : Nat → Option Nat} {x : CS} {E0 : String}
    (h : CX l classes NW D (TYS cI cZ cL cV) y ws rm av [((b 0), .inr (8, [.ref (b 1), .ref (b 3), .ref (b 5), .ref (b 7), .int (nI x.1)]))] E0) : CX l classes NW D (TYS cI cZ cL cV) y ws rm av (cW cI cV b A vf x) E0 :=
  CX.frame (wr := List.drop 1 (cW cI cV b A vf x)) h (cW cI cV b A vf x) [0] [1, 2, 3, 4, 5, 6, 7, 8, 9, 10, 11, 12, 13, 14, 15, 16, 17, 18, 19, 20, 21, 22, 23, 24, 25, 26, 27, 28, 29, 30, 31, 32, 33, 34, 35, 36, 37, 38, 39, 40, 41, 42, 43, 44, 45, 46, 47, 48, 49, 50, 51, 52, 53, 54, 55, 56, 57, 58, 59, 60, 61, 62, 63, 64, 65, 66, 67, 68, 69, 70, 71, 72, 73, 74, 75, 76, 77, 78, 79, 80, 81, 82] [82, 0, 1, 2, 3, 4, 5, 6, 7, 8, 9, 10, 11, 12, 13, 14, 15, 16, 17, 18, 19, 20, 21, 22, 23, 24, 25, 26, 27, 28, 29, 30, 31, 32, 33, 34, 35, 36, 37, 38, 39, 40, 41, 42, 43, 44, 45, 46, 47, 48, 49, 50, 51, 52, 53, 54, 55, 56, 57, 58, 59, 60, 61, 62, 63, 64, 65, 66, 67, 68, 69, 70, 71, 72, 73, 74, 75, 76, 77, 78, 79, 80, 81] (by decide) rfl rfl rfl
set_option maxHeartbeats 4000000 in
set_option maxRecDepth 100000 in
theorem v_creditT {b : Nat → Nat} {vf : Nat → Option Nat} (hst : l.stackTraces = false) (num : Nat) (pic : Nat → Nat → Nat) (a : Nat → Nat) (x : VS) (k n : Nat) (hk : k < 3) (hv : vf k = some (a 0)) (hok : vOk x) (hn1 : 1 ≤ n) (hn2 : n ≤ 1000000) (hno : ¬ (x.1 0 ≠ 0 ∧ x.1 1 + n ≤ 1000000)) : CX l classes NW D (TYS cI cZ cL cV) y_Scr_credit (.code y_Scr_credit b_Scr_credit 4 (some .int) :: TB) { frames := 6, cells := 1, slots := 6, locals := 120 } [.ref (b 0), .int (nI k), .int (nI n)] (tW cI cV b vf num pic ++ vW cI a x) X_S :=
  CX.frame (wr := [((b 1), .inr (0, [.int (nI 48), .ref (b 2)])), ((b 2), .inl (cI, 3072, .inl (nF (pic 0)))), ((b 3), .inr (0, [.int (nI 48), .ref (b 4)])), ((b 4), .inl (cI, 3072, .inl (nF (pic 1)))), ((b 5), .inr (0, [.int (nI 48), .ref (b 6)])), ((b 6), .inl (cI, 3072, .inl (nF (pic 2)))), ((a 1), .inr (5, [.ref (a 2), .long (x.2.2.1 0), .ref (a 4), .ref (a 7), .ref (a 9), .ref (a 10), .int (x.2.2.2 0), .int (x.2.2.2 1)])), ((a 2), .inr (0, [.int (nI 48), .ref (a 3)])), ((a 3), .inl (cI, 3072, .inl (nF (x.2.1 0)))), ((a 4), .inr (1, [.ref (a 5), .int (nI (x.1 3)), .int (nI (x.1 4))])), ((a 5), .inr (0, [.int (nI 16), .ref (a 6)])), ((a 6), .inl (cI, 1024, .inl (nF (x.2.1 1)))), ((a 7), .inr (2, [.ref (a 8), .int (nI (x.1 5)), .int (nI (x.1 6))])), ((a 8), .inl (cI, 6247, .inl (nF (x.2.1 2)))), ((a 9), .inl (cI, 7, .inl (nF (x.2.1 3)))), ((a 10), .inr (4, [.ref (a 11), .int (nI (x.1 7)), .int (nI (x.1 8))])), ((a 11), .inl (cI, 4, .inl (nF (x.2.1 4)))), ((a 12), .inr (6, [.ref (a 13), .long (x.2.2.1 1), .ref (a 15), .ref (a 17), .ref (a 20), .int (nI (x.1 9)), .ref (a 21), .int (nI (x.1 10)), .int (nI (x.1 11)), .int (nI (x.1 12))])), ((a 13), .inr (0, [.int (nI 48), .ref (a 14)])), ((a 14), .inl (cI, 3072, .inl (nF (x.2.1 5)))), ((a 15), .inr (0, [.int (nI 48), .ref (a 16)])), ((a 16), .inl (cI, 3072, .inl (nF (x.2.1 6)))), ((a 17), .inr (1, [.ref (a 18), .int (nI (x.1 13)), .int (nI (x.1 14))])), ((a 18), .inr (0, [.int (nI 16), .ref (a 19)])), ((a 19), .inl (cI, 1024, .inl (nF (x.2.1 7)))), ((a 20), .inl (cI, 6247, .inl (nF (x.2.1 8)))), ((a 21), .inl (cI, 4, .inl (nF (x.2.1 9)))), ((a 22), .inr (3, [.ref (a 23), .ref (a 24), .int (nI (x.1 15))])), ((a 23), .inl (cI, 8, .inl (nF (x.2.1 10)))), ((a 24), .inl (cI, 8, .inl (nF (x.2.1 11))))]) (c_Scr_credit_st hst (b 0) (b 1) (b 3) (b 5) (b 7) num vf k (a 0) (a 1) (a 12) (a 22) (x.1 0) (x.1 1) (x.1 2) n hk hv hn1 hn2 hok.1 hok.2.1 hno) (tW cI cV b vf num pic ++ vW cI a x) [0, 7, 8] [1, 2, 3, 4, 5, 6, 9, 10, 11, 12, 13, 14, 15, 16, 17, 18, 19, 20, 21, 22, 23, 24, 25, 26, 27, 28, 29, 30, 31, 32] [30, 0, 1, 2, 3, 4, 5, 31, 32, 6, 7, 8, 9, 10, 11, 12, 13, 14, 15, 16, 17, 18, 19, 20, 21, 22, 23, 24, 25, 26, 27, 28, 29] (by decide) rfl rfl rfl
set_option maxHeartbeats 4000000 in
set_option maxRecDepth 100000 in
theorem wl_self {cI cV : ClassId} {ba : Nat → Nat} {A : Nat → Nat → Nat} {vf : Nat → Option Nat} (X : CS) : ([0, 1, 2, 3, 4, 5, 6, 7, 8, 9, 10, 11, 12, 13, 14, 15, 16, 17, 18, 19, 20, 21, 22, 23, 24, 25, 26, 27, 28, 29, 30, 31, 32, 33, 34, 35, 36, 37, 38, 39, 40, 41, 42, 43, 44, 45, 46, 47, 48, 49, 50, 51, 52, 53, 54, 55, 56, 57, 58, 59, 60, 61, 62, 63, 64, 65, 66, 67, 68, 69, 70, 71, 72, 73, 74, 75, 76, 77, 78, 79, 80, 81, 82] : List Nat).map (fun i => (cW cI cV ba A vf X)[i]?) = (cW cI cV ba A vf X).map some := rfl
set_option maxHeartbeats 4000000 in
set_option maxRecDepth 100000 in
theorem ok_v : okI [0, 1, 2, 3, 4, 5, 6, 7, 8, 9, 10, 11, 12, 13, 14, 15, 16, 17, 18, 19, 20, 21, 22, 23, 24, 25, 26, 27, 28, 29, 30, 31, 32, 33, 34, 35, 36, 37, 38, 39, 40, 41, 42, 43, 44, 45, 46, 47, 48, 49, 50, 51, 52, 53, 54, 55, 56, 57, 58, 59, 60, 61, 62, 63, 64, 65, 66, 67, 68, 69, 70, 71, 72, 73, 74, 75, 76, 77, 78, 79, 80, 81, 82, 105] [83, 84, 85, 86, 87, 88, 89, 90, 91, 92, 93, 94, 95, 96, 97, 98, 99, 100, 101, 102, 103, 104] [22, 23, 24, 25, 26, 27, 28, 29, 30, 31, 32, 33, 34, 35, 36, 37, 38, 39, 40, 41, 42, 43, 44, 45, 46, 47, 48, 49, 50, 51, 52, 53, 54, 55, 56, 57, 58, 59, 60, 61, 62, 63, 64, 65, 66, 67, 68, 69, 70, 71, 72, 73, 74, 75, 76, 77, 78, 79, 80, 81, 82, 83, 84, 85, 86, 87, 88, 89, 90, 91, 92, 93, 94, 95, 96, 97, 98, 99, 100, 101, 102, 103, 104, 0, 1, 2, 3, 4, 5, 6, 7, 8, 9, 10, 11, 12, 13, 14, 15, 16, 17, 18, 19, 20, 21, 105] = true := by decide
set_option maxHeartbeats 4000000 in
set_option maxRecDepth 100000 in
theorem wl_v1 {cI cZ cL cV : ClassId} {ba : Nat → Nat} {A : Nat → Nat → Nat} {vf : Nat → Option Nat} {ma : Nat → Nat} {ou : Nat} (X : CS) (Y : MS) (f : Nat → Int64) : ([0, 1, 2, 3, 4, 5, 6, 7, 8, 9, 10, 11, 12, 13, 14, 15, 16, 17, 18, 19, 20, 21, 22, 23, 24, 25, 26, 27, 28, 29, 30, 31, 32, 33, 34, 35, 36, 37, 38, 39, 40, 41, 42, 43, 44, 45, 46, 47, 48, 49, 50, 51, 52, 53, 54, 55, 56, 57, 58, 59, 60, 61, 62, 63, 64, 65, 66, 67, 68, 69, 70, 71, 72, 73, 74, 75, 76, 77, 78, 79, 80, 81, 82, 105] : List Nat).map (fun i => (cW cI cV ba A vf X ++ (mW cI cZ ma Y ++ oW cL ou f))[i]?) = (cW cI cV ba A vf X ++ oW cL ou f).map some := rfl
set_option maxHeartbeats 4000000 in
set_option maxRecDepth 100000 in
theorem wl_v2 {cI cZ cL cV : ClassId} {ba : Nat → Nat} {A : Nat → Nat → Nat} {vf : Nat → Option Nat} {ma : Nat → Nat} {ou : Nat} (X : CS) (Y : MS) (f : Nat → Int64) : ([83, 84, 85, 86, 87, 88, 89, 90, 91, 92, 93, 94, 95, 96, 97, 98, 99, 100, 101, 102, 103, 104] : List Nat).map (fun i => (cW cI cV ba A vf X ++ (mW cI cZ ma Y ++ oW cL ou f))[i]?) = (mW cI cZ ma Y).map some := rfl
set_option maxHeartbeats 4000000 in
set_option maxRecDepth 100000 in
theorem wl_v3 {cI cZ cL cV : ClassId} {ba : Nat → Nat} {A : Nat → Nat → Nat} {vf : Nat → Option Nat} {ma : Nat → Nat} {ou : Nat} (X : CS) (Y : MS) (f : Nat → Int64) : ([22, 23, 24, 25, 26, 27, 28, 29, 30, 31, 32, 33, 34, 35, 36, 37, 38, 39, 40, 41, 42, 43, 44, 45, 46, 47, 48, 49, 50, 51, 52, 53, 54, 55, 56, 57, 58, 59, 60, 61, 62, 63, 64, 65, 66, 67, 68, 69, 70, 71, 72, 73, 74, 75, 76, 77, 78, 79, 80, 81, 82, 83, 84, 85, 86, 87, 88, 89, 90, 91, 92, 93, 94, 95, 96, 97, 98, 99, 100, 101, 102, 103, 104, 0, 1, 2, 3, 4, 5, 6, 7, 8, 9, 10, 11, 12, 13, 14, 15, 16, 17, 18, 19, 20, 21, 105] : List Nat).map (fun i => ((mW cI cZ ma Y) ++ (cW cI cV ba A vf X ++ oW cL ou f))[i]?) = (cW cI cV ba A vf X ++ (mW cI cZ ma Y ++ oW cL ou f)).map some := rfl
end
