section
variable {l : Launch} {D : va_G} {cI cZ cL cV : ClassId}
theorem cmA_pos {q : Nat → Nat} : ∀ (k : Nat), (∀ i, i < k → 0 < q i) → ∀ j, j < kpN q k → 0 < cmA q k j
  | 0, _, j, hj => absurd hj (Nat.not_lt_zero j)
  | k + 1, h, j, hj => by
    have ih := cmA_pos (q := q) k (fun i hi => h i (by omega))
    by_cases e : q k = 1
    · rw [cmA_1 e]; rw [kpN_1 e] at hj; exact ih j hj
    · rw [cmA_2 e]; rw [kpN_2 e] at hj
      have := h k (by omega)
      by_cases g : j = kpN q k
      · rw [g, up_s]; omega
      · rw [up_n _ _ g]; exact ih j (by omega)
theorem updL_n7 {num : Nat} {L : List Nat} : (updL num L).length = L.length + 7 := by
  unfold updL p2
  simp only [List.length_append, List.length_cons, List.length_nil]
  omega
theorem updL_lt {num : Nat} {L : List Nat} (hn : L.length ≤ 6240) (h : ∀ x ∈ L, x < 256) : ∀ x ∈ updL num L, x < 256 := by
  intro x hx
  unfold updL at hx
  rcases List.mem_append.mp hx with hx | hx
  · rcases List.mem_append.mp hx with hx | hx
    · simp only [List.mem_cons, List.not_mem_nil, or_false] at hx
      rcases hx with rfl | rfl | rfl <;> omega
    · rcases List.mem_append.mp hx with hx | hx
      · exact p2_lt _ x hx
      · exact h x hx
  · exact p2_lt _ x hx
theorem CV.conseq {S S2 : Type} {l : Launch} {cl : List vw_C} {nw : List Cond} {D : va_G} {tys : List (ClassId × FieldType)} {y : MethodName} {ws : List Cond} {rm : Room} {av : List Value} {w0 : va_W} {post : S → Prop} {w1 : S → va_W} {post2 : S2 → Prop} {w2 : S2 → va_W}
    (h : CV (S := S) l cl nw D tys y ws rm av w0 post w1) (g : ∀ u, post u → ∃ u2, post2 u2 ∧ w1 u = w2 u2) : CV (S := S2) l cl nw D tys y ws rm av w0 post2 w2 := fun sz => Met_cs (h sz) (fun _ _ q => q) (fun a s o t _ hq => by
  obtain ⟨⟨u, h1, h2, h3⟩, h4⟩ := hq
  obtain ⟨u2, p2, e⟩ := g u h2
  exact ⟨⟨u2, h1, p2, by rw [e] at h3; exact h3⟩, h4⟩) (fun _ h => h)
theorem CI.conseq {S S2 : Type} {l : Launch} {cl : List vw_C} {nw : List Cond} {D : va_G} {tys : List (ClassId × FieldType)} {y : MethodName} {ws : List Cond} {rm : Room} {av : List Value} {w0 : va_W} {post : Int32 → S → Prop} {w1 : S → va_W} {post2 : Int32 → S2 → Prop} {w2 : S2 → va_W}
    (h : CI (S := S) l cl nw D tys y ws rm av w0 post w1) (g : ∀ r u, post r u → ∃ u2, post2 r u2 ∧ w1 u = w2 u2) : CI (S := S2) l cl nw D tys y ws rm av w0 post2 w2 := fun sz => Met_cs (h sz) (fun _ _ q => q) (fun a s o t _ hq => by
  obtain ⟨⟨r, u, h1, h2, h3⟩, h4⟩ := hq
  obtain ⟨u2, p2, e⟩ := g r u h2
  exact ⟨⟨r, u2, h1, p2, by rw [e] at h3; exact h3⟩, h4⟩) (fun _ h => h)
theorem c_Feed_composeS (a : Nat) (se : Nat) (sn : Int64) (ca : Nat) (li : Nat) (co : Nat) (lo : Nat) (tw : Int32) (en : Int32) (cs9 : Nat) (sp : Nat) (S : Nat → Nat) (ct : Nat) (pl : Nat) (us : Nat) (cp : Nat) (C : Nat → Nat) (K : Nat → Nat) (lb : Nat) (fi : Nat) (sz : Nat) (B : Nat → Nat) (lp : Nat) (nc : Nat) (ru : Nat) (P : Nat → Nat) (b : Nat) (cnt : Nat) (qq : Nat) (F : Nat → Nat) (num : Nat) (hp : pl < 16) (hu : us ≤ 16) (hnum : num < 2 ^ 31) (bB : ∀ j, B j < 256) (bP : ∀ j, P j < 65536) (bF : ∀ j, F j < 65536) (bS : ∀ j, S j < 65536) (bC : ∀ j, C j < 65536) : CV (S := Int32 × Int32 × Nat × Nat × (Nat → Nat) × Nat × Nat × (Nat → Nat) × Nat × (Nat → Nat) × (Nat → Nat)) l classes NW D (TYS cI cZ cL cV) y_Feed_compose (.code y_Feed_compose b_Feed_compose 4 none :: TB) { frames := 5, cells := 0, slots := 0, locals := 114 } [.ref a, .ref b, .int (nI num)] [(a, .inr (5, [.ref se, .long sn, .ref ca, .ref li, .ref co, .ref lo, .int tw, .int en])), (se, .inr (0, [.int (nI cs9), .ref sp])), (sp, .inl (cI, 3072, .inl (nF S))), (ca, .inr (1, [.ref ct, .int (nI pl), .int (nI us)])), (ct, .inr (0, [.int (nI 16), .ref cp])), (cp, .inl (cI, 1024, .inl (nF C))), (li, .inr (2, [.ref lb, .int (nI fi), .int (nI sz)])), (lb, .inl (cI, 6247, .inl (nF B))), (co, .inl (cI, 7, .inl (nF K))), (lo, .inr (4, [.ref lp, .int (nI nc), .int (nI ru)])), (lp, .inl (cI, 4, .inl (nF P))), (b, .inr (0, [.int (nI cnt), .ref qq])), (qq, .inl (cI, 3072, .inl (nF F)))] (fun u => (∀ j, u.2.2.2.2.1 j < 65536) ∧ u.2.2.2.2.2.1 < 16 ∧ u.2.2.2.2.2.2.1 ≤ 16 ∧ (∀ j, u.2.2.2.2.2.2.2.1 j < 65536) ∧ u.2.2.2.2.2.2.2.2.1 ≤ 6247 ∧ (∀ j, u.2.2.2.2.2.2.2.2.2.1 j < 256)) (fun u => [(a, .inr (5, [.ref se, .long ((nI num).toInt64), .ref ca, .ref li, .ref co, .ref lo, .int u.1, .int u.2.1])), (se, .inr (0, [.int (nI cs9), .ref sp])), (sp, .inl (cI, 3072, .inl (nF F))), (ca, .inr (1, [.ref ct, .int (nI u.2.2.2.2.2.1), .int (nI u.2.2.2.2.2.2.1)])), (ct, .inr (0, [.int (nI 16), .ref cp])), (cp, .inl (cI, 1024, .inl (nF u.2.2.2.2.2.2.2.1))), (li, .inr (2, [.ref lb, .int (nI 0), .int (nI u.2.2.2.2.2.2.2.2.1)])), (lb, .inl (cI, 6247, .inl (nF u.2.2.2.2.2.2.2.2.2.1))), (co, .inl (cI, 7, .inl (nF u.2.2.2.2.2.2.2.2.2.2))), (lo, .inr (4, [.ref lp, .int (nI u.2.2.1), .int (nI u.2.2.2.1)])), (lp, .inl (cI, 4, .inl (nF u.2.2.2.2.1))), (b, .inr (0, [.int (nI cnt), .ref qq])), (qq, .inl (cI, 3072, .inl (nF F)))]) := by
  refine CV.conseq (c_Feed_compose a se sn ca li co lo tw en cs9 sp S ct pl us cp C K lb fi sz B lp nc ru P b cnt qq F num hp hu hnum bB bP bF bS bC) (fun u h => ⟨(u.1, u.2.1, u.2.2.1, u.2.2.2.1, u.2.2.2.2, (compX F S ([], C, pl, us, K) 48).2.2.1, (compX F S ([], C, pl, us, K) 48).2.2.2.1, (compX F S ([], C, pl, us, K) 48).2.1, (updL num (compX F S ([], C, pl, us, K) 48).1).length, wr B 0 (updL num (compX F S ([], C, pl, us, K) 48).1), (compX F S ([], C, pl, us, K) 48).2.2.2.2), ?_, rfl⟩)
  obtain ⟨g1, g2, g3, g4⟩ := compX_ok (S := S) (X0 := ([], C, pl, us, K)) bF ⟨(fun x hx => by cases hx), bC, hp, hu⟩ 48 (Nat.le_refl 48)
  have g5 := compX_len (F := F) (S := S) (X0 := ([], C, pl, us, K)) 48
  have g6 : (compX F S ([], C, pl, us, K) 48).1.length ≤ 6240 := by simpa using g5
  exact ⟨h, g3, g4, g2, by show (updL num _).length ≤ 6247; rw [updL_n7]; omega, wr_lt bB (updL_lt g6 g1)⟩
end
