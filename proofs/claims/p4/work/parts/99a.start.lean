theorem nw_of {w : Cond} {A : Array Value} {U : State} (h2 : nw_ok w = true) (h : w.before A U = true) : va_Nw w U := by
  cases w with
  | fieldLinkNest => exact va_Nw.of rfl h
  | methodLinkNest => exact va_Nw.of rfl h
  | castable => exact va_Nw.of rfl h
  | arrayOver ty => cases ty with
    | object C => exact va_AO.of h
    | _ => exact Bool.noConfusion h2
  | _ => exact Bool.noConfusion h2
theorem arr_of {args : Array Value} {s : State} {t : FieldType} (h : (Cond.arrayClass t).before args s = true) : ∃ c : ClassId, ArrOfT s c t ∧ s.vm.findClass ("[" ++ t.toString) = some c := by
  obtain ⟨c, k, comp, h1, h2, h3⟩ := Cond.arrayClass_spec h
  exact ⟨c, fun N z => ⟨(fun q hq => by cases hq), k, h2, comp, h3⟩, h1⟩
theorem law_gk {s : State} {b : Nat} (hts : ∀ w ∈ lw_tbl, w.before #[Value.ref b] s = true) : ∃ (D : va_G) (cI cZ cL cV : ClassId), gk classes NW D (TYS cI cZ cL cV) s := by
  have htb : ∀ w ∈ TB, w.before #[Value.ref b] s = true := fun w hw => hts w (List.mem_filter.mp hw).1
  obtain ⟨c0, iS0, hKn0⟩ := u_known (C := "TileScreen$Tiles") (T := F_Tiles) (N := 2) (n := 2) htb i_Tiles (htb _ k_27)
  obtain ⟨c1, iS1, hKn1⟩ := u_known (C := "TileScreen$Cache") (T := F_Cache) (N := 3) (n := 3) htb i_Cache (htb _ k_56)
  obtain ⟨c2, iS2, hKn2⟩ := u_known (C := "TileScreen$Line") (T := F_Line) (N := 3) (n := 3) htb i_Line (htb _ k_79)
  obtain ⟨c3, iS3, hKn3⟩ := u_known (C := "TileScreen$Poisons") (T := F_Poisons) (N := 3) (n := 3) htb i_Poisons (htb _ k_198)
  obtain ⟨c4, iS4, hKn4⟩ := u_known (C := "TileScreen$Look") (T := F_Look) (N := 3) (n := 3) htb i_Look (htb _ k_98)
  obtain ⟨c5, iS5, hKn5⟩ := u_known (C := "TileScreen$Feed") (T := F_Feed) (N := 8) (n := 8) htb i_Feed (htb _ k_48)
  obtain ⟨c6, iS6, hKn6⟩ := u_known (C := "TileScreen$Display") (T := F_Display) (N := 10) (n := 10) htb i_Display (htb _ k_151)
  obtain ⟨c7, iS7, hKn7⟩ := u_known (C := "TileScreen$Viewer") (T := F_Viewer) (N := 6) (n := 6) htb i_Viewer (htb _ k_42)
  obtain ⟨c8, iS8, hKn8⟩ := u_known (C := "TileScreen") (T := F_Scr) (N := 5) (n := 5) htb i_Scr (htb _ k_19)
  obtain ⟨c9, iS9, hKn9⟩ := u_known (C := "TileScreenModel") (T := F_Mod) (N := 27) (n := 27) htb i_Mod (htb _ k_630)
  obtain ⟨cI, aI, fI⟩ := arr_of (htb _ k_39)
  obtain ⟨cZ, aZ, fZ⟩ := arr_of (htb _ k_717)
  obtain ⟨cL, aL, fL⟩ := arr_of (htb _ k_877)
  have hnw : ∀ w ∈ NW, nw_ok w = true ∧ va_Nw w s := fun w hw => ⟨(List.mem_filter.mp hw).2, nw_of (List.mem_filter.mp hw).2 (hts w (List.mem_append_right _ (List.mem_filter.mp hw).1))⟩
  obtain ⟨comp, cV, kV, v1, -, v2, v3, v4⟩ := Cond.arrayOver_spec (hnw _ k_41).2
  refine ⟨(fun k => [c0, c1, c2, c3, c4, c5, c6, c7, c8, c9].getD k c0, fun k => [iS0, iS1, iS2, iS3, iS4, iS5, iS6, iS7, iS8, iS9].getD k iS0), cI, cZ, cL, cV, ⟨?_, ?_⟩, hnw⟩
  · intro k q hq
    match k, hq with
    | 0, hq => cases hq; exact hKn0
    | 1, hq => cases hq; exact hKn1
    | 2, hq => cases hq; exact hKn2
    | 3, hq => cases hq; exact hKn3
    | 4, hq => cases hq; exact hKn4
    | 5, hq => cases hq; exact hKn5
    | 6, hq => cases hq; exact hKn6
    | 7, hq => cases hq; exact hKn7
    | 8, hq => cases hq; exact hKn8
    | 9, hq => cases hq; exact hKn9
    | k + 10, hq => simp [classes] at hq
  · intro k q hq
    match k, hq with
    | 0, hq => cases hq; exact ⟨aI, fI⟩
    | 1, hq => cases hq; exact ⟨aZ, fZ⟩
    | 2, hq => cases hq; exact ⟨aL, fL⟩
    | 3, hq => cases hq; exact ⟨fun N z => ⟨(fun q hq => by cases hq), kV, v2, comp, v3⟩, kV, comp, v2, v3, v1, v4⟩
    | k + 4, hq => simp [TYS] at hq
