section
variable {l : Launch} {D : va_G} {cI cZ cL cV : ClassId}
set_option maxHeartbeats 400000 in
set_option maxRecDepth 100000 in
theorem c_Display_numberAbove (f9 : Int64) (p9 : Int32) : CJ (S := Unit) l classes NW D (TYS cI cZ cL cV) y_Display_numberAbove (.code y_Display_numberAbove b_Display_numberAbove 3 (some .long) :: TB) { frames := 0, cells := 0, slots := 0, locals := 0 } [.long f9, .int p9] [] (fun r u => True) (fun u => []) := by
  refine CJ.of (by decide) (Nat.le_of_ble_eq_true rfl) ?_
  intro pr ev sT mM aR bW mE cO AA QQ ls Bd hG hA hP hD hS hl hret
  have Bd : bd pr cO b_Display_numberAbove 3 sT aR TB "TileScreen$Display" mM := Bd
  obtain ⟨hx, hb, hml, hown, htb⟩ := id Bd
  have hl : lv_has ls 3 [(0, .long f9), (2, .int p9)] := hl
  refine lv_lload_n hx hb d_Display_numberAbove_0 rfl (lv_at hl 0 rfl) ?_
  refine lv_lconst (v := 1) hx hb d_Display_numberAbove_1 rfl ?_
  refine lv_ladd hx hb d_Display_numberAbove_2 ?_
  refine lv_iload_n hx hb d_Display_numberAbove_3 rfl (lv_at hl 1 rfl) ?_
  refine lv_i2l (v := (p9).toInt64) hx hb d_Display_numberAbove_4 rfl ?_
  refine lv_lload_n hx hb d_Display_numberAbove_5 rfl (lv_at hl 0 rfl) ?_
  refine lv_lsub hx hb d_Display_numberAbove_6 ?_
  refine lv_lconst (v := 1) hx hb d_Display_numberAbove_7 rfl ?_
  refine lv_lsub hx hb d_Display_numberAbove_8 ?_
  refine lv_ldc2 (v := 65535) hx hb hown (htb _ k_496) d_Display_numberAbove_9 ?_
  refine lv_land hx hb d_Display_numberAbove_12 ?_
  refine lv_ladd hx hb d_Display_numberAbove_13 ?_
  exact hret _ () _ _ _ _ d_Display_numberAbove_14 trivial hP hD hS
end
