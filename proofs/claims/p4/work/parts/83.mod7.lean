section
variable {l : Launch} {D : va_G} {cI cZ cL cV : ClassId}
theorem up_up (F : Nat → Nat) (k x y : Nat) : up (up F k x) k y = up F k y := by
  funext j
  unfold up
  by_cases h : j = k
  · rw [if_pos h, if_pos h]
  · rw [if_neg h, if_neg h, if_neg h]
theorem up_le {F G : Nat → Nat} (h : ∀ j, F j ≤ G j) {k x : Nat} (hx : x ≤ G k) : ∀ j, up F k x j ≤ G j := fun j => by
  by_cases e : j = k
  · rw [e, up_s]; exact hx
  · rw [up_n _ _ e]; exact h j
theorem up_le2 {F G : Nat → Nat} (h : ∀ j, F j ≤ G j) {k x y : Nat} (hx : x ≤ y) : ∀ j, up F k x j ≤ up G k y j := fun j => by
  by_cases e : j = k
  · rw [e, up_s, up_s]; exact hx
  · rw [up_n _ _ e, up_n _ _ e]; exact h j
theorem upd_s (f : Nat → Int32) (k : Nat) (x : Int32) : upd f k x k = x := if_pos rfl
theorem lenC_le {cs ru kd : Nat} (hc : cs ≤ 64) (hr : ru ≤ 64) : lenC cs ru kd ≤ 193 := by
  unfold lenC
  split <;> omega
theorem c_Mod_sendU (mo : Nat) (cd : Int32) (rpx : Nat) (nb : Int32) (rca : Nat) (rpl : Nat) (rth : Nat) (rco : Nat) (rsh : Nat) (rsf : Nat) (rcr : Nat) (rep : Nat) (rby : Nat) (rli : Nat) (rls : Nat) (rla : Nat) (rcm : Nat) (rcs : Nat) (rpa : Nat) (rpm : Nat) (rpo : Nat) (rti : Nat) (rre : Nat) (rcl : Nat) (sz : Nat) (cs : Nat) (nx : Nat) (la : Nat) (Li : Nat → Nat) (Ls : Nat → Nat) (v : Nat) (n9 : Nat) (b9 : Int32) (hv : v < 3) (hl9 : n9 < 6247) : CV (S := Unit) l classes NW D (TYS cI cZ cL cV) y_Mod_send (.code y_Mod_send b_Mod_send 3 none :: TB) { frames := 0, cells := 0, slots := 0, locals := 0 } [.ref mo, .int (nI v), .int b9] [(mo, .inr (9, [.int cd, .ref rpx, .int nb, .ref rca, .ref rpl, .ref rth, .ref rco, .ref rsh, .ref rsf, .ref rcr, .ref rep, .ref rby, .ref rli, .ref rls, .ref rla, .ref rcm, .ref rcs, .ref rpa, .ref rpm, .ref rpo, .ref rti, .ref rre, .ref rcl, .int (nI sz), .int (nI cs), .int (nI nx), .int (nI la)])), (rli, .inl (cI, 18741, .inl (nF Li))), (rls, .inl (cI, 3, .inl (nF (up Ls v n9))))] (fun u => True) (fun u => [(mo, .inr (9, [.int cd, .ref rpx, .int nb, .ref rca, .ref rpl, .ref rth, .ref rco, .ref rsh, .ref rsf, .ref rcr, .ref rep, .ref rby, .ref rli, .ref rls, .ref rla, .ref rcm, .ref rcs, .ref rpa, .ref rpm, .ref rpo, .ref rti, .ref rre, .ref rcl, .int (nI sz), .int (nI cs), .int (nI nx), .int (nI la)])), (rli, .inl (cI, 18741, .inl (nF (up Li (6247 * v + n9) (mk8 b9))))), (rls, .inl (cI, 3, .inl (nF (up Ls v (n9 + 1)))))]) := by
  refine CV.conseq (c_Mod_send mo cd rpx nb rca rpl rth rco rsh rsf rcr rep rby rli rls rla rcm rcs rpa rpm rpo rti rre rcl sz cs nx la Li (up Ls v n9) v b9 hv (by rw [up_s]; exact hl9)) (fun u _ => ⟨(), trivial, ?_⟩)
  rw [up_s, up_up]
theorem c_Mod_writeK (mo : Nat) (cd : Int32) (rpx : Nat) (nb : Int32) (rca : Nat) (rpl : Nat) (rth : Nat) (rco : Nat) (rsh : Nat) (rsf : Nat) (rcr : Nat) (rep : Nat) (rby : Nat) (rli : Nat) (rls : Nat) (rla : Nat) (rcm : Nat) (rcs : Nat) (rpa : Nat) (rpm : Nat) (rpo : Nat) (rti : Nat) (rre : Nat) (rcl : Nat) (sz : Nat) (cs : Nat) (nx : Nat) (la : Nat) (Px : Nat → Nat) (Th : Nat → Nat) (Ca : Nat → Nat) (Ti : Nat → Nat) (Re : Nat → Nat) (Co : Nat → Nat) (v : Nat) (t : Nat) (kd : Nat) (hv : v < 3) (ht : t < 48) (bPx : ∀ j, Px j < 65536) (bTh : ∀ j, Th j < 2) (bCa : ∀ j, Ca j < 65536) (bTi : ∀ j, Ti j < 65536) (bCo : ∀ j, Co j < 65536) (hcs : cs ≤ 64) (hkd : kd < 7) : CI (S := Nat × Nat × (Nat → Nat)) l classes NW D (TYS cI cZ cL cV) y_Mod_write (.code y_Mod_write b_Mod_write 7 (some .boolean) :: TB) { frames := 3, cells := 0, slots := 0, locals := 90 } [.ref mo, .int (nI kd), .int (nI v), .int (nI t)] [(mo, .inr (9, [.int cd, .ref rpx, .int nb, .ref rca, .ref rpl, .ref rth, .ref rco, .ref rsh, .ref rsf, .ref rcr, .ref rep, .ref rby, .ref rli, .ref rls, .ref rla, .ref rcm, .ref rcs, .ref rpa, .ref rpm, .ref rpo, .ref rti, .ref rre, .ref rcl, .int (nI sz), .int (nI cs), .int (nI nx), .int (nI la)])), (rpx, .inl (cI, 30720, .inl (nF Px))), (rth, .inl (cZ, 96, .inl (nF Th))), (rca, .inl (cI, 6144, .inl (nF Ca))), (rti, .inl (cI, 64, .inl (nF Ti))), (rre, .inl (cI, 256, .inl (nF Re))), (rcl, .inl (cI, 64, .inl (nF Co)))] (fun r u => r = nI u.1 ∧ u.1 ≤ 1 ∧ (u.1 = 1 → u.2.1 = 2 + lenC cs (runsN Ti 64) kd) ∧ (u.1 = 0 → u.2.1 = 2) ∧ (kd = 6 → u.1 = 1)) (fun u => [(mo, .inr (9, [.int cd, .ref rpx, .int nb, .ref rca, .ref rpl, .ref rth, .ref rco, .ref rsh, .ref rsf, .ref rcr, .ref rep, .ref rby, .ref rli, .ref rls, .ref rla, .ref rcm, .ref rcs, .ref rpa, .ref rpm, .ref rpo, .ref rti, .ref rre, .ref rcl, .int (nI u.2.1), .int (nI cs), .int (nI nx), .int (nI la)])), (rpx, .inl (cI, 30720, .inl (nF Px))), (rth, .inl (cZ, 96, .inl (nF Th))), (rca, .inl (cI, 6144, .inl (nF Ca))), (rti, .inl (cI, 64, .inl (nF Ti))), (rre, .inl (cI, 256, .inl (nF u.2.2))), (rcl, .inl (cI, 64, .inl (nF Co)))]) := by
  rcases (show kd = 0 ∨ kd = 1 ∨ kd = 2 ∨ kd = 3 ∨ kd = 4 ∨ kd = 5 ∨ kd = 6 by omega) with rfl | rfl | rfl | rfl | rfl | rfl | rfl
  · exact c_Mod_write0 mo cd rpx nb rca rpl rth rco rsh rsf rcr rep rby rli rls rla rcm rcs rpa rpm rpo rti rre rcl sz cs nx la Px Th Ca Ti Re Co v t hv ht bPx bTh bCa bTi bCo hcs
  · exact c_Mod_write1 mo cd rpx nb rca rpl rth rco rsh rsf rcr rep rby rli rls rla rcm rcs rpa rpm rpo rti rre rcl sz cs nx la Px Th Ca Ti Re Co v t hv ht bPx bTh bCa bTi bCo hcs
  · exact c_Mod_write2 mo cd rpx nb rca rpl rth rco rsh rsf rcr rep rby rli rls rla rcm rcs rpa rpm rpo rti rre rcl sz cs nx la Px Th Ca Ti Re Co v t hv ht bPx bTh bCa bTi bCo hcs
  · exact c_Mod_write3 mo cd rpx nb rca rpl rth rco rsh rsf rcr rep rby rli rls rla rcm rcs rpa rpm rpo rti rre rcl sz cs nx la Px Th Ca Ti Re Co v t hv ht bPx bTh bCa bTi bCo hcs
  · exact c_Mod_write4 mo cd rpx nb rca rpl rth rco rsh rsf rcr rep rby rli rls rla rcm rcs rpa rpm rpo rti rre rcl sz cs nx la Px Th Ca Ti Re Co v t hv ht bPx bTh bCa bTi bCo hcs
  · exact c_Mod_write5 mo cd rpx nb rca rpl rth rco rsh rsf rcr rep rby rli rls rla rcm rcs rpa rpm rpo rti rre rcl sz cs nx la Px Th Ca Ti Re Co v t hv ht bPx bTh bCa bTi bCo hcs
  · exact c_Mod_write6 mo cd rpx nb rca rpl rth rco rsh rsf rcr rep rby rli rls rla rcm rcs rpa rpm rpo rti rre rcl sz cs nx la Px Th Ca Ti Re Co v t hv ht bPx bTh bCa bTi bCo hcs
end
