theorem str_at {own tx : String} {k : Nat} {A : Array Value} {U : State} (h : (Cond.stringRef own k tx).before A U = true) : ∃ a, vk_R own k tx a U := by
  have hcur : ∃ cur, U.vm.findClass own = some cur := by
    have h1 := h
    simp only [Cond.before, Cond.holds, Cond.value] at h1
    cases hc : U.vm.findClass own with
    | none => simp [hc] at h1
    | some cur => exact ⟨cur, rfl⟩
  obtain ⟨cur, hcur⟩ := hcur
  obtain ⟨k9, cf, i, a, -, -, -, -, -, he⟩ := Cond.stringRef_spec hcur h
  exact ⟨a, vk_R.of (A := A) h he⟩
theorem law_xok {s : State} {b : Nat} (hts : ∀ w ∈ lw_tbl, w.before #[Value.ref b] s = true) (hgv : (Jvm.Cond.and given_1 narrow_1).before #[Value.ref b] s = true) : xOk (fun q : Nat => s.heap.size ≤ q) s s.heap := by
  have hf := flat_of_before _ hgv
  have hw9 : ∀ w ∈ tables_1, w.before #[Value.ref b] s = true := fun w h => hts w (List.mem_append_right _ h)
  refine ⟨vx_Zqof (hw9 _ (by decide +kernel)) (hw9 _ (by decide +kernel)) (hf _ (by decide +kernel)) (fun a h => Nat.not_le.mpr h), vx_Zqof (hw9 _ (by decide +kernel)) (hw9 _ (by decide +kernel)) (hf _ (by decide +kernel)) (fun a h => Nat.not_le.mpr h), ?_, ?_, va_Nc.of (hf _ (by decide +kernel)), fun w hw => dec_of (List.mem_filter.mp hw).2 (hw9 w (List.mem_filter.mp hw).1)⟩
  · obtain ⟨a, ha⟩ := str_at (hw9 (.stringRef "TileScreen" 79 "no such viewer or number of bytes") (by decide +kernel))
    exact ⟨a, ha⟩
  · obtain ⟨a, ha⟩ := str_at (hw9 (.stringRef "TileScreen" 89 "not connected, or too much credit") (by decide +kernel))
    exact ⟨a, ha⟩
