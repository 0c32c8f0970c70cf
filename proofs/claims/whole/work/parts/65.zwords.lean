/-! The words that a throw needs are words of the table, but for those on statics. -/
theorem zx_ws {ws : List Cond} (h : ws.all (fun w => !goodWord w || lw_tbl.any (fun v => decide (v = w))) = true) : ∀ w ∈ ws, goodWord w = true → w ∈ zw_T := by
  intro w hw hg
  have h1 := List.all_eq_true.mp h w hw
  rw [hg] at h1
  simp only [Bool.not_true, Bool.false_or, List.any_eq_true, decide_eq_true_eq] at h1
  obtain ⟨v, hv, rfl⟩ := h1
  exact List.mem_filter.mpr ⟨hv, hg⟩
theorem zx_io : (Bundle.ownAtoms0 "StripMixer" 36 "java/lang/IndexOutOfBoundsException" ["java/lang/RuntimeException", "java/lang/Exception"]).all (fun w => !goodWord w || lw_tbl.any (fun v => decide (v = w))) = true := by decide +kernel
