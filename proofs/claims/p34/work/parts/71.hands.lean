/-! ===== all that is by hand; the claim ===== -/
theorem hd_ok : hd_all := by
  intro c hc
  simp only [List.mem_cons, List.not_mem_nil, or_false] at hc
  rcases hc with rfl | rfl | rfl | rfl | rfl | rfl | rfl | rfl | rfl | rfl | rfl | rfl | rfl | rfl
  · exact hp_0
  · exact hp_1
  · exact hp_2
  · exact hp_3
  · exact hp_4
  · exact hp_5
  · exact hp_6
  · exact hp_7
  · exact hp_8
  · exact hp_9
  · exact hp_10
  · exact hp_11
  · exact hp_12
  · exact hp_87
