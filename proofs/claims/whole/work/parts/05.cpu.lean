/-! the processor's registers -/
def hr_ht (s t : Nat → Int32) : Prop := (s 265 = 0 ∧ t 265 = 0 ∧ t 266 = 0) ∨ (s 265 = 1 ∧ t 265 = 1 ∧ t 266 = 0) ∨ (s 265 = 2 ∧ t 265 = 0 ∧ t 266 = 1 ∧ s 263 = 0)
def hr_cpu (s t : Nat → Int32) : Prop := t 256 = s 256 ∧ t 257 = s 257 ∧ t 258 = s 258 ∧ t 259 = s 259 ∧ t 260 = s 260 ∧ t 261 = s 261 ∧ t 262 = s 262 ∧ t 263 = s 263 ∧ t 264 = s 264 ∧ qa_B (s 256) ∧ qa_B (s 257) ∧ qa_B (s 258) ∧ qa_B (s 259) ∧ qa_B (s 260) ∧ qa_b (s 261) ∧ qa_b (s 262) ∧ qa_b (s 263) ∧ qa_b (s 264) ∧ hr_ht s t
theorem hr_cpuA {s t s' t' : Nat → Int32} (h : hr_cpu s t) (hx : qa_ag hr_FX s s') (hy : qa_ag hr_FY t t') : hr_cpu s' t' := by
  unfold hr_cpu hr_ht
  rw [hx 256 (by unfold hr_FX; omega), hx 257 (by unfold hr_FX; omega), hx 258 (by unfold hr_FX; omega), hx 259 (by unfold hr_FX; omega), hx 260 (by unfold hr_FX; omega), hx 261 (by unfold hr_FX; omega), hx 262 (by unfold hr_FX; omega), hx 263 (by unfold hr_FX; omega), hx 264 (by unfold hr_FX; omega), hx 265 (by unfold hr_FX; omega)]
  rw [hy 256 (by unfold hr_FY; omega), hy 257 (by unfold hr_FY; omega), hy 258 (by unfold hr_FY; omega), hy 259 (by unfold hr_FY; omega), hy 260 (by unfold hr_FY; omega), hy 261 (by unfold hr_FY; omega), hy 262 (by unfold hr_FY; omega), hy 263 (by unfold hr_FY; omega), hy 264 (by unfold hr_FY; omega), hy 265 (by unfold hr_FY; omega), hy 266 (by unfold hr_FY; omega)]
  exact h
def hr_Rl (s t : Nat → Int32) : Prop := hr_Hw s t ∧ hr_cpu s t
theorem hr_RlA {s t s' t' : Nat → Int32} (h : hr_Rl s t) (hx : qa_ag (fun i => i < 488) s s') (hy : qa_ag (fun i => i < 512) t t') : hr_Rl s' t' := by
  obtain ⟨⟨h1, h2, h3, h4, h5, h6, h7⟩, h8⟩ := h
  refine ⟨⟨hr_ceA h1 (qa_agW hx ?_) (qa_agW hy ?_), hr_tmA h2 (qa_agW hx ?_) (qa_agW hy ?_), hr_cpA h3 (qa_agW hx ?_) (qa_agW hy ?_), hr_lnA h4 (hx _ ?_) (hy _ ?_), hr_kyA h5 (hx _ ?_) (hy _ ?_), ?_, hr_vsA h7 (qa_agW hx ?_) (qa_agW hy ?_)⟩, hr_cpuA h8 (qa_agW hx ?_) (qa_agW hy ?_)⟩
  case refine_11 =>
    intro p hp
    rw [hx _ (by omega), hy _ (by omega)]
    exact h6 p hp
  all_goals (try unfold hr_PX) <;> (try unfold hr_PY) <;> (try unfold hr_FX) <;> (try unfold hr_FY) <;> omega
/-! sides of the processor's registers leave the hardware alone -/
theorem hr_HwX {s t : Nat → Int32} {k : Nat} {v : Int32} (H : hr_Hw s t) (h1 : 256 ≤ k) (h2 : k < 266) : hr_Hw (upd s k v) t :=
  hr_HwA H (qa_agU qa_ag0 (by omega)) qa_ag0
theorem hr_HwY {s t : Nat → Int32} {k : Nat} {v : Int32} (H : hr_Hw s t) (h1 : (256 ≤ k ∧ k < 267) ∨ k = 269 ∨ k = 274) : hr_Hw s (upd t k v) :=
  hr_HwA H qa_ag0 (qa_agU qa_ag0 (by omega))
