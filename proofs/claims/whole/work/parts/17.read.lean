/-! cells as the processor reads them -/
section
variable {sa dg st da rn cn : Int32} {s sv iv c : Nat → Int32} {sb : Int32} {t tv jv e : Nat → Int32}
theorem qa_or3 (a z m : Int32) : (a ||| m) ||| z = (a ||| z) ||| m := by rw [Int32.or_assoc, Int32.or_comm m z, ← Int32.or_assoc]
theorem pr_cell {n m : Nat} (C : hr_ce s t) (T : hr_tm s t) (K : hr_ky s t) (hn : n < 256) (hm : m < 4) (m1 : s 273 = nI m) (m2 : t 276 = nI m) :
    ∃ r : Int32, qa_B r ∧ (∀ post : Int32 → Prop, post r → wpX_reading post (sa, dg, st, da, rn, cn, s, sv, iv, c) (nI n)) ∧ (∀ post : Int32 → Prop, post r → wpY_cell post (sb, t, tv, jv, e) (nI n)) := by
  have p0 : ¬ nI n < 0 := nI_pos (by omega)
  have p255 : nI n ≤ 255 := nI_le (b := 255) (by omega) (by omega)
  by_cases k0 : n = 240
  · subst k0
    refine ⟨ml_pd (s 240) (s 391), ml_pdB_ _ (C 240 (by omega)).2, fun post h => br_t rfl (mx_pad h), fun post h => br_f p0 (br_t p255 (br_t rfl (my_pad (by rw [K.1]; exact K.2) ?_)))⟩
    rw [(C 240 (by omega)).1, K.1]
    exact h
  have n0 : ¬ nI n = 240 := qa_neN (b := 240) k0 (by omega) (by omega)
  by_cases k1 : n = 241
  · subst k1
    obtain ⟨dv, hd, ed⟩ := T.2.1
    have ev : s 266 / 4 = nI (dv / 4) := by
      rw [ed]
      exact pk_div (d := 4) (by omega) (by omega) (by omega)
    refine ⟨s 266 / 4, ⟨dv / 4, by omega, ev⟩, fun post h => br_f n0 (br_t rfl ⟨by decide, h⟩), fun post h => br_f p0 (br_t p255 (br_f n0 (br_t rfl ⟨by decide, ?_⟩)))⟩
    rw [T.1]
    exact h
  have n1 : ¬ nI n = 241 := qa_neN (b := 241) k1 (by omega) (by omega)
  by_cases k8 : n = 248
  · subst k8
    have b8 := (C 248 (by omega)).2
    have bm : qa_B (s 273) := ⟨m, by omega, m1⟩
    have mm : t 276 = s 273 := m2.trans m1.symm
    have e8 := (C 248 (by omega)).1
    have e247 := (C 247 (by omega)).1
    have z0 : (t 248 ||| t 276) ||| 0 = (s 248 ||| 0) ||| s 273 := by rw [e8, mm]; exact qa_or3 _ _ _
    have z4 : (t 248 ||| t 276) ||| 4 = (s 248 ||| 4) ||| s 273 := by rw [e8, mm]; exact qa_or3 _ _ _
    by_cases on : s 247 &&& 1 = 0
    · refine ⟨(s 248 ||| 0) ||| s 273, qa_Bor (qa_Bor b8 qa_B0) bm, ?_, ?_⟩
      · intro post h
        refine br_f n0 (br_f n1 (br_t rfl ?_))
        unfold wpX_isOn
        exact br_t on (br_t rfl h)
      · intro post h
        refine br_f p0 (br_t p255 (br_f n0 (br_f n1 (br_t rfl ?_))))
        unfold wpY_isOn
        refine br_f (fun z => absurd on ((qa_on e247).mpr z)) (br_t rfl ?_)
        rw [z0]
        exact h
    · have on' := (qa_on e247).mp on
      by_cases eq : s 251 = s 252
      · refine ⟨(s 248 ||| 4) ||| s 273, qa_Bor (qa_Bor b8 ⟨4, by decide, rfl⟩) bm, ?_, ?_⟩
        · intro post h
          refine br_f n0 (br_f n1 (br_t rfl ?_))
          unfold wpX_isOn
          exact br_f on (br_f (by decide) (br_t eq h))
        · intro post h
          refine br_f p0 (br_t p255 (br_f n0 (br_f n1 (br_t rfl ?_))))
          unfold wpY_isOn
          refine br_t on' (br_f (by decide) (br_t (by rw [(C 251 (by omega)).1, (C 252 (by omega)).1]; exact eq) ?_))
          rw [z4]
          exact h
      · refine ⟨(s 248 ||| 0) ||| s 273, qa_Bor (qa_Bor b8 qa_B0) bm, ?_, ?_⟩
        · intro post h
          refine br_f n0 (br_f n1 (br_t rfl ?_))
          unfold wpX_isOn
          exact br_f on (br_f (by decide) (br_f eq h))
        · intro post h
          refine br_f p0 (br_t p255 (br_f n0 (br_f n1 (br_t rfl ?_))))
          unfold wpY_isOn
          refine br_t on' (br_f (by decide) (br_f (by rw [(C 251 (by omega)).1, (C 252 (by omega)).1]; exact eq) ?_))
          rw [z0]
          exact h
  have n8 : ¬ nI n = 248 := qa_neN (b := 248) k8 (by omega) (by omega)
  refine ⟨s n, (C n hn).2, fun post h => br_f n0 (br_f n1 (br_f n8 ⟨vp_in_nI (by omega) (by omega), ?_⟩)), fun post h => br_f p0 (br_t p255 (br_f n0 (br_f n1 (br_f n8 ⟨vp_in_nI (by omega) (by omega), ?_⟩))))⟩
  · rw [nI_clamp (by omega)]
    exact h
  · rw [nI_clamp (by omega), (C n hn).1]
    exact h
theorem hr_mode (V : hr_vs s t) : ∃ m : Nat, m < 4 ∧ s 273 = nI m ∧ t 276 = nI m := by
  obtain ⟨ly, d, m, wl, tk, f0, f1, _, _, _, _, _, B, _, _, _, Q⟩ := V
  refine ⟨m, ?_, B.2.2.2.1, B.2.2.2.2.1⟩
  rcases Q with h | h | h | h | h <;> omega
/-- a read of the processor: the answers of both sides -/
theorem pr_read {n : Nat} (H : hr_Hw s t) (hc : t 274 = cn) (hb : qa_b cn) (hn : n < 256) :
    ∃ r : Int32, qa_B r ∧ (∀ post : Int32 → Prop, post r → wpX_read post (sa, dg, st, da, rn, cn, s, sv, iv, c) (nI n)) ∧ ∃ q : Int32, (∀ post : Int32 → Prop, post q → wpY_isShut post (sb, t, tv, jv, e) (nI n)) ∧ ((q = 0 ∧ ∀ post : Int32 → Prop, post r → wpY_cell post (sb, t, tv, jv, e) (nI n)) ∨ (¬ q = 0 ∧ r = 255)) := by
  obtain ⟨m, hm, m1, m2⟩ := hr_mode H.2.2.2.2.2.2
  obtain ⟨q, q01, _, qX, qY⟩ := pr_shut (sa := sa) (dg := dg) (st := st) (da := da) (rn := rn) (cn := cn) (sv := sv) (iv := iv) (c := c) (sb := sb) (tv := tv) (jv := jv) (e := e) hn hm m1 m2 hc hb
  obtain ⟨r, rB, rX, rY⟩ := pr_cell (sa := sa) (dg := dg) (st := st) (da := da) (rn := rn) (cn := cn) (sv := sv) (iv := iv) (c := c) (sb := sb) (tv := tv) (jv := jv) (e := e) H.1 H.2.1 H.2.2.2.2.1 hn hm m1 m2
  rcases q01 with z | z
  · refine ⟨r, rB, ?_, q, qY, Or.inl ⟨z, rY⟩⟩
    intro post h
    unfold wpX_read
    refine qX _ (br_t z ?_)
    exact rX _ h
  · have nz : ¬ q = 0 := by rw [z]; decide
    refine ⟨255, qa_B255, ?_, q, qY, Or.inr ⟨nz, rfl⟩⟩
    intro post h
    unfold wpX_read
    exact qX _ (br_f nz h)
end
