/-! copying: both sides -/
section
variable {sa dg st da rn cn : Int32} {s sv iv c : Nat → Int32} {sb : Int32} {t tv jv e : Nat → Int32}
def hr_cn (c e : Nat → Int32) : Prop := c 4 = e 4 ∧ c 5 = e 5 ∧ c 6 = e 6
def hr_C4 (i : Nat) : Prop := i < 4
theorem pr_c66 (C : hr_ce s t) (P : hr_cp s t) (z : t 274 = 0) (N : hr_cn c e) : ∃ (s' t' : Nat → Int32) (cn' : Int32) (c' e' : Nat → Int32), hr_ce s' t' ∧ hr_cp s' t' ∧ qa_ag (fun i => 208 ≤ i ∧ i ≠ 270) s s' ∧ qa_ag (fun i => 208 ≤ i ∧ i ≠ 271 ∧ i ≠ 274) t t' ∧ t' 274 = cn' ∧ qa_b cn' ∧ hr_cn c' e' ∧ qa_ag hr_C4 c c' ∧ qa_ag hr_C4 e e' ∧ (∀ post : SX → Prop, post (sa, dg, st, da, rn, cn', s', sv, iv, c') → wX_copyingTurn_66 post sa dg st da rn cn s sv iv c) ∧ (∀ post : SY → Prop, post (sb, t', tv, jv, e') → wY_copying_68 post sb t tv jv e) := by
  obtain ⟨dl, pg, nx, h1, h2, h3, e1, e2, e3, e4, e5, e6, e7⟩ := P
  by_cases k : nx = 16
  · subst k
    refine ⟨s, t, 0, c, e, C, ⟨dl, pg, 16, h1, h2, h3, e1, e2, e3, e4, e5, e6, e7⟩, qa_ag0, qa_ag0, z, Or.inl rfl, N, qa_ag0, qa_ag0, ?_, ?_⟩
    · intro post h
      exact br_t (by rw [e5]; decide) ⟨rfl, qa_fit0, br_t rfl h⟩
    · intro post h
      exact br_t e6 h
  · have hv : ∃ v : Int32, qa_B v ∧ (∀ post : SX → Prop, (∀ a, a = upd s (192 + nx) v → ∀ b, b = upd a 270 (a 270 - 1) → ∀ d, d = upd c 5 (c 5 + 1) → post (sa, dg, st, da, rn, 1, b, sv, iv, d)) → wX_copyingTurn_66 post sa dg st da rn cn s sv iv c) ∧ (∀ post : SY → Prop, (∀ a, a = upd t (192 + nx) v → ∀ b, b = upd a 271 (a 271 + 1) → ∀ f, f = upd b 274 1 → ∀ d, d = upd e 5 (e 5 + 1) → post (sb, f, tv, jv, d)) → wY_copying_68 post sb t tv jv e) := by
      have x0 : ¬ s 270 ≤ 0 := by rw [e5]; exact nI_nle (by omega) (by omega)
      have x1 : 16 - s 270 = nI nx := by
        rw [e5]
        show nI 16 - nI (16 - nx) = nI nx
        rw [pk_sub (by omega), show 16 - (16 - nx) = nx by omega]
      have x2 : s 269 + nI nx = nI (16 * pg + nx) := by rw [e3, nI_add]
      have x3 : (192 : Int32) + nI nx = nI (192 + nx) := nI_add 192 nx
      have y0 : ¬ t 271 = 16 := by rw [e6]; exact qa_neN (b := 16) k (by omega) (by omega)
      have y1 : 16 * t 270 + t 271 = nI (16 * pg + nx) := by
        rw [e4, e6]
        show nI 16 * nI pg + nI nx = _
        rw [pk_mul, nI_add]
      have i1 : vp_in (192 + nI nx) 488 := by rw [x3]; exact vp_in_nI (by omega) (by omega)
      have i2 : vp_in (192 + t 271) 512 := by rw [e6, x3]; exact vp_in_nI (by omega) (by omega)
      have c1 : ((192 : Int32) + nI nx).toNatClampNeg = 192 + nx := by rw [x3]; exact nI_clamp (by omega)
      have c2 : ((192 : Int32) + t 271).toNatClampNeg = 192 + nx := by rw [e6]; exact c1
      by_cases k2 : 16 * pg + nx < 240
      · refine ⟨s (16 * pg + nx), (C _ (by omega)).2, ?_, ?_⟩
        · intro post h
          refine br_f x0 ⟨rfl, qa_fit1, br_f (by decide) (nm_r x1 (nm_r x2 (br_f (nI_ge (b := 240) k2 (by omega)) ⟨vp_in_nI (by omega) (by omega), i1, ?_⟩)))⟩
          rw [c1, nI_clamp (by omega)]
          exact h
        · intro post h
          refine br_f y0 (nm_r y1 (br_t (nI_le (b := 239) (by omega) (by omega)) ⟨vp_in_nI (by omega) (by omega), i2, ?_⟩))
          rw [c2, nI_clamp (by omega), (C (16 * pg + nx) (by omega)).1]
          exact h
      · refine ⟨255, qa_B255, ?_, ?_⟩
        · intro post h
          refine br_f x0 ⟨rfl, qa_fit1, br_f (by decide) (nm_r x1 (nm_r x2 (br_t (nI_le (a := 240) (by omega) (by omega)) ⟨i1, ?_⟩)))⟩
          rw [c1]
          exact h
        · intro post h
          refine br_f y0 (nm_r y1 (br_f (nI_ge (a := 239) (by omega) (by omega)) ⟨i2, ?_⟩))
          rw [c2]
          exact h
    obtain ⟨v, hv, hX, hY⟩ := hv
    refine ⟨upd (upd s (192 + nx) v) 270 (upd s (192 + nx) v 270 - 1), upd (upd (upd t (192 + nx) v) 271 (upd t (192 + nx) v 271 + 1)) 274 1, 1, upd c 5 (c 5 + 1), upd e 5 (e 5 + 1), ?_, ?_, ?_, ?_, pk_us, Or.inr rfl, ?_, qa_agU qa_ag0 (by unfold hr_C4; omega), qa_agU qa_ag0 (by unfold hr_C4; omega), ?_, ?_⟩
    · exact hr_ceX (hr_ceY (hr_ceY (hr_ceB C hv rfl) (by omega)) (by omega)) (by omega)
    · refine ⟨dl, pg, nx + 1, h1, h2, by omega, ?_, ?_, ?_, ?_, ?_, ?_, ?_⟩
      · rw [pk_un (by omega), pk_un (by omega)]; exact e1
      · rw [pk_un (by omega), pk_un (by omega), pk_un (by omega)]; exact e2
      · rw [pk_un (by omega), pk_un (by omega)]; exact e3
      · rw [pk_un (by omega), pk_un (by omega), pk_un (by omega)]; exact e4
      · rw [pk_us, pk_un (by omega), e5]
        show nI (16 - nx) - nI 1 = _
        rw [pk_sub (by omega), show 16 - nx - 1 = 16 - (nx + 1) by omega]
      · rw [pk_un (by omega), pk_us, pk_un (by omega), e6, nI_1]
      · rw [pk_un (by omega), pk_un (by omega), pk_un (by omega), pk_un (by omega), pk_un (by omega)]; exact e7
    · exact qa_agU (qa_agU qa_ag0 (by omega)) (by omega)
    · exact qa_agU (qa_agU (qa_agU qa_ag0 (by omega)) (by omega)) (by omega)
    · refine ⟨N.1, ?_, N.2.2⟩
      show c 5 + 1 = e 5 + 1
      rw [N.2.1]
    · intro post h
      exact hX post (nm_e (nm_e (nm_e h)))
    · intro post h
      exact hY post (nm_e (nm_e (nm_e (nm_e h))))
theorem pr_copying (H : hr_Hw s t) (N : hr_cn c e) : ∃ (s' t' : Nat → Int32) (cn' : Int32) (c' e' : Nat → Int32), hr_Hw s' t' ∧ qa_ag hr_FX s s' ∧ qa_ag hr_FY t t' ∧ t' 269 = t 269 ∧ t' 274 = cn' ∧ qa_b cn' ∧ hr_cn c' e' ∧ qa_ag hr_C4 c c' ∧ qa_ag hr_C4 e e' ∧ (∀ post : SX → Prop, post (sa, dg, st, da, rn, cn', s', sv, iv, c') → wpX_copyingTurn post (sa, dg, st, da, rn, cn, s, sv, iv, c)) ∧ (∀ post : SY → Prop, post (sb, t', tv, jv, e') → wpY_copying post (sb, t, tv, jv, e)) := by
  have C := H.1
  have P := H.2.2.1
  have E : ∃ s1 t1 : Nat → Int32, hr_ce s1 t1 ∧ hr_cp s1 t1 ∧ t1 274 = 0 ∧ qa_ag (fun i => i < 268 ∨ 271 ≤ i) s s1 ∧ qa_ag (fun i => i ≠ 270 ∧ i ≠ 271 ∧ i ≠ 273 ∧ i ≠ 274) t t1 ∧ (∀ post : SX → Prop, wX_copyingTurn_66 post sa dg st da rn cn s1 sv iv c → wpX_copyingTurn post (sa, dg, st, da, rn, cn, s, sv, iv, c)) ∧ (∀ post : SY → Prop, wY_copying_68 post sb t1 tv jv e → wpY_copying post (sb, t, tv, jv, e)) := by
    obtain ⟨dl, pg, nx, h1, h2, h3, e1, e2, e3, e4, e5, e6, e7⟩ := P
    by_cases k0 : dl = 0
    · subst k0
      refine ⟨s, upd t 274 0, hr_ceY C (by omega), ⟨0, pg, nx, h1, h2, h3, e1, e2, e3, e4, e5, e6, e7⟩, rfl, qa_ag0, qa_agU qa_ag0 (by omega), ?_, ?_⟩
      · intro post h
        exact br_t (by rw [e1]; decide) h
      · intro post h
        refine nm_e (br_t ?_ h)
        show t 273 ≤ 0
        rw [e2]; decide
    by_cases k1 : dl = 1
    · subst k1
      refine ⟨upd (upd (upd s 268 (s 268 - 1)) 269 (16 * (upd s 268 (s 268 - 1) 253 &&& 15))) 270 16, upd (upd (upd (upd t 274 0) 273 (upd t 274 0 273 - 1)) 270 (upd (upd t 274 0) 273 (upd t 274 0 273 - 1) 272)) 271 0, ?_, ?_, rfl, ?_, ?_, ?_, ?_⟩
      · exact hr_ceX (hr_ceX (hr_ceX (hr_ceY (hr_ceY (hr_ceY (hr_ceY C (by omega)) (by omega)) (by omega)) (by omega)) (by omega)) (by omega)) (by omega)
      · obtain ⟨j, hj, ej⟩ := pk_andE (s 253) (m := 15) 4 (by decide)
        refine ⟨0, j, 0, by omega, by omega, by omega, ?_, ?_, ?_, ?_, rfl, rfl, e7⟩
        · show s 268 - 1 = nI 0
          rw [e1]; decide
        · show t 273 - 1 = nI 0
          rw [e2]; decide
        · show 16 * (s 253 &&& 15) = nI (16 * j)
          rw [ej]
          exact pk_mul 16 j
        · show t 272 = nI j
          rw [e7, ej]
      · exact qa_agU (qa_agU (qa_agU qa_ag0 (by omega)) (by omega)) (by omega)
      · exact qa_agU (qa_agU (qa_agU (qa_agU qa_ag0 (by omega)) (by omega)) (by omega)) (by omega)
      · intro post h
        refine br_f (by rw [e1]; decide) (nm_e (br_t ?_ (nm_e (nm_e h))))
        show s 268 - 1 = 0
        rw [e1]; decide
      · intro post h
        refine nm_e (br_f ?_ (nm_e (br_t ?_ (nm_e (nm_e h)))))
        · show ¬ t 273 ≤ 0
          rw [e2]; decide
        · show t 273 - 1 = 0
          rw [e2]; decide
    · have k2 : dl = 2 := by omega
      subst k2
      refine ⟨upd s 268 (s 268 - 1), upd (upd t 274 0) 273 (upd t 274 0 273 - 1), ?_, ⟨1, pg, nx, by omega, h2, h3, ?_, ?_, e3, e4, e5, e6, e7⟩, rfl, qa_agU qa_ag0 (by omega), qa_agU (qa_agU qa_ag0 (by omega)) (by omega), ?_, ?_⟩
      · exact hr_ceX (hr_ceY (hr_ceY C (by omega)) (by omega)) (by omega)
      · show s 268 - 1 = nI 1
        rw [e1]; decide
      · show t 273 - 1 = nI 1
        rw [e2]; decide
      · intro post h
        refine br_f (by rw [e1]; decide) (nm_e (br_f ?_ h))
        show ¬ s 268 - 1 = 0
        rw [e1]; decide
      · intro post h
        refine nm_e (br_f ?_ (nm_e (br_f ?_ h)))
        · show ¬ t 273 ≤ 0
          rw [e2]; decide
        · show ¬ t 273 - 1 = 0
          rw [e2]; decide
  obtain ⟨s1, t1, C1, P1, z1, a1, b1, X1, Y1⟩ := E
  obtain ⟨s', t', cn', c', e', h1, h2, h3, h4, h5, h6, h7, h8, h9, hX, hY⟩ := pr_c66 (sa := sa) (dg := dg) (st := st) (da := da) (rn := rn) (cn := cn) (sv := sv) (iv := iv) (c := c) (sb := sb) (tv := tv) (jv := jv) (e := e) C1 P1 z1 N
  refine ⟨s', t', cn', c', e', hr_HwC H h1 h2 ?_ ?_, ?_, ?_, ?_, h5, h6, h7, h8, h9, fun post h => X1 post (hX post h), fun post h => Y1 post (hY post h)⟩
  · exact qa_agT (qa_agW a1 (by omega)) (qa_agW h3 (by omega))
  · exact qa_agT (qa_agW b1 (by omega)) (qa_agW h4 (by omega))
  · exact qa_agT (qa_agW a1 (by unfold hr_FX; omega)) (qa_agW h3 (by unfold hr_FX; omega))
  · exact qa_agT (qa_agW b1 (by unfold hr_FY; omega)) (qa_agW h4 (by unfold hr_FY; omega))
  · exact (h4 269 (by omega)).trans (b1 269 (by omega))
end
