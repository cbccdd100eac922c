/-! an interrupt: both sides -/
section
variable {sa dg st da rn cn : Int32} {s sv iv c : Nat → Int32} {sb : Int32} {t tv jv e : Nat → Int32}
theorem hr_Hw245 {v : Int32} (H : hr_Hw s t) (hv : qa_B v) : hr_Hw (upd s 245 v) (upd t 245 v) := by
  obtain ⟨h1, h2, h3, h4, h5, h6, h7⟩ := H
  exact ⟨hr_ceB h1 hv rfl, hr_tmA h2 (qa_agU qa_ag0 (by omega)) (qa_agU qa_ag0 (by omega)), hr_cpA h3 (qa_agU qa_ag0 (by omega)) (qa_agU qa_ag0 (by omega)), hr_lnA h4 (pk_un (by omega)) (pk_un (by omega)), hr_kyA h5 (pk_un (by omega)) (pk_un (by omega)), hr_shA h6 (qa_agU qa_ag0 (by omega)) (qa_agU qa_ag0 (by omega)), hr_vsA h7 (qa_agU qa_ag0 (by unfold hr_PX; omega)) (qa_agU qa_ag0 (by unfold hr_PY; omega))⟩
theorem qa_w0 : ∀ w, w < 32 → (∀ i, i < 5 → (nI w >>> (nI i &&& 31)) &&& 1 = 0) → w = 0 := by decide +kernel
/-- the least bit of what is pending -/
theorem qa_low {w : Nat} (hw : w < 32) (h0 : w ≠ 0) : ∃ j, j < 5 ∧ (nI w >>> (nI j &&& 31)) &&& 1 = 1 ∧ ∀ i, i < j → (nI w >>> (nI i &&& 31)) &&& 1 = 0 := by
  have ex : ∃ j, j < 5 ∧ (nI w >>> (nI j &&& 31)) &&& 1 = 1 := by
    apply Classical.byContradiction
    intro hn
    apply h0
    refine qa_w0 w hw (fun i hi => ?_)
    rcases qa_and1 (nI w >>> (nI i &&& 31)) with h | h
    · exact h
    · exact absurd ⟨i, hi, h⟩ hn
  obtain ⟨j, hj⟩ := ex
  induction j using Nat.strongRecOn with
  | ind j ih =>
    by_cases q : ∃ i, i < j ∧ (nI w >>> (nI i &&& 31)) &&& 1 = 1
    · obtain ⟨i, hi, e⟩ := q
      exact ih i hi ⟨by omega, e⟩
    · refine ⟨j, hj.1, hj.2, fun i hi => ?_⟩
      rcases qa_and1 (nI w >>> (nI i &&& 31)) with h | h
      · exact h
      · exact absurd ⟨i, hi, h⟩ q
theorem mx_int {post : SX → Prop} {x1 : Int32} {j : Nat} (hj : j < 5) (b1 : (x1 >>> (nI j &&& 31)) &&& 1 = 1) (b0 : ∀ i, i < j → (x1 >>> (nI i &&& 31)) &&& 1 = 0) (h : wX_endInterrupt_80 post sa dg st da rn cn (upd (upd s 245 (s 245 &&& (((1 : Int32) <<< (nI j &&& 31)) ^^^ (-1)))) 260 (8 + 8 * nI j)) sv iv c) : ∀ d k, k + d = j → wX_endInterrupt_26 post x1 sa dg st da rn cn s sv iv c (d + 1) (nI k) := by
  intro d
  induction d with
  | zero =>
    intro k hk
    have z : k = j := by omega
    subst z
    exact br_f (nI_ge (b := 5) hj (by omega)) (br_t b1 (nm_e (nm_e h)))
  | succ d ih =>
    intro k hk
    exact br_f (nI_ge (b := 5) (by omega) (by omega)) (br_f (by rw [b0 k (by omega)]; decide) (nm_r (nI_1 k) (ih (k + 1) (by omega))))
theorem mx_int0 {post : SX → Prop} {x1 : Int32} (b0 : ∀ i, i < 5 → (x1 >>> (nI i &&& 31)) &&& 1 = 0) (h : wX_endInterrupt_80 post sa dg st da rn cn s sv iv c) : ∀ d k, k + d = 5 → wX_endInterrupt_26 post x1 sa dg st da rn cn s sv iv c (d + 1) (nI k) := by
  intro d
  induction d with
  | zero =>
    intro k hk
    have z : k = 5 := by omega
    subst z
    exact br_t (by decide) h
  | succ d ih =>
    intro k hk
    exact br_f (nI_ge (b := 5) (by omega) (by omega)) (br_f (by rw [b0 k (by omega)]; decide) (nm_r (nI_1 k) (ih (k + 1) (by omega))))
theorem my_int {post : SY → Prop} {x1 : Int32} {j : Nat} (b1 : (x1 >>> (nI j &&& 31)) &&& 1 = 1) (b0 : ∀ i, i < j → (x1 >>> (nI i &&& 31)) &&& 1 = 0) (h : post (sb, upd (upd t 245 (t 245 &&& (((1 : Int32) <<< (nI j &&& 31)) ^^^ (-1)))) 260 (8 + 8 * nI j), tv, jv, e)) : ∀ d k, k + d = j → wY_interrupt_70 post x1 sb t tv jv e (d + 1) (nI k) := by
  intro d
  induction d with
  | zero =>
    intro k hk
    have z : k = j := by omega
    subst z
    exact br_f (by rw [b1]; decide) (nm_e (nm_e h))
  | succ d ih =>
    intro k hk
    exact br_t (b0 k (by omega)) (nm_r (nI_1 k) (ih (k + 1) (by omega)))
theorem tn_int {x1 : Int32} {p : Nat} (hp : p + 6 < 2010) (R0 : hr_Rl s t) (h265 : s 265 = 0) (N : hr_cn c e) (n2 : c 2 = e 2) (n3 : c 3 = e 3) : ∃ (s' t' c' e' : Nat → Int32) (rn' cn' : Int32), ru_52 x1 p 2 (sa, 64, 851, da, rn, cn, upd s 263 0, sv, iv, c) (sa, 64, 0, da, rn', cn', s', sv, iv, c') ∧ hr_Rl s' t' ∧ hr_cn c' e' ∧ c' 0 = c 0 ∧ c' 1 = c 1 ∧ c' 2 = e' 2 ∧ c' 3 = e' 3 ∧ e' 0 = e 0 + nI 3 ∧ e' 1 = e 1 ∧ (∀ post : SY → Prop, post (sb, t', tv, jv, e') → wpY_interrupt post (sb, t, tv, jv, e)) := by
  obtain ⟨H, m1, m2, m3, m4, m5, m6, m7, m8, m9, B1, B2, B3, B4, B5, b1, b2, b3, b4, ht⟩ := R0
  have h56 : t 265 = 0 ∧ t 266 = 0 := by
    rcases ht with h | h | h
    · exact h.2
    · exact absurd (h.1.symm.trans h265) (by decide)
    · exact absurd (h.1.symm.trans h265) (by decide)
  have H0 : hr_Hw (upd s 263 0) (upd t 263 0) := hr_HwX (hr_HwY H (by omega)) (by omega) (by omega)
  have M0 : hr_cm (s 264) (s 264) (upd s 263 0) (upd t 263 0) := ⟨m1, m2, m3, m4, m5, m6, m7, rfl, B1, B2, B3, B4, B5, b1, b2, Or.inl rfl, rfl, m9, h265, h56.1, h56.2⟩
  obtain ⟨s1, t1, c1, e1, rn1, cn1, H1, M1, ct1, f1, X1, Y1⟩ := mp_nop (sa := sa) (dg := 64) (da := da) (rn := rn) (cn := cn) (sv := sv) (iv := iv) (sb := sb) (tv := tv) (jv := jv) (st := 851) (st' := 53) (by decide) (by decide) H0 M0 N
  obtain ⟨s2, t2, c2, e2, rn2, cn2, H2, M2, ct2, X2, Y2⟩ := mp_pushp (sa := sa) (dg := 64) (da := da) (rn := rn1) (cn := cn1) (sv := sv) (iv := iv) (sb := sb) (tv := tv) (jv := jv) (st := 53) (st' := 3) (by decide) (by decide) (by decide) H1 M1 ct1.2.2.2
  obtain ⟨s3, t3, c3, e3, rn3, cn3, H3, M3, ct3, f3, X3, Y3⟩ := mp_nop (sa := sa) (dg := 64) (da := da) (rn := rn2) (cn := cn2) (sv := sv) (iv := iv) (sb := sb) (tv := tv) (jv := jv) (st := 3) (st' := 0) (by decide) (by decide) H2 M2 ct2.2.2.2
  have CT := hr_ctT (hr_ctT ct1 ct2) ct3
  obtain ⟨ca, ea, ez, cne⟩ := CT
  have ca0 := ca 0 (by unfold hr_C4; omega)
  have ca1 := ca 1 (by unfold hr_C4; omega)
  have ca2 := ca 2 (by unfold hr_C4; omega)
  have ca3 := ca 3 (by unfold hr_C4; omega)
  have ea1 := ea 1 (by unfold hr_E3; omega)
  have ea2 := ea 2 (by unfold hr_E3; omega)
  have ea3 := ea 3 (by unfold hr_E3; omega)
  have ep : (t3 245 &&& t3 246) &&& 31 = (s3 245 &&& s3 246) &&& 31 := by rw [(H3.1 245 (by omega)).1, (H3.1 246 (by omega)).1]
  obtain ⟨w, hw, ew⟩ := pk_andE (s3 245 &&& s3 246) (m := 31) 5 (by decide)
  have RX : ∀ (s' c' : Nat → Int32), (∀ Q : SX → Prop, Q (sa, 64, 0, da, rn3, cn3, s', sv, iv, c') → wpX_endThis Q (sa, 64, 0, da, rn3, cn3, s3, sv, iv, c3)) → ru_52 x1 p 2 (sa, 64, 851, da, rn, cn, upd s 263 0, sv, iv, c) (sa, 64, 0, da, rn3, cn3, s', sv, iv, c') := fun s' c' hE => st_cons (by omega) X1 (by decide) (st_cons (by omega) X2 (by decide) (st_last X3 hE))
  obtain ⟨k1, k2, k3, k4, k5, k6, k7, k8, D1, D2, D3, D4, D5, d1, d2, d3, g1, g2, g3, g4, g5⟩ := M3
  by_cases kz : w = 0
  · subst kz
    refine ⟨upd s3 260 0, upd t3 260 0, upd (upd c3 2 (c3 2 + 1)) 3 (upd c3 2 (c3 2 + 1) 3 + 1), upd (upd e3 2 (e3 2 + 1)) 3 (upd e3 2 (e3 2 + 1) 3 + 1), rn3, cn3, RX _ _ ?_, ⟨hr_HwX (hr_HwY H3 (by omega)) (by omega) (by omega), k1, k2, k3, k4, rfl, k6, k7, k8, g2.trans g1.symm, D1, D2, D3, D4, qa_B0, d1, d2, d3, ?_, Or.inl ⟨g3, g4, g5⟩⟩, cne, ca0, ca1, ?_, ?_, ez, ea1, ?_⟩
    · intro Q h
      refine br_f (by decide) (br_t rfl ?_)
      unfold wpX_endInterrupt wpX_pending
      refine nm_e (nm_e ⟨6, ?_⟩)
      rw [ew]
      exact mx_int0 (by decide +kernel) (br_t rfl (nm_e h)) 5 0 rfl
    · show qa_b (s3 264)
      rw [g1]; exact b4
    · show c3 2 + 1 = e3 2 + 1
      rw [ca2, ea2, n2]
    · show c3 3 + 1 = e3 3 + 1
      rw [ca3, ea3, n3]
    · intro post h
      refine nm_e ?_
      refine Y1 _ ?_
      refine Y2 _ ?_
      refine Y3 _ (nm_e ?_)
      unfold wpY_pending
      exact br_t (ep.trans ew) (nm_e (nm_e h))
  · obtain ⟨j, hj, bj, bi⟩ := qa_low hw kz
    have pcE : (8 : Int32) + 8 * nI j = nI (8 + 8 * j) := by
      show nI 8 + nI 8 * nI j = _
      rw [pk_mul, nI_add]
    have bv : qa_B (s3 245 &&& (((1 : Int32) <<< (nI j &&& 31)) ^^^ (-1))) := qa_Band (H3.1 245 (by omega)).2 _
    have ne : ¬ (t3 245 &&& t3 246) &&& 31 = 0 := by rw [ep, ew]; exact nI_ne0 (by omega) (by omega)
    refine ⟨upd (upd (upd s3 260 0) 245 (upd s3 260 0 245 &&& (((1 : Int32) <<< (nI j &&& 31)) ^^^ (-1)))) 260 (8 + 8 * nI j), upd (upd t3 245 (t3 245 &&& (((1 : Int32) <<< (nI j &&& 31)) ^^^ (-1)))) 260 (8 + 8 * nI j), upd c3 2 (c3 2 + 1), upd e3 2 (e3 2 + 1), rn3, cn3, RX _ _ ?_, ⟨?_, k1, k2, k3, k4, rfl, k6, k7, k8, g2.trans g1.symm, D1, D2, D3, D4, ?_, d1, d2, d3, ?_, Or.inl ⟨g3, g4, g5⟩⟩, cne, ca0, ca1, ?_, ?_, ez, ea1, ?_⟩
    · intro Q h
      refine br_f (by decide) (br_t rfl ?_)
      unfold wpX_endInterrupt wpX_pending
      refine nm_e (nm_e ⟨j + 1, ?_⟩)
      rw [ew]
      refine mx_int hj bj bi (br_f ?_ h) j 0 (by omega)
      show ¬ (8 : Int32) + 8 * nI j = 0
      rw [pcE]
      exact nI_ne0 (by omega) (by omega)
    · refine hr_HwX (hr_HwY ?_ (by omega)) (by omega) (by omega)
      have q := hr_Hw245 (hr_HwX (k := 260) (v := 0) H3 (by omega) (by omega)) bv
      rw [(H3.1 245 (by omega)).1]
      exact q
    · show qa_B ((8 : Int32) + 8 * nI j)
      rw [pcE]
      exact qa_Bn (by omega)
    · show qa_b (s3 264)
      rw [g1]; exact b4
    · show c3 2 + 1 = e3 2 + 1
      rw [ca2, ea2, n2]
    · show c3 3 = e3 3
      rw [ca3, ea3, n3]
    · intro post h
      refine nm_e ?_
      refine Y1 _ ?_
      refine Y2 _ ?_
      refine Y3 _ (nm_e ?_)
      unfold wpY_pending
      refine br_f ne ⟨j + 1, ?_⟩
      show wY_interrupt_70 post ((t3 245 &&& t3 246) &&& 31) sb t3 tv jv (upd e3 2 (e3 2 + 1)) (j + 1) (nI 0)
      rw [ep, ew]
      exact my_int bj bi h j 0 (by omega)
end
