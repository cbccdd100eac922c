/-! the video's turn from its begin to its end, and a whole cycle -/
section
variable {sa dg st da rn cn : Int32} {s sv iv c : Nat → Int32} {sb : Int32} {t tv jv e : Nat → Int32}
def hr_KX (i : Nat) : Prop := (i ≠ 245 ∧ i ≠ 251 ∧ i < 272) ∨ i = 391
def hr_KY (i : Nat) : Prop := (i ≠ 245 ∧ i ≠ 251 ∧ i < 275) ∨ i = 308 ∨ (310 ≤ i ∧ i < 320)
/-- what stands ahead of the dot itself -/
def hr_pre (s t : Nat → Int32) (ly q wl tk f0 f1 : Nat) : Prop := hr_ce s t ∧ hr_sh s t ∧ ly ≤ 11 ∧ q < 28 ∧ tk ≤ 2 ∧ f0 ≤ 1 ∧ f1 ≤ 1 ∧ s 251 = nI ly ∧ s 272 = nI (q + 1) ∧ t 275 = nI q ∧ s 281 = nI wl ∧ t 305 = nI wl ∧ s 282 = nI tk ∧ t 278 = nI tk ∧ hr_ss s t ly tk f0 f1 ∧ hr_mc s t ly q wl f0 f1
theorem pr_nl {ly wl : Nat} (C : hr_ce s t) (W : hr_sh s t) (N : hr_cn c e) (hl : ly ≤ 11) (e1 : s 251 = nI ly) (e2 : s 272 = 0) (e3 : t 275 = 0) (w1 : s 281 = nI wl) (w2 : t 305 = nI wl) (z : s 274 = 0) (hw : ly ≠ 0 → wl ≤ ly) (P1 : ly ≤ 7 → hr_pic s t (12 * ly)) (P2 : 8 ≤ ly → hr_pic s t 96) :
    ∃ (s' t' c' e' : Nat → Int32) (wl' : Nat), hr_pre s' t' ly 0 wl' 0 0 0 ∧ hr_cn c' e' ∧ qa_ag hr_C4 c c' ∧ qa_ag hr_C4 e e' ∧ qa_ag hr_KX s s' ∧ qa_ag hr_KY t t' ∧ (∀ post : SX → Prop, wX_videoTurn_81 post (nI 0) sa dg st da rn cn s' sv iv c' → wX_videoTurn_52 post sa dg st da rn cn s sv iv c) ∧ (∀ post : SY → Prop, wY_videoTurn_92 post sb t' tv jv e' → wY_videoTurn_77 post sb t tv jv e) := by
  have C1 : hr_ce (upd s 272 (s 272 + 1)) t := hr_ceX C (by omega)
  have W1 : hr_sh (upd s 272 (s 272 + 1)) t := hr_shA W (qa_agU qa_ag0 (by omega)) qa_ag0
  obtain ⟨s', t', c', e', h1, h2, h3, h4, h5, h6, h7, h8, h9, h10, h11, h12, h13, h14, h15, hX, hY⟩ := pr_bline (sa := sa) (dg := dg) (st := st) (da := da) (rn := rn) (cn := cn) (sv := sv) (iv := iv) (c := c) (sb := sb) (tv := tv) (jv := jv) (e := e) C1 W1 N hl e1 (fun k => hr_picA (P2 (by omega)) (by omega) (qa_agU qa_ag0 (by unfold hr_QX; omega)) qa_ag0) w1 w2
  have E272 : s' 272 = nI (0 + 1) := by
    rw [h6 272 (by unfold hr_HX; omega), pk_us, e2]
    rfl
  have E274 : s' 274 = 0 := (h6 274 (by unfold hr_HX; omega)).trans z
  refine ⟨s', t', c', e', if ly = 0 then 0 else wl, ⟨h1, h2, hl, by omega, by omega, by omega, by omega, ?_, E272, ?_, h14, h15, h9, h10, ⟨fun k => absurd k (by omega), fun k => absurd k (by omega)⟩, ?_⟩, h3, h4, h5, ?_, ?_, ?_, ?_⟩
  · exact (h6 251 (by unfold hr_HX; omega)).trans e1
  · exact (h7 275 (by unfold hr_HY; omega)).trans e3
  · by_cases k : ly < 8
    · refine Or.inl ⟨by omega, by omega, ?_, E274, ?_, h13, h11, h12, hr_picA (P1 (by omega)) (by omega) ?_ ?_⟩
      · rw [h8, if_pos k]; rfl
      · by_cases k0 : ly = 0
        · rw [if_pos k0]; omega
        · rw [if_neg k0]; exact hw k0
      · exact qa_agT (qa_agU qa_ag0 (by unfold hr_QX; omega)) (qa_agW h6 (by unfold hr_QX hr_HX; omega))
      · exact qa_agW h7 (by unfold hr_QY hr_HY; omega)
    · refine Or.inr (Or.inr (Or.inr ⟨by omega, ?_, E274, ?_, hr_picA (P2 (by omega)) (by omega) ?_ ?_⟩))
      · rw [h8, if_neg k]; rfl
      · have := hw (by omega)
        rw [if_neg (by omega)]
        omega
      · exact qa_agT (qa_agU qa_ag0 (by unfold hr_QX; omega)) (qa_agW h6 (by unfold hr_QX hr_HX; omega))
      · exact qa_agW h7 (by unfold hr_QY hr_HY; omega)
  · exact qa_agT (qa_agU qa_ag0 (by unfold hr_KX; omega)) (qa_agW h6 (by unfold hr_KX hr_HX; omega))
  · exact qa_agW h7 (by unfold hr_KY hr_HY; omega)
  · intro post h
    exact nm_r e2 (nm_e (br_t rfl (hX _ h)))
  · intro post h
    exact br_t e3 (hY _ h)
theorem pr_adv (H : hr_Hw s t) (N : hr_cn c e) (on : ¬ s 247 &&& 1 = 0) : ∃ (s' t' c' e' : Nat → Int32) (ly q wl tk f0 f1 : Nat), hr_pre s' t' ly q wl tk f0 f1 ∧ hr_cn c' e' ∧ qa_ag hr_C4 c c' ∧ qa_ag hr_C4 e e' ∧ qa_ag hr_KX s s' ∧ qa_ag hr_KY t t' ∧ (∀ post : SX → Prop, wX_videoTurn_81 post (nI q) sa dg st da rn cn s' sv iv c' → wpX_videoTurn post (sa, dg, st, da, rn, cn, s, sv, iv, c)) ∧ (∀ post : SY → Prop, wY_videoTurn_92 post sb t' tv jv e' → wpY_videoTurn post (sb, t, tv, jv, e)) := by
  obtain ⟨C, T, P, L, K, W, V⟩ := H
  obtain ⟨ly, d, m, wl, tk, f0, f1, b1, b2, b3, b4, b5, B, S, o, z, Q⟩ := V
  obtain ⟨e1, e2, e3, e4, e5, e6, e7, e8, e9⟩ := B
  have e1' : t 251 = nI ly := (C 251 (by omega)).1.trans e1
  have on' : t 247 &&& 1 = 1 := (qa_on (C 247 (by omega)).1).mp on
  have e3' : t 275 + 1 = nI d := by
    rw [e3]
    exact Int32.sub_add_cancel _ _
  have X1 : ∀ post : SX → Prop, ¬ s 272 = 28 → wX_videoTurn_52 post sa dg st da rn cn s sv iv c → wpX_videoTurn post (sa, dg, st, da, rn, cn, s, sv, iv, c) := by
    intro post k h
    unfold wpX_videoTurn
    exact br_f on (br_f (by decide) (br_f k h))
  have Y1 : ∀ post : SY → Prop, d ≠ 28 → wY_videoTurn_77 post sb (upd t 275 (t 275 + 1)) tv jv e → wpY_videoTurn post (sb, t, tv, jv, e) := by
    intro post k h
    unfold wpY_videoTurn
    refine br_t on' (br_f (by decide) (nm_e (br_f ?_ h)))
    show ¬ t 275 + 1 = 28
    rw [e3']
    exact qa_neN (b := 28) k (by omega) (by omega)
  by_cases k0 : d = 0
  · subst k0
    have Q0 : ly = 0 ∧ wl = 0 ∧ m = 0 := by
      rcases Q with h | h | h | h | h
      · exact ⟨h.2.2.1, h.2.2.2.1, h.2.1⟩
      · exact absurd h.1 (by omega)
      · exact absurd h.1 (by omega)
      · exact absurd h.1 (by omega)
      · exact absurd h.1 (by omega)
    obtain ⟨rfl, rfl, rfl⟩ := Q0
    obtain ⟨s', t', c', e', wl', h1, h2, h3, h4, h5, h6, hX, hY⟩ := pr_nl (sa := sa) (dg := dg) (st := st) (da := da) (rn := rn) (cn := cn) (sv := sv) (iv := iv) (c := c) (sb := sb) (tv := tv) (jv := jv) (e := e) (t := upd t 275 (t 275 + 1)) (hr_ceY C (by omega)) (hr_shA W qa_ag0 (qa_agU qa_ag0 (by omega))) N (by omega) e1 e2 e3' e6 e7 (z (by omega)) (fun k => absurd rfl k) (fun _ p hp => absurd hp (by omega)) (fun k => absurd k (by omega))
    exact ⟨s', t', c', e', 0, 0, wl', 0, 0, 0, h1, h2, h3, h4, h5, qa_agT (qa_agU qa_ag0 (by unfold hr_KY; omega)) h6, fun post h => X1 post (by rw [e2]; decide) (hX post h), fun post h => Y1 post (by omega) (hY post h)⟩
  by_cases k28 : d = 28
  · subst k28
    have Q8 : m ≠ 3 ∧ wl ≤ ly + 1 ∧ ((8 ≤ ly ∧ hr_pic s t 96) ∨ (ly ≤ 7 ∧ hr_pic s t (12 * ly + 12))) := by
      rcases Q with h | h | h | h | h
      · exact absurd h.1 (by omega)
      · exact ⟨by omega, h.2.2.2.1, Or.inl ⟨h.2.1, h.2.2.2.2⟩⟩
      · exact absurd h.2.1 (by omega)
      · obtain ⟨h1, h2, h3, x, dp, pa, le, nx, he, D⟩ := h
        exact absurd D.2.2.2.2.2.2.2.2.1 (by omega)
      · exact ⟨by omega, h.2.2.2.1, Or.inr ⟨h.2.1, h.2.2.2.2.2⟩⟩
    obtain ⟨q1, q2, q3⟩ := Q8
    have i251 : vp_in (251 : Int32) 512 := vp_in_nI (n := 251) (by omega) (by omega)
    have c251 : (251 : Int32).toNatClampNeg = 251 := nI_clamp (n := 251) (by omega)
    have vX : (upd s 272 0 251 + 1) - (upd s 272 0 251 + 1) / 12 * 12 = nI ((ly + 1) % 12) := by
      show (s 251 + 1) - (s 251 + 1) / 12 * 12 = _
      rw [e1, nI_1]
      exact pk_rem (d := 12) (by omega) (by omega) (by omega)
    obtain ⟨v, hv, hY1⟩ : ∃ v : Int32, v = nI ((ly + 1) % 12) ∧ ∀ post : SY → Prop, wY_videoTurn_77 post sb (upd (upd (upd t 275 (t 275 + 1)) 275 0) 251 v) tv jv e → wpY_videoTurn post (sb, t, tv, jv, e) := by
      by_cases k : ly = 11
      · refine ⟨0, by rw [k]; rfl, ?_⟩
        intro post h
        unfold wpY_videoTurn
        exact br_t on' (br_f (by decide) (nm_e (br_t e3' (nm_e (br_t (e1'.trans (by rw [k]; rfl)) ⟨i251, nm_r (qa_up _ _ c251) h⟩)))))
      · refine ⟨t 251 + 1, by rw [e1', nI_1, show (ly + 1) % 12 = ly + 1 by omega], ?_⟩
        intro post h
        unfold wpY_videoTurn
        refine br_t on' (br_f (by decide) (nm_e (br_t e3' (nm_e (br_f ?_ ⟨i251, nm_r (qa_up _ _ c251) h⟩)))))
        show ¬ t 251 = 11
        rw [e1']
        exact qa_neN (b := 11) k (by omega) (by omega)
    have Cb : hr_ce (upd (upd s 272 0) 251 ((upd s 272 0 251 + 1) - (upd s 272 0 251 + 1) / 12 * 12)) (upd (upd (upd t 275 (t 275 + 1)) 275 0) 251 v) := hr_ceB (hr_ceX (hr_ceY (hr_ceY C (by omega)) (by omega)) (by omega)) (by rw [vX]; exact qa_Bn (by omega)) (by rw [vX]; exact hv)
    obtain ⟨s', t', c', e', wl', h1, h2, h3, h4, h5, h6, hX, hY⟩ := pr_nl (sa := sa) (dg := dg) (st := st) (da := da) (rn := rn) (cn := cn) (sv := sv) (iv := iv) (c := c) (sb := sb) (tv := tv) (jv := jv) (e := e) Cb (hr_shA W (qa_agU (qa_agU qa_ag0 (by omega)) (by omega)) (qa_agU (qa_agU (qa_agU qa_ag0 (by omega)) (by omega)) (by omega))) N (ly := (ly + 1) % 12) (by omega) vX rfl rfl e6 e7 (z q1) (by omega) (by
      intro k
      rcases q3 with ⟨a, b⟩ | ⟨a, b⟩
      · intro p hp
        exact absurd hp (by omega)
      · exact hr_picL (hr_picA b (by omega) (qa_agU (qa_agU qa_ag0 (by unfold hr_QX; omega)) (by unfold hr_QX; omega)) (qa_agU (qa_agU (qa_agU qa_ag0 (by unfold hr_QY; omega)) (by unfold hr_QY; omega)) (by unfold hr_QY; omega))) (by omega)) (by
      intro k
      rcases q3 with ⟨a, b⟩ | ⟨a, b⟩
      · exact hr_picA b (by omega) (qa_agU (qa_agU qa_ag0 (by unfold hr_QX; omega)) (by unfold hr_QX; omega)) (qa_agU (qa_agU (qa_agU qa_ag0 (by unfold hr_QY; omega)) (by unfold hr_QY; omega)) (by unfold hr_QY; omega))
      · have : 12 * ly + 12 = 96 := by omega
        rw [this] at b
        exact hr_picA b (by omega) (qa_agU (qa_agU qa_ag0 (by unfold hr_QX; omega)) (by unfold hr_QX; omega)) (qa_agU (qa_agU (qa_agU qa_ag0 (by unfold hr_QY; omega)) (by unfold hr_QY; omega)) (by unfold hr_QY; omega)))
    refine ⟨s', t', c', e', (ly + 1) % 12, 0, wl', 0, 0, 0, h1, h2, h3, h4, qa_agT (qa_agU (qa_agU qa_ag0 (by unfold hr_KX; omega)) (by unfold hr_KX; omega)) h5, qa_agT (qa_agU (qa_agU (qa_agU qa_ag0 (by unfold hr_KY; omega)) (by unfold hr_KY; omega)) (by unfold hr_KY; omega)) h6, ?_, fun post h => hY1 post (hY post h)⟩
    intro post h
    unfold wpX_videoTurn
    exact br_f on (br_f (by decide) (br_t e2 (nm_e ⟨by decide, nm_e (hX post h)⟩)))
  · have n0 : ¬ nI d = 0 := nI_ne0 (by omega) (by omega)
    have U2 : s 272 + 1 = nI (d + 1) := by rw [e2, nI_1]
    refine ⟨upd s 272 (s 272 + 1), upd t 275 (t 275 + 1), c, e, ly, d, wl, tk, f0, f1, ⟨hr_ceX (hr_ceY C (by omega)) (by omega), hr_shA W (qa_agU qa_ag0 (by omega)) (qa_agU qa_ag0 (by omega)), b1, by omega, b3, b4, b5, e1, U2, e3', e6, e7, e8, e9, hr_ssA S (qa_agU qa_ag0 (by unfold hr_SX; omega)) (qa_agU qa_ag0 (by unfold hr_SY; omega)), ?_⟩, N, qa_ag0, qa_ag0, qa_agU qa_ag0 (by unfold hr_KX; omega), qa_agU qa_ag0 (by unfold hr_KY; omega), ?_, ?_⟩
    · rcases Q with h | h | h | h | h
      · exact absurd h.1 k0
      · obtain ⟨h1, h2, rfl, h4, h5⟩ := h
        exact Or.inr (Or.inr (Or.inr ⟨h2, e4, z (by omega), h4, hr_picA h5 (by omega) (qa_agU qa_ag0 (by unfold hr_QX; omega)) (qa_agU qa_ag0 (by unfold hr_QY; omega))⟩))
      · obtain ⟨h1, h2, h3, rfl, h5, h6, h7, h8, h9⟩ := h
        exact Or.inl ⟨h3, h2, e4, z (by omega), h5, h6, h7, h8, hr_picA h9 (by omega) (qa_agU qa_ag0 (by unfold hr_QX; omega)) (qa_agU qa_ag0 (by unfold hr_QY; omega))⟩
      · obtain ⟨h1, h2, rfl, x, dp, pa, le, nx, he, D⟩ := h
        refine Or.inr (Or.inl ⟨h2, h1, e4, e5, x, dp, pa, le, nx, he, ?_⟩)
        obtain ⟨a1, a2, a3, a4, a5, a6, a7, a8, a9, d1, d2, d3, d4, d5, d6, d7, d8, d9, d10, d11, d12, d13, g1, g2, g4⟩ := D
        exact ⟨a1, a2, a3, a4, a5, a6, a7, a8, by omega, d1, d2, d3, d4, d5, d6, d7, d8, d9, d10, d11, d12, d13, g1, hr_stX (hr_stY g2 (by omega)) (by omega), hr_picX (hr_picY g4 (by omega) (by omega)) (by omega) (by omega)⟩
      · obtain ⟨h1, h2, rfl, h4, h5, h6⟩ := h
        exact Or.inr (Or.inr (Or.inl ⟨h2, h1, e4, z (by omega), h4, h5, hr_picA h6 (by omega) (qa_agU qa_ag0 (by unfold hr_QX; omega)) (qa_agU qa_ag0 (by unfold hr_QY; omega))⟩))
    · intro post h
      exact X1 post (by rw [e2]; exact qa_neN (b := 28) k28 (by omega) (by omega)) (nm_r e2 (nm_e (br_f n0 h)))
    · intro post h
      refine Y1 post k28 (br_f ?_ h)
      show ¬ t 275 + 1 = 0
      rw [e3']
      exact n0
theorem pr_video (H : hr_Hw s t) (N : hr_cn c e) (hc : t 274 = cn) (hb : qa_b cn) : ∃ s' t' c' e' : Nat → Int32, hr_Hw s' t' ∧ qa_ag hr_FX s s' ∧ qa_ag hr_FY t t' ∧ t' 269 = t 269 ∧ t' 274 = cn ∧ hr_cn c' e' ∧ qa_ag hr_C4 c c' ∧ qa_ag hr_C4 e e' ∧ (∀ post : SX → Prop, post (sa, dg, st, da, rn, cn, s', sv, iv, c') → wpX_videoTurn post (sa, dg, st, da, rn, cn, s, sv, iv, c)) ∧ (∀ post : SY → Prop, post (sb, t', tv, jv, e') → wpY_videoTurn post (sb, t, tv, jv, e)) := by
  by_cases on : s 247 &&& 1 = 0
  · refine ⟨s, t, c, e, H, qa_ag0, qa_ag0, rfl, hc, N, qa_ag0, qa_ag0, ?_, ?_⟩
    · intro post h
      unfold wpX_videoTurn
      exact br_t on (br_t rfl h)
    · intro post h
      unfold wpY_videoTurn
      exact br_f (fun z => absurd on ((qa_on (H.1 247 (by omega)).1).mpr z)) (br_t rfl h)
  · obtain ⟨s2, t2, c2, e2, ly, q, wl, tk, f0, f1, ⟨C2, W2, p1, p2, p3, p4, p5, p6, p7, p8, p9, p10, p11, p12, p13, p14⟩, n1, n2, n3, x2, y2, hX2, hY2⟩ := pr_adv (sa := sa) (dg := dg) (st := st) (da := da) (rn := rn) (cn := cn) (sv := sv) (iv := iv) (c := c) (sb := sb) (tv := tv) (jv := jv) (e := e) H N on
    have on2 : ¬ s2 247 &&& 1 = 0 := by rw [x2 247 (by unfold hr_KX; omega)]; exact on
    obtain ⟨s3, t3, c3, e3, C3, V3, n4, n5, n6, x3, y3, hX3, hY3⟩ := pr_v81 (sa := sa) (dg := dg) (st := st) (da := da) (rn := rn) (cn := cn) (sv := sv) (iv := iv) (c := c2) (sb := sb) (tv := tv) (jv := jv) (e := e2) C2 n1 p1 p2 p3 p4 p5 p6 p7 p8 p9 p10 p11 p12 p13 on2 ((y2 274 (by unfold hr_KY; omega)).trans hc) hb p14
    have L3 : hr_ln s3 t3 := hr_lnA H.2.2.2.1 ((x3 271 (by unfold hr_JX; omega)).trans (x2 271 (by unfold hr_KX; omega))) ((y3 308 (by unfold hr_JY; omega)).trans (y2 308 (by unfold hr_KY; omega)))
    have m3 : t3 276 = s3 273 := by
      obtain ⟨ly, d, m, wl, tk, f0, f1, _, _, _, _, _, B, _⟩ := V3
      exact B.2.2.2.2.1.trans B.2.2.2.1.symm
    obtain ⟨s4, t4, C4, L4, x4, y4, hX4, hY4⟩ := pr_look (sa := sa) (dg := dg) (st := st) (da := da) (rn := rn) (cn := cn) (sv := sv) (iv := iv) (c := c3) (sb := sb) (tv := tv) (jv := jv) (e := e3) C3 L3 m3
    have W4 : hr_sh s4 t4 := hr_shA (hr_shA W2 (qa_agW x3 (by unfold hr_JX; omega)) (qa_agW y3 (by unfold hr_JY; omega))) (qa_agW x4 (by omega)) (qa_agW y4 (by omega))
    have V4 : hr_vs s4 t4 := hr_vsA V3 (qa_agW x4 (by unfold hr_PX; omega)) (qa_agW y4 (by unfold hr_PY; omega))
    refine ⟨s4, t4, c3, e3, hr_HwV H C4 L4 W4 V4 ?_ ?_, ?_, ?_, ?_, ?_, n4, qa_agT n2 n5, qa_agT n3 n6, ?_, ?_⟩
    · exact qa_agT (qa_agT (qa_agW x2 (by unfold hr_KX; omega)) (qa_agW x3 (by unfold hr_JX; omega))) (qa_agW x4 (by omega))
    · exact qa_agT (qa_agT (qa_agW y2 (by unfold hr_KY; omega)) (qa_agW y3 (by unfold hr_JY; omega))) (qa_agW y4 (by omega))
    · exact qa_agT (qa_agT (qa_agW x2 (by unfold hr_KX hr_FX; omega)) (qa_agW x3 (by unfold hr_JX hr_FX; omega))) (qa_agW x4 (by unfold hr_FX; omega))
    · exact qa_agT (qa_agT (qa_agW y2 (by unfold hr_KY hr_FY; omega)) (qa_agW y3 (by unfold hr_JY hr_FY; omega))) (qa_agW y4 (by unfold hr_FY; omega))
    · exact (y4 269 (by omega)).trans ((y3 269 (by unfold hr_JY; omega)).trans (y2 269 (by unfold hr_KY; omega)))
    · exact (y4 274 (by omega)).trans ((y3 274 (by unfold hr_JY; omega)).trans ((y2 274 (by unfold hr_KY; omega)).trans hc))
    · intro post h
      refine hX2 post (hX3 post ?_)
      unfold wX_videoTurn_191
      exact hX4 _ h
    · intro post h
      refine hY2 post (hY3 post ?_)
      unfold wY_videoTurn_197
      exact hY4 _ h
end
