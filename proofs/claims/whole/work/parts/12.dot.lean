/-! one dot of drawing: both sides -/
section
variable {sa dg st da rn cn : Int32} {s sv iv c : Nat → Int32} {sb : Int32} {t tv jv e : Nat → Int32}
def hr_GX (i : Nat) : Prop := i < 274 ∨ (281 < i ∧ i < 283) ∨ 391 ≤ i
def hr_GY (i : Nat) : Prop := i < 277 ∨ i = 278 ∨ i = 308 ∨ (310 ≤ i ∧ i < 320) ∨ 416 ≤ i
theorem hr_deE {ly d wl f0 f1 q ee ef x dp pa le nx he : Nat} (h : hr_de s t ly d wl f0 f1 q ee x dp pa le nx he) (hl : ee ≤ ef) : hr_de s t ly d wl f0 f1 q ef x dp pa le nx he := by
  obtain ⟨a1, a2, a3, a4, a5, a6⟩ := h
  exact ⟨a1, a2, a3, a4, by omega, a6⟩
/-- what a dot leaves behind, on both sides -/
def hr_af (s' t' c' e' s t c e : Nat → Int32) (ly d tk : Nat) : Prop := ∃ wl f0 f1 x dp pa le nx he : Nat, hr_bs s' t' ly d 3 wl tk ∧ hr_ss s' t' ly tk f0 f1 ∧ f0 ≤ 1 ∧ f1 ≤ 1 ∧ hr_de s' t' ly d wl f0 f1 25 d x dp pa le nx he ∧ hr_cn c' e' ∧ qa_ag hr_C4 c c' ∧ qa_ag hr_C4 e e' ∧ qa_ag hr_GX s s' ∧ qa_ag hr_GY t t'
theorem pr_tail {ly d wl tk f0 f1 ee x dp le nx he : Nat} (C : hr_ce s t) (hl : ly ≤ 7) (hd : d ≤ 28) (ht : tk ≤ 2) (hf0 : f0 ≤ 1) (hf1 : f1 ≤ 1) (he_ : ee ≤ d) (hx : x < 12) (B : hr_bs s t ly d 3 wl tk) (S : hr_ss s t ly tk f0 f1) (D : hr_de s t ly d wl f0 f1 26 ee x dp 0 (le + 1) nx he) (N : hr_cn c e) :
    ∃ s' t' c' e' : Nat → Int32, hr_af s' t' c' e' s t c e ly d tk ∧ (∀ post : SX → Prop, post (sa, dg, st, da, rn, cn, s', sv, iv, c') → wX_drawingDot_82 post sa dg st da rn cn s sv iv c) ∧ (∀ post : SY → Prop, post (sb, t', tv, jv, e') → wY_dot_270 post sb t tv jv e) := by
  have D0 := D
  obtain ⟨a1, a2, a3, a4, a5, a6, a7, a8, a9, e1, e2, e3, e4, e5, e6, e7, e8, e9, e10, e11, e12, e13, g1, g2, g4⟩ := D
  obtain ⟨b, hb, eb, ef⟩ := g2 (by omega)
  have v1 : s 278 - 1 = nI le := by rw [e8]; exact nI_pred le
  have w1 : t 299 + 1 = nI (4 - le) := by rw [e9, nI_1, show 4 - (le + 1) + 1 = 4 - le by omega]
  by_cases kd : dp = 0
  · subst kd
    have C1 : hr_ce (upd s 278 (s 278 - 1)) (upd t 299 (t 299 + 1)) := hr_ceX (hr_ceY C (by omega)) (by omega)
    have S1 : hr_ss (upd s 278 (s 278 - 1)) (upd t 299 (t 299 + 1)) ly tk f0 f1 := hr_ssA S (qa_agU qa_ag0 (by unfold hr_SX; omega)) (qa_agU qa_ag0 (by unfold hr_SY; omega))
    obtain ⟨bk, hbX, hbY⟩ : ∃ bk : Int32, (∀ post : SX → Prop, wX_drawPixel_23 post (nI x) bk sa dg st da rn cn (upd s 278 (s 278 - 1)) sv iv c → wpX_drawPixel post (sa, dg, st, da, rn, cn, upd s 278 (s 278 - 1), sv, iv, c) (nI (b / 4 ^ le % 4))) ∧ (∀ post : SY → Prop, (∃ n62, wY_draw_62 post (nI x) bk sb (upd t 299 (t 299 + 1)) tv jv e n62 (-1) 0) → wpY_draw post (sb, t, tv, jv, e)) := by
      have e247 := (C 247 (by omega)).1
      by_cases k8 : s 247 &&& 8 = 0
      · refine ⟨0, ?_, ?_⟩
        · intro post h
          refine nm_r (e' := nI x) e1 ?_
          exact br_t k8 (br_t rfl h)
        · intro post h
          exact nm_r e2 (br_t (by rw [e247]; exact k8) (nm_e h))
      · refine ⟨nI (b / 4 ^ le % 4), ?_, ?_⟩
        · intro post h
          refine nm_r (e' := nI x) e1 ?_
          exact br_f k8 (br_f (by decide) h)
        · intro post h
          have i1 : (300 : Int32) + t 299 = nI (300 + (3 - le)) := by
            rw [e9, show 4 - (le + 1) = 3 - le by omega]
            exact nI_add 300 _
          have i2 : t ((300 : Int32) + t 299).toNatClampNeg = nI (b / 4 ^ le % 4) := by
            rw [i1, nI_clamp (by omega), ef (3 - le) (by omega), show 3 - (3 - le) = le by omega]
          refine nm_r e2 (br_f (by rw [e247]; exact k8) ⟨by rw [i1]; exact vp_in_nI (by omega) (by omega), ?_⟩)
          rw [i2]
          exact nm_e h
    obtain ⟨col, hcX, hcY⟩ := pr_pix (sa := sa) (dg := dg) (st := st) (da := da) (rn := rn) (cn := cn) (sv := sv) (iv := iv) (c := c) (sb := sb) (tv := tv) (jv := jv) (e := e) C1 ht hf0 hf1 hx (e2 := B.2.2.2.2.2.2.2.1) (e3 := B.2.2.2.2.2.2.2.2) S1 bk
    have i5 : ((295 : Int32) + 12 * s 251) + nI x = nI (295 + (12 * ly + x)) := by
      rw [B.1]
      show nI 295 + nI 12 * nI ly + nI x = _
      rw [pk_mul, nI_add, nI_add, show 295 + 12 * ly + x = 295 + (12 * ly + x) by omega]
    have i6 : ((320 : Int32) + 12 * t 251) + nI x = nI (320 + (12 * ly + x)) := by
      rw [(C 251 (by omega)).1, B.1]
      show nI 320 + nI 12 * nI ly + nI x = _
      rw [pk_mul, nI_add, nI_add, show 320 + 12 * ly + x = 320 + (12 * ly + x) by omega]
    have px : ((upd s 278 (s 278 - 1) 277) >>> ((2 * (upd s 278 (s 278 - 1) 278)) &&& 31)) &&& 3 = nI (b / 4 ^ le % 4) := by
      show (s 277 >>> ((2 * (s 278 - 1)) &&& 31)) &&& 3 = _
      rw [eb, v1]
      exact qa_p2 hb (by omega)
    have NX : upd (upd s 278 (s 278 - 1)) (295 + (12 * ly + x)) col 274 + 1 = nI (x + 1) := by
      rw [pk_un (by omega)]
      show s 274 + 1 = _
      rw [e1, nI_1]
    have NY : upd (upd t 299 (t 299 + 1)) (320 + (12 * ly + x)) col 277 + 1 = nI (x + 1) := by
      rw [pk_un (by omega)]
      show t 277 + 1 = _
      rw [e2, nI_1]
    have HN : hr_cn (upd c 6 (c 6 + 1)) (upd e 6 (e 6 + 1)) := by
      refine ⟨N.1, N.2.1, ?_⟩
      show c 6 + 1 = e 6 + 1
      rw [N.2.2]
    have WX : ∀ post : SX → Prop, post (sa, dg, st, da, rn, cn, upd (upd (upd s 278 (s 278 - 1)) (295 + (12 * ly + x)) col) 274 (upd (upd s 278 (s 278 - 1)) (295 + (12 * ly + x)) col 274 + 1), sv, iv, upd c 6 (c 6 + 1)) → wX_drawingDot_82 post sa dg st da rn cn s sv iv c := by
      intro post h
      refine nm_e (nm_r px (br_t ?_ ?_))
      · show s 275 ≤ 0
        rw [e4]; decide
      · refine hbX _ (hcX _ ⟨?_, nm_r (e' := upd (upd s 278 (s 278 - 1)) (295 + (12 * ly + x)) col) ?_ (nm_e (nm_e h))⟩)
        · show vp_in (((295 : Int32) + 12 * s 251) + nI x) 488
          rw [i5]; exact vp_in_nI (by omega) (by omega)
        · show upd (upd s 278 (s 278 - 1)) (((295 : Int32) + 12 * s 251) + nI x).toNatClampNeg col = _
          rw [i5, nI_clamp (by omega)]
    have WY : ∀ post : SY → Prop, ((upd (upd (upd t 299 (t 299 + 1)) (320 + (12 * ly + x)) col) 277 (upd (upd t 299 (t 299 + 1)) (320 + (12 * ly + x)) col 277 + 1) 277 = 12 → ∀ a, a = upd (upd (upd (upd t 299 (t 299 + 1)) (320 + (12 * ly + x)) col) 277 (upd (upd t 299 (t 299 + 1)) (320 + (12 * ly + x)) col 277 + 1)) 309 1 → post (sb, a, tv, jv, upd e 6 (e 6 + 1))) ∧ (¬ upd (upd (upd t 299 (t 299 + 1)) (320 + (12 * ly + x)) col) 277 (upd (upd t 299 (t 299 + 1)) (320 + (12 * ly + x)) col 277 + 1) 277 = 12 → post (sb, upd (upd (upd t 299 (t 299 + 1)) (320 + (12 * ly + x)) col) 277 (upd (upd t 299 (t 299 + 1)) (320 + (12 * ly + x)) col 277 + 1), tv, jv, upd e 6 (e 6 + 1)))) → wY_dot_270 post sb t tv jv e := by
      intro post h
      refine br_t (by rw [e5]; decide) (hbY _ (hcY _ ⟨?_, nm_r (e' := upd (upd t 299 (t 299 + 1)) (320 + (12 * ly + x)) col) ?_ (nm_e (nm_e h))⟩))
      · show vp_in (((320 : Int32) + 12 * t 251) + nI x) 512
        rw [i6]; exact vp_in_nI (by omega) (by omega)
      · show upd (upd t 299 (t 299 + 1)) (((320 : Int32) + 12 * t 251) + nI x).toNatClampNeg col = _
        rw [i6, nI_clamp (by omega)]
    by_cases kx : x = 11
    · subst kx
      refine ⟨_, upd (upd (upd (upd t 299 (t 299 + 1)) (320 + (12 * ly + 11)) col) 277 (upd (upd t 299 (t 299 + 1)) (320 + (12 * ly + 11)) col 277 + 1)) 309 1, _, upd e 6 (e 6 + 1), ⟨wl, f0, f1, 12, 0, 0, le, nx, he, ?_, ?_, hf0, hf1, hr_deE (hr_a7 D0 hl v1 NX w1 NY) he_, HN, qa_agU qa_ag0 (by unfold hr_C4; omega), qa_agU qa_ag0 (by unfold hr_C4; omega), ?_, ?_⟩, WX, fun post h => WY post (br_t NY (nm_e h))⟩
      · exact hr_bsA B (qa_agU (qa_agU (qa_agU qa_ag0 (by omega)) (by omega)) (by omega)) (qa_agU (qa_agU (qa_agU (qa_agU qa_ag0 (by omega)) (by omega)) (by omega)) (by omega))
      · exact hr_ssA S (qa_agU (qa_agU (qa_agU qa_ag0 (by unfold hr_SX; omega)) (by unfold hr_SX; omega)) (by unfold hr_SX; omega)) (qa_agU (qa_agU (qa_agU (qa_agU qa_ag0 (by unfold hr_SY; omega)) (by unfold hr_SY; omega)) (by unfold hr_SY; omega)) (by unfold hr_SY; omega))
      · exact qa_agU (qa_agU (qa_agU qa_ag0 (by unfold hr_GX; omega)) (by unfold hr_GX; omega)) (by unfold hr_GX; omega)
      · exact qa_agU (qa_agU (qa_agU (qa_agU qa_ag0 (by unfold hr_GY; omega)) (by unfold hr_GY; omega)) (by unfold hr_GY; omega)) (by unfold hr_GY; omega)
    · refine ⟨_, upd (upd (upd t 299 (t 299 + 1)) (320 + (12 * ly + x)) col) 277 (upd (upd t 299 (t 299 + 1)) (320 + (12 * ly + x)) col 277 + 1), _, upd e 6 (e 6 + 1), ⟨wl, f0, f1, x + 1, 0, 0, le, nx, he, ?_, ?_, hf0, hf1, hr_deE (hr_a6 D0 hl (by omega) v1 NX w1 NY) he_, HN, qa_agU qa_ag0 (by unfold hr_C4; omega), qa_agU qa_ag0 (by unfold hr_C4; omega), ?_, ?_⟩, WX, fun post h => WY post (br_f ?_ h)⟩
      · exact hr_bsA B (qa_agU (qa_agU (qa_agU qa_ag0 (by omega)) (by omega)) (by omega)) (qa_agU (qa_agU (qa_agU qa_ag0 (by omega)) (by omega)) (by omega))
      · exact hr_ssA S (qa_agU (qa_agU (qa_agU qa_ag0 (by unfold hr_SX; omega)) (by unfold hr_SX; omega)) (by unfold hr_SX; omega)) (qa_agU (qa_agU (qa_agU qa_ag0 (by unfold hr_SY; omega)) (by unfold hr_SY; omega)) (by unfold hr_SY; omega))
      · exact qa_agU (qa_agU (qa_agU qa_ag0 (by unfold hr_GX; omega)) (by unfold hr_GX; omega)) (by unfold hr_GX; omega)
      · exact qa_agU (qa_agU (qa_agU qa_ag0 (by unfold hr_GY; omega)) (by unfold hr_GY; omega)) (by unfold hr_GY; omega)
      · rw [pk_us, NY]
        exact qa_neN (b := 12) (by omega) (by omega) (by omega)
  · obtain ⟨dq, rfl⟩ : ∃ dq, dp = dq + 1 := ⟨dp - 1, by omega⟩
    have v2 : s 275 - 1 = nI dq := by rw [e4]; exact nI_pred dq
    have w2 : t 297 - 1 = nI dq := by rw [e5]; exact nI_pred dq
    refine ⟨upd (upd s 278 (s 278 - 1)) 275 (upd s 278 (s 278 - 1) 275 - 1), upd (upd t 297 (t 297 - 1)) 299 (upd t 297 (t 297 - 1) 299 + 1), c, e, ⟨wl, f0, f1, x, dq, 0, le, nx, he, ?_, ?_, hf0, hf1, hr_deE (hr_a5 D0 hl v1 v2 w2 w1) he_, N, qa_ag0, qa_ag0, ?_, ?_⟩, ?_, ?_⟩
    · exact hr_bsA B (qa_agU (qa_agU qa_ag0 (by omega)) (by omega)) (qa_agU (qa_agU qa_ag0 (by omega)) (by omega))
    · exact hr_ssA S (qa_agU (qa_agU qa_ag0 (by unfold hr_SX; omega)) (by unfold hr_SX; omega)) (qa_agU (qa_agU qa_ag0 (by unfold hr_SY; omega)) (by unfold hr_SY; omega))
    · exact qa_agU (qa_agU qa_ag0 (by unfold hr_GX; omega)) (by unfold hr_GX; omega)
    · exact qa_agU (qa_agU qa_ag0 (by unfold hr_GY; omega)) (by unfold hr_GY; omega)
    · intro post h
      refine nm_e (nm_e (br_f ?_ (nm_e h)))
      show ¬ s 275 ≤ 0
      rw [e4]; exact nI_nle (by omega) (by omega)
    · intro post h
      refine br_f ?_ (nm_e (nm_e h))
      rw [e5]; exact nI_nle (by omega) (by omega)
end
