/-! the video's turn: both sides -/
section
variable {sa dg st da rn cn : Int32} {s sv iv c : Nat → Int32} {sb : Int32} {t tv jv e : Nat → Int32}
def hr_JX (i : Nat) : Prop := i < 272 ∨ 391 ≤ i
def hr_JY (i : Nat) : Prop := i < 275 ∨ i = 308 ∨ (310 ≤ i ∧ i < 320) ∨ 416 ≤ i
theorem hr_afv {s' t' c' e' : Nat → Int32} {ly d tk : Nat} (A : hr_af s' t' c' e' s t c e ly d tk) (hl : ly ≤ 7) (h5 : 5 ≤ d) (hd : d ≤ 28) (ht : tk ≤ 2) (on : ¬ s 247 &&& 1 = 0) : hr_vs s' t' ∧ hr_cn c' e' ∧ qa_ag hr_C4 c c' ∧ qa_ag hr_C4 e e' ∧ qa_ag hr_JX s s' ∧ qa_ag hr_JY t t' := by
  obtain ⟨wl, f0, f1, x, dp, pa, le, nx, he, B, S, h0, h1, D, N, n1, n2, x1, y1⟩ := A
  refine ⟨⟨ly, d, 3, wl, tk, f0, f1, by omega, hd, ht, h0, h1, B, S, ?_, fun z => absurd rfl z, Or.inr (Or.inr (Or.inr (Or.inl ⟨h5, hl, rfl, x, dp, pa, le, nx, he, D⟩)))⟩, N, n1, n2, qa_agW x1 ?_, qa_agW y1 ?_⟩
  · rw [x1 247 (by unfold hr_GX; omega)]
    exact fun z => absurd z on
  · unfold hr_JX hr_GX
    omega
  · unfold hr_JY hr_GY
    omega
def hr_mc (s t : Nat → Int32) (ly q wl f0 f1 : Nat) : Prop :=
  (ly ≤ 7 ∧ q ≤ 4 ∧ s 273 = 2 ∧ s 274 = 0 ∧ wl ≤ ly ∧ t 309 = 0 ∧ s 280 = 0 ∧ t 304 = 0 ∧ hr_pic s t (12 * ly)) ∨
  (ly ≤ 7 ∧ 5 ≤ q ∧ s 273 = 3 ∧ t 276 = 3 ∧ ∃ x dp pa le nx he : Nat, hr_de s t ly (q + 1) wl f0 f1 26 q x dp pa le nx he) ∨
  (ly ≤ 7 ∧ 5 ≤ q ∧ s 273 = 0 ∧ s 274 = 0 ∧ wl ≤ ly + 1 ∧ t 309 = 1 ∧ hr_pic s t (12 * ly + 12)) ∨
  (8 ≤ ly ∧ s 273 = 1 ∧ s 274 = 0 ∧ wl ≤ ly + 1 ∧ hr_pic s t 96)
theorem pr_v81 {ly q wl tk f0 f1 : Nat} (C : hr_ce s t) (N : hr_cn c e) (hl : ly ≤ 11) (hq : q < 28) (ht : tk ≤ 2) (hf0 : f0 ≤ 1) (hf1 : f1 ≤ 1) (e1 : s 251 = nI ly) (e2 : s 272 = nI (q + 1)) (e3 : t 275 = nI q) (w1 : s 281 = nI wl) (w2 : t 305 = nI wl) (k1 : s 282 = nI tk) (k2 : t 278 = nI tk) (S : hr_ss s t ly tk f0 f1) (on : ¬ s 247 &&& 1 = 0) (hc : t 274 = cn) (hb : qa_b cn) (M : hr_mc s t ly q wl f0 f1) :
    ∃ s' t' c' e' : Nat → Int32, hr_ce s' t' ∧ hr_vs s' t' ∧ hr_cn c' e' ∧ qa_ag hr_C4 c c' ∧ qa_ag hr_C4 e e' ∧ qa_ag hr_JX s s' ∧ qa_ag hr_JY t t' ∧ (∀ post : SX → Prop, wX_videoTurn_191 post sa dg st da rn cn s' sv iv c' → wX_videoTurn_81 post (nI q) sa dg st da rn cn s sv iv c) ∧ (∀ post : SY → Prop, wY_videoTurn_197 post sb t' tv jv e' → wY_videoTurn_92 post sb t tv jv e) := by
  have e1' : t 251 = nI ly := (C 251 (by omega)).1.trans e1
  have e3' : t 275 = nI (q + 1) - 1 := e3.trans (nI_pred q).symm
  have offd : s 247 &&& 1 = 0 → q + 1 = 0 := fun z => absurd z on
  rcases M with ⟨m1, m2, m3, m4, m5, m6, m7, m8, m9⟩ | ⟨m1, m2, m3, m4, x, dp, pa, le, nx, he, D⟩ | ⟨m1, m2, m3, m4, m5, m6, m7⟩ | ⟨m1, m2, m3, m4, m5⟩
  · have l7 : t 251 ≤ 7 := by rw [e1']; exact nI_le (b := 7) m1 (by omega)
    by_cases q4 : q = 4
    · subst q4
      obtain ⟨dp, hdp, ed⟩ := pk_andE (s 250) (m := 3) 2 (by decide)
      have ed' : t 250 &&& 3 = nI dp := by rw [(C 250 (by omega)).1]; exact ed
      have D := hr_a8 (f0 := f0) (f1 := f1) (v := upd (upd s 273 3) 274 0 250 &&& 3) (w := upd (upd (upd (upd (upd t 276 3) 277 0) 307 0) 298 0) 299 4 250 &&& 3) m1 m5 m7 m8 m6 m9 (by omega) ed ed'
      have C2 : hr_ce (upd (upd (upd (upd (upd (upd s 273 3) 274 0) 275 (upd (upd s 273 3) 274 0 250 &&& 3)) 276 0) 278 0) 279 0) (upd (upd (upd (upd (upd (upd t 276 3) 277 0) 307 0) 298 0) 299 4) 297 (upd (upd (upd (upd (upd t 276 3) 277 0) 307 0) 298 0) 299 4 250 &&& 3)) := hr_ceA C (qa_agU (qa_agU (qa_agU (qa_agU (qa_agU (qa_agU qa_ag0 (by omega)) (by omega)) (by omega)) (by omega)) (by omega)) (by omega)) (qa_agU (qa_agU (qa_agU (qa_agU (qa_agU (qa_agU qa_ag0 (by omega)) (by omega)) (by omega)) (by omega)) (by omega)) (by omega))
      have B2 : hr_bs (upd (upd (upd (upd (upd (upd s 273 3) 274 0) 275 (upd (upd s 273 3) 274 0 250 &&& 3)) 276 0) 278 0) 279 0) (upd (upd (upd (upd (upd (upd t 276 3) 277 0) 307 0) 298 0) 299 4) 297 (upd (upd (upd (upd (upd t 276 3) 277 0) 307 0) 298 0) 299 4 250 &&& 3)) ly 5 3 wl tk := ⟨e1, e2, e3', rfl, rfl, w1, w2, k1, k2⟩
      have S2 : hr_ss (upd (upd (upd (upd (upd (upd s 273 3) 274 0) 275 (upd (upd s 273 3) 274 0 250 &&& 3)) 276 0) 278 0) 279 0) (upd (upd (upd (upd (upd (upd t 276 3) 277 0) 307 0) 298 0) 299 4) 297 (upd (upd (upd (upd (upd t 276 3) 277 0) 307 0) 298 0) 299 4 250 &&& 3)) ly tk f0 f1 := hr_ssA S (qa_agU (qa_agU (qa_agU (qa_agU (qa_agU (qa_agU qa_ag0 (by unfold hr_SX; omega)) (by unfold hr_SX; omega)) (by unfold hr_SX; omega)) (by unfold hr_SX; omega)) (by unfold hr_SX; omega)) (by unfold hr_SX; omega)) (qa_agU (qa_agU (qa_agU (qa_agU (qa_agU (qa_agU qa_ag0 (by unfold hr_SY; omega)) (by unfold hr_SY; omega)) (by unfold hr_SY; omega)) (by unfold hr_SY; omega)) (by unfold hr_SY; omega)) (by unfold hr_SY; omega))
      obtain ⟨s', t', c', e', A, hX, hY⟩ := pr_dot (sa := sa) (dg := dg) (st := st) (da := da) (rn := rn) (cn := cn) (sv := sv) (iv := iv) (c := c) (sb := sb) (tv := tv) (jv := jv) (e := e) C2 m1 (by omega) ht hf0 hf1 (by omega) (by omega) B2 S2 D N
      obtain ⟨v1, v2, v3, v4, v5, v6⟩ := hr_afv A m1 (by omega) (by omega) ht on
      refine ⟨s', t', c', e', hr_ceA C2 (qa_agW v5 (by unfold hr_JX; omega)) (qa_agW v6 (by unfold hr_JY; omega)), v1, v2, v3, v4, qa_agT (qa_agU (qa_agU (qa_agU (qa_agU (qa_agU (qa_agU qa_ag0 (by unfold hr_JX; omega)) (by unfold hr_JX; omega)) (by unfold hr_JX; omega)) (by unfold hr_JX; omega)) (by unfold hr_JX; omega)) (by unfold hr_JX; omega)) v5, qa_agT (qa_agU (qa_agU (qa_agU (qa_agU (qa_agU (qa_agU qa_ag0 (by unfold hr_JY; omega)) (by unfold hr_JY; omega)) (by unfold hr_JY; omega)) (by unfold hr_JY; omega)) (by unfold hr_JY; omega)) (by unfold hr_JY; omega)) v6, ?_, ?_⟩
      · intro post h
        refine br_t m3 (br_t (by decide) (br_t m3 ?_))
        unfold wpX_beginDrawing
        exact nm_e (nm_e (nm_e (nm_e (nm_e (nm_e (hX _ h))))))
      · intro post h
        refine br_t l7 (br_t (by rw [e3]; decide) (br_t e3 ?_))
        unfold wpY_beginPixels
        refine nm_e (nm_e (nm_e (nm_e (nm_e (nm_e (br_f ?_ (hY _ h)))))))
        show ¬ t 309 = 1
        rw [m6]; decide
    · have q3 : q < 4 := by omega
      obtain ⟨s', t', tk', g0, g1, h1, h2, h3, h4, h5, h6, h7, h8, hX, hY⟩ := pr_sprite (sa := sa) (dg := dg) (st := st) (da := da) (rn := rn) (cn := cn) (sv := sv) (iv := iv) (c := c) (sb := sb) (tv := tv) (jv := jv) (e := e) (n := q) (t := upd t 276 2) (hr_ceY C (by omega)) hl q3 ht e1 k1 k2 (hr_ssA S qa_ag0 (qa_agU qa_ag0 (by unfold hr_SY; omega))) hf0 hf1 hc hb
      have a1 : ∀ i, i < 282 ∨ 291 ≤ i → s' i = s i := h7
      have b1 : ∀ i, (i < 278 ∨ 287 ≤ i) ∧ i ≠ 276 → t' i = t i := fun i hi => (h8 i hi.1).trans (pk_un hi.2)
      refine ⟨s', t', c, e, ?_, ⟨ly, q + 1, 2, wl, tk', g0, g1, hl, by omega, h2, h3, h4, ⟨?_, ?_, ?_, ?_, ?_, ?_, ?_, h5, h6⟩, h1, ?_, ?_, Or.inr (Or.inr (Or.inl ⟨by omega, by omega, m1, rfl, m5, ?_, ?_, ?_, ?_⟩))⟩, N, qa_ag0, qa_ag0, ?_, ?_, ?_, ?_⟩
      · exact hr_ceA C (fun i hi => a1 i (by omega)) (fun i hi => b1 i (by omega))
      · rw [a1 251 (by omega)]; exact e1
      · rw [a1 272 (by omega)]; exact e2
      · rw [b1 275 (by omega)]; exact e3'
      · rw [a1 273 (by omega)]; exact m3
      · exact (h8 276 (by omega)).trans rfl
      · rw [a1 281 (by omega)]; exact w1
      · rw [b1 305 (by omega)]; exact w2
      · rw [a1 247 (by omega)]; exact offd
      · intro _
        rw [a1 274 (by omega)]; exact m4
      · rw [b1 309 (by omega)]; exact m6
      · rw [a1 280 (by omega)]; exact m7
      · rw [b1 304 (by omega)]; exact m8
      · exact hr_picA m9 (by omega) (fun i hi => a1 i (by unfold hr_QX at hi; omega)) (fun i hi => b1 i (by unfold hr_QY at hi; omega))
      · exact fun i hi => a1 i (by unfold hr_JX at hi; omega)
      · exact fun i hi => b1 i (by unfold hr_JY at hi; omega)
      · intro post h
        exact br_t m3 (br_f (nI_ge (b := 4) q3 (by omega)) (hX _ h))
      · intro post h
        refine br_t l7 (br_f (by rw [e3]; exact nI_ge (b := 4) q3 (by omega)) (nm_e ?_))
        rw [show upd t 276 2 275 = nI q from e3]
        exact hY _ h
  · have l7 : t 251 ≤ 7 := by rw [e1']; exact nI_le (b := 7) m1 (by omega)
    have n2 : ¬ s 273 = 2 := by rw [m3]; decide
    have g4 : 4 ≤ t 275 := by rw [e3]; exact nI_le (a := 4) (by omega) (by omega)
    have n4 : ¬ t 275 = 4 := by rw [e3]; exact qa_neN (b := 4) (by omega) (by omega) (by omega)
    have D0 := D
    obtain ⟨a1, a2, a3, a4, a5, a6, a7, a8, a9, d1, d2, d3, d4, d5, d6, d7, d8, d9, d10, d11, d12, d13, z1, z2, z4⟩ := D
    by_cases kx : x = 12
    · subst kx
      refine ⟨upd (upd s 273 0) 274 0, upd t 276 0, c, e, hr_ceA C (qa_agU (qa_agU qa_ag0 (by omega)) (by omega)) (qa_agU qa_ag0 (by omega)), ⟨ly, q + 1, 0, wl, tk, f0, f1, hl, by omega, ht, hf0, hf1, ⟨e1, e2, e3', rfl, rfl, w1, w2, k1, k2⟩, hr_ssA S (qa_agU (qa_agU qa_ag0 (by unfold hr_SX; omega)) (by unfold hr_SX; omega)) (qa_agU qa_ag0 (by unfold hr_SY; omega)), offd, fun _ => rfl, Or.inr (Or.inr (Or.inr (Or.inr ⟨by omega, m1, rfl, by omega, d3, hr_picA z4 (by omega) (qa_agU (qa_agU qa_ag0 (by unfold hr_QX; omega)) (by unfold hr_QX; omega)) (qa_agU qa_ag0 (by unfold hr_QY; omega))⟩)))⟩, N, qa_ag0, qa_ag0, qa_agU (qa_agU qa_ag0 (by unfold hr_JX; omega)) (by unfold hr_JX; omega), qa_agU qa_ag0 (by unfold hr_JY; omega), ?_, ?_⟩
      · intro post h
        exact br_f n2 (br_f n2 (br_t m3 (br_t (by rw [d1]; decide) (br_t m3 (nm_e (nm_e h))))))
      · intro post h
        exact br_t l7 (br_t g4 (br_f n4 (br_t d3 (nm_e h))))
    · obtain ⟨s', t', c', e', A, hX, hY⟩ := pr_dot (sa := sa) (dg := dg) (st := st) (da := da) (rn := rn) (cn := cn) (sv := sv) (iv := iv) (c := c) (sb := sb) (tv := tv) (jv := jv) (e := e) C m1 (by omega) ht hf0 hf1 (by omega) (by omega) ⟨e1, e2, e3', m3, m4, w1, w2, k1, k2⟩ S D0 N
      obtain ⟨v1, v2, v3, v4, v5, v6⟩ := hr_afv A m1 (by omega) (by omega) ht on
      refine ⟨s', t', c', e', hr_ceA C (qa_agW v5 (by unfold hr_JX; omega)) (qa_agW v6 (by unfold hr_JY; omega)), v1, v2, v3, v4, v5, v6, ?_, ?_⟩
      · intro post h
        exact br_f n2 (br_f n2 (br_t m3 (br_f (by rw [d1]; exact nI_ge (b := 12) (by omega) (by omega)) (hX _ h))))
      · intro post h
        refine br_t l7 (br_t g4 (br_f n4 (br_f ?_ (hY _ h))))
        rw [d3, if_neg kx]; decide
  · have l7 : t 251 ≤ 7 := by rw [e1']; exact nI_le (b := 7) m1 (by omega)
    have n2 : ¬ s 273 = 2 := by rw [m3]; decide
    have n3 : ¬ s 273 = 3 := by rw [m3]; decide
    have g4 : 4 ≤ t 275 := by rw [e3]; exact nI_le (a := 4) (by omega) (by omega)
    have n4 : ¬ t 275 = 4 := by rw [e3]; exact qa_neN (b := 4) (by omega) (by omega) (by omega)
    refine ⟨s, upd t 276 0, c, e, hr_ceY C (by omega), ⟨ly, q + 1, 0, wl, tk, f0, f1, hl, by omega, ht, hf0, hf1, ⟨e1, e2, e3', m3, rfl, w1, w2, k1, k2⟩, hr_ssA S qa_ag0 (qa_agU qa_ag0 (by unfold hr_SY; omega)), offd, fun _ => m4, Or.inr (Or.inr (Or.inr (Or.inr ⟨by omega, m1, rfl, m5, m6, hr_picA m7 (by omega) qa_ag0 (qa_agU qa_ag0 (by unfold hr_QY; omega))⟩)))⟩, N, qa_ag0, qa_ag0, qa_ag0, qa_agU qa_ag0 (by unfold hr_JY; omega), ?_, ?_⟩
    · intro post h
      exact br_f n2 (br_f n2 (br_f n3 (br_f n3 h)))
    · intro post h
      exact br_t l7 (br_t g4 (br_f n4 (br_t m6 (nm_e h))))
  · have n2 : ¬ s 273 = 2 := by rw [m2]; decide
    have n3 : ¬ s 273 = 3 := by rw [m2]; decide
    refine ⟨s, upd t 276 1, c, e, hr_ceY C (by omega), ⟨ly, q + 1, 1, wl, tk, f0, f1, hl, by omega, ht, hf0, hf1, ⟨e1, e2, e3', m2, rfl, w1, w2, k1, k2⟩, hr_ssA S qa_ag0 (qa_agU qa_ag0 (by unfold hr_SY; omega)), offd, fun _ => m3, Or.inr (Or.inl ⟨by omega, m1, rfl, m4, hr_picA m5 (by omega) qa_ag0 (qa_agU qa_ag0 (by unfold hr_QY; omega))⟩)⟩, N, qa_ag0, qa_ag0, qa_ag0, qa_agU qa_ag0 (by unfold hr_JY; omega), ?_, ?_⟩
    · intro post h
      exact br_f n2 (br_f n2 (br_f n3 (br_f n3 h)))
    · intro post h
      exact br_f (by rw [e1']; exact nI_ge (a := 7) (by omega) (by omega)) (nm_e h)
end
