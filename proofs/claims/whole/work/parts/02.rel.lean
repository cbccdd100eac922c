/-! the relation of the hardware parts of the two states: s is X's array state, t is Y's array now -/
def hr_ce (s t : Nat → Int32) : Prop := ∀ i, i < 256 → t i = s i ∧ qa_B (s i)
def hr_tm (s t : Nat → Int32) : Prop := t 267 = s 266 ∧ (∃ n : Nat, n < 1024 ∧ s 266 = nI n) ∧ t 268 = s 267 ∧ qa_b (s 267)
def hr_cp (s t : Nat → Int32) : Prop := ∃ dl pg nx : Nat, dl ≤ 2 ∧ pg < 16 ∧ nx ≤ 16 ∧ s 268 = nI dl ∧ t 273 = nI dl ∧ s 269 = nI (16 * pg) ∧ t 270 = nI pg ∧ s 270 = nI (16 - nx) ∧ t 271 = nI nx ∧ t 272 = s 253 &&& 15
def hr_ln (s t : Nat → Int32) : Prop := t 308 = s 271 ∧ qa_b (s 271)
def hr_ky (s t : Nat → Int32) : Prop := t 310 = s 391 ∧ qa_B (s 391)
def hr_sh (s t : Nat → Int32) : Prop := ∀ p, p < 96 → t (416 + p) = s (392 + p)
def hr_pic (s t : Nat → Int32) (n : Nat) : Prop := ∀ p, p < n → t (320 + p) = s (295 + p)
/-- a sprite that is taken, at place i of the line ly; fe: fetched -/
def hr_sp (s t : Nat → Int32) (ly i fe : Nat) : Prop :=
  ∃ w r x : Nat, w < 4 ∧ r ≤ 3 ∧ r ≤ ly ∧ x < 256 ∧ s (283 + i) = nI w ∧ t (279 + i) = nI w ∧ s (285 + i) = nI r ∧ t (283 + i) = nI (ly - r) ∧ s (287 + i) = nI x ∧ t (281 + i) = nI x ∧ s (289 + i) = nI fe ∧ t (285 + i) = nI fe ∧
  (fe = 1 → ∃ lk b : Nat, lk < 256 ∧ b < 256 ∧ s (293 + i) = nI lk ∧ t (287 + i) = nI lk ∧ s (291 + i) = nI b ∧ ∀ k, k < 4 → t (289 + 4 * i + k) = nI (b / 4 ^ (3 - k) % 4))
/-- the strip that is being shown -/
def hr_st (s t : Nat → Int32) (le : Nat) : Prop := 0 < le → ∃ b : Nat, b < 256 ∧ s 277 = nI b ∧ ∀ k, k < 4 → t (300 + k) = nI (b / 4 ^ (3 - k) % 4)
/-- while a line is drawn: q bounds the dots that are left, e the strips -/
def hr_de (s t : Nat → Int32) (ly d wl f0 f1 q e x dp pa le nx he : Nat) : Prop :=
  x ≤ 12 ∧ dp ≤ 3 ∧ pa ≤ 1 ∧ le ≤ 4 ∧ nx ≤ e ∧ he ≤ 1 ∧ wl ≤ ly + he ∧ he ≤ wl ∧ (12 - x) + dp + pa + 2 * (1 - he) + 2 * (1 - f0) + 2 * (1 - f1) + d ≤ q ∧
  s 274 = nI x ∧ t 277 = nI x ∧ t 309 = nI (if x = 12 then 1 else 0) ∧ s 275 = nI dp ∧ t 297 = nI dp ∧ s 276 = nI pa ∧ t 307 = nI pa ∧ s 278 = nI le ∧ t 299 = nI (4 - le) ∧ s 279 = nI nx ∧ t 298 = nI nx ∧ s 280 = nI he ∧ t 304 = nI he ∧
  (he = 1 → t 306 = nI (wl - 1)) ∧
  hr_st s t le ∧ hr_pic s t (12 * ly + x)
def hr_dr (s t : Nat → Int32) (ly d wl f0 f1 : Nat) : Prop := ∃ x dp pa le nx he : Nat, hr_de s t ly d wl f0 f1 25 d x dp pa le nx he
def hr_bs (s t : Nat → Int32) (ly d m wl tk : Nat) : Prop := s 251 = nI ly ∧ s 272 = nI d ∧ t 275 = nI d - 1 ∧ s 273 = nI m ∧ t 276 = nI m ∧ s 281 = nI wl ∧ t 305 = nI wl ∧ s 282 = nI tk ∧ t 278 = nI tk
def hr_ss (s t : Nat → Int32) (ly tk f0 f1 : Nat) : Prop := (1 ≤ tk → hr_sp s t ly 0 f0) ∧ (2 ≤ tk → hr_sp s t ly 1 f1)
def hr_cs (s t : Nat → Int32) (ly d m wl tk f0 f1 : Nat) : Prop :=
  (d = 0 ∧ m = 0 ∧ ly = 0 ∧ wl = 0 ∧ tk = 0) ∨
  (1 ≤ d ∧ 8 ≤ ly ∧ m = 1 ∧ wl ≤ ly + 1 ∧ hr_pic s t 96) ∨
  (1 ≤ d ∧ d ≤ 4 ∧ ly ≤ 7 ∧ m = 2 ∧ wl ≤ ly ∧ t 309 = 0 ∧ s 280 = 0 ∧ t 304 = 0 ∧ hr_pic s t (12 * ly)) ∨
  (5 ≤ d ∧ ly ≤ 7 ∧ m = 3 ∧ hr_dr s t ly d wl f0 f1) ∨
  (5 ≤ d ∧ ly ≤ 7 ∧ m = 0 ∧ wl ≤ ly + 1 ∧ t 309 = 1 ∧ hr_pic s t (12 * ly + 12))
def hr_vs (s t : Nat → Int32) : Prop := ∃ ly d m wl tk f0 f1 : Nat,
  ly ≤ 11 ∧ d ≤ 28 ∧ tk ≤ 2 ∧ f0 ≤ 1 ∧ f1 ≤ 1 ∧ hr_bs s t ly d m wl tk ∧ hr_ss s t ly tk f0 f1 ∧
  (s 247 &&& 1 = 0 → d = 0) ∧ (m ≠ 3 → s 274 = 0) ∧ hr_cs s t ly d m wl tk f0 f1
def hr_Hw (s t : Nat → Int32) : Prop := hr_ce s t ∧ hr_tm s t ∧ hr_cp s t ∧ hr_ln s t ∧ hr_ky s t ∧ hr_sh s t ∧ hr_vs s t
/-! places that each part looks at -/
def hr_PX (i : Nat) : Prop := i = 247 ∨ i = 251 ∨ (272 ≤ i ∧ i < 391)
def hr_PY (i : Nat) : Prop := (275 ≤ i ∧ i < 308) ∨ i = 309 ∨ (320 ≤ i ∧ i < 416)
def hr_QX (i : Nat) : Prop := 295 ≤ i ∧ i < 391
def hr_QY (i : Nat) : Prop := 320 ≤ i ∧ i < 416
def hr_SX (i : Nat) : Prop := 283 ≤ i ∧ i < 295
def hr_SY (i : Nat) : Prop := 279 ≤ i ∧ i < 297
theorem hr_PQX : ∀ i, hr_QX i → hr_PX i := by intro i h; unfold hr_QX at h; unfold hr_PX; omega
theorem hr_PQY : ∀ i, hr_QY i → hr_PY i := by intro i h; unfold hr_QY at h; unfold hr_PY; omega
theorem hr_PSX : ∀ i, hr_SX i → hr_PX i := by intro i h; unfold hr_SX at h; unfold hr_PX; omega
theorem hr_PSY : ∀ i, hr_SY i → hr_PY i := by intro i h; unfold hr_SY at h; unfold hr_PY; omega
theorem hr_ceX {s t : Nat → Int32} {k : Nat} {v : Int32} (h : hr_ce s t) (hk : 256 ≤ k) : hr_ce (upd s k v) t := fun i hi => by
  rw [pk_un (by omega)]
  exact h i hi
theorem hr_ceY {s t : Nat → Int32} {k : Nat} {v : Int32} (h : hr_ce s t) (hk : 256 ≤ k) : hr_ce s (upd t k v) := fun i hi => by
  rw [pk_un (by omega)]
  exact h i hi
theorem hr_ceB {s t : Nat → Int32} {k : Nat} {v w : Int32} (h : hr_ce s t) (hv : qa_B v) (e : w = v) : hr_ce (upd s k v) (upd t k w) := fun i hi => by
  by_cases c : i = k
  · subst c
    rw [pk_us, pk_us]
    exact ⟨e, hv⟩
  · rw [pk_un c, pk_un c]
    exact h i hi
theorem hr_ceA {s t s' t' : Nat → Int32} (h : hr_ce s t) (hx : qa_ag (fun i => i < 256) s s') (hy : qa_ag (fun i => i < 256) t t') : hr_ce s' t' := fun i hi => by
  rw [hx i hi, hy i hi]
  exact h i hi
theorem hr_tmA {s t s' t' : Nat → Int32} (h : hr_tm s t) (hx : qa_ag (fun i => i = 266 ∨ i = 267) s s') (hy : qa_ag (fun i => i = 267 ∨ i = 268) t t') : hr_tm s' t' := by
  unfold hr_tm
  rw [hx 266 (by omega), hx 267 (by omega), hy 267 (by omega), hy 268 (by omega)]
  exact h
theorem hr_cpA {s t s' t' : Nat → Int32} (h : hr_cp s t) (hx : qa_ag (fun i => i = 253 ∨ (268 ≤ i ∧ i ≤ 270)) s s') (hy : qa_ag (fun i => 270 ≤ i ∧ i ≤ 273) t t') : hr_cp s' t' := by
  unfold hr_cp
  rw [hx 253 (by omega), hx 268 (by omega), hx 269 (by omega), hx 270 (by omega), hy 270 (by omega), hy 271 (by omega), hy 272 (by omega), hy 273 (by omega)]
  exact h
theorem hr_lnA {s t s' t' : Nat → Int32} (h : hr_ln s t) (hx : s' 271 = s 271) (hy : t' 308 = t 308) : hr_ln s' t' := by
  unfold hr_ln
  rw [hx, hy]
  exact h
theorem hr_kyA {s t s' t' : Nat → Int32} (h : hr_ky s t) (hx : s' 391 = s 391) (hy : t' 310 = t 310) : hr_ky s' t' := by
  unfold hr_ky
  rw [hx, hy]
  exact h
theorem hr_shA {s t s' t' : Nat → Int32} (h : hr_sh s t) (hx : qa_ag (fun i => 392 ≤ i) s s') (hy : qa_ag (fun i => 416 ≤ i) t t') : hr_sh s' t' := fun p hp => by
  rw [hx _ (by omega), hy _ (by omega)]
  exact h p hp
theorem hr_picA {s t s' t' : Nat → Int32} {n : Nat} (h : hr_pic s t n) (hn : n ≤ 96) (hx : qa_ag hr_QX s s') (hy : qa_ag hr_QY t t') : hr_pic s' t' n := fun p hp => by
  rw [hx _ (by unfold hr_QX; omega), hy _ (by unfold hr_QY; omega)]
  exact h p hp
theorem hr_spA {s t s' t' : Nat → Int32} {ly i fe : Nat} (h : hr_sp s t ly i fe) (hi : i < 2) (hx : qa_ag hr_SX s s') (hy : qa_ag hr_SY t t') : hr_sp s' t' ly i fe := by
  obtain ⟨w, r, x, h1, h2, h3, h4, e1, e2, e3, e4, e5, e6, e7, e8, g⟩ := h
  refine ⟨w, r, x, h1, h2, h3, h4, ?_, ?_, ?_, ?_, ?_, ?_, ?_, ?_, ?_⟩
  · rw [hx _ (by unfold hr_SX; omega)]; exact e1
  · rw [hy _ (by unfold hr_SY; omega)]; exact e2
  · rw [hx _ (by unfold hr_SX; omega)]; exact e3
  · rw [hy _ (by unfold hr_SY; omega)]; exact e4
  · rw [hx _ (by unfold hr_SX; omega)]; exact e5
  · rw [hy _ (by unfold hr_SY; omega)]; exact e6
  · rw [hx _ (by unfold hr_SX; omega)]; exact e7
  · rw [hy _ (by unfold hr_SY; omega)]; exact e8
  · intro f
    obtain ⟨lk, b, l1, l2, q1, q2, q3, q4⟩ := g f
    refine ⟨lk, b, l1, l2, ?_, ?_, ?_, ?_⟩
    · rw [hx _ (by unfold hr_SX; omega)]; exact q1
    · rw [hy _ (by unfold hr_SY; omega)]; exact q2
    · rw [hx _ (by unfold hr_SX; omega)]; exact q3
    · intro k hk
      rw [hy _ (by unfold hr_SY; omega)]
      exact q4 k hk
theorem hr_deA {s t s' t' : Nat → Int32} {ly d wl f0 f1 q e x dp pa le nx he : Nat} (h : hr_de s t ly d wl f0 f1 q e x dp pa le nx he) (hl : ly ≤ 7) (hx : qa_ag hr_PX s s') (hy : qa_ag hr_PY t t') : hr_de s' t' ly d wl f0 f1 q e x dp pa le nx he := by
  obtain ⟨a1, a2, a3, a4, a5, a6, a7, a8, a9, e1, e2, e3, e4, e5, e6, e7, e8, e9, e10, e11, e12, e13, g1, g2, g4⟩ := h
  refine ⟨a1, a2, a3, a4, a5, a6, a7, a8, a9, ?_, ?_, ?_, ?_, ?_, ?_, ?_, ?_, ?_, ?_, ?_, ?_, ?_, ?_, ?_, hr_picA g4 (by omega) (qa_agW hx hr_PQX) (qa_agW hy hr_PQY)⟩
  · rw [hx _ (by unfold hr_PX; omega)]; exact e1
  · rw [hy _ (by unfold hr_PY; omega)]; exact e2
  · rw [hy _ (by unfold hr_PY; omega)]; exact e3
  · rw [hx _ (by unfold hr_PX; omega)]; exact e4
  · rw [hy _ (by unfold hr_PY; omega)]; exact e5
  · rw [hx _ (by unfold hr_PX; omega)]; exact e6
  · rw [hy _ (by unfold hr_PY; omega)]; exact e7
  · rw [hx _ (by unfold hr_PX; omega)]; exact e8
  · rw [hy _ (by unfold hr_PY; omega)]; exact e9
  · rw [hx _ (by unfold hr_PX; omega)]; exact e10
  · rw [hy _ (by unfold hr_PY; omega)]; exact e11
  · rw [hx _ (by unfold hr_PX; omega)]; exact e12
  · rw [hy _ (by unfold hr_PY; omega)]; exact e13
  · intro f
    rw [hy _ (by unfold hr_PY; omega)]
    exact g1 f
  · intro f
    obtain ⟨b, hb, q1, q2⟩ := g2 f
    refine ⟨b, hb, ?_, ?_⟩
    · rw [hx _ (by unfold hr_PX; omega)]; exact q1
    · intro k hk
      rw [hy _ (by unfold hr_PY; omega)]
      exact q2 k hk
theorem hr_drA {s t s' t' : Nat → Int32} {ly d wl f0 f1 : Nat} (h : hr_dr s t ly d wl f0 f1) (hl : ly ≤ 7) (hx : qa_ag hr_PX s s') (hy : qa_ag hr_PY t t') : hr_dr s' t' ly d wl f0 f1 := by
  obtain ⟨x, dp, pa, le, nx, he, h⟩ := h
  exact ⟨x, dp, pa, le, nx, he, hr_deA h hl hx hy⟩
theorem hr_bsA {s t s' t' : Nat → Int32} {ly d m wl tk : Nat} (h : hr_bs s t ly d m wl tk) (hx : qa_ag (fun i => i = 251 ∨ i = 272 ∨ i = 273 ∨ i = 281 ∨ i = 282) s s') (hy : qa_ag (fun i => i = 275 ∨ i = 276 ∨ i = 305 ∨ i = 278) t t') : hr_bs s' t' ly d m wl tk := by
  unfold hr_bs
  rw [hx 251 (by omega), hx 272 (by omega), hx 273 (by omega), hx 281 (by omega), hx 282 (by omega), hy 275 (by omega), hy 276 (by omega), hy 305 (by omega), hy 278 (by omega)]
  exact h
theorem hr_ssA {s t s' t' : Nat → Int32} {ly tk f0 f1 : Nat} (h : hr_ss s t ly tk f0 f1) (hx : qa_ag hr_SX s s') (hy : qa_ag hr_SY t t') : hr_ss s' t' ly tk f0 f1 :=
  ⟨fun q => hr_spA (h.1 q) (by omega) hx hy, fun q => hr_spA (h.2 q) (by omega) hx hy⟩
theorem hr_csA {s t s' t' : Nat → Int32} {ly d m wl tk f0 f1 : Nat} (h : hr_cs s t ly d m wl tk f0 f1) (hx : qa_ag hr_PX s s') (hy : qa_ag hr_PY t t') : hr_cs s' t' ly d m wl tk f0 f1 := by
  have e1 : s' 280 = s 280 := hx _ (by unfold hr_PX; omega)
  have e2 : t' 304 = t 304 := hy _ (by unfold hr_PY; omega)
  have e3 : t' 309 = t 309 := hy _ (by unfold hr_PY; omega)
  unfold hr_cs
  rw [e1, e2, e3]
  rcases h with h | h | h | h | h
  · exact Or.inl h
  · exact Or.inr (Or.inl ⟨h.1, h.2.1, h.2.2.1, h.2.2.2.1, hr_picA h.2.2.2.2 (by omega) (qa_agW hx hr_PQX) (qa_agW hy hr_PQY)⟩)
  · obtain ⟨h1, h2, h3, h4, h5, h6, h7, h8, h9⟩ := h
    exact Or.inr (Or.inr (Or.inl ⟨h1, h2, h3, h4, h5, h6, h7, h8, hr_picA h9 (by omega) (qa_agW hx hr_PQX) (qa_agW hy hr_PQY)⟩))
  · obtain ⟨h1, h2, h3, h4⟩ := h
    exact Or.inr (Or.inr (Or.inr (Or.inl ⟨h1, h2, h3, hr_drA h4 h2 hx hy⟩)))
  · obtain ⟨h1, h2, h3, h4, h5, h6⟩ := h
    exact Or.inr (Or.inr (Or.inr (Or.inr ⟨h1, h2, h3, h4, h5, hr_picA h6 (by omega) (qa_agW hx hr_PQX) (qa_agW hy hr_PQY)⟩)))
theorem hr_vsA {s t s' t' : Nat → Int32} (h : hr_vs s t) (hx : qa_ag hr_PX s s') (hy : qa_ag hr_PY t t') : hr_vs s' t' := by
  obtain ⟨ly, d, m, wl, tk, f0, f1, b1, b2, b3, b4, b5, e, p, o, z, c⟩ := h
  refine ⟨ly, d, m, wl, tk, f0, f1, b1, b2, b3, b4, b5, hr_bsA e (qa_agW hx ?_) (qa_agW hy ?_), hr_ssA p (qa_agW hx hr_PSX) (qa_agW hy hr_PSY), ?_, ?_, hr_csA c hx hy⟩
  · intro i h
    unfold hr_PX
    omega
  · intro i h
    unfold hr_PY
    omega
  · rw [hx 247 (by unfold hr_PX; omega)]; exact o
  · rw [hx 274 (by unfold hr_PX; omega)]; exact z
/-! the parts that a turn leaves alone -/
theorem hr_HwA {s t s' t' : Nat → Int32} (H : hr_Hw s t) (hx : qa_ag (fun i => i < 256 ∨ 266 ≤ i) s s') (hy : qa_ag (fun i => i < 256 ∨ (267 ≤ i ∧ i ≠ 269 ∧ i ≠ 274)) t t') : hr_Hw s' t' := by
  obtain ⟨h1, h2, h3, h4, h5, h6, h7⟩ := H
  refine ⟨hr_ceA h1 (qa_agW hx ?_) (qa_agW hy ?_), hr_tmA h2 (qa_agW hx ?_) (qa_agW hy ?_), hr_cpA h3 (qa_agW hx ?_) (qa_agW hy ?_), hr_lnA h4 (hx _ ?_) (hy _ ?_), hr_kyA h5 (hx _ ?_) (hy _ ?_), hr_shA h6 (qa_agW hx ?_) (qa_agW hy ?_), hr_vsA h7 (qa_agW hx ?_) (qa_agW hy ?_)⟩ <;> (try unfold hr_PX) <;> (try unfold hr_PY) <;> omega
theorem hr_HwT {s t s' t' : Nat → Int32} (H : hr_Hw s t) (c : hr_ce s' t') (m : hr_tm s' t') (hx : qa_ag (fun i => i = 247 ∨ i = 251 ∨ i = 253 ∨ 268 ≤ i) s s') (hy : qa_ag (fun i => 270 ≤ i ∧ i ≠ 274) t t') : hr_Hw s' t' := by
  obtain ⟨h1, h2, h3, h4, h5, h6, h7⟩ := H
  refine ⟨c, m, hr_cpA h3 (qa_agW hx ?_) (qa_agW hy ?_), hr_lnA h4 (hx _ ?_) (hy _ ?_), hr_kyA h5 (hx _ ?_) (hy _ ?_), hr_shA h6 (qa_agW hx ?_) (qa_agW hy ?_), hr_vsA h7 (qa_agW hx ?_) (qa_agW hy ?_)⟩ <;> (try unfold hr_PX) <;> (try unfold hr_PY) <;> omega
theorem hr_HwC {s t s' t' : Nat → Int32} (H : hr_Hw s t) (c : hr_ce s' t') (p : hr_cp s' t') (hx : qa_ag (fun i => i = 247 ∨ i = 251 ∨ i = 266 ∨ i = 267 ∨ 271 ≤ i) s s') (hy : qa_ag (fun i => i = 267 ∨ i = 268 ∨ 275 ≤ i) t t') : hr_Hw s' t' := by
  obtain ⟨h1, h2, h3, h4, h5, h6, h7⟩ := H
  refine ⟨c, hr_tmA h2 (qa_agW hx ?_) (qa_agW hy ?_), p, hr_lnA h4 (hx _ ?_) (hy _ ?_), hr_kyA h5 (hx _ ?_) (hy _ ?_), hr_shA h6 (qa_agW hx ?_) (qa_agW hy ?_), hr_vsA h7 (qa_agW hx ?_) (qa_agW hy ?_)⟩ <;> (try unfold hr_PX) <;> (try unfold hr_PY) <;> omega
theorem hr_HwV {s t s' t' : Nat → Int32} (H : hr_Hw s t) (c : hr_ce s' t') (l : hr_ln s' t') (w : hr_sh s' t') (v : hr_vs s' t') (hx : qa_ag (fun i => i = 253 ∨ (266 ≤ i ∧ i ≤ 270) ∨ i = 391) s s') (hy : qa_ag (fun i => (267 ≤ i ∧ i ≤ 273 ∧ i ≠ 269) ∨ i = 310) t t') : hr_Hw s' t' := by
  obtain ⟨h1, h2, h3, h4, h5, h6, h7⟩ := H
  refine ⟨c, hr_tmA h2 (qa_agW hx ?_) (qa_agW hy ?_), hr_cpA h3 (qa_agW hx ?_) (qa_agW hy ?_), l, hr_kyA h5 (hx _ ?_) (hy _ ?_), w, v⟩ <;> omega
/-! the registers of the processor: what a turn of the hardware leaves alone -/
def hr_FX (i : Nat) : Prop := 256 ≤ i ∧ i < 266
def hr_FY (i : Nat) : Prop := 256 ≤ i ∧ i < 267
