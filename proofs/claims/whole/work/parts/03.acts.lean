/-! what each dot does to the picture's state, on both sides -/
theorem hr_picX {s t : Nat → Int32} {n k : Nat} {v : Int32} (h : hr_pic s t n) (hn : n ≤ 96) (hk : k < 295 ∨ 391 ≤ k) : hr_pic (upd s k v) t n := fun p hp => by
  rw [pk_un (by omega)]
  exact h p hp
theorem hr_picY {s t : Nat → Int32} {n k : Nat} {v : Int32} (h : hr_pic s t n) (hn : n ≤ 96) (hk : k < 320 ∨ 416 ≤ k) : hr_pic s (upd t k v) n := fun p hp => by
  rw [pk_un (by omega)]
  exact h p hp
theorem hr_picS {s t : Nat → Int32} {n : Nat} {v : Int32} (h : hr_pic s t n) : hr_pic (upd s (295 + n) v) (upd t (320 + n) v) (n + 1) := fun p hp => by
  by_cases c : p = n
  · subst c
    rw [pk_us, pk_us]
  · rw [pk_un (by omega), pk_un (by omega)]
    exact h p (by omega)
theorem hr_picL {s t : Nat → Int32} {n m : Nat} (h : hr_pic s t n) (hm : m ≤ n) : hr_pic s t m := fun p hp => h p (by omega)
theorem hr_stX {s t : Nat → Int32} {le k : Nat} {v : Int32} (h : hr_st s t le) (hk : k ≠ 277) : hr_st (upd s k v) t le := fun f => by
  obtain ⟨b, hb, q1, q2⟩ := h f
  exact ⟨b, hb, by rw [pk_un (fun z => hk z.symm)]; exact q1, q2⟩
theorem hr_stY {s t : Nat → Int32} {le k : Nat} {v : Int32} (h : hr_st s t le) (hk : k < 300 ∨ 304 ≤ k) : hr_st s (upd t k v) le := fun f => by
  obtain ⟨b, hb, q1, q2⟩ := h f
  exact ⟨b, hb, q1, fun j hj => by rw [pk_un (by omega)]; exact q2 j hj⟩
theorem hr_stL {s t : Nat → Int32} {le le' : Nat} (h : hr_st s t le) (hk : 0 < le' → 0 < le) : hr_st s t le' := fun f => h (hk f)
theorem hr_a1 {s t : Nat → Int32} {ly d wl f0 f1 q e x dp le nx he : Nat} (h : hr_de s t ly d wl f0 f1 (q + 1) e x dp 1 le nx he) (hl : ly ≤ 7) : hr_de (upd s 276 0) (upd t 307 0) ly d wl f0 f1 q e x dp 0 le nx he := by
  obtain ⟨a1, a2, a3, a4, a5, a6, a7, a8, a9, e1, e2, e3, e4, e5, e6, e7, e8, e9, e10, e11, e12, e13, g1, g2, g4⟩ := h
  exact ⟨a1, a2, by omega, a4, a5, a6, a7, a8, by omega, e1, e2, e3, e4, e5, rfl, rfl, e8, e9, e10, e11, e12, e13, g1, hr_stX (hr_stY g2 (by omega)) (by omega), hr_picX (hr_picY g4 (by omega) (by omega)) (by omega) (by omega)⟩
theorem hr_a2 {s t : Nat → Int32} {ly d wl f0 f1 q e x dp le nx : Nat} {v w r : Int32} (h : hr_de s t ly d wl f0 f1 (q + 1) e x dp 0 le nx 0) (hl : ly ≤ 7) (hv : v = nI (wl + 1)) (hw : w = nI (wl + 1)) (hr : r = nI wl) :
    hr_de (upd (upd (upd (upd (upd (upd s 280 1) 281 v) 278 0) 279 0) 275 0) 276 1) (upd (upd (upd (upd (upd (upd (upd t 304 1) 306 r) 305 w) 298 0) 299 4) 297 0) 307 1) ly d (wl + 1) f0 f1 q e x 0 1 0 0 1 := by
  obtain ⟨a1, a2, a3, a4, a5, a6, a7, a8, a9, e1, e2, e3, e4, e5, e6, e7, e8, e9, e10, e11, e12, e13, g1, g2, g4⟩ := h
  refine ⟨a1, by omega, by omega, by omega, by omega, by omega, by omega, by omega, by omega, e1, e2, e3, rfl, rfl, rfl, rfl, rfl, rfl, rfl, rfl, rfl, rfl, fun _ => hr, fun z => absurd z (by omega), ?_⟩
  have hn : 12 * ly + x ≤ 96 := by omega
  iterate 6 refine hr_picX ?_ hn (by omega)
  iterate 7 refine hr_picY ?_ hn (by omega)
  exact g4
theorem hr_a2b {s t : Nat → Int32} {ly d m wl tk : Nat} {v w r : Int32} (h : hr_bs s t ly d m wl tk) (hv : v = nI (wl + 1)) (hw : w = nI (wl + 1)) :
    hr_bs (upd (upd (upd (upd (upd (upd s 280 1) 281 v) 278 0) 279 0) 275 0) 276 1) (upd (upd (upd (upd (upd (upd (upd t 304 1) 306 r) 305 w) 298 0) 299 4) 297 0) 307 1) ly d m (wl + 1) tk := by
  obtain ⟨h1, h2, h3, h4, h5, h6, h7, h8, h9⟩ := h
  exact ⟨h1, h2, h3, h4, h5, hv, hw, h8, h9⟩
/-- a strip is fetched -/
theorem hr_a4 {s t t' : Nat → Int32} {ly d wl f0 f1 q e x dp pa nx he b : Nat} {v1 v3 w1 : Int32} (h : hr_de s t ly d wl f0 f1 q e x dp pa 0 nx he) (hl : ly ≤ 7) (hb : b < 256) (h1 : v1 = nI b) (h3 : v3 = nI (nx + 1)) (k1 : w1 = nI (nx + 1)) (hf : ∀ k, k < 4 → t' (300 + k) = nI (b / 4 ^ (3 - k) % 4)) (ha : qa_ag (fun i => i < 300 ∨ 304 ≤ i) t t') :
    hr_de (upd (upd (upd s 277 v1) 278 4) 279 v3) (upd (upd t' 298 w1) 299 0) ly d wl f0 f1 q (e + 1) x dp pa 4 (nx + 1) he := by
  obtain ⟨a1, a2, a3, a4, a5, a6, a7, a8, a9, e1, e2, e3, e4, e5, e6, e7, e8, e9, e10, e11, e12, e13, g1, g2, g4⟩ := h
  have hn : 12 * ly + x ≤ 96 := by omega
  refine ⟨a1, a2, a3, by omega, by omega, a6, a7, a8, a9, e1, (ha 277 (by omega)).trans e2, (ha 309 (by omega)).trans e3, e4, (ha 297 (by omega)).trans e5, e6, (ha 307 (by omega)).trans e7, rfl, rfl, h3, k1, e12, (ha 304 (by omega)).trans e13, fun z => (ha 306 (by omega)).trans (g1 z), fun _ => ⟨b, hb, h1, ?_⟩, ?_⟩
  · intro k hk
    rw [pk_un (by omega), pk_un (by omega)]
    exact hf k hk
  · iterate 3 refine hr_picX ?_ hn (by omega)
    iterate 2 refine hr_picY ?_ hn (by omega)
    intro p hp
    rw [ha _ (by omega)]
    exact g4 p hp
/-- a pixel is dropped -/
theorem hr_a5 {s t : Nat → Int32} {ly d wl f0 f1 q e x dp pa le nx he : Nat} {v1 v2 w1 w2 : Int32} (h : hr_de s t ly d wl f0 f1 (q + 1) e x (dp + 1) pa (le + 1) nx he) (hl : ly ≤ 7) (h1 : v1 = nI le) (h2 : v2 = nI dp) (k1 : w1 = nI dp) (k2 : w2 = nI (4 - le)) :
    hr_de (upd (upd s 278 v1) 275 v2) (upd (upd t 297 w1) 299 w2) ly d wl f0 f1 q e x dp pa le nx he := by
  obtain ⟨a1, a2, a3, a4, a5, a6, a7, a8, a9, e1, e2, e3, e4, e5, e6, e7, e8, e9, e10, e11, e12, e13, g1, g2, g4⟩ := h
  have hn : 12 * ly + x ≤ 96 := by omega
  refine ⟨a1, by omega, a3, by omega, a5, a6, a7, a8, by omega, e1, e2, e3, h2, k1, e6, e7, h1, k2, e10, e11, e12, e13, g1, hr_stX (hr_stX (hr_stY (hr_stY (hr_stL g2 (by omega)) (by omega)) (by omega)) (by omega)) (by omega), ?_⟩
  iterate 2 refine hr_picX ?_ hn (by omega)
  iterate 2 refine hr_picY ?_ hn (by omega)
  exact g4
/-- a pixel is drawn: not the last one of its line -/
theorem hr_a6 {s t : Nat → Int32} {ly d wl f0 f1 q e x pa le nx he : Nat} {v1 v3 w1 w3 c : Int32} (h : hr_de s t ly d wl f0 f1 (q + 1) e x 0 pa (le + 1) nx he) (hl : ly ≤ 7) (hx : x < 11) (h1 : v1 = nI le) (h3 : v3 = nI (x + 1)) (k1 : w1 = nI (4 - le)) (k3 : w3 = nI (x + 1)) :
    hr_de (upd (upd (upd s 278 v1) (295 + (12 * ly + x)) c) 274 v3) (upd (upd (upd t 299 w1) (320 + (12 * ly + x)) c) 277 w3) ly d wl f0 f1 q e (x + 1) 0 pa le nx he := by
  obtain ⟨a1, a2, a3, a4, a5, a6, a7, a8, a9, e1, e2, e3, e4, e5, e6, e7, e8, e9, e10, e11, e12, e13, g1, g2, g4⟩ := h
  have hn : 12 * ly + x ≤ 95 := by omega
  have ux : ∀ j v, j < 295 → upd (upd s 278 v) (295 + (12 * ly + x)) c j = upd s 278 v j := fun j v hj => pk_un (by omega)
  have uy : ∀ j v, j < 320 → upd (upd t 299 v) (320 + (12 * ly + x)) c j = upd t 299 v j := fun j v hj => pk_un (by omega)
  refine ⟨by omega, by omega, a3, by omega, a5, a6, a7, a8, by omega, h3, k3, ?_, (ux 275 _ (by omega)).trans e4, (uy 297 _ (by omega)).trans e5, (ux 276 _ (by omega)).trans e6, (uy 307 _ (by omega)).trans e7, (ux 278 _ (by omega)).trans h1, (uy 299 _ (by omega)).trans k1, (ux 279 _ (by omega)).trans e10, (uy 298 _ (by omega)).trans e11, (ux 280 _ (by omega)).trans e12, (uy 304 _ (by omega)).trans e13, fun z => (uy 306 _ (by omega)).trans (g1 z), ?_, ?_⟩
  · rw [if_neg (by omega)] at e3 ⊢
    exact (uy 309 _ (by omega)).trans e3
  · exact hr_stX (hr_stY (hr_stX (hr_stY (hr_stX (hr_stY (hr_stL g2 (by omega)) (by omega)) (by omega)) (by omega)) (by omega)) (by omega)) (by omega)
  · rw [show 12 * ly + (x + 1) = (12 * ly + x) + 1 by omega]
    refine hr_picX (hr_picY (hr_picS ?_) (by omega) (by omega)) (by omega) (by omega)
    exact hr_picX (hr_picY g4 (by omega) (by omega)) (by omega) (by omega)
/-- the last pixel of its line is drawn -/
theorem hr_a7 {s t : Nat → Int32} {ly d wl f0 f1 q e pa le nx he : Nat} {v1 v3 w1 w3 c : Int32} (h : hr_de s t ly d wl f0 f1 (q + 1) e 11 0 pa (le + 1) nx he) (hl : ly ≤ 7) (h1 : v1 = nI le) (h3 : v3 = nI 12) (k1 : w1 = nI (4 - le)) (k3 : w3 = nI 12) :
    hr_de (upd (upd (upd s 278 v1) (295 + (12 * ly + 11)) c) 274 v3) (upd (upd (upd (upd t 299 w1) (320 + (12 * ly + 11)) c) 277 w3) 309 1) ly d wl f0 f1 q e 12 0 pa le nx he := by
  obtain ⟨a1, a2, a3, a4, a5, a6, a7, a8, a9, e1, e2, e3, e4, e5, e6, e7, e8, e9, e10, e11, e12, e13, g1, g2, g4⟩ := h
  have hn : 12 * ly + 11 ≤ 95 := by omega
  have ux : ∀ j v, j < 295 → upd (upd s 278 v) (295 + (12 * ly + 11)) c j = upd s 278 v j := fun j v hj => pk_un (by omega)
  have uy : ∀ j v, j < 320 → upd (upd t 299 v) (320 + (12 * ly + 11)) c j = upd t 299 v j := fun j v hj => pk_un (by omega)
  refine ⟨by omega, by omega, a3, by omega, a5, a6, a7, a8, by omega, h3, k3, rfl, (ux 275 _ (by omega)).trans e4, (uy 297 _ (by omega)).trans e5, (ux 276 _ (by omega)).trans e6, (uy 307 _ (by omega)).trans e7, (ux 278 _ (by omega)).trans h1, (uy 299 _ (by omega)).trans k1, (ux 279 _ (by omega)).trans e10, (uy 298 _ (by omega)).trans e11, (ux 280 _ (by omega)).trans e12, (uy 304 _ (by omega)).trans e13, fun z => (uy 306 _ (by omega)).trans (g1 z), ?_, ?_⟩
  · exact hr_stY (hr_stX (hr_stY (hr_stX (hr_stY (hr_stX (hr_stY (hr_stL g2 (by omega)) (by omega)) (by omega)) (by omega)) (by omega)) (by omega)) (by omega)) (by omega)
  · rw [show 12 * ly + 12 = (12 * ly + 11) + 1 by omega]
    refine hr_picY (hr_picX (hr_picY (hr_picS ?_) (by omega) (by omega)) (by omega) (by omega)) (by omega) (by omega)
    exact hr_picX (hr_picY g4 (by omega) (by omega)) (by omega) (by omega)
/-- drawing begins -/
theorem hr_a8 {s t : Nat → Int32} {ly wl f0 f1 dp : Nat} {v w : Int32} (hl : ly ≤ 7) (hw : wl ≤ ly) (e12 : s 280 = 0) (e13 : t 304 = 0) (e3 : t 309 = 0) (g4 : hr_pic s t (12 * ly)) (hd : dp ≤ 3) (hv : v = nI dp) (hw : w = nI dp) :
    hr_de (upd (upd (upd (upd (upd (upd s 273 3) 274 0) 275 v) 276 0) 278 0) 279 0) (upd (upd (upd (upd (upd (upd t 276 3) 277 0) 307 0) 298 0) 299 4) 297 w) ly 5 wl f0 f1 26 4 0 dp 0 0 0 0 := by
  have hn : 12 * ly ≤ 96 := by omega
  refine ⟨by omega, hd, by omega, by omega, by omega, by omega, by omega, by omega, by omega, rfl, rfl, e3, hv, hw, rfl, rfl, rfl, rfl, rfl, rfl, e12, e13, fun z => absurd z (by omega), fun z => absurd z (by omega), ?_⟩
  iterate 6 refine hr_picX ?_ hn (by omega)
  iterate 6 refine hr_picY ?_ hn (by omega)
  exact g4
/-! sprites: taken, fetched -/
def hr_SXi (i j : Nat) : Prop := j = 283 + i ∨ j = 285 + i ∨ j = 287 + i ∨ j = 289 + i ∨ j = 291 + i ∨ j = 293 + i
def hr_SYi (i j : Nat) : Prop := j = 279 + i ∨ j = 281 + i ∨ j = 283 + i ∨ j = 285 + i ∨ j = 287 + i ∨ (289 + 4 * i ≤ j ∧ j < 293 + 4 * i)
theorem hr_spB {s t s' t' : Nat → Int32} {ly i fe : Nat} (h : hr_sp s t ly i fe) (hx : qa_ag (hr_SXi i) s s') (hy : qa_ag (hr_SYi i) t t') : hr_sp s' t' ly i fe := by
  obtain ⟨w, r, x, h1, h2, h3, h4, e1, e2, e3, e4, e5, e6, e7, e8, g⟩ := h
  refine ⟨w, r, x, h1, h2, h3, h4, ?_, ?_, ?_, ?_, ?_, ?_, ?_, ?_, ?_⟩
  · rw [hx _ (by unfold hr_SXi; omega)]; exact e1
  · rw [hy _ (by unfold hr_SYi; omega)]; exact e2
  · rw [hx _ (by unfold hr_SXi; omega)]; exact e3
  · rw [hy _ (by unfold hr_SYi; omega)]; exact e4
  · rw [hx _ (by unfold hr_SXi; omega)]; exact e5
  · rw [hy _ (by unfold hr_SYi; omega)]; exact e6
  · rw [hx _ (by unfold hr_SXi; omega)]; exact e7
  · rw [hy _ (by unfold hr_SYi; omega)]; exact e8
  · intro f
    obtain ⟨lk, b, l1, l2, q1, q2, q3, q4⟩ := g f
    refine ⟨lk, b, l1, l2, ?_, ?_, ?_, ?_⟩
    · rw [hx _ (by unfold hr_SXi; omega)]; exact q1
    · rw [hy _ (by unfold hr_SYi; omega)]; exact q2
    · rw [hx _ (by unfold hr_SXi; omega)]; exact q3
    · intro k hk
      rw [hy _ (by unfold hr_SYi; omega)]
      exact q4 k hk
/-- a sprite is taken at place 0 -/
theorem hr_tk0 {s t : Nat → Int32} {ly f0 f1 w r x : Nat} {a b c v a' c' y' v' : Int32} (h : hr_ss s t ly 0 f0 f1) (hw : w < 4) (hr : r ≤ 3) (hl : r ≤ ly) (hx : x < 256) (h1 : a = nI w) (h2 : a' = nI w) (h3 : b = nI r) (h4 : y' = nI (ly - r)) (h5 : c = nI x) (h6 : c' = nI x) :
    hr_ss (upd (upd (upd (upd (upd s 283 a) 285 b) 287 c) 289 0) 282 v) (upd (upd (upd (upd (upd t 279 a') 281 c') 283 y') 285 0) 278 v') ly 1 0 f1 := by
  refine ⟨fun _ => ⟨w, r, x, hw, hr, hl, hx, h1, h2, h3, h4, h5, h6, rfl, rfl, fun z => absurd z (by omega)⟩, fun z => absurd z (by omega)⟩
/-- a sprite is taken at place 1 -/
theorem hr_tk1 {s t : Nat → Int32} {ly f0 f1 w r x : Nat} {a b c v a' c' y' v' : Int32} (h : hr_ss s t ly 1 f0 f1) (hw : w < 4) (hr : r ≤ 3) (hl : r ≤ ly) (hx : x < 256) (h1 : a = nI w) (h2 : a' = nI w) (h3 : b = nI r) (h4 : y' = nI (ly - r)) (h5 : c = nI x) (h6 : c' = nI x) :
    hr_ss (upd (upd (upd (upd (upd s 284 a) 286 b) 288 c) 290 0) 282 v) (upd (upd (upd (upd (upd t 280 a') 282 c') 284 y') 286 0) 278 v') ly 2 f0 0 := by
  refine ⟨fun _ => hr_spB (h.1 (by omega)) ?_ ?_, fun _ => ⟨w, r, x, hw, hr, hl, hx, h1, h2, h3, h4, h5, h6, rfl, rfl, fun z => absurd z (by omega)⟩⟩
  · intro j hj
    unfold hr_SXi at hj
    simp only [upd]
    repeat rw [if_neg (by omega)]
  · intro j hj
    unfold hr_SYi at hj
    simp only [upd]
    repeat rw [if_neg (by omega)]
/-- the sprite at place 0 is fetched -/
theorem hr_fs0 {s t t' : Nat → Int32} {ly tk f0 f1 lk b : Nat} {v1 v2 w2 : Int32} (h : hr_ss s t ly tk 0 f1) (hk : 1 ≤ tk) (hb : b < 256) (hl : lk < 256) (h1 : v1 = nI b) (h2 : v2 = nI lk) (h3 : w2 = nI lk) (hf : ∀ k, k < 4 → t' (289 + k) = nI (b / 4 ^ (3 - k) % 4)) (ha : qa_ag (fun j => j < 289 ∨ 293 ≤ j) t t') :
    hr_ss (upd (upd (upd (upd s 289 1) 291 v1) 293 v2) 276 1) (upd (upd (upd t' 287 w2) 285 1) 307 1) ly tk 1 f1 := by
  refine ⟨fun _ => ?_, fun z => ?_⟩
  · obtain ⟨w, r, x, b1, b2, b3, b4, e1, e2, e3, e4, e5, e6, e7, e8, g⟩ := h.1 (by omega)
    refine ⟨w, r, x, b1, b2, b3, b4, e1, (ha _ (by omega)).trans e2, e3, (ha _ (by omega)).trans e4, e5, (ha _ (by omega)).trans e6, rfl, rfl, fun _ => ⟨lk, b, hl, hb, h2, h3, h1, ?_⟩⟩
    intro k hk
    rw [pk_un (by omega), pk_un (by omega), pk_un (by omega)]
    exact hf k hk
  · refine hr_spB (h.2 z) ?_ ?_
    · intro j hj
      unfold hr_SXi at hj
      simp only [upd]
      repeat rw [if_neg (by omega)]
    · intro j hj
      unfold hr_SYi at hj
      simp only [upd]
      repeat rw [if_neg (by omega)]
      exact ha j (by omega)
/-- the sprite at place 1 is fetched -/
theorem hr_fs1 {s t t' : Nat → Int32} {ly tk f0 f1 lk b : Nat} {v1 v2 w2 : Int32} (h : hr_ss s t ly tk f0 0) (hk : 2 ≤ tk) (hb : b < 256) (hl : lk < 256) (h1 : v1 = nI b) (h2 : v2 = nI lk) (h3 : w2 = nI lk) (hf : ∀ k, k < 4 → t' (293 + k) = nI (b / 4 ^ (3 - k) % 4)) (ha : qa_ag (fun j => j < 293 ∨ 297 ≤ j) t t') :
    hr_ss (upd (upd (upd (upd s 290 1) 292 v1) 294 v2) 276 1) (upd (upd (upd t' 288 w2) 286 1) 307 1) ly tk f0 1 := by
  refine ⟨fun z => ?_, fun _ => ?_⟩
  · refine hr_spB (h.1 z) ?_ ?_
    · intro j hj
      unfold hr_SXi at hj
      simp only [upd]
      repeat rw [if_neg (by omega)]
    · intro j hj
      unfold hr_SYi at hj
      simp only [upd]
      repeat rw [if_neg (by omega)]
      exact ha j (by omega)
  · obtain ⟨w, r, x, b1, b2, b3, b4, e1, e2, e3, e4, e5, e6, e7, e8, g⟩ := h.2 (by omega)
    refine ⟨w, r, x, b1, b2, b3, b4, e1, (ha _ (by omega)).trans e2, e3, (ha _ (by omega)).trans e4, e5, (ha _ (by omega)).trans e6, rfl, rfl, fun _ => ⟨lk, b, hl, hb, h2, h3, h1, ?_⟩⟩
    intro k hk
    rw [pk_un (by omega), pk_un (by omega), pk_un (by omega)]
    exact hf k hk
/-- a fetch of a sprite, as the rest sees it -/
theorem hr_a3 {s t s' t' : Nat → Int32} {ly d wl f0 f1 g0 g1 q e x dp le nx he : Nat} (h : hr_de s t ly d wl f0 f1 (q + 1) e x dp 0 le nx he) (hl : ly ≤ 7) (hx : qa_ag (fun i => i = 274 ∨ i = 275 ∨ (277 ≤ i ∧ i ≤ 280) ∨ (295 ≤ i ∧ i < 391)) s s') (h6 : s' 276 = 1) (hy : qa_ag (fun i => i = 277 ∨ (297 ≤ i ∧ i ≤ 306) ∨ i = 309 ∨ (320 ≤ i ∧ i < 416)) t t') (h7 : t' 307 = 1) (hf : 2 * (1 - g0) + 2 * (1 - g1) + 2 ≤ 2 * (1 - f0) + 2 * (1 - f1)) : hr_de s' t' ly d wl g0 g1 q e x dp 1 le nx he := by
  obtain ⟨a1, a2, a3, a4, a5, a6, a7, a8, a9, e1, e2, e3, e4, e5, e6, e7, e8, e9, e10, e11, e12, e13, g1, g2, g4⟩ := h
  refine ⟨a1, a2, by omega, a4, a5, a6, a7, a8, by omega, (hx _ (by omega)).trans e1, (hy _ (by omega)).trans e2, (hy _ (by omega)).trans e3, (hx _ (by omega)).trans e4, (hy _ (by omega)).trans e5, h6, h7, (hx _ (by omega)).trans e8, (hy _ (by omega)).trans e9, (hx _ (by omega)).trans e10, (hy _ (by omega)).trans e11, (hx _ (by omega)).trans e12, (hy _ (by omega)).trans e13, fun z => (hy _ (by omega)).trans (g1 z), ?_, ?_⟩
  · intro f
    obtain ⟨b, hb, q1, q2⟩ := g2 f
    exact ⟨b, hb, (hx _ (by omega)).trans q1, fun k hk => (hy _ (by omega)).trans (q2 k hk)⟩
  · intro p hp
    rw [hx _ (by omega), hy _ (by omega)]
    exact g4 p hp
