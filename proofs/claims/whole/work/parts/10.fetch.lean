/-! sprites and strips are fetched: both sides -/
section
variable {sa dg st da rn cn : Int32} {s sv iv c : Nat → Int32} {sb : Int32} {t tv jv e : Nat → Int32}
theorem qa_p2 {b k : Nat} (hb : b < 256) (hk : k < 4) : (nI b >>> ((2 * nI k) &&& 31)) &&& 3 = nI (b / 4 ^ k % 4) := by
  have z : (2 : Int32) * nI k = nI (2 * k) := pk_mul 2 k
  rw [z]
  exact qa_px hb hk
theorem qa_p6 {b k : Nat} (hb : b < 256) (hk : k < 4) : (nI b >>> ((6 - 2 * nI k) &&& 31)) &&& 3 = nI (b / 4 ^ (3 - k) % 4) := by
  have z : (6 : Int32) - 2 * nI k = nI (2 * (3 - k)) := by
    show nI 6 - nI 2 * nI k = _
    rw [pk_mul, pk_sub (by omega), show 6 - 2 * k = 2 * (3 - k) by omega]
  rw [z]
  exact qa_px hb (by omega)
theorem my_fl {post : SY → Prop} {i lk b0 : Nat} (hi : i < 2) (f : Nat → Int32) (hf : ∀ k, k < 4 → (if nI lk &&& 1 = 0 then (nI b0 >>> ((6 - 2 * nI k) &&& 31)) &&& 3 else (nI b0 >>> ((2 * nI k) &&& 31)) &&& 3) = f k) (h : post (sb, upd (upd (qa_fill t (289 + 4 * i) 4 f) (287 + i) (nI lk)) (285 + i) 1, tv, jv, e)) :
    ∀ d k, k + d = 4 → wY_fetch_89 post (nI i) (nI lk) (nI b0) sb (d + 1) (nI k) (qa_fill t (289 + 4 * i) k f) tv jv e := by
  intro d
  induction d with
  | zero =>
    intro k hk
    have z : k = 4 := by omega
    subst z
    exact br_t (nI_le (a := 4) (by omega) (by omega)) ⟨qa_ii 287 i 512 (by omega) (by omega), nm_r (qa_up _ _ (qa_ic 287 i (by omega))) ⟨qa_ii 285 i 512 (by omega) (by omega), nm_r (qa_up _ _ (qa_ic 285 i (by omega))) h⟩⟩
  | succ d ih =>
    intro k hk
    have ei : (289 : Int32) + 4 * nI i + nI k = nI (289 + 4 * i + k) := by
      show nI 289 + nI 4 * nI i + nI k = _
      rw [qa_i4, nI_add]
    have hI : vp_in (289 + 4 * nI i + nI k) 512 := by rw [ei]; exact vp_in_nI (by omega) (by omega)
    have hS : ∀ v, v = f k → upd (qa_fill t (289 + 4 * i) k f) (289 + 4 * nI i + nI k).toNatClampNeg v = qa_fill t (289 + 4 * i) (k + 1) f := by
      intro v hv
      rw [ei, nI_clamp (by omega), hv]
      exact qa_fillS _ _ _ _
    have hk4 := hf k (by omega)
    refine br_f (nI_ge (b := 4) (by omega) (by omega)) ⟨fun z => ⟨hI, nm_r (hS _ ?_) (nm_r (nI_1 k) (ih (k + 1) (by omega)))⟩, fun z => ⟨hI, nm_r (hS _ ?_) (nm_r (nI_1 k) (ih (k + 1) (by omega)))⟩⟩
    · rwa [if_pos z] at hk4
    · rwa [if_neg z] at hk4
theorem pr_fetch {ly i fe : Nat} (C : hr_ce s t) (hl : ly ≤ 11) (hi : i < 2) (e1 : s 251 = nI ly) (S : hr_sp s t ly i fe) :
    ∃ (b lk : Nat) (t' : Nat → Int32), b < 256 ∧ lk < 256 ∧ (∀ k, k < 4 → t' (289 + 4 * i + k) = nI (b / 4 ^ (3 - k) % 4)) ∧ qa_ag (fun j => j < 289 + 4 * i ∨ 293 + 4 * i ≤ j) t t' ∧ (∀ post : SX → Prop, post (sa, dg, st, da, rn, cn, upd (upd (upd s (289 + i) 1) (291 + i) (nI b)) (293 + i) (nI lk), sv, iv, c) → wpX_fetchSprite post (sa, dg, st, da, rn, cn, s, sv, iv, c) (nI i)) ∧ (∀ post : SY → Prop, post (sb, upd (upd t' (287 + i) (nI lk)) (285 + i) 1, tv, jv, e) → wpY_fetch post (sb, t, tv, jv, e) (nI i)) := by
  obtain ⟨w, r, x, h1, h2, h3, h4, g1, g2, g3, g4, g5, g6, g7, g8, g⟩ := S
  have e1' : t 251 = nI ly := (C 251 (by omega)).1.trans e1
  obtain ⟨cl, lk, hlk, el⟩ := C (195 + 4 * w) (by omega)
  obtain ⟨ct, u0, hu0, eu0⟩ := C (194 + 4 * w) (by omega)
  obtain ⟨rr, hrr, r0, r1⟩ : ∃ rr : Nat, rr ≤ 3 ∧ (nI lk &&& 2 = 0 → rr = r) ∧ (¬ nI lk &&& 2 = 0 → rr = 3 - r) := by
    by_cases z : nI lk &&& 2 = 0
    · exact ⟨r, h2, fun _ => rfl, fun y => absurd z y⟩
    · exact ⟨3 - r, by omega, fun y => absurd y z, fun _ => rfl⟩
  have eu : nI u0 &&& 7 = nI (u0 % 8) := pk_andN (by omega) 3 (by decide)
  obtain ⟨cb, b0, hb0, eb0⟩ := C (128 + 4 * (u0 % 8) + rr) (by omega)
  obtain ⟨b, hb, f0, f1⟩ : ∃ b : Nat, b < 256 ∧ (nI lk &&& 1 = 0 → b = b0) ∧ (¬ nI lk &&& 1 = 0 → b = qa_rv b0) := by
    by_cases z : nI lk &&& 1 = 0
    · exact ⟨b0, hb0, fun _ => rfl, fun y => absurd z y⟩
    · exact ⟨qa_rv b0, qa_rvB hb0, fun y => absurd y z, fun _ => rfl⟩
  have a1 : (192 : Int32) + 4 * nI w = nI (192 + 4 * w) := qa_i4 192 w
  have a3 : nI (192 + 4 * w) + 3 = nI (195 + 4 * w) := by
    show nI (192 + 4 * w) + nI 3 = _
    rw [nI_add, show 192 + 4 * w + 3 = 195 + 4 * w by omega]
  have a2 : nI (192 + 4 * w) + 2 = nI (194 + 4 * w) := by
    show nI (192 + 4 * w) + nI 2 = _
    rw [nI_add, show 192 + 4 * w + 2 = 194 + 4 * w by omega]
  have a5 : ((128 : Int32) + 4 * nI (u0 % 8)) + nI rr = nI (128 + 4 * (u0 % 8) + rr) := by
    show nI 128 + nI 4 * nI (u0 % 8) + nI rr = _
    rw [qa_i4, nI_add]
  refine ⟨b, lk, qa_fill t (289 + 4 * i) 4 (fun k => nI (b / 4 ^ (3 - k) % 4)), hb, hlk, fun k hk => qa_fillI hk, fun j hj => qa_fillO (by omega), ?_, ?_⟩
  · intro post h
    have G114 : wX_fetchSprite_114 post (nI i) (nI lk) (nI b) sa dg st da rn cn s sv iv c := ⟨qa_ii 289 i 488 (by omega) (by omega), nm_r (qa_up _ _ (qa_ic 289 i (by omega))) ⟨qa_ii 291 i 488 (by omega) (by omega), nm_r (qa_up _ _ (qa_ic 291 i (by omega))) ⟨qa_ii 293 i 488 (by omega) (by omega), nm_r (qa_up _ _ (qa_ic 293 i (by omega))) h⟩⟩⟩
    have G50 : wX_fetchSprite_50 post (nI i) (nI (192 + 4 * w)) (nI lk) (nI rr) sa dg st da rn cn s sv iv c := by
      have q1 : s (nI (192 + 4 * w) + 2).toNatClampNeg &&& 7 = nI (u0 % 8) := by rw [a2, nI_clamp (by omega), eu0, eu]
      refine ⟨by rw [a2]; exact vp_in_nI (by omega) (by omega), by rw [q1, a5]; exact vp_in_nI (by omega) (by omega), nm_r (e' := nI b0) (by rw [q1, a5, nI_clamp (by omega)]; exact eb0) ⟨fun z => ?_, fun z => ?_⟩⟩
      · rw [← f0 z]; exact G114
      · refine nm_r (e' := nI b) ?_ G114
        rw [f1 z]; exact qa_rvX b0 hb0
    refine ⟨qa_ii 283 i 488 (by omega) (by omega), nm_r (e' := nI (192 + 4 * w)) ?_ ⟨by rw [a3]; exact vp_in_nI (by omega) (by omega), nm_r (e' := nI lk) ?_ ⟨qa_ii 285 i 488 (by omega) (by omega), nm_r (e' := nI r) ?_ ⟨fun z => ?_, fun z => nm_r (e' := nI rr) ?_ G50⟩⟩⟩⟩
    · show (192 : Int32) + 4 * s (nI 283 + nI i).toNatClampNeg = _
      rw [qa_ic 283 i (by omega), g1, a1]
    · rw [a3, nI_clamp (by omega)]; exact el
    · show s (nI 285 + nI i).toNatClampNeg = _
      rw [qa_ic 285 i (by omega)]; exact g3
    · rw [← r0 z]; exact G50
    · rw [r1 z]; exact pk_sub (a := 3) h2
  · intro post h
    have GL := my_fl (b0 := b0) hi (fun k => nI (b / 4 ^ (3 - k) % 4)) (by
      intro k hk
      by_cases z : nI lk &&& 1 = 0
      · rw [if_pos z, f0 z]; exact qa_p6 hb0 hk
      · rw [if_neg z, f1 z, qa_p2 hb0 hk, qa_rvK hb0 hk]) h 4 0 rfl
    rw [qa_fill0] at GL
    have G59 : wY_fetch_59 post (nI i) (nI (192 + 4 * w)) (nI lk) (nI rr) sb t tv jv e := by
      have q1 : t (nI (192 + 4 * w) + 2).toNatClampNeg &&& 7 = nI (u0 % 8) := by rw [a2, nI_clamp (by omega), ct, eu0, eu]
      exact ⟨by rw [a2]; exact vp_in_nI (by omega) (by omega), by rw [q1, a5]; exact vp_in_nI (by omega) (by omega), nm_r (e' := nI b0) (by rw [q1, a5, nI_clamp (by omega), cb]; exact eb0) ⟨5, GL⟩⟩
    refine ⟨qa_ii 279 i 512 (by omega) (by omega), nm_r (e' := nI (192 + 4 * w)) ?_ ⟨by rw [a3]; exact vp_in_nI (by omega) (by omega), nm_r (e' := nI lk) ?_ ⟨qa_ii 283 i 512 (by omega) (by omega), nm_r (e' := nI r) ?_ ⟨fun z => ?_, fun z => nm_r (e' := nI rr) ?_ G59⟩⟩⟩⟩
    · show (192 : Int32) + 4 * t (nI 279 + nI i).toNatClampNeg = _
      rw [qa_ic 279 i (by omega), g2, a1]
    · rw [a3, nI_clamp (by omega), cl]; exact el
    · show t 251 - t (nI 283 + nI i).toNatClampNeg = _
      rw [qa_ic 283 i (by omega), g4, e1', pk_sub (by omega), show ly - (ly - r) = r by omega]
    · rw [← r0 z]; exact G59
    · rw [r1 z]; exact pk_sub (a := 3) h2
/-! a strip -/
theorem mx_s77 {post : SX → Prop} {v a z b : Nat} (hv : v < 1000) (ha : a + 12 < 256) (ez : s (a + 4 * (v / 4 % 4)) = nI z) (hz : z < 256) (eb : s (128 + 4 * (z % 8) + v % 4) = nI b) (h : post (sa, dg, st, da, rn, cn, upd (upd (upd s 277 (nI b)) 278 4) 279 (upd (upd s 277 (nI b)) 278 4 279 + 1), sv, iv, c)) : wX_fetchStrip_77 post (nI v) (nI a) sa dg st da rn cn s sv iv c := by
  have d4 : nI v / 4 = nI (v / 4) := pk_div (d := 4) (by omega) (by omega) (by omega)
  have r4 : nI (v / 4) - nI (v / 4) / 4 * 4 = nI (v / 4 % 4) := pk_rem (d := 4) (by omega) (by omega) (by omega)
  have r5 : nI v - nI v / 4 * 4 = nI (v % 4) := pk_rem (d := 4) (by omega) (by omega) (by omega)
  have i1 : nI a + 4 * ((nI v / 4) - (nI v / 4) / 4 * 4) = nI (a + 4 * (v / 4 % 4)) := by
    rw [d4, r4]
    exact qa_i4 a _
  have q1 : s (nI a + 4 * ((nI v / 4) - (nI v / 4) / 4 * 4)).toNatClampNeg &&& 7 = nI (z % 8) := by
    rw [i1, nI_clamp (by omega), ez]
    exact pk_andN (by omega) 3 (by decide)
  have i2 : ((128 : Int32) + 4 * nI (z % 8)) + (nI v - nI v / 4 * 4) = nI (128 + 4 * (z % 8) + v % 4) := by
    rw [r5]
    show nI 128 + nI 4 * nI (z % 8) + nI (v % 4) = _
    rw [qa_i4, nI_add]
  have q2 : s (((128 : Int32) + 4 * nI (z % 8)) + (nI v - nI v / 4 * 4)).toNatClampNeg = nI b := by
    rw [i2, nI_clamp (by omega)]
    exact eb
  refine ⟨by decide, by decide, by rw [i1]; exact vp_in_nI (by omega) (by omega), nm_r q1 ⟨by decide, by rw [i2]; exact vp_in_nI (by omega) (by omega), ?_⟩⟩
  rw [q2]
  exact nm_e (nm_e (nm_e h))
theorem my_sl {post : SY → Prop} {b : Nat} (hb : b < 256) (h : post (sb, upd (upd (qa_fill t 300 4 (fun k => nI (b / 4 ^ (3 - k) % 4))) 298 (qa_fill t 300 4 (fun k => nI (b / 4 ^ (3 - k) % 4)) 298 + 1)) 299 0, tv, jv, e)) :
    ∀ d k, k + d = 4 → wY_strip_151 post (nI b) sb (d + 1) (nI k) (qa_fill t 300 k (fun k => nI (b / 4 ^ (3 - k) % 4))) tv jv e := by
  intro d
  induction d with
  | zero =>
    intro k hk
    have z : k = 4 := by omega
    subst z
    exact br_t (nI_le (a := 4) (by omega) (by omega)) (nm_e (nm_e h))
  | succ d ih =>
    intro k hk
    have hS : upd (qa_fill t 300 k (fun k => nI (b / 4 ^ (3 - k) % 4))) (nI 300 + nI k).toNatClampNeg ((nI b >>> ((6 - 2 * nI k) &&& 31)) &&& 3) = qa_fill t 300 (k + 1) (fun k => nI (b / 4 ^ (3 - k) % 4)) := by
      rw [qa_ic 300 k (by omega), qa_p6 hb (by omega)]
      exact qa_fillS _ _ _ _
    exact br_f (nI_ge (b := 4) (by omega) (by omega)) ⟨qa_ii 300 k 512 (by omega) (by omega), nm_r hS (nm_r (nI_1 k) (ih (k + 1) (by omega)))⟩
theorem my_s105 {post : SY → Prop} {v ac mp z b : Nat} (hv : v < 1000) (hac : ac < 1000) (ha : mp + 16 < 256) (ez : t (mp + 4 * (v / 4 % 4) + ac % 4) = nI z) (hz : z < 256) (eb : t (128 + 4 * (z % 8) + v % 4) = nI b) (hb : b < 256) (h : post (sb, upd (upd (qa_fill t 300 4 (fun k => nI (b / 4 ^ (3 - k) % 4))) 298 (qa_fill t 300 4 (fun k => nI (b / 4 ^ (3 - k) % 4)) 298 + 1)) 299 0, tv, jv, e)) : wY_strip_105 post (nI v) (nI ac) (nI mp) sb t tv jv e := by
  have d4 : nI v / 4 = nI (v / 4) := pk_div (d := 4) (by omega) (by omega) (by omega)
  have r4 : nI (v / 4) - nI (v / 4) / 4 * 4 = nI (v / 4 % 4) := pk_rem (d := 4) (by omega) (by omega) (by omega)
  have r5 : nI v - nI v / 4 * 4 = nI (v % 4) := pk_rem (d := 4) (by omega) (by omega) (by omega)
  have r6 : nI ac - nI ac / 4 * 4 = nI (ac % 4) := pk_rem (d := 4) (by omega) (by omega) (by omega)
  have i1 : (nI mp + 4 * ((nI v / 4) - (nI v / 4) / 4 * 4)) + (nI ac - nI ac / 4 * 4) = nI (mp + 4 * (v / 4 % 4) + ac % 4) := by
    rw [d4, r4, r6]
    show nI mp + nI 4 * nI (v / 4 % 4) + nI (ac % 4) = _
    rw [qa_i4, nI_add]
  have q1 : t ((nI mp + 4 * ((nI v / 4) - (nI v / 4) / 4 * 4)) + (nI ac - nI ac / 4 * 4)).toNatClampNeg &&& 7 = nI (z % 8) := by
    rw [i1, nI_clamp (by omega), ez]
    exact pk_andN (by omega) 3 (by decide)
  have i2 : ((128 : Int32) + 4 * nI (z % 8)) + (nI v - nI v / 4 * 4) = nI (128 + 4 * (z % 8) + v % 4) := by
    rw [r5]
    show nI 128 + nI 4 * nI (z % 8) + nI (v % 4) = _
    rw [qa_i4, nI_add]
  have q2 : t (((128 : Int32) + 4 * nI (z % 8)) + (nI v - nI v / 4 * 4)).toNatClampNeg = nI b := by
    rw [i2, nI_clamp (by omega)]
    exact eb
  have GL := my_sl hb h 4 0 rfl
  rw [qa_fill0] at GL
  exact ⟨by decide, by decide, by decide, by rw [i1]; exact vp_in_nI (by omega) (by omega), nm_r q1 ⟨by decide, by rw [i2]; exact vp_in_nI (by omega) (by omega), nm_r q2 ⟨5, GL⟩⟩⟩
theorem pr_strip {ly wl he nx : Nat} (C : hr_ce s t) (hl : ly ≤ 7) (e1 : s 251 = nI ly) (hh : he ≤ 1) (e2 : s 280 = nI he) (e3 : t 304 = nI he) (e4 : s 279 = nI nx) (e5 : t 298 = nI nx) (hn : nx ≤ 28) (e6 : s 281 = nI wl) (hw : wl ≤ 8) (hw1 : he ≤ wl) (g1 : he = 1 → t 306 = nI (wl - 1)) :
    ∃ (b : Nat) (t' : Nat → Int32), b < 256 ∧ (∀ k, k < 4 → t' (300 + k) = nI (b / 4 ^ (3 - k) % 4)) ∧ qa_ag (fun j => j < 300 ∨ 304 ≤ j) t t' ∧ (∀ post : SX → Prop, post (sa, dg, st, da, rn, cn, upd (upd (upd s 277 (nI b)) 278 4) 279 (upd (upd s 277 (nI b)) 278 4 279 + 1), sv, iv, c) → wpX_fetchStrip post (sa, dg, st, da, rn, cn, s, sv, iv, c)) ∧ (∀ post : SY → Prop, post (sb, upd (upd t' 298 (t' 298 + 1)) 299 0, tv, jv, e) → wpY_strip post (sb, t, tv, jv, e)) := by
  have e1' : t 251 = nI ly := (C 251 (by omega)).1.trans e1
  obtain ⟨cy, sy, hsy, ey⟩ := C 249 (by omega)
  obtain ⟨cx, sx, hsx, ex⟩ := C 250 (by omega)
  have ey' : t 249 = nI sy := cy.trans ey
  have ex' : t 250 = nI sx := cx.trans ex
  have v1 : s 251 + s 249 = nI (ly + sy) := by rw [e1, ey, nI_add]
  have v1' : t 251 + t 249 = nI (ly + sy) := by rw [e1', ey', nI_add]
  have w1 : s 250 / 4 + nI nx = nI (sx / 4 + nx) := by
    rw [ex, show nI sx / 4 = nI (sx / 4) from pk_div (d := 4) (by omega) (by omega) (by omega), nI_add]
  have w1' : t 250 / 4 + t 298 = nI (sx / 4 + nx) := by
    rw [ex', e5, show nI sx / 4 = nI (sx / 4) from pk_div (d := 4) (by omega) (by omega) (by omega), nI_add]
  have w2 : (160 : Int32) + ((s 250 / 4 + nI nx) - (s 250 / 4 + nI nx) / 4 * 4) = nI (160 + (sx / 4 + nx) % 4) := by
    rw [w1, show nI (sx / 4 + nx) - nI (sx / 4 + nx) / 4 * 4 = nI ((sx / 4 + nx) % 4) from pk_rem (d := 4) (by omega) (by omega) (by omega)]
    exact nI_add 160 _
  have w3 : (176 : Int32) + (nI nx - nI nx / 4 * 4) = nI (176 + nx % 4) := by
    rw [show nI nx - nI nx / 4 * 4 = nI (nx % 4) from pk_rem (d := 4) (by omega) (by omega) (by omega)]
    exact nI_add 176 _
  by_cases k : he = 1
  · subst k
    have ev : s 281 - 1 = nI (wl - 1) := by
      rw [e6]
      exact pk_sub (b := 1) (by omega)
    obtain ⟨cz, z, hz, ez⟩ := C (176 + nx % 4 + 4 * ((wl - 1) / 4 % 4)) (by omega)
    obtain ⟨cb, b, hb, eb⟩ := C (128 + 4 * (z % 8) + (wl - 1) % 4) (by omega)
    refine ⟨b, qa_fill t 300 4 (fun k => nI (b / 4 ^ (3 - k) % 4)), hb, fun k hk => qa_fillI hk, fun j hj => qa_fillO (by omega), ?_, ?_⟩
    · intro post h
      exact nm_r e4 (nm_e ⟨by decide, by decide, nm_e (br_t e2 (nm_r ev ⟨by decide, nm_r w3 (mx_s77 (by omega) (by omega) ez hz eb h)⟩))⟩)
    · intro post h
      refine br_t e3 (br_t e3 (br_t e3 ?_))
      rw [g1 rfl, e5]
      refine my_s105 (mp := 176) (by omega) (by omega) (by omega) ?_ hz (cb.trans eb) hb h
      rw [show 176 + 4 * ((wl - 1) / 4 % 4) + nx % 4 = 176 + nx % 4 + 4 * ((wl - 1) / 4 % 4) by omega, cz]
      exact ez
  · have k0 : he = 0 := by omega
    subst k0
    have n2 : ¬ s 280 = 1 := by rw [e2]; decide
    have n3 : ¬ t 304 = 1 := by rw [e3]; decide
    obtain ⟨cz, z, hz, ez⟩ := C (160 + (sx / 4 + nx) % 4 + 4 * ((ly + sy) / 4 % 4)) (by omega)
    obtain ⟨cb, b, hb, eb⟩ := C (128 + 4 * (z % 8) + (ly + sy) % 4) (by omega)
    refine ⟨b, qa_fill t 300 4 (fun k => nI (b / 4 ^ (3 - k) % 4)), hb, fun k hk => qa_fillI hk, fun j hj => qa_fillO (by omega), ?_, ?_⟩
    · intro post h
      exact nm_r e4 (nm_r v1 ⟨by decide, by decide, nm_r w2 (br_f n2 (mx_s77 (by omega) (by omega) ez hz eb h))⟩)
    · intro post h
      refine br_f n3 ?_
      rw [v1']
      refine br_f n3 ⟨by decide, br_f n3 ?_⟩
      rw [w1']
      refine my_s105 (mp := 160) (by omega) (by omega) (by omega) ?_ hz (cb.trans eb) hb h
      rw [show 160 + 4 * ((ly + sy) / 4 % 4) + (sx / 4 + nx) % 4 = 160 + (sx / 4 + nx) % 4 + 4 * ((ly + sy) / 4 % 4) by omega, cz]
      exact ez
end
