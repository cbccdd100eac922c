/-! a pixel is drawn: both sides -/
section
variable {sa dg st da rn cn : Int32} {s sv iv c : Nat → Int32} {sb : Int32} {t tv jv e : Nat → Int32}
theorem pr_spx {ly tk i fe x : Nat} (hi : i < 2) (ht : tk ≤ 2) (hfe : fe ≤ 1) (hx : x < 12) (e2 : s 282 = nI tk) (e3 : t 278 = nI tk) (P : i < tk → hr_sp s t ly i fe) :
    ∃ v : Nat, v < 4 ∧ (∀ post : Int32 → Prop, post (nI v) → wpX_spritePixel post (sa, dg, st, da, rn, cn, s, sv, iv, c) (nI i) (nI x)) ∧
      (v ≠ 0 → ∃ xx lk : Nat, i < tk ∧ xx ≤ x ∧ x < xx + 4 ∧ lk < 256 ∧ s (287 + i) = nI xx ∧ t (281 + i) = nI xx ∧ s (293 + i) = nI lk ∧ t (287 + i) = nI lk ∧ t (289 + 4 * i + (x - xx)) = nI v) ∧
      (i < tk → ¬ t 247 &&& 4 = 0 → ∀ (post : SY → Prop) (x2 x3 : Int32) (m : Nat), (v = 0 → wY_draw_62 post (nI x) x2 sb t tv jv e m x3 (nI (i + 1))) → (v ≠ 0 → (x3 < 0 → wY_draw_62 post (nI x) x2 sb t tv jv e m (nI i) (nI (i + 1))) ∧ (¬ x3 < 0 → vp_in (281 + nI i) 512 ∧ vp_in (281 + x3) 512 ∧ (t (281 + x3).toNatClampNeg ≤ t (281 + nI i).toNatClampNeg → wY_draw_62 post (nI x) x2 sb t tv jv e m x3 (nI (i + 1))) ∧ (¬ t (281 + x3).toNatClampNeg ≤ t (281 + nI i).toNatClampNeg → wY_draw_62 post (nI x) x2 sb t tv jv e m (nI i) (nI (i + 1))))) → wY_draw_62 post (nI x) x2 sb t tv jv e (m + 1) x3 (nI i)) := by
  by_cases k : i < tk
  · obtain ⟨w, r, xx, h1, h2, h3, h4, g1, g2, g3, g4, g5, g6, g7, g8, g⟩ := P k
    have nl : ¬ s 282 ≤ nI i := by rw [e2]; exact nI_ge k (by omega)
    have nl' : ¬ t 278 ≤ nI i := by rw [e3]; exact nI_ge k (by omega)
    have c7 : s (287 + nI i).toNatClampNeg = nI xx := by
      show s (nI 287 + nI i).toNatClampNeg = _
      rw [qa_ic 287 i (by omega)]; exact g5
    have c1 : t (281 + nI i).toNatClampNeg = nI xx := by
      show t (nI 281 + nI i).toNatClampNeg = _
      rw [qa_ic 281 i (by omega)]; exact g6
    have c9 : s (289 + nI i).toNatClampNeg = nI fe := by
      show s (nI 289 + nI i).toNatClampNeg = _
      rw [qa_ic 289 i (by omega)]; exact g7
    have c5 : t (285 + nI i).toNatClampNeg = nI fe := by
      show t (nI 285 + nI i).toNatClampNeg = _
      rw [qa_ic 285 i (by omega)]; exact g8
    have G133 : ∀ (post : SY → Prop) (x2 x3 x5 : Int32) (m : Nat), wY_draw_62 post (nI x) x2 sb t tv jv e m x3 (nI (i + 1)) → wY_draw_133 post (wY_draw_62 post (nI x) x2 sb t tv jv e m) (nI x) x2 x3 (nI i) x5 sb t tv jv e := fun post x2 x3 x5 m h => br_t rfl (nm_r (nI_1 i) h)
    by_cases kf : fe = 0
    · subst kf
      refine ⟨0, by omega, ?_, fun z => absurd rfl z, ?_⟩
      · intro post h
        exact ⟨qa_ii 287 i 488 (by omega) (by omega), nm_e (br_f nl ⟨qa_ii 289 i 488 (by omega) (by omega), br_t c9 h⟩)⟩
      · intro _ on post x2 x3 m h0 _
        exact br_f nl' (br_f on ⟨qa_ii 281 i 512 (by omega) (by omega), nm_e ⟨qa_ii 285 i 512 (by omega) (by omega), br_f (by rw [c5]; decide) (G133 post x2 x3 _ m (h0 rfl))⟩⟩)
    · have kf1 : fe = 1 := by omega
      subst kf1
      obtain ⟨lk, b, l1, l2, q1, q2, q3, q4⟩ := g rfl
      by_cases k1 : x < xx
      · have neg : nI x - nI xx < 0 := pk_sneg (by omega) k1
        refine ⟨0, by omega, ?_, fun z => absurd rfl z, ?_⟩
        · intro post h
          exact ⟨qa_ii 287 i 488 (by omega) (by omega), nm_r (e' := nI x - nI xx) (by rw [c7]) (br_f nl ⟨qa_ii 289 i 488 (by omega) (by omega), br_f (by rw [c9]; decide) (br_t neg h)⟩)⟩
        · intro _ on post x2 x3 m h0 _
          exact br_f nl' (br_f on ⟨qa_ii 281 i 512 (by omega) (by omega), nm_r (e' := nI x - nI xx) (by rw [c1]) ⟨qa_ii 285 i 512 (by omega) (by omega), br_t c5 (br_t neg (G133 post x2 x3 _ m (h0 rfl)))⟩⟩)
      · have ed : nI x - nI xx = nI (x - xx) := pk_sub (by omega)
        have pos : ¬ nI (x - xx) < 0 := nI_pos (by omega)
        by_cases k4 : 4 ≤ x - xx
        · refine ⟨0, by omega, ?_, fun z => absurd rfl z, ?_⟩
          · intro post h
            exact ⟨qa_ii 287 i 488 (by omega) (by omega), nm_r (e' := nI (x - xx)) (by rw [c7, ed]) (br_f nl ⟨qa_ii 289 i 488 (by omega) (by omega), br_f (by rw [c9]; decide) (br_f pos (br_f (nI_ge (a := 3) (by omega) (by omega)) h))⟩)⟩
          · intro _ on post x2 x3 m h0 _
            exact br_f nl' (br_f on ⟨qa_ii 281 i 512 (by omega) (by omega), nm_r (e' := nI (x - xx)) (by rw [c1, ed]) ⟨qa_ii 285 i 512 (by omega) (by omega), br_t c5 (br_f pos (br_t (nI_le (a := 4) k4 (by omega)) (G133 post x2 x3 _ m (h0 rfl))))⟩⟩)
        · have hd : x - xx < 4 := by omega
          have cb : s (291 + nI i).toNatClampNeg = nI b := by
            show s (nI 291 + nI i).toNatClampNeg = _
            rw [qa_ic 291 i (by omega)]; exact q3
          have i9 : (289 : Int32) + 4 * nI i + nI (x - xx) = nI (289 + 4 * i + (x - xx)) := by
            show nI 289 + nI 4 * nI i + nI (x - xx) = _
            rw [qa_i4, nI_add]
          have c99 : t ((289 : Int32) + 4 * nI i + nI (x - xx)).toNatClampNeg = nI (b / 4 ^ (3 - (x - xx)) % 4) := by
            rw [i9, nI_clamp (by omega)]
            exact q4 _ hd
          refine ⟨b / 4 ^ (3 - (x - xx)) % 4, Nat.mod_lt _ (by omega), ?_, ?_, ?_⟩
          · intro post h
            refine ⟨qa_ii 287 i 488 (by omega) (by omega), nm_r (e' := nI (x - xx)) (by rw [c7, ed]) (br_f nl ⟨qa_ii 289 i 488 (by omega) (by omega), br_f (by rw [c9]; decide) (br_f pos (br_t (nI_le (b := 3) (by omega) (by omega)) ⟨qa_ii 291 i 488 (by omega) (by omega), ?_⟩))⟩)⟩
            rw [cb, qa_p6 l2 hd]
            exact h
          · intro _
            exact ⟨xx, lk, k, by omega, by omega, l1, g5, g6, q1, q2, q4 _ hd⟩
          · intro _ on post x2 x3 m h0 h1
            refine br_f nl' (br_f on ⟨qa_ii 281 i 512 (by omega) (by omega), nm_r (e' := nI (x - xx)) (by rw [c1, ed]) ⟨qa_ii 285 i 512 (by omega) (by omega), br_t c5 (br_f pos (br_f (nI_ge (b := 4) hd (by omega)) (br_f (by decide) ⟨by rw [i9]; exact vp_in_nI (by omega) (by omega), ?_⟩)))⟩⟩)
            rw [c99]
            by_cases kv : b / 4 ^ (3 - (x - xx)) % 4 = 0
            · exact br_t (by rw [kv]; rfl) (nm_r (nI_1 i) (h0 kv))
            · have hv4 : b / 4 ^ (3 - (x - xx)) % 4 < 4 := Nat.mod_lt _ (by omega)
              have hh := h1 kv
              refine br_f (nI_ne0 (by omega) (by omega)) ⟨fun z => nm_r (nI_1 i) (hh.1 z), fun z => ⟨(hh.2 z).1, (hh.2 z).2.1, fun z2 => nm_r (nI_1 i) ((hh.2 z).2.2.1 z2), fun z2 => nm_r (nI_1 i) ((hh.2 z).2.2.2 z2)⟩⟩
  · refine ⟨0, by omega, ?_, fun z => absurd rfl z, fun z => absurd z k⟩
    intro post h
    exact ⟨qa_ii 287 i 488 (by omega) (by omega), nm_e (br_t (by rw [e2]; exact nI_le (by omega) (by omega)) h)⟩
/-- which sprite is in front; the answers of both sides -/
theorem pr_front {ly tk f0 f1 x : Nat} (ht : tk ≤ 2) (hf0 : f0 ≤ 1) (hf1 : f1 ≤ 1) (hx : x < 12) (e2 : s 282 = nI tk) (e3 : t 278 = nI tk) (S : hr_ss s t ly tk f0 f1) (on : ¬ t 247 &&& 4 = 0) :
    ∃ r : Int32, (r = -1 ∨ ∃ i v xx lk : Nat, i < 2 ∧ v < 4 ∧ r = nI i ∧ xx ≤ x ∧ x < xx + 4 ∧ lk < 256 ∧ t (281 + i) = nI xx ∧ s (293 + i) = nI lk ∧ t (287 + i) = nI lk ∧ t (289 + 4 * i + (x - xx)) = nI v ∧ (∀ post : Int32 → Prop, post (nI v) → wpX_spritePixel post (sa, dg, st, da, rn, cn, s, sv, iv, c) (nI i) (nI x))) ∧
      (∀ post : Int32 → Prop, post r → wpX_frontPlace post (sa, dg, st, da, rn, cn, s, sv, iv, c) (nI x)) ∧
      (∀ (post : SY → Prop) (x2 : Int32), wY_draw_200 post (nI x) x2 r sb t tv jv e → ∃ n62, wY_draw_62 post (nI x) x2 sb t tv jv e n62 (-1) 0) := by
  obtain ⟨v0, hv0, X0, F0, Y0⟩ := pr_spx (sa := sa) (dg := dg) (st := st) (da := da) (rn := rn) (cn := cn) (sv := sv) (iv := iv) (c := c) (sb := sb) (tv := tv) (jv := jv) (e := e) (i := 0) (x := x) (by omega) ht hf0 hx e2 e3 (fun z => S.1 (by omega))
  obtain ⟨v1, hv1, X1, F1, Y1⟩ := pr_spx (sa := sa) (dg := dg) (st := st) (da := da) (rn := rn) (cn := cn) (sv := sv) (iv := iv) (c := c) (sb := sb) (tv := tv) (jv := jv) (e := e) (i := 1) (x := x) (by omega) ht hf1 hx e2 e3 (fun z => S.2 (by omega))
  -- the ends of both loops
  have XE : ∀ (post : Int32 → Prop) (r : Int32), post r → wX_frontPlace_4 post (nI x) sa dg st da rn cn s sv iv c 1 r (nI 2) := fun post r h => br_t (by decide) h
  have YE : ∀ (post : SY → Prop) (x2 r : Int32), wY_draw_200 post (nI x) x2 r sb t tv jv e → wY_draw_62 post (nI x) x2 sb t tv jv e 1 r (nI 2) := fun post x2 r h => br_t (by rw [e3]; exact nI_le ht (by omega)) h
  -- the second place with nothing to see
  have X1z : v1 = 0 → ∀ (post : Int32 → Prop) (r : Int32), post r → wX_frontPlace_4 post (nI x) sa dg st da rn cn s sv iv c 2 r (nI 1) := fun z post r h => br_f (by decide) (X1 _ (br_t (by rw [z]; rfl) (nm_r (nI_1 1) (XE post r h))))
  have Y1z : v1 = 0 → ∀ (post : SY → Prop) (x2 r : Int32), wY_draw_200 post (nI x) x2 r sb t tv jv e → wY_draw_62 post (nI x) x2 sb t tv jv e 2 r (nI 1) := by
    intro z post x2 r h
    by_cases k : 1 < tk
    · exact Y1 k on post x2 r 1 (fun _ => YE post x2 r h) (fun y => absurd z y)
    · exact br_t (by rw [e3]; exact nI_le (by omega) (by omega)) h
  by_cases z0 : v0 = 0
  · -- nothing at the first place
    have X0z : ∀ (post : Int32 → Prop), wX_frontPlace_4 post (nI x) sa dg st da rn cn s sv iv c 2 (-1) (nI 1) → wpX_frontPlace post (sa, dg, st, da, rn, cn, s, sv, iv, c) (nI x) := fun post h => ⟨3, br_f (by decide) (X0 _ (br_t (by rw [z0]; rfl) (nm_r (nI_1 0) h)))⟩
    have Y0z : ∀ (post : SY → Prop) (x2 : Int32), wY_draw_62 post (nI x) x2 sb t tv jv e 2 (-1) (nI 1) → (tk = 0 → wY_draw_200 post (nI x) x2 (-1) sb t tv jv e) → ∃ n62, wY_draw_62 post (nI x) x2 sb t tv jv e n62 (-1) 0 := by
      intro post x2 h h0
      by_cases k : 0 < tk
      · exact ⟨3, Y0 k on post x2 (-1) 2 (fun _ => h) (fun y => absurd z0 y)⟩
      · exact ⟨1, br_t (by rw [e3, show tk = 0 by omega]; decide) (h0 (by omega))⟩
    by_cases z1 : v1 = 0
    · exact ⟨-1, Or.inl rfl, fun post h => X0z post (X1z z1 post (-1) h), fun post x2 h => Y0z post x2 (Y1z z1 post x2 (-1) h) (fun _ => h)⟩
    · obtain ⟨xx, lk, k1, k2, k3, k4, k5, k6, k7, k8, k9⟩ := F1 z1
      refine ⟨nI 1, Or.inr ⟨1, v1, xx, lk, by omega, hv1, rfl, k2, k3, k4, k6, k7, k8, k9, X1⟩, ?_, ?_⟩
      · intro post h
        exact X0z post (br_f (by decide) (X1 _ (br_f (nI_ne0 (by omega) (by omega)) (br_t (by decide) (nm_r (nI_1 1) (XE post (nI 1) h))))))
      · intro post x2 h
        refine Y0z post x2 (Y1 k1 on post x2 (-1) 1 (fun y => absurd y z1) (fun _ => br_t (by decide) (YE post x2 (nI 1) h))) (fun y => absurd k1 (by omega))
  · obtain ⟨x0, lk0, k01, k02, k03, k04, k05, k06, k07, k08, k09⟩ := F0 z0
    have X0n : ∀ (post : Int32 → Prop), wX_frontPlace_4 post (nI x) sa dg st da rn cn s sv iv c 2 (nI 0) (nI 1) → wpX_frontPlace post (sa, dg, st, da, rn, cn, s, sv, iv, c) (nI x) := fun post h => ⟨3, br_f (by decide) (X0 _ (br_f (nI_ne0 (by omega) (by omega)) (br_t (by decide) (nm_r (nI_1 0) h))))⟩
    have Y0n : ∀ (post : SY → Prop) (x2 : Int32), wY_draw_62 post (nI x) x2 sb t tv jv e 2 (nI 0) (nI 1) → ∃ n62, wY_draw_62 post (nI x) x2 sb t tv jv e n62 (-1) 0 := fun post x2 h => ⟨3, Y0 k01 on post x2 (-1) 2 (fun y => absurd y z0) (fun _ => br_t (by decide) h)⟩
    by_cases z1 : v1 = 0
    · exact ⟨nI 0, Or.inr ⟨0, v0, x0, lk0, by omega, hv0, rfl, k02, k03, k04, k06, k07, k08, k09, X0⟩, fun post h => X0n post (X1z z1 post (nI 0) h), fun post x2 h => Y0n post x2 (Y1z z1 post x2 (nI 0) h)⟩
    · obtain ⟨x1, lk1, k11, k12, k13, k14, k15, k16, k17, k18, k19⟩ := F1 z1
      have s0 : s ((287 : Int32) + nI 0).toNatClampNeg = nI x0 := by
        show s (nI 287 + nI 0).toNatClampNeg = _
        rw [qa_ic 287 0 (by omega)]; exact k05
      have s1 : s ((287 : Int32) + nI 1).toNatClampNeg = nI x1 := by
        show s (nI 287 + nI 1).toNatClampNeg = _
        rw [qa_ic 287 1 (by omega)]; exact k15
      have t0 : t ((281 : Int32) + nI 0).toNatClampNeg = nI x0 := by
        show t (nI 281 + nI 0).toNatClampNeg = _
        rw [qa_ic 281 0 (by omega)]; exact k06
      have t1 : t ((281 : Int32) + nI 1).toNatClampNeg = nI x1 := by
        show t (nI 281 + nI 1).toNatClampNeg = _
        rw [qa_ic 281 1 (by omega)]; exact k16
      by_cases le : x0 ≤ x1
      · refine ⟨nI 0, Or.inr ⟨0, v0, x0, lk0, by omega, hv0, rfl, k02, k03, k04, k06, k07, k08, k09, X0⟩, ?_, ?_⟩
        · intro post h
          exact X0n post (br_f (by decide) (X1 _ (br_f (nI_ne0 (by omega) (by omega)) (br_f (by decide) ⟨qa_ii 287 1 488 (by omega) (by omega), qa_ii 287 0 488 (by omega) (by omega), br_t (by rw [s0, s1]; exact nI_le le (by omega)) (nm_r (nI_1 1) (XE post (nI 0) h))⟩))))
        · intro post x2 h
          exact Y0n post x2 (Y1 k11 on post x2 (nI 0) 1 (fun y => absurd y z1) (fun _ => br_f (by decide) ⟨qa_ii 281 1 512 (by omega) (by omega), qa_ii 281 0 512 (by omega) (by omega), br_t (by rw [t0, t1]; exact nI_le le (by omega)) (YE post x2 (nI 0) h)⟩))
      · refine ⟨nI 1, Or.inr ⟨1, v1, x1, lk1, by omega, hv1, rfl, k12, k13, k14, k16, k17, k18, k19, X1⟩, ?_, ?_⟩
        · intro post h
          exact X0n post (br_f (by decide) (X1 _ (br_f (nI_ne0 (by omega) (by omega)) (br_f (by decide) ⟨qa_ii 287 1 488 (by omega) (by omega), qa_ii 287 0 488 (by omega) (by omega), br_f (by rw [s0, s1]; exact nI_ge (by omega) (by omega)) (nm_r (nI_1 1) (XE post (nI 1) h))⟩))))
        · intro post x2 h
          exact Y0n post x2 (Y1 k11 on post x2 (nI 0) 1 (fun y => absurd y z1) (fun _ => br_f (by decide) ⟨qa_ii 281 1 512 (by omega) (by omega), qa_ii 281 0 512 (by omega) (by omega), br_f (by rw [t0, t1]; exact nI_ge (by omega) (by omega)) (YE post x2 (nI 1) h)⟩))
/-- the colour of the pixel -/
theorem pr_pix {ly tk f0 f1 x : Nat} (C : hr_ce s t) (ht : tk ≤ 2) (hf0 : f0 ≤ 1) (hf1 : f1 ≤ 1) (hx : x < 12) (e2 : s 282 = nI tk) (e3 : t 278 = nI tk) (S : hr_ss s t ly tk f0 f1) (bk : Int32) :
    ∃ col : Int32, (∀ post : SX → Prop, wX_drawPixel_78 post (nI x) col sa dg st da rn cn s sv iv c → wX_drawPixel_23 post (nI x) bk sa dg st da rn cn s sv iv c) ∧ (∀ post : SY → Prop, wY_draw_255 post (nI x) col sb t tv jv e → ∃ n62, wY_draw_62 post (nI x) bk sb t tv jv e n62 (-1) 0) := by
  have e247 := (C 247 (by omega)).1
  by_cases on : s 247 &&& 4 = 0
  · have on' : t 247 &&& 4 = 0 := by rw [e247]; exact on
    refine ⟨bk, ?_, ?_⟩
    · intro post h
      unfold wX_drawPixel_23
      exact br_t on (br_t rfl (br_t (by decide) h))
    · intro post h
      have g : wY_draw_200 post (nI x) bk (-1) sb t tv jv e := br_t (by decide) h
      by_cases k : t 278 ≤ 0
      · exact ⟨1, br_t k g⟩
      · exact ⟨1, br_f k (br_t on' g)⟩
  · have on' : ¬ t 247 &&& 4 = 0 := by rw [e247]; exact on
    obtain ⟨r, hr, hX, hY⟩ := pr_front (sa := sa) (dg := dg) (st := st) (da := da) (rn := rn) (cn := cn) (sv := sv) (iv := iv) (c := c) (sb := sb) (tv := tv) (jv := jv) (e := e) ht hf0 hf1 hx e2 e3 S on'
    have x23 : ∀ post : SX → Prop, wX_drawPixel_41 post (nI x) bk r sa dg st da rn cn s sv iv c → wX_drawPixel_23 post (nI x) bk sa dg st da rn cn s sv iv c := by
      intro post h
      unfold wX_drawPixel_23
      refine br_f on (br_f (by decide) ?_)
      exact hX _ h
    rcases hr with rfl | ⟨i, v, xx, lk, hi, hv, rfl, a1, a2, a3, a4, a5, a6, a7, a8⟩
    · exact ⟨bk, fun post h => x23 post (br_t (by decide) h), fun post h => hY post bk (br_t (by decide) h)⟩
    · have pi : ¬ nI i < 0 := nI_pos (by omega)
      have l1 : s ((293 : Int32) + nI i).toNatClampNeg = nI lk := by
        show s (nI 293 + nI i).toNatClampNeg = _
        rw [qa_ic 293 i (by omega)]; exact a5
      have l2 : t ((287 : Int32) + nI i).toNatClampNeg = nI lk := by
        show t (nI 287 + nI i).toNatClampNeg = _
        rw [qa_ic 287 i (by omega)]; exact a6
      have l3 : t ((281 : Int32) + nI i).toNatClampNeg = nI xx := by
        show t (nI 281 + nI i).toNatClampNeg = _
        rw [qa_ic 281 i (by omega)]; exact a4
      have l4 : ((289 : Int32) + 4 * nI i + nI x) - t ((281 : Int32) + nI i).toNatClampNeg = nI (289 + 4 * i + (x - xx)) := by
        rw [l3]
        show nI 289 + nI 4 * nI i + nI x - nI xx = _
        rw [qa_i4, nI_add, pk_sub (by omega), show 289 + 4 * i + x - xx = 289 + 4 * i + (x - xx) by omega]
      have x68 : ∀ post : SX → Prop, wX_drawPixel_78 post (nI x) (4 + nI v) sa dg st da rn cn s sv iv c → wX_drawPixel_68 post (nI x) (nI i) sa dg st da rn cn s sv iv c := by
        intro post h
        unfold wX_drawPixel_68
        exact a8 _ (nm_e h)
      have y226 : ∀ post : SY → Prop, wY_draw_255 post (nI x) (4 + nI v) sb t tv jv e → wY_draw_226 post (nI x) (nI i) sb t tv jv e := by
        intro post h
        refine ⟨qa_ii 281 i 512 (by omega) (by omega), by rw [l4]; exact vp_in_nI (by omega) (by omega), nm_r (e' := 4 + nI v) ?_ h⟩
        rw [l4, nI_clamp (by omega), a7]
      by_cases kb : bk = 0
      · exact ⟨4 + nI v, fun post h => x23 post (br_f pi (br_t kb (x68 post h))), fun post h => hY post bk (br_f pi (br_t kb (y226 post h)))⟩
      · by_cases kl : nI lk &&& 4 = 0
        · exact ⟨4 + nI v, fun post h => x23 post (br_f pi (br_f kb ⟨qa_ii 293 i 488 (by omega) (by omega), br_t (by rw [l1]; exact kl) (x68 post h)⟩)), fun post h => hY post bk (br_f pi (br_f kb ⟨qa_ii 287 i 512 (by omega) (by omega), br_t (by rw [l2]; exact kl) (y226 post h)⟩))⟩
        · exact ⟨bk, fun post h => x23 post (br_f pi (br_f kb ⟨qa_ii 293 i 488 (by omega) (by omega), br_f (by rw [l1]; exact kl) h⟩)), fun post h => hY post bk (br_f pi (br_f kb ⟨qa_ii 287 i 512 (by omega) (by omega), br_f (by rw [l2]; exact kl) h⟩))⟩
end
