/-! which sprite is fetched; the dot as a whole: both sides -/
section
variable {sa dg st da rn cn : Int32} {s sv iv c : Nat → Int32} {sb : Int32} {t tv jv e : Nat → Int32}
theorem pr_pl1 {ly tk i fe x : Nat} (hi : i < 2) (ht : tk ≤ 2) (hfe : fe ≤ 1) (hx : x < 12) (e1 : s 274 = nI x) (e1' : t 277 = nI x) (e2 : s 282 = nI tk) (e3 : t 278 = nI tk) (on : ¬ t 247 &&& 4 = 0) (P : i < tk → hr_sp s t ly i fe) :
    (i < tk ∧ fe = 0 ∧ (∀ (post : Int32 → Prop) (m : Nat), post (nI i) → wX_placeToFetch_12 post sa dg st da rn cn s sv iv c (m + 1) (nI i)) ∧ (∀ (post : SY → Prop) (m : Nat) (t2 : Nat → Int32), (∀ Q : SY → Prop, Q (sb, t2, tv, jv, e) → wpY_fetch Q (sb, t, tv, jv, e) (nI i)) → post (sb, upd t2 307 1, tv, jv, e) → wY_dot_170 post sb t tv jv e (m + 1) (nI i))) ∨
    ((∀ (post : Int32 → Prop) (m : Nat), wX_placeToFetch_12 post sa dg st da rn cn s sv iv c m (nI (i + 1)) → wX_placeToFetch_12 post sa dg st da rn cn s sv iv c (m + 1) (nI i)) ∧ (i < tk → ∀ (post : SY → Prop) (m : Nat), wY_dot_170 post sb t tv jv e m (nI (i + 1)) → wY_dot_170 post sb t tv jv e (m + 1) (nI i)) ∧ (¬ i < tk → ∀ (post : SY → Prop) (m : Nat), wY_dot_254 post sb t tv jv e → wY_dot_170 post sb t tv jv e (m + 1) (nI i))) := by
  have n2 : ¬ 2 ≤ nI i := nI_ge (b := 2) hi (by omega)
  by_cases k : i < tk
  · obtain ⟨w, r, xx, h1, h2, h3, h4, g1, g2, g3, g4, g5, g6, g7, g8, g⟩ := P k
    have nl : ¬ s 282 ≤ nI i := by rw [e2]; exact nI_ge k (by omega)
    have nl' : ¬ t 278 ≤ nI i := by rw [e3]; exact nI_ge k (by omega)
    have c7 : s (287 + nI i).toNatClampNeg = nI xx := by
      show s (nI 287 + nI i).toNatClampNeg = _
      rw [qa_ic 287 i (by omega)]; exact g5
    have c1 : t (281 + nI i).toNatClampNeg = nI xx := by
      show t (nI 281 + nI i).toNatClampNeg = _
      rw [qa_ic 281 i (by omega)]; exact g6
    have c9 : s (289 + nI i).toNatClampNeg = nI fe := by
      show s (nI 289 + nI i).toNatClampNeg = _
      rw [qa_ic 289 i (by omega)]; exact g7
    have c5 : t (285 + nI i).toNatClampNeg = nI fe := by
      show t (nI 285 + nI i).toNatClampNeg = _
      rw [qa_ic 285 i (by omega)]; exact g8
    have v9 : vp_in (289 + nI i) 488 := qa_ii 289 i 488 (by omega) (by omega)
    have v7 : vp_in (287 + nI i) 488 := qa_ii 287 i 488 (by omega) (by omega)
    have v5 : vp_in (285 + nI i) 512 := qa_ii 285 i 512 (by omega) (by omega)
    have v1 : vp_in (281 + nI i) 512 := qa_ii 281 i 512 (by omega) (by omega)
    by_cases kf : fe = 0
    · subst kf
      have f5 : ¬ t (285 + nI i).toNatClampNeg = 1 := by rw [c5]; decide
      by_cases kx : xx = x
      · subst kx
        exact Or.inl ⟨k, rfl, fun post m h => br_f n2 (br_f nl ⟨v9, br_t c9 ⟨v7, br_t (c7.trans e1.symm) h⟩⟩), fun post m t2 hF h => br_f nl' (br_f on ⟨v5, br_f f5 ⟨v1, br_t (c1.trans e1'.symm) (hF _ (nm_e h))⟩⟩)⟩
      · have ne : ¬ nI xx = nI x := qa_neN kx (by omega) (by omega)
        exact Or.inr ⟨fun post m h => br_f n2 (br_f nl ⟨v9, br_t c9 ⟨v7, br_f (by rw [c7, e1]; exact ne) (nm_r (nI_1 i) h)⟩⟩), fun _ post m h => br_f nl' (br_f on ⟨v5, br_f f5 ⟨v1, br_f (by rw [c1, e1']; exact ne) (nm_r (nI_1 i) h)⟩⟩), fun z => absurd k z⟩
    · have kf1 : fe = 1 := by omega
      subst kf1
      exact Or.inr ⟨fun post m h => br_f n2 (br_f nl ⟨v9, br_f (by rw [c9]; decide) (nm_r (nI_1 i) h)⟩), fun _ post m h => br_f nl' (br_f on ⟨v5, br_t c5 (nm_r (nI_1 i) h)⟩), fun z => absurd k z⟩
  · have l : s 282 ≤ nI i := by rw [e2]; exact nI_le (by omega) (by omega)
    have l' : t 278 ≤ nI i := by rw [e3]; exact nI_le (by omega) (by omega)
    exact Or.inr ⟨fun post m h => br_f n2 (br_t l (nm_r (nI_1 i) h)), fun z => absurd z k, fun _ post m h => br_t l' h⟩
theorem pr_place {ly tk f0 f1 x : Nat} (C : hr_ce s t) (ht : tk ≤ 2) (hf0 : f0 ≤ 1) (hf1 : f1 ≤ 1) (hx : x < 12) (e1 : s 274 = nI x) (e1' : t 277 = nI x) (e2 : s 282 = nI tk) (e3 : t 278 = nI tk) (S : hr_ss s t ly tk f0 f1) :
    ((∀ post : Int32 → Prop, post (-1) → wpX_placeToFetch post (sa, dg, st, da, rn, cn, s, sv, iv, c)) ∧ (∀ post : SY → Prop, wY_dot_254 post sb t tv jv e → ∃ n170, wY_dot_170 post sb t tv jv e n170 0)) ∨
    (∃ i : Nat, i < 2 ∧ i < tk ∧ (i = 0 ∧ f0 = 0 ∨ i = 1 ∧ f1 = 0) ∧ (∀ post : Int32 → Prop, post (nI i) → wpX_placeToFetch post (sa, dg, st, da, rn, cn, s, sv, iv, c)) ∧ (∀ (post : SY → Prop) (t2 : Nat → Int32), (∀ Q : SY → Prop, Q (sb, t2, tv, jv, e) → wpY_fetch Q (sb, t, tv, jv, e) (nI i)) → post (sb, upd t2 307 1, tv, jv, e) → ∃ n170, wY_dot_170 post sb t tv jv e n170 0)) := by
  have e247 := (C 247 (by omega)).1
  by_cases on : s 247 &&& 4 = 0
  · refine Or.inl ⟨fun post h => ?_, fun post h => ?_⟩
    · unfold wpX_placeToFetch
      exact br_t on (br_t rfl h)
    · by_cases k : t 278 ≤ 0
      · exact ⟨1, br_t k h⟩
      · exact ⟨1, br_f k (br_t (by rw [e247]; exact on) h)⟩
  · have on' : ¬ t 247 &&& 4 = 0 := by rw [e247]; exact on
    have XW : ∀ post : Int32 → Prop, (∃ m, wX_placeToFetch_12 post sa dg st da rn cn s sv iv c m (nI 0)) → wpX_placeToFetch post (sa, dg, st, da, rn, cn, s, sv, iv, c) := by
      intro post h
      unfold wpX_placeToFetch
      exact br_f on (br_f (by decide) h)
    have XE : ∀ post : Int32 → Prop, post (-1) → wX_placeToFetch_12 post sa dg st da rn cn s sv iv c 1 (nI 2) := fun post h => br_t (by decide) h
    have YE : ∀ post : SY → Prop, wY_dot_254 post sb t tv jv e → wY_dot_170 post sb t tv jv e 1 (nI 2) := fun post h => br_t (by rw [e3]; exact nI_le ht (by omega)) h
    rcases pr_pl1 (sa := sa) (dg := dg) (st := st) (da := da) (rn := rn) (cn := cn) (sv := sv) (iv := iv) (c := c) (sb := sb) (tv := tv) (jv := jv) (e := e) (i := 0) (by omega) ht hf0 hx e1 e1' e2 e3 on' (fun z => S.1 (by omega)) with ⟨k1, k2, k3, k4⟩ | ⟨k1, k2, k3⟩
    · exact Or.inr ⟨0, by omega, k1, Or.inl ⟨rfl, k2⟩, fun post h => XW post ⟨1, k3 post 0 h⟩, fun post t2 hF h => ⟨1, k4 post 0 t2 hF h⟩⟩
    · rcases pr_pl1 (sa := sa) (dg := dg) (st := st) (da := da) (rn := rn) (cn := cn) (sv := sv) (iv := iv) (c := c) (sb := sb) (tv := tv) (jv := jv) (e := e) (i := 1) (by omega) ht hf1 hx e1 e1' e2 e3 on' (fun z => S.2 (by omega)) with ⟨j1, j2, j3, j4⟩ | ⟨j1, j2, j3⟩
      · exact Or.inr ⟨1, by omega, j1, Or.inr ⟨rfl, j2⟩, fun post h => XW post ⟨2, k1 post 1 (j3 post 0 h)⟩, fun post t2 hF h => ⟨2, k2 (by omega) post 1 (j4 post 0 t2 hF h)⟩⟩
      · refine Or.inl ⟨fun post h => XW post ⟨3, k1 post 2 (j1 post 1 (XE post h))⟩, fun post h => ?_⟩
        by_cases q0 : 0 < tk
        · by_cases q1 : 1 < tk
          · exact ⟨3, k2 q0 post 2 (j2 q1 post 1 (YE post h))⟩
          · exact ⟨3, k2 q0 post 2 (j3 q1 post 1 h)⟩
        · exact ⟨1, k3 q0 post 0 h⟩
theorem pr_dot {ly d wl tk f0 f1 ee x dp pa le nx he : Nat} (C : hr_ce s t) (hl : ly ≤ 7) (hd : d ≤ 28) (ht : tk ≤ 2) (hf0 : f0 ≤ 1) (hf1 : f1 ≤ 1) (he_ : ee + 1 ≤ d) (hx : x < 12) (B : hr_bs s t ly d 3 wl tk) (S : hr_ss s t ly tk f0 f1) (D : hr_de s t ly d wl f0 f1 26 ee x dp pa le nx he) (N : hr_cn c e) :
    ∃ s' t' c' e' : Nat → Int32, hr_af s' t' c' e' s t c e ly d tk ∧ (∀ post : SX → Prop, post (sa, dg, st, da, rn, cn, s', sv, iv, c') → wpX_drawingDot post (sa, dg, st, da, rn, cn, s, sv, iv, c)) ∧ (∀ post : SY → Prop, post (sb, t', tv, jv, e') → wpY_dot post (sb, t, tv, jv, e)) := by
  have D0 := D
  obtain ⟨a1, a2, a3, a4, a5, a6, a7, a8, a9, e1, e2, e3, e4, e5, e6, e7, e8, e9, e10, e11, e12, e13, g1, g2, g4⟩ := D
  have B0 := B
  obtain ⟨b1, b2, b3, b4, b5, b6, b7, b8, b9⟩ := B0
  have e247 := (C 247 (by omega)).1
  have e251 := (C 251 (by omega)).1
  have e254 := (C 254 (by omega)).1
  have e255 := (C 255 (by omega)).1
  by_cases kp : pa = 1
  · subst kp
    refine ⟨upd s 276 0, upd t 307 0, c, e, ⟨wl, f0, f1, x, dp, 0, le, nx, he, ?_, ?_, hf0, hf1, hr_deE (hr_a1 D0 hl) (by omega), N, qa_ag0, qa_ag0, ?_, ?_⟩, fun post h => br_t e6 (nm_e h), fun post h => br_t e7 (nm_e h)⟩
    · exact hr_bsA B (qa_agU qa_ag0 (by omega)) (qa_agU qa_ag0 (by omega))
    · exact hr_ssA S (qa_agU qa_ag0 (by unfold hr_SX; omega)) (qa_agU qa_ag0 (by unfold hr_SY; omega))
    · exact qa_agU qa_ag0 (by unfold hr_GX; omega)
    · exact qa_agU qa_ag0 (by unfold hr_GY; omega)
  · have kp0 : pa = 0 := by omega
    subst kp0
    have np : ¬ s 276 = 1 := by rw [e6]; decide
    have np' : ¬ t 307 = 1 := by rw [e7]; decide
    by_cases kw : (¬ s 247 &&& 2 = 0) ∧ (¬ s 251 < s 254) ∧ s 274 = s 255 ∧ s 280 = 0
    · obtain ⟨w1, w2, w3, w4⟩ := kw
      have hz : he = 0 := qa_eqN (b := 0) (e12.symm.trans w4) (by omega) (by omega)
      subst hz
      have u1 : s 281 + 1 = nI (wl + 1) := by rw [b6, nI_1]
      have u2 : t 305 + 1 = nI (wl + 1) := by rw [b7, nI_1]
      refine ⟨upd (upd (upd (upd (upd (upd s 280 1) 281 (upd s 280 1 281 + 1)) 278 0) 279 0) 275 0) 276 1, upd (upd (upd (upd (upd (upd (upd t 304 1) 306 (upd t 304 1 305)) 305 (upd (upd t 304 1) 306 (upd t 304 1 305) 305 + 1)) 298 0) 299 4) 297 0) 307 1, c, e, ⟨wl + 1, f0, f1, x, 0, 1, 0, 0, 1, hr_a2b B u1 u2, ?_, hf0, hf1, hr_deE (hr_a2 D0 hl u1 u2 b7) (by omega), N, qa_ag0, qa_ag0, ?_, ?_⟩, ?_, ?_⟩
      · exact hr_ssA S (qa_agU (qa_agU (qa_agU (qa_agU (qa_agU (qa_agU qa_ag0 (by unfold hr_SX; omega)) (by unfold hr_SX; omega)) (by unfold hr_SX; omega)) (by unfold hr_SX; omega)) (by unfold hr_SX; omega)) (by unfold hr_SX; omega)) (qa_agU (qa_agU (qa_agU (qa_agU (qa_agU (qa_agU (qa_agU qa_ag0 (by unfold hr_SY; omega)) (by unfold hr_SY; omega)) (by unfold hr_SY; omega)) (by unfold hr_SY; omega)) (by unfold hr_SY; omega)) (by unfold hr_SY; omega)) (by unfold hr_SY; omega))
      · exact qa_agU (qa_agU (qa_agU (qa_agU (qa_agU (qa_agU qa_ag0 (by unfold hr_GX; omega)) (by unfold hr_GX; omega)) (by unfold hr_GX; omega)) (by unfold hr_GX; omega)) (by unfold hr_GX; omega)) (by unfold hr_GX; omega)
      · exact qa_agU (qa_agU (qa_agU (qa_agU (qa_agU (qa_agU (qa_agU qa_ag0 (by unfold hr_GY; omega)) (by unfold hr_GY; omega)) (by unfold hr_GY; omega)) (by unfold hr_GY; omega)) (by unfold hr_GY; omega)) (by unfold hr_GY; omega)) (by unfold hr_GY; omega)
      · intro post h
        refine br_f np ?_
        unfold wpX_doesWindowBegin
        refine br_f w1 (br_f (by decide) (br_f w2 (br_t w3 (br_t w4 (br_f (by decide) ?_)))))
        unfold wpX_beginWindow
        exact nm_e (nm_e (nm_e (nm_e (nm_e (nm_e h)))))
      · intro post h
        exact br_f np' (br_f (by rw [e247]; exact w1) (br_f (by rw [e251, e254]; exact w2) (br_t (by rw [e2, e255, ← e1]; exact w3) (br_t e13 (br_f (by decide) (nm_e (nm_e (nm_e (nm_e (nm_e (nm_e (nm_e h)))))))))))) 
    · -- no window begins
      have XW : ∀ post : Int32 → Prop, post 0 → wpX_doesWindowBegin post (sa, dg, st, da, rn, cn, s, sv, iv, c) := by
        intro post h
        unfold wpX_doesWindowBegin
        exact ⟨fun _ => br_t rfl h, fun k1 => br_f (by decide) ⟨fun _ => h, fun k2 => ⟨fun k3 => ⟨fun k4 => absurd ⟨k1, k2, k3, k4⟩ kw, fun _ => h⟩, fun _ => h⟩⟩⟩
      have YW : ∀ post : SY → Prop, (∃ n170, wY_dot_170 post sb t tv jv e n170 0) → wpY_dot post (sb, t, tv, jv, e) := by
        intro post h
        have h8 : wY_dot_88 post sb t tv jv e := br_t rfl h
        refine br_f np' ⟨fun _ => h8, fun k1 => ⟨fun _ => h8, fun k2 => ⟨fun k3 => ⟨fun k4 => absurd ⟨?_, ?_, ?_, ?_⟩ kw, fun _ => h8⟩, fun _ => h8⟩⟩⟩
        · rw [← e247]; exact k1
        · rw [← e251, ← e254]; exact k2
        · rw [e1, ← e255, ← e2]; exact k3
        · rw [e12, ← e13]; exact k4
      rcases pr_place (sa := sa) (dg := dg) (st := st) (da := da) (rn := rn) (cn := cn) (sv := sv) (iv := iv) (c := c) (sb := sb) (tv := tv) (jv := jv) (e := e) C ht hf0 hf1 hx e1 e2 b8 b9 S with ⟨pX, pY⟩ | ⟨i, i1, i2, i3, pX, pY⟩
      · -- a pixel of the strip
        by_cases kl : le = 0
        · subst kl
          obtain ⟨b, t1, hb, hf, hag, sX, sY⟩ := pr_strip (sa := sa) (dg := dg) (st := st) (da := da) (rn := rn) (cn := cn) (sv := sv) (iv := iv) (c := c) (sb := sb) (tv := tv) (jv := jv) (e := e) C hl b1 a6 e12 e13 e10 e11 (by omega) b6 (by omega) a8 g1
          have D1 := hr_a4 (v3 := upd (upd s 277 (nI b)) 278 4 279 + 1) (w1 := t1 298 + 1) D0 hl hb rfl (by show s 279 + 1 = _; rw [e10, nI_1]) (by rw [hag 298 (by omega), e11, nI_1]) hf hag
          have C1 : hr_ce (upd (upd (upd s 277 (nI b)) 278 4) 279 (upd (upd s 277 (nI b)) 278 4 279 + 1)) (upd (upd t1 298 (t1 298 + 1)) 299 0) := hr_ceA C (qa_agU (qa_agU (qa_agU qa_ag0 (by omega)) (by omega)) (by omega)) (qa_agT (qa_agW hag (by omega)) (qa_agU (qa_agU qa_ag0 (by omega)) (by omega)))
          have B1 : hr_bs (upd (upd (upd s 277 (nI b)) 278 4) 279 (upd (upd s 277 (nI b)) 278 4 279 + 1)) (upd (upd t1 298 (t1 298 + 1)) 299 0) ly d 3 wl tk := hr_bsA B (qa_agU (qa_agU (qa_agU qa_ag0 (by omega)) (by omega)) (by omega)) (qa_agT (qa_agW hag (by omega)) (qa_agU (qa_agU qa_ag0 (by omega)) (by omega)))
          have S1 : hr_ss (upd (upd (upd s 277 (nI b)) 278 4) 279 (upd (upd s 277 (nI b)) 278 4 279 + 1)) (upd (upd t1 298 (t1 298 + 1)) 299 0) ly tk f0 f1 := hr_ssA S (qa_agU (qa_agU (qa_agU qa_ag0 (by unfold hr_SX; omega)) (by unfold hr_SX; omega)) (by unfold hr_SX; omega)) (qa_agT (qa_agW hag (by unfold hr_SY; omega)) (qa_agU (qa_agU qa_ag0 (by unfold hr_SY; omega)) (by unfold hr_SY; omega)))
          obtain ⟨s', t', c', e', ⟨wl', g0, g1', x', dp', pa', le', nx', he', q1, q2, q3, q4, q5, q6, q7, q8, q9, q10⟩, TX, TY⟩ := pr_tail (sa := sa) (dg := dg) (st := st) (da := da) (rn := rn) (cn := cn) (sv := sv) (iv := iv) (c := c) (sb := sb) (tv := tv) (jv := jv) (e := e) C1 hl hd ht hf0 hf1 he_ hx B1 S1 D1 N
          refine ⟨s', t', c', e', ⟨wl', g0, g1', x', dp', pa', le', nx', he', q1, q2, q3, q4, q5, q6, q7, q8, qa_agT (qa_agU (qa_agU (qa_agU qa_ag0 (by unfold hr_GX; omega)) (by unfold hr_GX; omega)) (by unfold hr_GX; omega)) q9, qa_agT (qa_agT (qa_agW hag (by unfold hr_GY; omega)) (qa_agU (qa_agU qa_ag0 (by unfold hr_GY; omega)) (by unfold hr_GY; omega))) q10⟩, ?_, ?_⟩
          · intro post h
            refine br_f np ?_
            refine XW _ (br_t rfl ?_)
            refine pX _ (br_t (by decide) (br_t e8 ?_))
            exact sX _ (TX post h)
          · intro post h
            exact YW post (pY post (br_t e9 (sY _ (TY post h))))
        · obtain ⟨lf, rfl⟩ : ∃ lf, le = lf + 1 := ⟨le - 1, by omega⟩
          obtain ⟨s', t', c', e', A, TX, TY⟩ := pr_tail (sa := sa) (dg := dg) (st := st) (da := da) (rn := rn) (cn := cn) (sv := sv) (iv := iv) (c := c) (sb := sb) (tv := tv) (jv := jv) (e := e) C hl hd ht hf0 hf1 (by omega) hx B S D0 N
          refine ⟨s', t', c', e', A, ?_, ?_⟩
          · intro post h
            refine br_f np ?_
            refine XW _ (br_t rfl ?_)
            refine pX _ (br_t (by decide) (br_f ?_ (TX post h)))
            rw [e8]; exact nI_ne0 (by omega) (by omega)
          · intro post h
            refine YW post (pY post (br_f ?_ (TY post h)))
            rw [e9]; exact qa_neN (b := 4) (by omega) (by omega) (by omega)
      · -- a sprite is fetched
        rcases i3 with ⟨rfl, rfl⟩ | ⟨rfl, rfl⟩
        · obtain ⟨b, lk, t1, hb, hlk, hf, hag, fX, fY⟩ := pr_fetch (sa := sa) (dg := dg) (st := st) (da := da) (rn := rn) (cn := cn) (sv := sv) (iv := iv) (c := c) (sb := sb) (tv := tv) (jv := jv) (e := e) C (by omega) (by omega) b1 (S.1 (by omega))
          refine ⟨upd (upd (upd (upd s (289 + 0) 1) (291 + 0) (nI b)) (293 + 0) (nI lk)) 276 1, upd (upd (upd t1 (287 + 0) (nI lk)) (285 + 0) 1) 307 1, c, e, ⟨wl, 1, f1, x, dp, 1, le, nx, he, ?_, ?_, by omega, by omega, hr_deE (hr_a3 D0 hl ?_ rfl ?_ rfl (by omega)) (by omega), N, qa_ag0, qa_ag0, ?_, ?_⟩, ?_, ?_⟩
          · exact hr_bsA B (qa_agU (qa_agU (qa_agU (qa_agU qa_ag0 (by omega)) (by omega)) (by omega)) (by omega)) (qa_agT (qa_agW hag (by omega)) (qa_agU (qa_agU (qa_agU qa_ag0 (by omega)) (by omega)) (by omega)))
          · exact hr_fs0 (f0 := 0) S (by omega) hb hlk rfl rfl rfl hf hag
          · exact qa_agU (qa_agU (qa_agU (qa_agU qa_ag0 (by omega)) (by omega)) (by omega)) (by omega)
          · exact qa_agT (qa_agW hag (by omega)) (qa_agU (qa_agU (qa_agU qa_ag0 (by omega)) (by omega)) (by omega))
          · exact qa_agU (qa_agU (qa_agU (qa_agU qa_ag0 (by unfold hr_GX; omega)) (by unfold hr_GX; omega)) (by unfold hr_GX; omega)) (by unfold hr_GX; omega)
          · exact qa_agT (qa_agW hag (by unfold hr_GY; omega)) (qa_agU (qa_agU (qa_agU qa_ag0 (by unfold hr_GY; omega)) (by unfold hr_GY; omega)) (by unfold hr_GY; omega))
          · intro post h
            refine br_f np ?_
            refine XW _ (br_t rfl ?_)
            refine pX _ (br_f (by decide) ?_)
            exact fX _ (nm_e h)
          · intro post h
            exact YW post (pY post (upd (upd t1 (287 + 0) (nI lk)) (285 + 0) 1) fY h)
        · obtain ⟨b, lk, t1, hb, hlk, hf, hag, fX, fY⟩ := pr_fetch (sa := sa) (dg := dg) (st := st) (da := da) (rn := rn) (cn := cn) (sv := sv) (iv := iv) (c := c) (sb := sb) (tv := tv) (jv := jv) (e := e) C (by omega) (by omega) b1 (S.2 (by omega))
          refine ⟨upd (upd (upd (upd s (289 + 1) 1) (291 + 1) (nI b)) (293 + 1) (nI lk)) 276 1, upd (upd (upd t1 (287 + 1) (nI lk)) (285 + 1) 1) 307 1, c, e, ⟨wl, f0, 1, x, dp, 1, le, nx, he, ?_, ?_, by omega, by omega, hr_deE (hr_a3 D0 hl ?_ rfl ?_ rfl (by omega)) (by omega), N, qa_ag0, qa_ag0, ?_, ?_⟩, ?_, ?_⟩
          · exact hr_bsA B (qa_agU (qa_agU (qa_agU (qa_agU qa_ag0 (by omega)) (by omega)) (by omega)) (by omega)) (qa_agT (qa_agW hag (by omega)) (qa_agU (qa_agU (qa_agU qa_ag0 (by omega)) (by omega)) (by omega)))
          · exact hr_fs1 (f1 := 0) S (by omega) hb hlk rfl rfl rfl hf hag
          · exact qa_agU (qa_agU (qa_agU (qa_agU qa_ag0 (by omega)) (by omega)) (by omega)) (by omega)
          · exact qa_agT (qa_agW hag (by omega)) (qa_agU (qa_agU (qa_agU qa_ag0 (by omega)) (by omega)) (by omega))
          · exact qa_agU (qa_agU (qa_agU (qa_agU qa_ag0 (by unfold hr_GX; omega)) (by unfold hr_GX; omega)) (by unfold hr_GX; omega)) (by unfold hr_GX; omega)
          · exact qa_agT (qa_agW hag (by unfold hr_GY; omega)) (qa_agU (qa_agU (qa_agU qa_ag0 (by unfold hr_GY; omega)) (by unfold hr_GY; omega)) (by unfold hr_GY; omega))
          · intro post h
            refine br_f np ?_
            refine XW _ (br_t rfl ?_)
            refine pX _ (br_f (by decide) ?_)
            exact fX _ (nm_e h)
          · intro post h
            exact YW post (pY post (upd (upd t1 (287 + 1) (nI lk)) (285 + 1) 1) fY h)
end
