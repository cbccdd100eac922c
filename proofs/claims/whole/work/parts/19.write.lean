/-! a write of the processor: both sides -/
section
variable {sa dg st da rn cn : Int32} {s sv iv c : Nat → Int32} {sb : Int32} {t tv jv e : Nat → Int32}
theorem mx_rest {post : SX → Prop} (h : post (sa, dg, st, da, rn, cn, upd (qa_fill s 272 23 (fun _ => 0)) 251 0, sv, iv, c)) :
    ∀ d k, k + d = 23 → wX_restVideo_4 post sa dg st da rn cn (d + 1) (nI (272 + k)) (qa_fill s 272 k (fun _ => 0)) sv iv c := by
  intro d
  induction d with
  | zero =>
    intro k hk
    have z : k = 23 := by omega
    subst z
    exact br_t (nI_le (a := 295) (by omega) (by omega)) (nm_e h)
  | succ d ih =>
    intro k hk
    refine br_f (nI_ge (b := 295) (by omega) (by omega)) ⟨vp_in_nI (by omega) (by omega), nm_r (e' := qa_fill s 272 (k + 1) (fun _ => 0)) ?_ (nm_r (nI_1 _) (ih (k + 1) (by omega)))⟩
    rw [nI_clamp (by omega)]
    exact qa_fillS s 272 k (fun _ => 0)
theorem mx_restV {post : SX → Prop} (h : post (sa, dg, st, da, rn, cn, upd (qa_fill s 272 23 (fun _ => 0)) 251 0, sv, iv, c)) : wpX_restVideo post (sa, dg, st, da, rn, cn, s, sv, iv, c) := by
  have g := mx_rest h 23 0 rfl
  rw [qa_fill0] at g
  exact ⟨24, g⟩
theorem qa_pp : ∀ p, p < 256 → (nI p &&& (nI p ^^^ (-1))) &&& 15 = 0 := by decide +kernel
theorem qa_x1 {a v : Int32} (ha : qa_B a) (hv : qa_B v) : ((a ^^^ v) &&& 1 = 0) ↔ (a &&& 1 = v &&& 1) := by
  obtain ⟨x, hx, rfl⟩ := ha
  obtain ⟨y, hy, rfl⟩ := hv
  have hxy : x ^^^ y < 256 := Nat.xor_lt_two_pow (n := 8) hx hy
  rw [nx_xor, pk_andN (by omega) 1 (by decide), pk_andN (by omega) 1 (by decide), pk_andN (by omega) 1 (by decide)]
  have q := Nat.xor_mod_two_eq_one (a := x) (b := y)
  generalize x ^^^ y = w at hxy q
  show nI (w % 2 ^ 1) = nI 0 ↔ _
  rw [nI_eq (by omega) (by omega), nI_eq (by omega) (by omega)]
  omega
theorem hr_HwW {n : Nat} {v : Int32} (H : hr_Hw s t) (hn : n < 240) (hv : qa_B v) : hr_Hw (upd s n v) (upd t n v) := by
  obtain ⟨h1, h2, h3, h4, h5, h6, h7⟩ := H
  exact ⟨hr_ceB h1 hv rfl, hr_tmA h2 (qa_agU qa_ag0 (by omega)) (qa_agU qa_ag0 (by omega)), hr_cpA h3 (qa_agU qa_ag0 (by omega)) (qa_agU qa_ag0 (by omega)), hr_lnA h4 (pk_un (by omega)) (pk_un (by omega)), hr_kyA h5 (pk_un (by omega)) (pk_un (by omega)), hr_shA h6 (qa_agU qa_ag0 (by omega)) (qa_agU qa_ag0 (by omega)), hr_vsA h7 (qa_agU qa_ag0 (by unfold hr_PX; omega)) (qa_agU qa_ag0 (by unfold hr_PY; omega))⟩
/-- what is owed of a write, once the register's part is known -/
theorem pr_wfin {n : Nat} {v : Int32} {s1 t1 : Nat → Int32} (H : hr_Hw s t) (hc : t 274 = cn) (hb : qa_b cn) (hn : n < 256) (h240 : 240 ≤ n) (C1 : hr_ce s1 t1) (T1 : hr_tm s1 t1) (P1 : hr_cp s1 t1) (V1 : hr_vs s1 t1) (x1 : qa_ag (fun i => (256 ≤ i ∧ i < 266) ∨ i = 271 ∨ 391 ≤ i) s s1) (y1 : qa_ag (fun i => (256 ≤ i ∧ i < 267) ∨ i = 269 ∨ i = 274 ∨ i = 308 ∨ i = 310 ∨ 416 ≤ i) t t1) (o1 : t1 247 &&& 1 = t 247 &&& 1)
    (X1 : ∀ post : SX → Prop, post (sa, dg, st, da, rn, cn, s1, sv, iv, c) → wpX_writeRegister post (sa, dg, st, da, rn, cn, s, sv, iv, c) (nI n) v) (Y1 : ∀ post : SY → Prop, wY_store_258 post (ml_sg (t 244) (t 267)) (ml_pd (t 240) (t 310)) (ml_on (t 247)) sb t1 tv jv e → wpY_store post (sb, t, tv, jv, e) (nI n) v) :
    ∃ s' t' : Nat → Int32, hr_Hw s' t' ∧ qa_ag hr_FX s s' ∧ qa_ag hr_FY t t' ∧ t' 269 = t 269 ∧ t' 274 = t 274 ∧ (∀ post : SX → Prop, post (sa, dg, st, da, rn, cn, s', sv, iv, c) → wpX_write post (sa, dg, st, da, rn, cn, s, sv, iv, c) (nI n) v) ∧ (∀ post : SY → Prop, post (sb, t', tv, jv, e) → wpY_store post (sb, t, tv, jv, e) (nI n) v) := by
  obtain ⟨C, T, P, L, K, W, V⟩ := H
  obtain ⟨m, hm, m1, m2⟩ := hr_mode V
  obtain ⟨m', hm', m1', m2'⟩ := hr_mode V1
  obtain ⟨q, _, q0, qX, qY⟩ := pr_shut (sa := sa) (dg := dg) (st := st) (da := da) (rn := rn) (cn := cn) (sv := sv) (iv := iv) (c := c) (sb := sb) (tv := tv) (jv := jv) (e := e) hn hm m1 m2 hc hb
  have eb : ml_sg (t 244) (t 267) = ml_sg (s 244) (s 266) := by rw [(C 244 (by omega)).1, T.1]
  have ep : ml_pd (t 240) (t 310) = ml_pd (s 240) (s 391) := by rw [(C 240 (by omega)).1, K.1]
  have K1 : hr_ky s1 t1 := hr_kyA K (x1 391 (by omega)) (y1 310 (by omega))
  have L1 : hr_ln s1 t1 := hr_lnA L (x1 271 (by omega)) (y1 308 (by omega))
  obtain ⟨s2, s3, s4, t4, C4, T4, L4, x4, y4, hX2, hX3, hX4, hY⟩ := pr_after (sa := sa) (dg := dg) (st := st) (da := da) (rn := rn) (cn := cn) (sv := sv) (iv := iv) (c := c) (sb := sb) (tv := tv) (jv := jv) (e := e) C1 T1 K1 L1 (m2'.trans m1'.symm) (ml_sg (s 244) (s 266)) (ml_pd (s 240) (s 391)) (ml_on (t 247)) (by rw [o1]; exact ml_onC _)
  refine ⟨s4, t4, ⟨C4, T4, hr_cpA P1 (qa_agW x4 (by omega)) (qa_agW y4 (by omega)), L4, hr_kyA K1 (x4 391 (by omega)) (y4 310 (by omega)), hr_shA (hr_shA W (qa_agW x1 (by omega)) (qa_agW y1 (by omega))) (qa_agW x4 (by omega)) (qa_agW y4 (by omega)), hr_vsA V1 (qa_agW x4 (by unfold hr_PX; omega)) (qa_agW y4 (by unfold hr_PY; omega))⟩, qa_agT (qa_agW x1 (by unfold hr_FX; omega)) (qa_agW x4 (by unfold hr_FX; omega)), qa_agT (qa_agW y1 (by unfold hr_FY; omega)) (qa_agW y4 (by unfold hr_FY; omega)), (y4 269 (by omega)).trans (y1 269 (by omega)), (y4 274 (by omega)).trans (y1 274 (by omega)), ?_, ?_⟩
  · intro post h
    unfold wpX_write
    refine qX _ (br_t (q0 h240) (br_t (nI_le (a := 240) h240 (by omega)) ?_))
    refine mx_signal ?_
    refine mx_pad ?_
    refine X1 _ ?_
    refine hX2 _ ?_
    refine hX3 _ ?_
    exact hX4 _ h
  · intro post h
    refine Y1 post ?_
    rw [eb, ep]
    exact hY post h
theorem pr_w247a {v : Int32} (H : hr_Hw s t) (hc : t 274 = cn) (hb : qa_b cn) (hv : qa_B v) (tg : (s 247 ^^^ v) &&& 1 = 0) :
    ∃ s' t' : Nat → Int32, hr_Hw s' t' ∧ qa_ag hr_FX s s' ∧ qa_ag hr_FY t t' ∧ t' 269 = t 269 ∧ t' 274 = t 274 ∧ (∀ post : SX → Prop, post (sa, dg, st, da, rn, cn, s', sv, iv, c) → wpX_write post (sa, dg, st, da, rn, cn, s, sv, iv, c) (nI 247) v) ∧ (∀ post : SY → Prop, post (sb, t', tv, jv, e) → wpY_store post (sb, t, tv, jv, e) (nI 247) v) := by
  obtain ⟨C, T, P, L, K, W, V⟩ := H
  have hk : qa_B (t 310) := by rw [K.1]; exact K.2
  have o := (qa_x1 (C 247 (by omega)).2 hv).mp tg
  have V1 : hr_vs (upd s 247 v) (upd t 247 v) := by
    obtain ⟨ly, d, m, wl, tk, f0, f1, b1, b2, b3, b4, b5, B, S, oo, z, Q⟩ := V
    refine ⟨ly, d, m, wl, tk, f0, f1, b1, b2, b3, b4, b5, hr_bsA B (qa_agU qa_ag0 (by omega)) (qa_agU qa_ag0 (by omega)), hr_ssA S (qa_agU qa_ag0 (by unfold hr_SX; omega)) (qa_agU qa_ag0 (by unfold hr_SY; omega)), ?_, z, ?_⟩
    · show v &&& 1 = 0 → d = 0
      rw [← o]
      exact oo
    · rcases Q with h | h | h | h | h
      · exact Or.inl h
      · exact Or.inr (Or.inl ⟨h.1, h.2.1, h.2.2.1, h.2.2.2.1, hr_picA h.2.2.2.2 (by omega) (qa_agU qa_ag0 (by unfold hr_QX; omega)) (qa_agU qa_ag0 (by unfold hr_QY; omega))⟩)
      · obtain ⟨h1, h2, h3, h4, h5, h6, h7, h8, h9⟩ := h
        exact Or.inr (Or.inr (Or.inl ⟨h1, h2, h3, h4, h5, h6, h7, h8, hr_picA h9 (by omega) (qa_agU qa_ag0 (by unfold hr_QX; omega)) (qa_agU qa_ag0 (by unfold hr_QY; omega))⟩))
      · obtain ⟨h1, h2, h3, x, dp, pa, le, nx, he, a1, a2, a3, a4, a5, a6, a7, a8, a9, d1, d2, d3, d4, d5, d6, d7, d8, d9, d10, d11, d12, d13, g1, g2, g4⟩ := h
        exact Or.inr (Or.inr (Or.inr (Or.inl ⟨h1, h2, h3, x, dp, pa, le, nx, he, a1, a2, a3, a4, a5, a6, a7, a8, a9, d1, d2, d3, d4, d5, d6, d7, d8, d9, d10, d11, d12, d13, g1, hr_stX (hr_stY g2 (by omega)) (by omega), hr_picA g4 (by omega) (qa_agU qa_ag0 (by unfold hr_QX; omega)) (qa_agU qa_ag0 (by unfold hr_QY; omega))⟩)))
      · obtain ⟨h1, h2, h3, h4, h5, h6⟩ := h
        exact Or.inr (Or.inr (Or.inr (Or.inr ⟨h1, h2, h3, h4, h5, hr_picA h6 (by omega) (qa_agU qa_ag0 (by unfold hr_QX; omega)) (qa_agU qa_ag0 (by unfold hr_QY; omega))⟩)))
  refine pr_wfin (s1 := upd s 247 v) (t1 := upd t 247 v) ⟨C, T, P, L, K, W, V⟩ hc hb (by omega) (by omega) (hr_ceB C hv rfl) (hr_tmA T (qa_agU qa_ag0 (by omega)) (qa_agU qa_ag0 (by omega))) (hr_cpA P (qa_agU qa_ag0 (by omega)) (qa_agU qa_ag0 (by omega))) V1 (qa_agU qa_ag0 (by omega)) (qa_agU qa_ag0 (by omega)) ?_ ?_ ?_
  · show v &&& 1 = t 247 &&& 1
    rw [(C 247 (by omega)).1]
    exact o.symm
  · intro post h
    exact br_f (by decide) (br_f (by decide) (br_f (by decide) (br_f (by decide) (br_f (by decide) (br_f (by decide) (br_f (by decide) (br_f (by decide) (br_t rfl (br_t tg (nm_e h))))))))))
  · intro post h
    refine br_t (by decide) (my_signal (my_pad hk ?_))
    unfold wpY_isOn
    rcases ml_onC (t 247) with ⟨k1, k2⟩ | ⟨k1, k2⟩
    · rw [k1] at h
      exact br_t k2 (br_f (by decide) (br_f (by decide) (br_f (by decide) (br_f (by decide) (br_f (by decide) (br_f (by decide) (br_f (by decide) (br_f (by decide) (br_t rfl ⟨vp_in_nI (n := 247) (by omega) (by omega), nm_r (qa_up _ _ (nI_clamp (n := 247) (by omega))) h⟩)))))))))
    · rw [k1] at h
      exact br_f k2 (br_f (by decide) (br_f (by decide) (br_f (by decide) (br_f (by decide) (br_f (by decide) (br_f (by decide) (br_f (by decide) (br_f (by decide) (br_t rfl ⟨vp_in_nI (n := 247) (by omega) (by omega), nm_r (qa_up _ _ (nI_clamp (n := 247) (by omega))) h⟩)))))))))
theorem pr_w247b {v : Int32} (H : hr_Hw s t) (hc : t 274 = cn) (hb : qa_b cn) (hv : qa_B v) (tg : ¬ (s 247 ^^^ v) &&& 1 = 0) :
    ∃ s' t' : Nat → Int32, hr_Hw s' t' ∧ qa_ag hr_FX s s' ∧ qa_ag hr_FY t t' ∧ t' 269 = t 269 ∧ t' 274 = t 274 ∧ (∀ post : SX → Prop, post (sa, dg, st, da, rn, cn, s', sv, iv, c) → wpX_write post (sa, dg, st, da, rn, cn, s, sv, iv, c) (nI 247) v) ∧ (∀ post : SY → Prop, post (sb, t', tv, jv, e) → wpY_store post (sb, t, tv, jv, e) (nI 247) v) := by
  obtain ⟨C, T, P, L, K, W, V⟩ := H
  obtain ⟨m, hm, m1, m2⟩ := hr_mode V
  obtain ⟨q, _, q0, qX, qY⟩ := pr_shut (sa := sa) (dg := dg) (st := st) (da := da) (rn := rn) (cn := cn) (sv := sv) (iv := iv) (c := c) (sb := sb) (tv := tv) (jv := jv) (e := e) (n := 247) (by omega) hm m1 m2 hc hb
  have hk : qa_B (t 310) := by rw [K.1]; exact K.2
  have o : ¬ s 247 &&& 1 = v &&& 1 := fun z => tg ((qa_x1 (C 247 (by omega)).2 hv).mpr z)
  have sx : ∀ i, i ≠ 247 → i ≠ 251 → (i < 272 ∨ 295 ≤ i) → (upd (upd (qa_fill s 272 23 (fun _ => 0)) 251 0) 247 v) i = s i := by
    intro i h1 h2 h3
    rw [pk_un h1, pk_un h2, qa_fillO (by omega)]
  have sz : ∀ i, 272 ≤ i → i < 295 → (upd (upd (qa_fill s 272 23 (fun _ => 0)) 251 0) 247 v) i = 0 := by
    intro i h1 h2
    rw [pk_un (by omega), pk_un (by omega), show i = 272 + (i - 272) by omega, qa_fillI (by omega)]
  have ty : ∀ i, i ≠ 247 → i ≠ 275 → i ≠ 251 → i ≠ 276 → i ≠ 278 → i ≠ 305 → (upd (upd (upd (upd (upd (upd t 247 v) 275 (-1)) 251 0) 276 0) 278 0) 305 0) i = t i := by
    intro i h1 h2 h3 h4 h5 h6
    rw [pk_un h6, pk_un h5, pk_un h4, pk_un h3, pk_un h2, pk_un h1]
  have C3 : hr_ce (upd (upd (qa_fill s 272 23 (fun _ => 0)) 251 0) 247 v) (upd (upd (upd (upd (upd (upd t 247 v) 275 (-1)) 251 0) 276 0) 278 0) 305 0) := by
    intro i hi
    by_cases k1 : i = 247
    · subst k1
      exact ⟨rfl, hv⟩
    by_cases k2 : i = 251
    · subst k2
      exact ⟨rfl, qa_B0⟩
    rw [sx i k1 k2 (by omega), ty i k1 (by omega) k2 (by omega) (by omega) (by omega)]
    exact C i hi
  have T3 : hr_tm (upd (upd (qa_fill s 272 23 (fun _ => 0)) 251 0) 247 v) (upd (upd (upd (upd (upd (upd t 247 v) 275 (-1)) 251 0) 276 0) 278 0) 305 0) := hr_tmA T (fun i hi => sx i (by omega) (by omega) (by omega)) (fun i hi => ty i (by omega) (by omega) (by omega) (by omega) (by omega) (by omega))
  have P3 : hr_cp (upd (upd (qa_fill s 272 23 (fun _ => 0)) 251 0) 247 v) (upd (upd (upd (upd (upd (upd t 247 v) 275 (-1)) 251 0) 276 0) 278 0) 305 0) := hr_cpA P (fun i hi => sx i (by omega) (by omega) (by omega)) (fun i hi => ty i (by omega) (by omega) (by omega) (by omega) (by omega) (by omega))
  have L3 : hr_ln (upd (upd (qa_fill s 272 23 (fun _ => 0)) 251 0) 247 v) (upd (upd (upd (upd (upd (upd t 247 v) 275 (-1)) 251 0) 276 0) 278 0) 305 0) := hr_lnA L (sx 271 (by omega) (by omega) (by omega)) (ty 308 (by omega) (by omega) (by omega) (by omega) (by omega) (by omega))
  have K3 : hr_ky (upd (upd (qa_fill s 272 23 (fun _ => 0)) 251 0) 247 v) (upd (upd (upd (upd (upd (upd t 247 v) 275 (-1)) 251 0) 276 0) 278 0) 305 0) := hr_kyA K (sx 391 (by omega) (by omega) (by omega)) (ty 310 (by omega) (by omega) (by omega) (by omega) (by omega) (by omega))
  have W3 : hr_sh (upd (upd (qa_fill s 272 23 (fun _ => 0)) 251 0) 247 v) (upd (upd (upd (upd (upd (upd t 247 v) 275 (-1)) 251 0) 276 0) 278 0) 305 0) := hr_shA W (fun i hi => sx i (by omega) (by omega) (by omega)) (fun i hi => ty i (by omega) (by omega) (by omega) (by omega) (by omega) (by omega))
  have V3 : hr_vs (upd (upd (qa_fill s 272 23 (fun _ => 0)) 251 0) 247 v) (upd (upd (upd (upd (upd (upd t 247 v) 275 (-1)) 251 0) 276 0) 278 0) 305 0) := by
    refine ⟨0, 0, 0, 0, 0, 0, 0, by omega, by omega, by omega, by omega, by omega, ⟨rfl, sz 272 (by omega) (by omega), rfl, sz 273 (by omega) (by omega), rfl, sz 281 (by omega) (by omega), rfl, sz 282 (by omega) (by omega), rfl⟩, ⟨fun z => absurd z (by omega), fun z => absurd z (by omega)⟩, fun _ => rfl, fun _ => sz 274 (by omega) (by omega), Or.inl ⟨rfl, rfl, rfl, rfl, rfl⟩⟩
  obtain ⟨s4, t4, C4, L4, x4, y4, hX4, hY4⟩ := pr_look (sa := sa) (dg := dg) (st := st) (da := da) (rn := rn) (cn := cn) (sv := sv) (iv := iv) (c := c) (sb := sb) (tv := tv) (jv := jv) (e := e) C3 L3 (show (upd (upd (upd (upd (upd (upd t 247 v) 275 (-1)) 251 0) 276 0) 278 0) 305 0) 276 = (upd (upd (qa_fill s 272 23 (fun _ => 0)) 251 0) 247 v) 273 from (sz 273 (by omega) (by omega)).symm)
  have bB : qa_B (ml_pd (s 240) (s 391)) := ml_pdB_ _ (C 240 (by omega)).2
  obtain ⟨pb, hpb, epb⟩ := bB
  have ppz : (ml_pd (s 240) (s 391) &&& (ml_pd (s 240) (s 391) ^^^ (-1))) &&& 15 = 0 := by rw [epb]; exact qa_pp pb hpb
  have eb : ml_sg (t 244) (t 267) = ml_sg (s 244) (s 266) := by rw [(C 244 (by omega)).1, T.1]
  have ep : ml_pd (t 240) (t 310) = ml_pd (s 240) (s 391) := by rw [(C 240 (by omega)).1, K.1]
  refine ⟨s4, t4, ⟨C4, hr_tmA T3 (qa_agW x4 (by omega)) (qa_agW y4 (by omega)), hr_cpA P3 (qa_agW x4 (by omega)) (qa_agW y4 (by omega)), L4, hr_kyA K3 (x4 391 (by omega)) (y4 310 (by omega)), hr_shA W3 (qa_agW x4 (by omega)) (qa_agW y4 (by omega)), hr_vsA V3 (qa_agW x4 (by unfold hr_PX; omega)) (qa_agW y4 (by unfold hr_PY; omega))⟩, ?_, ?_, ?_, ?_, ?_, ?_⟩
  · exact fun i hi => (x4 i (by unfold hr_FX at hi; omega)).trans (by unfold hr_FX at hi; exact sx i (by omega) (by omega) (by omega))
  · exact fun i hi => (y4 i (by unfold hr_FY at hi; omega)).trans (by unfold hr_FY at hi; exact ty i (by omega) (by omega) (by omega) (by omega) (by omega) (by omega))
  · exact (y4 269 (by omega)).trans (ty 269 (by omega) (by omega) (by omega) (by omega) (by omega) (by omega))
  · exact (y4 274 (by omega)).trans (ty 274 (by omega) (by omega) (by omega) (by omega) (by omega) (by omega))
  · intro post h
    unfold wpX_write
    refine qX _ (br_t (q0 (by omega)) (br_t (by decide) ?_))
    refine mx_signal ?_
    refine mx_pad ?_
    refine br_f (by decide) (br_f (by decide) (br_f (by decide) (br_f (by decide) (br_f (by decide) (br_f (by decide) (br_f (by decide) (br_f (by decide) (br_t rfl (br_f tg ?_)))))))))
    refine mx_restV ?_
    · refine nm_e ?_
      have hn : ∀ Q : SX → Prop, Q (sa, dg, st, da, rn, cn, (upd (upd (qa_fill s 272 23 (fun _ => 0)) 251 0) 247 v), sv, iv, c) → wpX_noticeSignal Q (sa, dg, st, da, rn, cn, (upd (upd (qa_fill s 272 23 (fun _ => 0)) 251 0) 247 v), sv, iv, c) (ml_sg (s 244) (s 266)) := by
        intro Q hQ
        by_cases k : ml_sg (s 244) (s 266) = 0
        · exact br_t k hQ
        · refine br_f k (mx_signal (br_f ?_ hQ))
          rw [sx 244 (by omega) (by omega) (by omega), sx 266 (by omega) (by omega) (by omega)]
          exact k
      refine hn _ ?_
      have hk2 : ∀ Q : SX → Prop, Q (sa, dg, st, da, rn, cn, (upd (upd (qa_fill s 272 23 (fun _ => 0)) 251 0) 247 v), sv, iv, c) → wpX_noticeKeys Q (sa, dg, st, da, rn, cn, (upd (upd (qa_fill s 272 23 (fun _ => 0)) 251 0) 247 v), sv, iv, c) (ml_pd (s 240) (s 391)) := by
        intro Q hQ
        unfold wpX_noticeKeys
        refine mx_pad ?_
        rw [sx 240 (by omega) (by omega) (by omega), sx 391 (by omega) (by omega) (by omega)]
        exact br_t ppz hQ
      refine hk2 _ ?_
      exact hX4 _ h
  · intro post h
    have G292 : wY_store_292 post sb (upd (upd (upd (upd (upd (upd t 247 v) 275 (-1)) 251 0) 276 0) 278 0) 305 0) tv jv e := by
      unfold wY_store_292
      exact hY4 _ h
    have e310 : qa_B (upd t 247 v 310) := hk
    have G273 : wY_store_273 post (ml_pd (t 240) (t 310)) (ml_on (t 247)) sb (upd t 247 v) tv jv e := by
      unfold wY_store_273
      unfold wpY_fall
      refine my_pad e310 ?_
      refine br_t (show (ml_pd (t 240) (t 310) &&& (ml_pd (t 240) (t 310) ^^^ (-1))) &&& 15 = 0 by rw [ep]; exact ppz) ?_
      unfold wpY_isOn
      have tv_ : wpY_turnVideo (fun u => match u with | (a1, a2, a3, a4, a5) => wY_store_292 post a1 a2 a3 a4 a5) (sb, upd t 247 v, tv, jv, e) := nm_e (nm_e (nm_e (nm_e (nm_e G292))))
      have e7 := (C 247 (by omega)).1
      refine ⟨fun z => br_f ?_ tv_, fun z => br_f ?_ tv_⟩
      · intro w
        apply o
        have : t 247 &&& 1 = 1 := by
          rcases ml_onC (t 247) with ⟨k1, k2⟩ | ⟨k1, k2⟩
          · exact k2
          · exact absurd (k1.symm.trans w) (by decide)
        rw [← e7, this]
        exact z.symm
      · intro w
        apply o
        have n1 : ¬ t 247 &&& 1 = 1 := by
          rcases ml_onC (t 247) with ⟨k1, k2⟩ | ⟨k1, k2⟩
          · exact absurd (k1.symm.trans w) (by decide)
          · exact k2
        rw [← e7, (qa_and1 (t 247)).resolve_right n1]
        exact ((qa_and1 v).resolve_right z).symm
    have G258 : wY_store_258 post (ml_sg (t 244) (t 267)) (ml_pd (t 240) (t 310)) (ml_on (t 247)) sb (upd t 247 v) tv jv e := by
      by_cases k : ml_sg (t 244) (t 267) = 0
      · exact br_t k G273
      · exact br_f k (my_signal (br_f k G273))
    refine br_t (by decide) (my_signal (my_pad hk ?_))
    unfold wpY_isOn
    rcases ml_onC (t 247) with ⟨k1, k2⟩ | ⟨k1, k2⟩
    · rw [k1] at G258
      exact br_t k2 (br_f (by decide) (br_f (by decide) (br_f (by decide) (br_f (by decide) (br_f (by decide) (br_f (by decide) (br_f (by decide) (br_f (by decide) (br_t rfl ⟨vp_in_nI (n := 247) (by omega) (by omega), nm_r (qa_up _ _ (nI_clamp (n := 247) (by omega))) G258⟩)))))))))
    · rw [k1] at G258
      exact br_f k2 (br_f (by decide) (br_f (by decide) (br_f (by decide) (br_f (by decide) (br_f (by decide) (br_f (by decide) (br_f (by decide) (br_f (by decide) (br_t rfl ⟨vp_in_nI (n := 247) (by omega) (by omega), nm_r (qa_up _ _ (nI_clamp (n := 247) (by omega))) G258⟩)))))))))
theorem pr_write {n : Nat} {v : Int32} (H : hr_Hw s t) (hc : t 274 = cn) (hb : qa_b cn) (hr : t 269 = rn) (hrb : qa_b rn) (hn : n < 256) (hv : qa_B v) :
    ∃ s' t' : Nat → Int32, hr_Hw s' t' ∧ qa_ag hr_FX s s' ∧ qa_ag hr_FY t t' ∧ t' 269 = t 269 ∧ t' 274 = t 274 ∧ (∀ post : SX → Prop, post (sa, dg, st, da, rn, cn, s', sv, iv, c) → wpX_write post (sa, dg, st, da, rn, cn, s, sv, iv, c) (nI n) v) ∧ (∀ post : SY → Prop, post (sb, t', tv, jv, e) → wpY_store post (sb, t, tv, jv, e) (nI n) v) := by
  by_cases k240 : n < 240
  · obtain ⟨m, hm, m1, m2⟩ := hr_mode H.2.2.2.2.2.2
    obtain ⟨q, q01, _, qX, qY⟩ := pr_shut (sa := sa) (dg := dg) (st := st) (da := da) (rn := rn) (cn := cn) (sv := sv) (iv := iv) (c := c) (sb := sb) (tv := tv) (jv := jv) (e := e) hn hm m1 m2 hc hb
    have nl : ¬ (240 : Int32) ≤ nI n := nI_ge (b := 240) k240 (by omega)
    rcases q01 with z | z
    · refine ⟨upd s n v, upd t n v, hr_HwW H k240 hv, qa_agU qa_ag0 (by unfold hr_FX; omega), qa_agU qa_ag0 (by unfold hr_FY; omega), pk_un (by omega), pk_un (by omega), ?_, ?_⟩
      · intro post h
        unfold wpX_write
        exact qX _ (br_t z (br_f nl ⟨vp_in_nI (by omega) (by omega), nm_r (qa_up _ _ (nI_clamp (by omega))) h⟩))
      · intro post h
        refine br_f nl ?_
        exact qY _ (br_t z ⟨vp_in_nI (by omega) (by omega), nm_r (qa_up _ _ (nI_clamp (by omega))) h⟩)
    · have nz : ¬ q = 0 := by rw [z]; decide
      refine ⟨s, t, H, qa_ag0, qa_ag0, rfl, rfl, ?_, ?_⟩
      · intro post h
        unfold wpX_write
        exact qX _ (br_f nz h)
      · intro post h
        refine br_f nl ?_
        exact qY _ (br_f nz h)
  · by_cases k247 : n = 247
    · subst k247
      by_cases tg : (s 247 ^^^ v) &&& 1 = 0
      · exact pr_w247a H hc hb hv tg
      · exact pr_w247b H hc hb hv tg
    · have hk : qa_B (t 310) := by rw [H.2.2.2.2.1.1]; exact H.2.2.2.2.1.2
      have R : ∃ s1 t1 : Nat → Int32, hr_rg s1 t1 s t ∧ (∀ post : SX → Prop, post (sa, dg, st, da, rn, cn, s1, sv, iv, c) → wpX_writeRegister post (sa, dg, st, da, rn, cn, s, sv, iv, c) (nI n) v) ∧ (∀ post : SY → Prop, wY_store_258 post (ml_sg (t 244) (t 267)) (ml_pd (t 240) (t 310)) (ml_on (t 247)) sb t1 tv jv e → wpY_store post (sb, t, tv, jv, e) (nI n) v) := by
        have nn : n = 240 ∨ n = 241 ∨ n = 242 ∨ n = 243 ∨ n = 244 ∨ n = 245 ∨ n = 246 ∨ n = 248 ∨ n = 249 ∨ n = 250 ∨ n = 251 ∨ n = 252 ∨ n = 253 ∨ n = 254 ∨ n = 255 := by omega
        rcases nn with rfl | rfl | rfl | rfl | rfl | rfl | rfl | rfl | rfl | rfl | rfl | rfl | rfl | rfl | rfl
        · exact pr_rg240 H.1 H.2.1 H.2.2.1 hk hv hr hrb
        · exact pr_rg241 H.1 H.2.1 H.2.2.1 hk hv hr hrb
        · exact pr_rg242 H.1 H.2.1 H.2.2.1 hk hv hr hrb
        · exact pr_rg243 H.1 H.2.1 H.2.2.1 hk hv hr hrb
        · exact pr_rg244 H.1 H.2.1 H.2.2.1 hk hv hr hrb
        · exact pr_rg245 H.1 H.2.1 H.2.2.1 hk hv hr hrb
        · exact pr_rg246 H.1 H.2.1 H.2.2.1 hk hv hr hrb
        · exact pr_rg248 H.1 H.2.1 H.2.2.1 hk hv hr hrb
        · exact pr_rg249 H.1 H.2.1 H.2.2.1 hk hv hr hrb
        · exact pr_rg250 H.1 H.2.1 H.2.2.1 hk hv hr hrb
        · exact pr_rg251 H.1 H.2.1 H.2.2.1 hk hv hr hrb
        · exact pr_rg252 H.1 H.2.1 H.2.2.1 hk hv hr hrb
        · exact pr_rg253 H.1 H.2.1 H.2.2.1 hk hv hr hrb
        · exact pr_rg254 H.1 H.2.1 H.2.2.1 hk hv hr hrb
        · exact pr_rg255 H.1 H.2.1 H.2.2.1 hk hv hr hrb
      obtain ⟨s1, t1, ⟨C1, T1, P1, x1, y1⟩, X1, Y1⟩ := R
      exact pr_wfin H hc hb hn (by omega) C1 T1 P1 (hr_vsA H.2.2.2.2.2.2 (qa_agW x1 (by unfold hr_PX hr_WX; omega)) (qa_agW y1 (by unfold hr_PY hr_WY; omega))) (qa_agW x1 (by unfold hr_WX; omega)) (qa_agW y1 (by unfold hr_WY; omega)) (by rw [y1 247 (by unfold hr_WY; omega)]) X1 Y1
end
