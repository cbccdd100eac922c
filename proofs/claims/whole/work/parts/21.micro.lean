/-! what the processor does in one cycle: both sides -/
def hr_cm (l z : Int32) (s t : Nat → Int32) : Prop := t 256 = s 256 ∧ t 257 = s 257 ∧ t 258 = s 258 ∧ t 259 = s 259 ∧ t 260 = s 260 ∧ t 261 = s 261 ∧ t 262 = s 262 ∧ t 263 = s 263 ∧ qa_B (s 256) ∧ qa_B (s 257) ∧ qa_B (s 258) ∧ qa_B (s 259) ∧ qa_B (s 260) ∧ qa_b (s 261) ∧ qa_b (s 262) ∧ qa_b (s 263) ∧ s 264 = l ∧ t 264 = z ∧ s 265 = 0 ∧ t 265 = 0 ∧ t 266 = 0
theorem hr_cmA {l z : Int32} {s t s' t' : Nat → Int32} (h : hr_cm l z s t) (hx : qa_ag hr_FX s s') (hy : qa_ag hr_FY t t') : hr_cm l z s' t' := by
  unfold hr_cm
  rw [hx 256 (by unfold hr_FX; omega), hx 257 (by unfold hr_FX; omega), hx 258 (by unfold hr_FX; omega), hx 259 (by unfold hr_FX; omega), hx 260 (by unfold hr_FX; omega), hx 261 (by unfold hr_FX; omega), hx 262 (by unfold hr_FX; omega), hx 263 (by unfold hr_FX; omega), hx 264 (by unfold hr_FX; omega), hx 265 (by unfold hr_FX; omega)]
  rw [hy 256 (by unfold hr_FY; omega), hy 257 (by unfold hr_FY; omega), hy 258 (by unfold hr_FY; omega), hy 259 (by unfold hr_FY; omega), hy 260 (by unfold hr_FY; omega), hy 261 (by unfold hr_FY; omega), hy 262 (by unfold hr_FY; omega), hy 263 (by unfold hr_FY; omega), hy 264 (by unfold hr_FY; omega), hy 265 (by unfold hr_FY; omega), hy 266 (by unfold hr_FY; omega)]
  exact h
def hr_RG (i : Nat) : Prop := i = 256 ∨ i = 257 ∨ i = 258 ∨ i = 261 ∨ i = 262 ∨ i = 263
def hr_ct (c e c' e' : Nat → Int32) (k : Nat) : Prop := qa_ag hr_C4 c c' ∧ qa_ag hr_E3 e e' ∧ e' 0 = e 0 + nI k ∧ hr_cn c' e'
theorem hr_ctT {c e c1 e1 c2 e2 : Nat → Int32} {j k : Nat} (h : hr_ct c e c1 e1 j) (g : hr_ct c1 e1 c2 e2 k) : hr_ct c e c2 e2 (j + k) := by
  refine ⟨qa_agT h.1 g.1, qa_agT h.2.1 g.2.1, ?_, g.2.2.2⟩
  rw [g.2.2.1, h.2.2.1, Int32.add_assoc, nI_add]
/-- X goes through a cycle, from u to u4 -/
def st_X (u u4 : SX) : Prop := ∃ u3 : SX, (∀ (post : Int32 → SX → Prop) (J : Int32 → Int32 → Int32 → Int32 → Int32 → Int32 → Int32 → (Nat → Int32) → (Nat → Int32) → (Nat → Int32) → (Nat → Int32) → Prop) (x1 x2 : Int32), wpX_processorTurn (ru_K J x2) u3 → ru_A post J x1 x2 u) ∧ (∀ Q : SX → Prop, Q u4 → wpX_processorTurn Q u3)
theorem st_last {x1 : Int32} {p : Nat} {u u5 : SX} {a1 a2 a4 a5 a6 : Int32} {a7 a8 a9 a10 : Nat → Int32} (h : st_X u (a1, a2, 0, a4, a5, a6, a7, a8, a9, a10)) (hE : ∀ Q : SX → Prop, Q u5 → wpX_endThis Q (a1, a2, 0, a4, a5, a6, a7, a8, a9, a10)) : ru_52 x1 p 0 u u5 := by
  obtain ⟨u3, hX, hP⟩ := h
  intro post m h
  refine hX post _ x1 _ (hP _ ?_)
  refine nm_r (nI_1 p) (br_t rfl ?_)
  exact hE _ h
theorem st_cons {x1 : Int32} {p k : Nat} {u u' : SX} {a1 a2 a3 a4 a5 a6 : Int32} {a7 a8 a9 a10 : Nat → Int32} (hp : p + 1 < 2010) (h : st_X u (a1, a2, a3, a4, a5, a6, a7, a8, a9, a10)) (h4 : ¬ a3 = 0) (hR : ru_52 x1 (p + 1) k (a1, a2, a3, a4, a5, a6, a7, a8, a9, a10) u') : ru_52 x1 p (k + 1) u u' := by
  obtain ⟨u3, hX, hP⟩ := h
  intro post m h
  refine hX post _ x1 _ (hP _ ?_)
  refine nm_r (nI_1 p) (br_f h4 ?_)
  have h' : ru_L post x1 m (nI (p + 1 + k + 1)) u' := by
    rw [show p + 1 + k + 1 = p + (k + 1) + 1 by omega]
    exact h
  refine br_f (nI_ge (b := 2010) (by omega) (by omega)) (br_f h4 ?_)
  exact hR post m h'
section
variable {sa dg st da rn cn : Int32} {s sv iv c : Nat → Int32} {sb : Int32} {t tv jv e : Nat → Int32}
theorem hr_cmB {l z : Int32} {k : Nat} {v w : Int32} (h : hr_cm l z s t) (hk : 256 ≤ k ∧ k < 261) (hv : qa_B v) (ew : w = v) : hr_cm l z (upd s k v) (upd t k w) := by
  have kk : k = 256 ∨ k = 257 ∨ k = 258 ∨ k = 259 ∨ k = 260 := by omega
  obtain ⟨m1, m2, m3, m4, m5, m6, m7, m8, B1, B2, B3, B4, B5, b1, b2, b3, g1, g2, g3, g4, g5⟩ := h
  rcases kk with rfl | rfl | rfl | rfl | rfl
  · exact ⟨ew, m2, m3, m4, m5, m6, m7, m8, hv, B2, B3, B4, B5, b1, b2, b3, g1, g2, g3, g4, g5⟩
  · exact ⟨m1, ew, m3, m4, m5, m6, m7, m8, B1, hv, B3, B4, B5, b1, b2, b3, g1, g2, g3, g4, g5⟩
  · exact ⟨m1, m2, ew, m4, m5, m6, m7, m8, B1, B2, hv, B4, B5, b1, b2, b3, g1, g2, g3, g4, g5⟩
  · exact ⟨m1, m2, m3, ew, m5, m6, m7, m8, B1, B2, B3, hv, B5, b1, b2, b3, g1, g2, g3, g4, g5⟩
  · exact ⟨m1, m2, m3, m4, ew, m6, m7, m8, B1, B2, B3, B4, hv, b1, b2, b3, g1, g2, g3, g4, g5⟩
theorem mi_ct {c e c3 e3 s3 t3 : Nat → Int32} {rn' cn' : Int32} (R : cy_R s t c e s3 t3 c3 e3 rn' cn') : hr_ct c e c3 e3 1 := by
  obtain ⟨H3, x3, y3, r1, r2, q1, q2, n1, n2, n3, n4⟩ := R
  exact ⟨n2, n3, n4, n1⟩
/-- a cycle in which nothing is done -/
theorem mp_nop {l z st' : Int32} (h1 : st &&& 15 = 3) (h2 : st >>> ((4 : Int32) &&& 31) = st') (H : hr_Hw s t) (M : hr_cm l z s t) (N : hr_cn c e) : ∃ (s4 t4 c4 e4 : Nat → Int32) (rn' cn' : Int32), hr_Hw s4 t4 ∧ hr_cm l z s4 t4 ∧ hr_ct c e c4 e4 1 ∧ qa_ag hr_RG s s4 ∧ st_X (sa, dg, st, da, rn, cn, s, sv, iv, c) (sa, dg, st', da, rn', cn', s4, sv, iv, c4) ∧ (∀ post : SY → Prop, post (sb, t4, tv, jv, e4) → wpY_cycle post (sb, t, tv, jv, e)) := by
  obtain ⟨s3, t3, c3, e3, rn', cn', R, hX, hY⟩ := pr_cyc (sa := sa) (dg := dg) (st := st) (da := da) (rn := rn) (cn := cn) (sv := sv) (iv := iv) (c := c) (sb := sb) (tv := tv) (jv := jv) (e := e) H N
  refine ⟨s3, t3, c3, e3, rn', cn', R.1, hr_cmA M R.2.1 R.2.2.1, mi_ct R, qa_agW R.2.1 (by unfold hr_RG hr_FX; omega), ⟨_, hX, ?_⟩, hY⟩
  intro Q h
  exact nm_r h1 (nm_r h2 (br_f (by decide) (br_f (by decide) (br_f (by decide) (br_f (by decide) (br_t rfl h))))))
/-- the next byte is read -/
theorem mp_next {l z st' : Int32} (h1 : st &&& 15 = 2) (h2 : st >>> ((4 : Int32) &&& 31) = st') (H : hr_Hw s t) (M : hr_cm l z s t) (N : hr_cn c e) : ∃ (s4 t4 c4 e4 : Nat → Int32) (rn' cn' r : Int32), hr_Hw s4 t4 ∧ hr_cm l z s4 t4 ∧ hr_ct c e c4 e4 1 ∧ qa_ag hr_RG s s4 ∧ qa_B r ∧ st_X (sa, dg, st, da, rn, cn, s, sv, iv, c) (sa, dg, st', r, rn', cn', s4, sv, iv, c4) ∧ (∀ post : Int32 → SY → Prop, post r (sb, t4, tv, jv, e4) → wpY_next post (sb, t, tv, jv, e)) := by
  have M0 := M
  obtain ⟨m1, m2, m3, m4, m5, m6, m7, m8, B1, B2, B3, B4, ⟨n, hn, B5⟩, b1, b2, b3, g1, g2, g3, g4, g5⟩ := M
  obtain ⟨s3, t3, c3, e3, rn', cn', r, R, rB, rX, hX, hY⟩ := pr_rdc (sa := sa) (dg := dg) (st := st) (da := da) (rn := rn) (cn := cn) (sv := sv) (iv := iv) (c := c) (sb := sb) (tv := tv) (jv := jv) (e := e) (n := n) st' H N hn
  have M3 : hr_cm l z s3 t3 := hr_cmA M0 R.2.1 R.2.2.1
  have p3 : s3 260 = nI n := (R.2.1 260 (by unfold hr_FX; omega)).trans B5
  have z3 : t3 266 = 0 := (R.2.2.1 266 (by unfold hr_FY; omega)).trans g5
  refine ⟨upd s3 260 ((s3 260 + 1) &&& 255), upd (upd t3 260 ((t3 260 + 1) &&& 255)) 266 0, c3, e3, rn', cn', r, hr_HwX (hr_HwY (hr_HwY R.1 (by omega)) (by omega)) (by omega) (by omega), ?_, mi_ct R, qa_agU (qa_agW R.2.1 (by unfold hr_RG hr_FX; omega)) (by unfold hr_RG; omega), rB, ⟨_, hX, ?_⟩, ?_⟩
  · have q := hr_cmB (k := 260) (w := (t3 260 + 1) &&& 255) M3 (by omega) (qa_Bm (s3 260 + 1)) (by rw [M3.2.2.2.2.1])
    refine hr_cmA q qa_ag0 ?_
    intro i hi
    by_cases k : i = 266
    · subst k
      exact z3.symm
    · exact pk_un k
  · intro Q h
    refine nm_r h1 (nm_r h2 (br_f (by decide) (br_f (by decide) (br_f (by decide) (br_t rfl ?_)))))
    rw [p3]
    exact rX _ (nm_r (by rw [p3]) h)
  · intro post h
    unfold wpY_next
    dsimp only
    rw [m5, B5]
    refine hY _ ?_
    exact br_t z3 (nm_e (nm_e h))
/-- a byte is pulled -/
theorem mp_pull {l z st' : Int32} (h1 : st &&& 15 = 4) (h2 : st >>> ((4 : Int32) &&& 31) = st') (H : hr_Hw s t) (M : hr_cm l z s t) (N : hr_cn c e) : ∃ (s4 t4 c4 e4 : Nat → Int32) (rn' cn' r : Int32), hr_Hw s4 t4 ∧ hr_cm l z s4 t4 ∧ hr_ct c e c4 e4 1 ∧ qa_ag hr_RG s s4 ∧ qa_B r ∧ st_X (sa, dg, st, da, rn, cn, s, sv, iv, c) (sa, dg, st', r, rn', cn', s4, sv, iv, c4) ∧ (∀ post : Int32 → SY → Prop, post r (sb, t4, tv, jv, e4) → wpY_pull post (sb, t, tv, jv, e)) := by
  have M0 := M
  obtain ⟨m1, m2, m3, m4, m5, m6, m7, m8, B1, B2, B3, ⟨n, hn, B4⟩, B5, b1, b2, b3, g1, g2, g3, g4, g5⟩ := M
  obtain ⟨s3, t3, c3, e3, rn', cn', r, R, rB, rX, hX, hY⟩ := pr_rdc (sa := sa) (dg := dg) (st := st) (da := da) (rn := rn) (cn := cn) (sv := sv) (iv := iv) (c := c) (sb := sb) (tv := tv) (jv := jv) (e := e) (n := n) st' H N hn
  have M3 : hr_cm l z s3 t3 := hr_cmA M0 R.2.1 R.2.2.1
  have p3 : s3 259 = nI n := (R.2.1 259 (by unfold hr_FX; omega)).trans B4
  refine ⟨upd s3 259 ((s3 259 + 1) &&& 255), upd t3 259 ((t3 259 + 1) &&& 255), c3, e3, rn', cn', r, hr_HwX (hr_HwY R.1 (by omega)) (by omega) (by omega), ?_, mi_ct R, qa_agU (qa_agW R.2.1 (by unfold hr_RG hr_FX; omega)) (by unfold hr_RG; omega), rB, ⟨_, hX, ?_⟩, ?_⟩
  · exact hr_cmB M3 (by omega) (qa_Bm (s3 259 + 1)) (by rw [M3.2.2.2.1])
  · intro Q h
    refine nm_r h1 (nm_r h2 (br_f (by decide) (br_f (by decide) (br_f (by decide) (br_f (by decide) (br_f (by decide) (br_t rfl ?_)))))))
    rw [p3]
    exact rX _ (nm_r (by rw [p3]) h)
  · intro post h
    unfold wpY_pull
    dsimp only
    rw [m4, B4]
    refine hY _ ?_
    exact nm_e h
/-- the cell at P is read -/
theorem mp_rdp {l z st' : Int32} (h1 : st &&& 15 = 6) (h2 : st >>> ((4 : Int32) &&& 31) = st') (H : hr_Hw s t) (M : hr_cm l z s t) (N : hr_cn c e) : ∃ (s4 t4 c4 e4 : Nat → Int32) (rn' cn' r : Int32), hr_Hw s4 t4 ∧ hr_cm l z s4 t4 ∧ hr_ct c e c4 e4 1 ∧ qa_ag hr_RG s s4 ∧ qa_B r ∧ st_X (sa, dg, st, da, rn, cn, s, sv, iv, c) (sa, dg, st', r, rn', cn', s4, sv, iv, c4) ∧ (∀ post : Int32 → SY → Prop, post r (sb, t4, tv, jv, e4) → wpY_read post (sb, t, tv, jv, e) (t 258)) := by
  have M0 := M
  obtain ⟨m1, m2, m3, m4, m5, m6, m7, m8, B1, B2, ⟨n, hn, B3⟩, B4, B5, b1, b2, b3, g1, g2, g3, g4, g5⟩ := M
  obtain ⟨s3, t3, c3, e3, rn', cn', r, R, rB, rX, hX, hY⟩ := pr_rdc (sa := sa) (dg := dg) (st := st) (da := da) (rn := rn) (cn := cn) (sv := sv) (iv := iv) (c := c) (sb := sb) (tv := tv) (jv := jv) (e := e) (n := n) st' H N hn
  have p3 : s3 258 = nI n := (R.2.1 258 (by unfold hr_FX; omega)).trans B3
  refine ⟨s3, t3, c3, e3, rn', cn', r, R.1, hr_cmA M0 R.2.1 R.2.2.1, mi_ct R, qa_agW R.2.1 (by unfold hr_RG hr_FX; omega), rB, ⟨_, hX, ?_⟩, ?_⟩
  · intro Q h
    refine nm_r h1 (nm_r h2 (br_f (by decide) (br_f (by decide) (br_f (by decide) (br_f (by decide) (br_f (by decide) (br_f (by decide) (br_f (by decide) (br_t rfl ?_)))))))))
    rw [p3]
    exact rX _ h
  · intro post h
    rw [m3, B3]
    exact hY _ h
/-- the cell at the byte that was read is read -/
theorem mp_rdn {l z st' : Int32} (hd : qa_B da) (h1 : st &&& 15 = 8) (h2 : st >>> ((4 : Int32) &&& 31) = st') (H : hr_Hw s t) (M : hr_cm l z s t) (N : hr_cn c e) : ∃ (s4 t4 c4 e4 : Nat → Int32) (rn' cn' r : Int32), hr_Hw s4 t4 ∧ hr_cm l z s4 t4 ∧ hr_ct c e c4 e4 1 ∧ qa_ag hr_RG s s4 ∧ qa_B r ∧ st_X (sa, dg, st, da, rn, cn, s, sv, iv, c) (sa, dg, st', r, rn', cn', s4, sv, iv, c4) ∧ (∀ post : Int32 → SY → Prop, post r (sb, t4, tv, jv, e4) → wpY_read post (sb, t, tv, jv, e) da) := by
  obtain ⟨n, hn, rfl⟩ := hd
  obtain ⟨s3, t3, c3, e3, rn', cn', r, R, rB, rX, hX, hY⟩ := pr_rdc (sa := sa) (dg := dg) (st := st) (da := nI n) (rn := rn) (cn := cn) (sv := sv) (iv := iv) (c := c) (sb := sb) (tv := tv) (jv := jv) (e := e) (n := n) st' H N hn
  refine ⟨s3, t3, c3, e3, rn', cn', r, R.1, hr_cmA M R.2.1 R.2.2.1, mi_ct R, qa_agW R.2.1 (by unfold hr_RG hr_FX; omega), rB, ⟨_, hX, ?_⟩, hY⟩
  intro Q h
  refine nm_r h1 (nm_r h2 (br_f (by decide) (br_f (by decide) (br_f (by decide) (br_f (by decide) (br_f (by decide) (br_f (by decide) (br_f (by decide) (br_f (by decide) (br_f (by decide) (br_t rfl ?_)))))))))))
  exact rX _ h
/-- a cycle of Y and a write in it, from states whose registers may differ for a while -/
theorem pr_wrc {n : Nat} {v st2 : Int32} (gX : (Nat → Int32) → (Nat → Int32)) (hg : ∀ a : Nat → Int32, qa_ag (fun i => i < 256 ∨ 266 ≤ i) a (gX a)) (H : hr_Hw s t) (N : hr_cn c e) (hn : n < 256) (hv : qa_B v) : ∃ (s3 s4 t4 c4 e4 : Nat → Int32) (rn' cn' : Int32), hr_Hw s4 t4 ∧ qa_ag hr_FX s s3 ∧ qa_ag hr_FX (gX s3) s4 ∧ qa_ag hr_FY t t4 ∧ hr_ct c e c4 e4 1 ∧ (∀ (post : Int32 → SX → Prop) (J : Int32 → Int32 → Int32 → Int32 → Int32 → Int32 → Int32 → (Nat → Int32) → (Nat → Int32) → (Nat → Int32) → (Nat → Int32) → Prop) (x1 x2 : Int32), wpX_processorTurn (ru_K J x2) (sa, dg, st, da, rn', cn', s3, sv, iv, c4) → wX_run_52 post J x1 x2 sa dg st da rn cn s sv iv c) ∧ (∀ post : SX → Prop, post (sa, dg, st2, da, rn', cn', s4, sv, iv, c4) → wpX_write post (sa, dg, st2, da, rn', cn', gX s3, sv, iv, c4) (nI n) v) ∧ (∀ post : SY → Prop, post (sb, t4, tv, jv, e4) → wpY_write post (sb, t, tv, jv, e) (nI n) v) := by
  obtain ⟨s3, t3, c3, e3, rn', cn', R, hX, hY⟩ := pr_cyc (sa := sa) (dg := dg) (st := st) (da := da) (rn := rn) (cn := cn) (sv := sv) (iv := iv) (c := c) (sb := sb) (tv := tv) (jv := jv) (e := e) H N
  have ct := mi_ct R
  obtain ⟨H3, x3, y3, r1, r2, q1, q2, n1, n2, n3, n4⟩ := R
  have H3' : hr_Hw (gX s3) t3 := hr_HwA H3 (hg s3) qa_ag0
  obtain ⟨s4, t4, H4, x4, y4, _, _, wX, wY⟩ := pr_write (sa := sa) (dg := dg)  (da := da) (rn := rn') (cn := cn') (sv := sv) (iv := iv) (c := c3) (sb := sb) (tv := tv) (jv := jv) (e := e3) (st := st2) (n := n) (v := v) H3' q1 q2 r1 r2 hn hv
  refine ⟨s3, s4, t4, c3, e3, rn', cn', H4, x3, x4, qa_agT y3 y4, ct, hX, wX, ?_⟩
  intro post h
  unfold wpY_write
  refine hY _ ?_
  exact wY _ h
end
