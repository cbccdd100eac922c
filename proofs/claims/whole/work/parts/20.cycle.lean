/-! a whole cycle: both sides -/
def ru_K (J : Int32 → Int32 → Int32 → Int32 → Int32 → Int32 → Int32 → (Nat → Int32) → (Nat → Int32) → (Nat → Int32) → (Nat → Int32) → Prop) (x2 : Int32) (u : SX) : Prop := match u with
  | (a1, a2, a3, a4, a5, a6, a7, a8, a9, a10) => ∀ y, y = x2 + 1 → ((a3 = 0 → wpX_endThis (fun u => match u with | (b1, b2, b3, b4, b5, b6, b7, b8, b9, b10) => J y b1 b2 b3 b4 b5 b6 b7 b8 b9 b10) (a1, a2, a3, a4, a5, a6, a7, a8, a9, a10)) ∧ (¬ a3 = 0 → J y a1 a2 a3 a4 a5 a6 a7 a8 a9 a10))
def ru_L (post : Int32 → SX → Prop) (x1 : Int32) (m : Nat) (x2 : Int32) (u : SX) : Prop := match u with
  | (a1, a2, a3, a4, a5, a6, a7, a8, a9, a10) => wX_run_15 post x1 m x2 a1 a2 a3 a4 a5 a6 a7 a8 a9 a10
def ru_A (post : Int32 → SX → Prop) (J : Int32 → Int32 → Int32 → Int32 → Int32 → Int32 → Int32 → (Nat → Int32) → (Nat → Int32) → (Nat → Int32) → (Nat → Int32) → Prop) (x1 x2 : Int32) (u : SX) : Prop := match u with
  | (a1, a2, a3, a4, a5, a6, a7, a8, a9, a10) => wX_run_52 post J x1 x2 a1 a2 a3 a4 a5 a6 a7 a8 a9 a10
/-- X goes from u, within a turn of its loop at p, to the head of its loop at p + k + 1 with u' -/
def ru_52 (x1 : Int32) (p k : Nat) (u u' : SX) : Prop := ∀ (post : Int32 → SX → Prop) (m : Nat), ru_L post x1 m (nI (p + k + 1)) u' → ru_A post (wX_run_15 post x1 (m + k)) x1 (nI p) u
def hr_E3 (i : Nat) : Prop := 1 ≤ i ∧ i < 4
/-- what a cycle gives -/
def cy_R (s t c e s3 t3 c3 e3 : Nat → Int32) (rn' cn' : Int32) : Prop := hr_Hw s3 t3 ∧ qa_ag hr_FX s s3 ∧ qa_ag hr_FY t t3 ∧ t3 269 = rn' ∧ qa_b rn' ∧ t3 274 = cn' ∧ qa_b cn' ∧ hr_cn c3 e3 ∧ qa_ag hr_C4 c c3 ∧ qa_ag hr_E3 e e3 ∧ e3 0 = e 0 + 1
section
variable {sa dg st da rn cn : Int32} {s sv iv c : Nat → Int32} {sb : Int32} {t tv jv e : Nat → Int32}
theorem pr_cyc (H : hr_Hw s t) (N : hr_cn c e) : ∃ (s3 t3 c3 e3 : Nat → Int32) (rn' cn' : Int32), cy_R s t c e s3 t3 c3 e3 rn' cn' ∧ (∀ (post : Int32 → SX → Prop) (J : Int32 → Int32 → Int32 → Int32 → Int32 → Int32 → Int32 → (Nat → Int32) → (Nat → Int32) → (Nat → Int32) → (Nat → Int32) → Prop) (x1 x2 : Int32), wpX_processorTurn (ru_K J x2) (sa, dg, st, da, rn', cn', s3, sv, iv, c3) → wX_run_52 post J x1 x2 sa dg st da rn cn s sv iv c) ∧ (∀ post : SY → Prop, post (sb, t3, tv, jv, e3) → wpY_cycle post (sb, t, tv, jv, e)) := by
  have N0 : hr_cn c (upd e 0 (e 0 + 1)) := N
  obtain ⟨s1, t1, rn', H1, x1, y1, r1, r2, hX1, hY1⟩ := pr_timer (sa := sa) (dg := dg) (st := st) (da := da) (rn := rn) (cn := cn) (sv := sv) (iv := iv) (c := c) (sb := sb) (tv := tv) (jv := jv) (e := upd e 0 (e 0 + 1)) H
  obtain ⟨s2, t2, cn', c2, e2, H2, x2, y2, r3, q1, q2, n1, n2, n3, hX2, hY2⟩ := pr_copying (sa := sa) (dg := dg) (st := st) (da := da) (rn := rn') (cn := cn) (sv := sv) (iv := iv) (c := c) (sb := sb) (tv := tv) (jv := jv) (e := upd e 0 (e 0 + 1)) H1 N0
  obtain ⟨s3, t3, c3, e3, H3, x3, y3, r4, q3, n4, n5, n6, hX3, hY3⟩ := pr_video (sa := sa) (dg := dg) (st := st) (da := da) (rn := rn') (cn := cn') (sv := sv) (iv := iv) (c := c2) (sb := sb) (tv := tv) (jv := jv) (e := e2) H2 n1 q1 q2
  refine ⟨s3, t3, c3, e3, rn', cn', ⟨H3, qa_agT (qa_agT x1 x2) x3, qa_agT (qa_agT y1 y2) y3, r4.trans (r3.trans r1), r2, q3, q2, n4, qa_agT n2 n5, ?_, ?_⟩, ?_, ?_⟩
  · intro i hi
    unfold hr_E3 at hi
    rw [n6 i (by unfold hr_C4; omega), n3 i (by unfold hr_C4; omega), pk_un (by omega)]
  · rw [n6 0 (by unfold hr_C4; omega), n3 0 (by unfold hr_C4; omega), pk_us]
  · intro post J x1 x2 h
    unfold wX_run_52
    refine hX1 _ ?_
    refine hX2 _ ?_
    refine hX3 _ ?_
    exact h
  · intro post h
    refine nm_e ?_
    refine hY1 _ ?_
    refine hY2 _ ?_
    exact hY3 _ h
/-- a cycle, and a read in it; st2: X's steps as the read finds them -/
theorem pr_rdc {n : Nat} (st2 : Int32) (H : hr_Hw s t) (N : hr_cn c e) (hn : n < 256) : ∃ (s3 t3 c3 e3 : Nat → Int32) (rn' cn' r : Int32), cy_R s t c e s3 t3 c3 e3 rn' cn' ∧ qa_B r ∧ (∀ post : Int32 → Prop, post r → wpX_read post (sa, dg, st2, da, rn', cn', s3, sv, iv, c3) (nI n)) ∧ (∀ (post : Int32 → SX → Prop) (J : Int32 → Int32 → Int32 → Int32 → Int32 → Int32 → Int32 → (Nat → Int32) → (Nat → Int32) → (Nat → Int32) → (Nat → Int32) → Prop) (x1 x2 : Int32), wpX_processorTurn (ru_K J x2) (sa, dg, st, da, rn', cn', s3, sv, iv, c3) → wX_run_52 post J x1 x2 sa dg st da rn cn s sv iv c) ∧ (∀ post : Int32 → SY → Prop, post r (sb, t3, tv, jv, e3) → wpY_read post (sb, t, tv, jv, e) (nI n)) := by
  obtain ⟨s3, t3, c3, e3, rn', cn', R, hX, hY⟩ := pr_cyc (sa := sa) (dg := dg) (st := st) (da := da) (rn := rn) (cn := cn) (sv := sv) (iv := iv) (c := c) (sb := sb) (tv := tv) (jv := jv) (e := e) H N
  obtain ⟨H3, x3, y3, r1, r2, q1, q2, n1, n2, n3, n4⟩ := R
  obtain ⟨r, rB, rX, q, qY, rY⟩ := pr_read (sa := sa) (dg := dg) (st := st2) (da := da) (rn := rn') (cn := cn') (sv := sv) (iv := iv) (c := c3) (sb := sb) (tv := tv) (jv := jv) (e := e3) (n := n) H3 q1 q2 hn
  refine ⟨s3, t3, c3, e3, rn', cn', r, ⟨H3, x3, y3, r1, r2, q1, q2, n1, n2, n3, n4⟩, rB, rX, hX, ?_⟩
  intro post h
  unfold wpY_read
  refine hY _ ?_
  refine qY _ ?_
  rcases rY with ⟨z, g⟩ | ⟨z, g⟩
  · refine br_t z ?_
    exact g _ h
  · refine br_f z ?_
    rw [g] at h
    exact h
/-- the last cycle of what X does -/
theorem ru_last {x1 : Int32} {p : Nat} {dg4 da4 dg5 st5 da5 rn' cn' rn5 cn5 : Int32} {s3 c3 s4 s5 c5 : Nat → Int32} (hX : ∀ (post : Int32 → SX → Prop) (J : Int32 → Int32 → Int32 → Int32 → Int32 → Int32 → Int32 → (Nat → Int32) → (Nat → Int32) → (Nat → Int32) → (Nat → Int32) → Prop) (x1 x2 : Int32), wpX_processorTurn (ru_K J x2) (sa, dg, st, da, rn', cn', s3, sv, iv, c3) → wX_run_52 post J x1 x2 sa dg st da rn cn s sv iv c) (hP : ∀ Q : SX → Prop, Q (sa, dg4, 0, da4, rn', cn', s4, sv, iv, c3) → wpX_processorTurn Q (sa, dg, st, da, rn', cn', s3, sv, iv, c3)) (hE : ∀ Q : SX → Prop, Q (sa, dg5, st5, da5, rn5, cn5, s5, sv, iv, c5) → wpX_endThis Q (sa, dg4, 0, da4, rn', cn', s4, sv, iv, c3)) : ru_52 x1 p 0 (sa, dg, st, da, rn, cn, s, sv, iv, c) (sa, dg5, st5, da5, rn5, cn5, s5, sv, iv, c5) := by
  intro post m h
  refine hX post _ x1 _ (hP _ ?_)
  refine nm_r (nI_1 p) (br_t rfl ?_)
  exact hE _ h
/-- a cycle of what X does, and more behind it -/
theorem ru_cons {x1 : Int32} {p k : Nat} {dg4 st4 da4 rn' cn' : Int32} {s3 c3 s4 : Nat → Int32} {u' : SX} (hp : p + 1 < 2010) (hX : ∀ (post : Int32 → SX → Prop) (J : Int32 → Int32 → Int32 → Int32 → Int32 → Int32 → Int32 → (Nat → Int32) → (Nat → Int32) → (Nat → Int32) → (Nat → Int32) → Prop) (x1 x2 : Int32), wpX_processorTurn (ru_K J x2) (sa, dg, st, da, rn', cn', s3, sv, iv, c3) → wX_run_52 post J x1 x2 sa dg st da rn cn s sv iv c) (hP : ∀ Q : SX → Prop, Q (sa, dg4, st4, da4, rn', cn', s4, sv, iv, c3) → wpX_processorTurn Q (sa, dg, st, da, rn', cn', s3, sv, iv, c3)) (h4 : ¬ st4 = 0) (hR : ru_52 x1 (p + 1) k (sa, dg4, st4, da4, rn', cn', s4, sv, iv, c3) u') : ru_52 x1 p (k + 1) (sa, dg, st, da, rn, cn, s, sv, iv, c) u' := by
  intro post m h
  refine hX post _ x1 _ (hP _ ?_)
  refine nm_r (nI_1 p) (br_f h4 ?_)
  have h' : ru_L post x1 m (nI (p + 1 + k + 1)) u' := by
    rw [show p + 1 + k + 1 = p + (k + 1) + 1 by omega]
    exact h
  refine br_f (nI_ge (b := 2010) (by omega) (by omega)) (br_f h4 ?_)
  exact hR post m h'
end
