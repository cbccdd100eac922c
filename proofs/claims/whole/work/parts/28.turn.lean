/-! whole turns of the processor: both sides -/
theorem op_all (o : Nat) (ho : o < 64) : op_T o (if o = 3 then 1 else 0) := by
  by_cases k3 : o = 3
  · rw [if_pos k3, k3]; exact op_3
  · rw [if_neg k3]
    have oo : o = 0 ∨ o = 1 ∨ o = 2 ∨ o = 4 ∨ o = 5 ∨ o = 6 ∨ o = 7 ∨ o = 8 ∨ o = 9 ∨ o = 10 ∨ o = 11 ∨ o = 12 ∨ o = 13 ∨ o = 14 ∨ o = 15 ∨ o = 16 ∨ o = 17 ∨ o = 18 ∨ o = 19 ∨ o = 20 ∨ o = 21 ∨ o = 22 ∨ o = 23 ∨ o = 24 ∨ o = 25 ∨ o = 26 ∨ o = 27 ∨ o = 28 ∨ o = 29 ∨ o = 30 ∨ o = 31 ∨ o = 32 ∨ o = 33 ∨ o = 34 ∨ o = 35 ∨ o = 36 ∨ o = 37 ∨ o = 38 ∨ o = 39 ∨ o = 40 ∨ o = 41 ∨ o = 42 ∨ o = 43 ∨ o = 44 ∨ o = 45 ∨ o = 46 ∨ o = 47 ∨ o = 48 ∨ o = 49 ∨ o = 50 ∨ o = 51 ∨ o = 52 ∨ o = 53 ∨ o = 54 ∨ o = 55 ∨ o = 56 ∨ o = 57 ∨ o = 58 ∨ o = 59 ∨ o = 60 ∨ o = 61 ∨ o = 62 ∨ o = 63 := by omega
    rcases oo with rfl | rfl | rfl | rfl | rfl | rfl | rfl | rfl | rfl | rfl | rfl | rfl | rfl | rfl | rfl | rfl | rfl | rfl | rfl | rfl | rfl | rfl | rfl | rfl | rfl | rfl | rfl | rfl | rfl | rfl | rfl | rfl | rfl | rfl | rfl | rfl | rfl | rfl | rfl | rfl | rfl | rfl | rfl | rfl | rfl | rfl | rfl | rfl | rfl | rfl | rfl | rfl | rfl | rfl | rfl | rfl | rfl | rfl | rfl | rfl | rfl | rfl | rfl
    · exact op_0
    · exact op_1
    · exact op_2
    · exact op_4
    · exact op_5
    · exact op_6
    · exact op_7
    · exact op_8
    · exact op_9
    · exact op_10
    · exact op_11
    · exact op_12
    · exact op_13
    · exact op_14
    · exact op_15
    · exact op_16
    · exact op_17
    · exact op_18
    · exact op_19
    · exact op_20
    · exact op_21
    · exact op_22
    · exact op_23
    · exact op_24
    · exact op_25
    · exact op_26
    · exact op_27
    · exact op_28
    · exact op_29
    · exact op_30
    · exact op_31
    · exact op_32
    · exact op_33
    · exact op_34
    · exact op_35
    · exact op_36
    · exact op_37
    · exact op_38
    · exact op_39
    · exact op_40
    · exact op_41
    · exact op_42
    · exact op_43
    · exact op_44
    · exact op_45
    · exact op_46
    · exact op_47
    · exact op_48
    · exact op_49
    · exact op_50
    · exact op_51
    · exact op_52
    · exact op_53
    · exact op_54
    · exact op_55
    · exact op_56
    · exact op_57
    · exact op_58
    · exact op_59
    · exact op_60
    · exact op_61
    · exact op_62
    · exact op_63
section
variable {sa dg st da rn cn : Int32} {s sv iv c : Nat → Int32} {sb : Int32} {t tv jv e : Nat → Int32}
/-- the first byte of an instruction: what X and Y make of it -/
theorem tn_first (R0 : hr_Rl s t) (nw : ¬ s 265 = 1) (N : hr_cn c e) : ∃ (s4 t4 c4 e4 : Nat → Int32) (rn' cn' r : Int32) (o : Nat), o < 64 ∧ r &&& 63 = nI o ∧ hr_Hw s4 t4 ∧ (∀ z : Int32, hr_cm (s 264) z s4 (upd t4 264 z)) ∧ hr_ct c e c4 e4 1 ∧ (∀ stp : Int32, op_S o stp (sa, nI o, 0, da, rn', cn', s4, sv, iv, c4) → st_X (sa, 0, 1, da, rn, cn, s, sv, iv, c) (sa, nI o, stp, da, rn', cn', s4, sv, iv, c4)) ∧ (∀ post : Int32 → SY → Prop, post r (sb, t4, tv, jv, e4) → wpY_next post (sb, t, tv, jv, e)) := by
  obtain ⟨H, m1, m2, m3, m4, m5, m6, m7, m8, m9, B1, B2, B3, B4, ⟨n, hn, B5⟩, b1, b2, b3, b4, ht⟩ := R0
  obtain ⟨s3, t3, c3, e3, rn', cn', r, R, rB, rX, hX, hY⟩ := pr_rdc (sa := sa) (dg := 0) (st := 1) (da := da) (rn := rn) (cn := cn) (sv := sv) (iv := iv) (c := c) (sb := sb) (tv := tv) (jv := jv) (e := e) (n := n) 0 H N hn
  have ct := mi_ct R
  obtain ⟨H3, x3, y3, r1, r2, q1, q2, n1, n2, n3, n4⟩ := R
  have sx : ∀ i, 256 ≤ i ∧ i < 266 → s3 i = s i := fun i hi => x3 i (by unfold hr_FX; omega)
  have ty : ∀ i, 256 ≤ i ∧ i < 267 → t3 i = t i := fun i hi => y3 i (by unfold hr_FY; omega)
  obtain ⟨w, hw, rfl⟩ := rB
  have eo : nI w &&& 63 = nI (w % 64) := pk_andN (by omega) 6 (by decide)
  have p3 : s3 260 = nI n := (sx 260 (by omega)).trans B5
  have fin59 : ∀ (s4 : Nat → Int32) (Q : SX → Prop) (stp : Int32), op_S (w % 64) stp (sa, nI (w % 64), 0, da, rn', cn', s4, sv, iv, c3) → Q (sa, nI (w % 64), stp, da, rn', cn', s4, sv, iv, c3) → wX_readFirst_59 Q (nI w) sa 0 0 da rn' cn' s4 sv iv c3 := by
    intro s4 Q stp hS h
    refine nm_r eo ?_
    rcases hS with ⟨h16, hS⟩ | ⟨h16, hS⟩
    · refine br_t (nI_le (a := 16) h16 (by omega)) ?_
      exact hS _ h
    · refine br_f (nI_ge (b := 16) h16 (by omega)) ?_
      exact hS _ h
  rcases ht with ⟨h5, h6, h7⟩ | ⟨h5, h6, h7⟩ | ⟨h5, h6, h7, h8⟩
  · have z3 : t3 266 = 0 := (ty 266 (by omega)).trans h7
    refine ⟨upd s3 260 ((s3 260 + 1) &&& 255), upd (upd t3 260 ((t3 260 + 1) &&& 255)) 266 0, c3, e3, rn', cn', nI w, w % 64, by omega, eo, hr_HwX (hr_HwY (hr_HwY H3 (by omega)) (by omega)) (by omega) (by omega), ?_, ct, ?_, ?_⟩
    · intro z
      refine ⟨?_, ?_, ?_, ?_, ?_, ?_, ?_, ?_, ?_, ?_, ?_, ?_, qa_Bm _, ?_, ?_, ?_, sx 264 (by omega), rfl, (sx 265 (by omega)).trans h5, (ty 265 (by omega)).trans h6, rfl⟩
      · exact ((ty 256 (by omega)).trans m1).trans (sx 256 (by omega)).symm
      · exact ((ty 257 (by omega)).trans m2).trans (sx 257 (by omega)).symm
      · exact ((ty 258 (by omega)).trans m3).trans (sx 258 (by omega)).symm
      · exact ((ty 259 (by omega)).trans m4).trans (sx 259 (by omega)).symm
      · show (t3 260 + 1) &&& 255 = (s3 260 + 1) &&& 255
        rw [ty 260 (by omega), m5, ← sx 260 (by omega)]
      · exact ((ty 261 (by omega)).trans m6).trans (sx 261 (by omega)).symm
      · exact ((ty 262 (by omega)).trans m7).trans (sx 262 (by omega)).symm
      · exact ((ty 263 (by omega)).trans m8).trans (sx 263 (by omega)).symm
      · show qa_B (s3 256)
        rw [sx 256 (by omega)]; exact B1
      · show qa_B (s3 257)
        rw [sx 257 (by omega)]; exact B2
      · show qa_B (s3 258)
        rw [sx 258 (by omega)]; exact B3
      · show qa_B (s3 259)
        rw [sx 259 (by omega)]; exact B4
      · show qa_b (s3 261)
        rw [sx 261 (by omega)]; exact b1
      · show qa_b (s3 262)
        rw [sx 262 (by omega)]; exact b2
      · show qa_b (s3 263)
        rw [sx 263 (by omega)]; exact b3
    · intro stp hS
      refine ⟨_, hX, ?_⟩
      intro Q h
      refine nm_r (e' := 1) (by decide) (nm_r (e' := 0) (by decide) (br_f (by decide) (br_f (by decide) (br_t rfl ?_))))
      unfold wpX_readFirst
      dsimp only
      rw [p3]
      refine rX _ ?_
      refine br_f (by rw [sx 265 (by omega), h5]; decide) (nm_r (e' := upd s3 260 ((s3 260 + 1) &&& 255)) (by rw [p3]) ?_)
      exact fin59 _ _ stp hS h
    · intro post h
      unfold wpY_next
      dsimp only
      rw [m5, B5]
      refine hY _ ?_
      exact br_t z3 (nm_e (nm_e h))
  · exact absurd h5 nw
  · have z3 : ¬ t3 266 = 0 := by rw [ty 266 (by omega), h7]; decide
    refine ⟨upd s3 265 0, upd t3 266 0, c3, e3, rn', cn', nI w, w % 64, by omega, eo, hr_HwX (hr_HwY H3 (by omega)) (by omega) (by omega), ?_, ct, ?_, ?_⟩
    · intro z
      refine ⟨?_, ?_, ?_, ?_, ?_, ?_, ?_, ?_, ?_, ?_, ?_, ?_, ?_, ?_, ?_, ?_, sx 264 (by omega), rfl, rfl, (ty 265 (by omega)).trans h6, rfl⟩
      · exact ((ty 256 (by omega)).trans m1).trans (sx 256 (by omega)).symm
      · exact ((ty 257 (by omega)).trans m2).trans (sx 257 (by omega)).symm
      · exact ((ty 258 (by omega)).trans m3).trans (sx 258 (by omega)).symm
      · exact ((ty 259 (by omega)).trans m4).trans (sx 259 (by omega)).symm
      · exact ((ty 260 (by omega)).trans m5).trans (sx 260 (by omega)).symm
      · exact ((ty 261 (by omega)).trans m6).trans (sx 261 (by omega)).symm
      · exact ((ty 262 (by omega)).trans m7).trans (sx 262 (by omega)).symm
      · exact ((ty 263 (by omega)).trans m8).trans (sx 263 (by omega)).symm
      · show qa_B (s3 256)
        rw [sx 256 (by omega)]; exact B1
      · show qa_B (s3 257)
        rw [sx 257 (by omega)]; exact B2
      · show qa_B (s3 258)
        rw [sx 258 (by omega)]; exact B3
      · show qa_B (s3 259)
        rw [sx 259 (by omega)]; exact B4
      · show qa_B (s3 260)
        exact ⟨n, hn, p3⟩
      · show qa_b (s3 261)
        rw [sx 261 (by omega)]; exact b1
      · show qa_b (s3 262)
        rw [sx 262 (by omega)]; exact b2
      · show qa_b (s3 263)
        rw [sx 263 (by omega)]; exact b3
    · intro stp hS
      refine ⟨_, hX, ?_⟩
      intro Q h
      refine nm_r (e' := 1) (by decide) (nm_r (e' := 0) (by decide) (br_f (by decide) (br_f (by decide) (br_t rfl ?_))))
      unfold wpX_readFirst
      dsimp only
      rw [p3]
      refine rX _ ?_
      refine br_t ((sx 265 (by omega)).trans h5) (nm_e ?_)
      exact fin59 _ _ stp hS h
    · intro post h
      unfold wpY_next
      dsimp only
      rw [m5, B5]
      refine hY _ ?_
      exact br_f z3 (nm_e h)
/-- an instruction -/
theorem tn_ins {x1 : Int32} {p : Nat} (hp : p + 6 < 2010) (R0 : hr_Rl s t) (nw : ¬ s 265 = 1) (N : hr_cn c e) : ∃ (k : Nat) (s' t' c' e' : Nat → Int32) (dg' da' rn' cn' : Int32), k ≤ 3 ∧ ru_52 x1 p k (sa, 0, 1, da, rn, cn, s, sv, iv, c) (sa, dg', 0, da', rn', cn', s', sv, iv, c') ∧ hr_Rl s' t' ∧ hr_cn c' e' ∧ c' 0 = c 0 ∧ c' 1 = c 1 + 1 ∧ c' 2 = c 2 ∧ c' 3 = c 3 ∧ e' 0 = e 0 + nI (k + 1) ∧ e' 1 = e 1 + 1 ∧ e' 2 = e 2 ∧ e' 3 = e 3 ∧ (∀ post : SY → Prop, post (sb, t', tv, jv, e') → wpY_instruction post (sb, t, tv, jv, e)) := by
  have lb : qa_b (s 264) := R0.2.2.2.2.2.2.2.2.2.2.2.2.2.2.2.2.2.2.1
  have l9 : t 264 = s 264 := R0.2.2.2.2.2.2.2.2.2.1
  obtain ⟨s4, t4, c4, e4, rn', cn', r, o, ho, er, H4, M4, ct, SX4, Y4⟩ := tn_first (sa := sa)   (da := da) (rn := rn) (cn := cn) (sv := sv) (iv := iv) (c := c) (sb := sb) (tv := tv) (jv := jv) (e := e) R0 nw N
  have N5 : hr_cn c4 (upd e4 1 (e4 1 + 1)) := ct.2.2.2
  obtain ⟨stp, k, s', t', c', e', t6, da', rn6, cn6, oS, oR, oD, k3, oY, o105⟩ := op_all o ho x1 (s 264) sa da rn' cn' sb p s4 sv iv c4 (upd t4 264 (if o = 3 then 1 else 0)) tv jv (upd e4 1 (e4 1 + 1)) (by omega) lb (hr_HwY H4 (by omega)) (M4 _) N5
  obtain ⟨RR, d1, d2, d3, d4, d5, d6, d7, d8, d9⟩ := oD
  obtain ⟨ca, ea, e0, _⟩ := ct
  refine ⟨k, s', t', c', e', nI o, da', rn6, cn6, k3, ?_, RR, d1, ?_, ?_, ?_, ?_, ?_, ?_, ?_, ?_, ?_⟩
  · rcases oR with ⟨z1, z2, hE⟩ | ⟨z1, j, z2, hR⟩
    · subst z1
      subst z2
      exact st_last (SX4 0 oS) hE
    · subst z2
      exact st_cons (by omega) (SX4 stp oS) z1 hR
  · rw [d2]; exact ca 0 (by unfold hr_C4; omega)
  · rw [d3, ca 1 (by unfold hr_C4; omega)]
  · rw [d4]; exact ca 2 (by unfold hr_C4; omega)
  · rw [d5]; exact ca 3 (by unfold hr_C4; omega)
  · rw [d6, pk_un (by omega), e0, Int32.add_assoc, nI_add, show 1 + k = k + 1 by omega]
  · rw [d7, pk_us, ea 1 (by unfold hr_E3; omega)]
  · rw [d8, pk_un (by omega)]; exact ea 2 (by unfold hr_E3; omega)
  · rw [d9, pk_un (by omega)]; exact ea 3 (by unfold hr_E3; omega)
  · intro post h
    have i4 : vp_in (264 : Int32) 512 := vp_in_nI (n := 264) (by omega) (by omega)
    have c4' : (264 : Int32).toNatClampNeg = 264 := nI_clamp (n := 264) (by omega)
    have G45 : ∀ z : Int32, z = (if o = 3 then 1 else 0) → wY_instruction_45 post (s 264) (nI o) z 264 sb t4 tv jv e4 := by
      intro z hz
      refine ⟨i4, nm_r (qa_up _ _ c4') (nm_e ?_)⟩
      rw [hz]
      rcases oY with ⟨h16, g⟩ | ⟨h16, h28, g⟩ | ⟨h28, g⟩
      · refine br_f (nI_ge (b := 16) h16 (by omega)) ?_
        exact g _ (o105 _ h)
      · refine br_t (nI_le (a := 16) h16 (by omega)) (br_f (nI_ge (b := 28) h28 (by omega)) ⟨by decide, ?_⟩)
        exact g _ (o105 _ h)
      · refine br_t (nI_le (a := 16) (by omega) (by omega)) (br_t (nI_le (a := 28) h28 (by omega)) ⟨by decide, ?_⟩)
        exact g _ (o105 _ h)
    have G17 : wY_instruction_17 post (s 264) sb t tv jv e := by
      unfold wY_instruction_17
      refine Y4 _ ?_
      refine nm_r er ⟨fun z => G45 1 ?_, fun z => G45 0 ?_⟩
      · rw [if_pos (qa_eqN (b := 3) z (by omega) (by omega))]
      · rw [if_neg (fun q => z (by rw [q]; rfl))]
    rcases lb with q | q
    · rw [q] at G17
      exact br_f (by rw [l9, q]; decide) G17
    · rw [q] at G17
      exact br_t (l9.trans q) G17
/-- a cycle of waiting -/
theorem tn_wait {x1 : Int32} {p : Nat} (R0 : hr_Rl s t) (w : s 265 = 1) (N : hr_cn c e) : ∃ (s' t' c' e' : Nat → Int32) (rn' cn' : Int32), ru_52 x1 p 0 (sa, 65, 3, da, rn, cn, s, sv, iv, c) (sa, 65, 0, da, rn', cn', s', sv, iv, c') ∧ hr_Rl s' t' ∧ hr_ct c e c' e' 1 ∧ (∀ post : SY → Prop, post (sb, t', tv, jv, e') → wpY_cycle (fun u => match u with | (a1, a2, a3, a4, a5) => wpY_pending (fun r => (r = 0 → post (a1, a2, a3, a4, a5)) ∧ (¬ r = 0 → ∀ b, b = upd a2 265 0 → post (a1, b, a3, a4, a5))) (a1, a2, a3, a4, a5)) (sb, t, tv, jv, e)) := by
  obtain ⟨H, cpu⟩ := R0
  obtain ⟨s3, t3, c3, e3, rn', cn', R, hX, hY⟩ := pr_cyc (sa := sa) (dg := 65) (st := 3) (da := da) (rn := rn) (cn := cn) (sv := sv) (iv := iv) (c := c) (sb := sb) (tv := tv) (jv := jv) (e := e) H N
  have ct := mi_ct R
  obtain ⟨H3, x3, y3, r1, r2, q1, q2, n1, n2, n3, n4⟩ := R
  have cpu3 := hr_cpuA cpu x3 y3
  have w3 : s3 265 = 1 := (x3 265 (by unfold hr_FX; omega)).trans w
  have hS : st_X (sa, 65, 3, da, rn, cn, s, sv, iv, c) (sa, 65, 0, da, rn', cn', s3, sv, iv, c3) := ⟨_, hX, fun Q h => nm_r (e' := 3) (by decide) (nm_r (e' := 0) (by decide) (br_f (by decide) (br_f (by decide) (br_f (by decide) (br_f (by decide) (br_t rfl h))))))⟩
  have ep : (t3 245 &&& t3 246) &&& 31 = (s3 245 &&& s3 246) &&& 31 := by rw [(H3.1 245 (by omega)).1, (H3.1 246 (by omega)).1]
  by_cases k : (s3 245 &&& s3 246) &&& 31 = 0
  · refine ⟨s3, t3, c3, e3, rn', cn', st_last hS ?_, ⟨H3, cpu3⟩, ct, ?_⟩
    · intro Q h
      refine br_t rfl ?_
      unfold wpX_pending
      exact br_t k h
    · intro post h
      refine hY _ ?_
      show wpY_pending _ _
      unfold wpY_pending
      exact br_t (ep.trans k) h
  · have k' : ¬ (t3 245 &&& t3 246) &&& 31 = 0 := by rw [ep]; exact k
    refine ⟨upd s3 265 0, upd t3 265 0, c3, e3, rn', cn', st_last hS ?_, ⟨hr_HwX (hr_HwY H3 (by omega)) (by omega) (by omega), ?_⟩, ct, ?_⟩
    · intro Q h
      refine br_t rfl ?_
      unfold wpX_pending
      exact br_f k (nm_e h)
    · obtain ⟨m1, m2, m3, m4, m5, m6, m7, m8, m9, B1, B2, B3, B4, B5, b1, b2, b3, b4, ht⟩ := cpu3
      refine ⟨m1, m2, m3, m4, m5, m6, m7, m8, m9, B1, B2, B3, B4, B5, b1, b2, b3, b4, Or.inl ⟨rfl, rfl, ?_⟩⟩
      rcases ht with h | h | h
      · exact h.2.2
      · exact h.2.2
      · exact absurd (h.1.symm.trans w3) (by decide)
    · intro post h
      refine hY _ ?_
      show wpY_pending _ _
      unfold wpY_pending
      exact br_f k' (nm_e h)
end
