/-! HALT, DI, EI, RETI: both sides -/
section
variable {sa dg st da rn cn : Int32} {s sv iv c : Nat → Int32} {sb : Int32} {t tv jv e : Nat → Int32}
/-- the end of an instruction, as X goes into it -/
theorem mx_endI {Q : SX → Prop} {o l : Int32} (o64 : ¬ o = 64) (o65 : ¬ o = 65) (hl : s 264 = l) (h0 : l = 0 → wX_endInstruction_40 (fun u => match u with | (a1, a2, a3, a4, a5, a6, a7, a8, a9, a10) => Q (a1, a2, a3, a4, a5, a6, a7, a8, a9, a10)) sa o 0 da rn cn s sv iv (upd c 1 (c 1 + 1))) (h1 : l = 1 → wX_endInstruction_40 (fun u => match u with | (a1, a2, a3, a4, a5, a6, a7, a8, a9, a10) => Q (a1, a2, a3, a4, a5, a6, a7, a8, a9, a10)) sa o 0 da rn cn (upd (upd s 264 0) 263 1) sv iv (upd c 1 (c 1 + 1))) (hlb : qa_b l) : wpX_endThis Q (sa, o, 0, da, rn, cn, s, sv, iv, c) := by
  refine br_f o65 (br_f o64 ?_)
  rcases hlb with rfl | rfl
  · exact nm_e (br_f (by rw [hl]; decide) (h0 rfl))
  · exact nm_e (br_t hl (nm_e (nm_e (h1 rfl))))
theorem mx_halt {Q : SX → Prop} (h : ((s 245 &&& s 246) &&& 31 = 0 → Q (sa, nI 1, st, da, rn, cn, upd s 265 1, sv, iv, c)) ∧ (¬ (s 245 &&& s 246) &&& 31 = 0 → ((s 263 = 0 → Q (sa, nI 1, st, da, rn, cn, upd s 265 2, sv, iv, c)) ∧ (¬ s 263 = 0 → Q (sa, nI 1, st, da, rn, cn, s, sv, iv, c))))) : wX_endInstruction_40 (fun u => match u with | (a1, a2, a3, a4, a5, a6, a7, a8, a9, a10) => Q (a1, a2, a3, a4, a5, a6, a7, a8, a9, a10)) sa (nI 1) st da rn cn s sv iv c := by
  refine br_f (by decide) (br_f (by decide) (br_f (by decide) (br_t rfl ?_)))
  unfold wpX_halt wpX_pending
  exact ⟨fun k => nm_e (h.1 k), fun k => ⟨fun k2 => nm_e ((h.2 k).1 k2), fun k2 => (h.2 k).2 k2⟩⟩
end
theorem op_2 : op_T 2 0 := by
  intro x1 l sa da rn cn sb p s sv iv c t tv jv e hp hlb H M N
  obtain ⟨m1, m2, m3, m4, m5, m6, m7, m8, B1, B2, B3, B4, B5, b1, b2, b3, g1, g2, g3, g4, g5⟩ := M
  have H0 : ∀ a b : Nat → Int32, qa_ag (fun i => i < 256 ∨ 266 ≤ i) s a → qa_ag (fun i => i < 256 ∨ (267 ≤ i ∧ i ≠ 269 ∧ i ≠ 274)) t b → hr_Hw a b := fun a b h1 h2 => hr_HwA H h1 h2
  have S : op_S 2 0 (sa, nI 2, 0, da, rn, cn, s, sv, iv, c) := Or.inr ⟨by omega, fun post h => br_t (by decide) h⟩
  have Y : op_Y 2 (sb, t, tv, jv, e) (sb, upd t 263 0, tv, jv, e) := Or.inl ⟨by omega, fun Q h => br_f (by decide) (br_t (by decide) (br_f (by decide) (br_f (by decide) (br_t rfl (nm_e h)))))⟩
  rcases hlb with rfl | rfl
  · refine ⟨0, 0, upd s 263 0, upd t 263 0, upd c 1 (c 1 + 1), e, upd t 263 0, da, rn, cn, S, Or.inl ⟨rfl, rfl, ?_⟩, op_Dof ⟨H0 _ _ (qa_agU qa_ag0 (by omega)) (qa_agU qa_ag0 (by omega)), m1, m2, m3, m4, m5, m6, m7, rfl, g2.trans g1.symm, B1, B2, B3, B4, B5, b1, b2, Or.inl rfl, Or.inl g1, Or.inl ⟨g3, g4, g5⟩⟩ (hr_ct0 N), by omega, Y, fun post h => br_t rfl (br_f (by decide) h)⟩
    intro Q h
    exact mx_endI (by decide) (by decide) g1 (fun _ => br_f (by decide) (br_f (by decide) (br_f (by decide) (br_f (by decide) (br_t rfl (nm_e h)))))) (fun z => absurd z (by decide)) (Or.inl rfl)
  · refine ⟨0, 0, upd (upd (upd s 264 0) 263 1) 263 0, upd t 263 0, upd c 1 (c 1 + 1), e, upd t 263 0, da, rn, cn, S, Or.inl ⟨rfl, rfl, ?_⟩, op_Dof ⟨H0 _ _ (qa_agU (qa_agU (qa_agU qa_ag0 (by omega)) (by omega)) (by omega)) (qa_agU qa_ag0 (by omega)), m1, m2, m3, m4, m5, m6, m7, rfl, g2, B1, B2, B3, B4, B5, b1, b2, Or.inl rfl, Or.inl rfl, Or.inl ⟨g3, g4, g5⟩⟩ (hr_ct0 N), by omega, Y, fun post h => br_f (by decide) (br_t rfl (br_f (by decide) h))⟩
    intro Q h
    exact mx_endI (by decide) (by decide) g1 (fun z => absurd z (by decide)) (fun _ => br_f (by decide) (br_f (by decide) (br_f (by decide) (br_f (by decide) (br_t rfl (nm_e h)))))) (Or.inr rfl)
theorem op_3 : op_T 3 1 := by
  intro x1 l sa da rn cn sb p s sv iv c t tv jv e hp hlb H M N
  obtain ⟨m1, m2, m3, m4, m5, m6, m7, m8, B1, B2, B3, B4, B5, b1, b2, b3, g1, g2, g3, g4, g5⟩ := M
  have H0 : ∀ a b : Nat → Int32, qa_ag (fun i => i < 256 ∨ 266 ≤ i) s a → qa_ag (fun i => i < 256 ∨ (267 ≤ i ∧ i ≠ 269 ∧ i ≠ 274)) t b → hr_Hw a b := fun a b h1 h2 => hr_HwA H h1 h2
  have S : op_S 3 0 (sa, nI 3, 0, da, rn, cn, s, sv, iv, c) := Or.inr ⟨by omega, fun post h => br_t (by decide) h⟩
  have Y : op_Y 3 (sb, t, tv, jv, e) (sb, t, tv, jv, e) := Or.inl ⟨by omega, fun Q h => br_f (by decide) (br_t (by decide) (br_f (by decide) (br_f (by decide) (br_f (by decide) (br_t rfl h)))))⟩
  rcases hlb with rfl | rfl
  · refine ⟨0, 0, upd s 264 1, t, upd c 1 (c 1 + 1), e, t, da, rn, cn, S, Or.inl ⟨rfl, rfl, ?_⟩, op_Dof ⟨H0 _ _ (qa_agU qa_ag0 (by omega)) qa_ag0, m1, m2, m3, m4, m5, m6, m7, m8, g2, B1, B2, B3, B4, B5, b1, b2, b3, Or.inr rfl, Or.inl ⟨g3, g4, g5⟩⟩ (hr_ct0 N), by omega, Y, fun post h => br_t rfl (br_f (by decide) h)⟩
    intro Q h
    exact mx_endI (by decide) (by decide) g1 (fun _ => br_f (by decide) (br_f (by decide) (br_f (by decide) (br_f (by decide) (br_f (by decide) (br_t rfl (nm_e h))))))) (fun z => absurd z (by decide)) (Or.inl rfl)
  · refine ⟨0, 0, upd (upd (upd s 264 0) 263 1) 264 1, upd t 263 1, upd c 1 (c 1 + 1), e, t, da, rn, cn, S, Or.inl ⟨rfl, rfl, ?_⟩, op_Dof ⟨H0 _ _ (qa_agU (qa_agU (qa_agU qa_ag0 (by omega)) (by omega)) (by omega)) (qa_agU qa_ag0 (by omega)), m1, m2, m3, m4, m5, m6, m7, rfl, g2, B1, B2, B3, B4, B5, b1, b2, Or.inr rfl, Or.inr rfl, Or.inl ⟨g3, g4, g5⟩⟩ (hr_ct0 N), by omega, Y, fun post h => br_f (by decide) (br_f (by decide) (nm_e (br_f (by decide) h)))⟩
    intro Q h
    exact mx_endI (by decide) (by decide) g1 (fun z => absurd z (by decide)) (fun _ => br_f (by decide) (br_f (by decide) (br_f (by decide) (br_f (by decide) (br_f (by decide) (br_t rfl (nm_e h))))))) (Or.inr rfl)
theorem op_5 : op_T 5 0 := by
  intro x1 l sa da rn cn sb p s sv iv c t tv jv e hp hlb H M N
  obtain ⟨s1, t1, c1, e1, rn1, cn1, r1, H1, M1, ct1, f1, B1, X1, Y1⟩ := mp_pull (sa := sa) (dg := nI 5) (da := da) (rn := rn) (cn := cn) (sv := sv) (iv := iv) (sb := sb) (tv := tv) (jv := jv) (st := 52) (st' := 3)  (by decide) (by decide) H M N
  obtain ⟨s2, t2, c2, e2, rn2, cn2, H2, M2, ct2, f2, X2, Y2⟩ := mp_nop (sa := sa) (dg := nI 5) (da := r1) (rn := rn1) (cn := cn1) (sv := sv) (iv := iv) (sb := sb) (tv := tv) (jv := jv) (st := 3) (st' := 0)  (by decide) (by decide) H1 M1 ct1.2.2.2
  have g0 := M2
  obtain ⟨m1, m2, m3, m4, m5, m6, m7, m8, D1, D2, D3, D4, D5, b1, b2, b3, g1, g2, g3, g4, g5⟩ := g0
  have H0 : ∀ a b : Nat → Int32, qa_ag (fun i => i < 256 ∨ 266 ≤ i) s2 a → qa_ag (fun i => i < 256 ∨ (267 ≤ i ∧ i ≠ 269 ∧ i ≠ 274)) t2 b → hr_Hw a b := fun a b h1 h2 => hr_HwA H2 h1 h2
  have S : op_S 5 52 (sa, nI 5, 0, da, rn, cn, s, sv, iv, c) := Or.inr ⟨by omega, fun post h => br_f (by decide) (br_f (by decide) (br_f (by decide) (br_t rfl h)))⟩
  have Y : op_Y 5 (sb, t, tv, jv, e) (sb, upd (upd t2 260 r1) 263 1, tv, jv, e2) := by
    refine Or.inl ⟨by omega, fun Q h => br_f (by decide) (br_t (by decide) (br_f (by decide) (br_f (by decide) (br_f (by decide) (br_f (by decide) (br_f (by decide) (br_t rfl ?_)))))))⟩
    unfold wY_simple_104
    refine Y1 _ ?_
    refine Y2 _ ?_
    exact nm_e (br_t rfl (nm_e h))
  rcases hlb with rfl | rfl
  · refine ⟨52, 2, upd (upd s2 260 r1) 263 1, upd (upd t2 260 r1) 263 1, upd c2 1 (c2 1 + 1), e2, upd (upd t2 260 r1) 263 1, r1, rn2, cn2, S, Or.inr ⟨by decide, 1, rfl, st_cons (by omega) X1 (by decide) (st_last X2 ?_)⟩, op_Dof ⟨H0 _ _ (qa_agU (qa_agU qa_ag0 (by omega)) (by omega)) (qa_agU (qa_agU qa_ag0 (by omega)) (by omega)), m1, m2, m3, m4, rfl, m6, m7, rfl, g2.trans g1.symm, D1, D2, D3, D4, B1, b1, b2, Or.inr rfl, Or.inl g1, Or.inl ⟨g3, g4, g5⟩⟩ (hr_ctT ct1 ct2), by omega, Y, fun post h => br_t rfl (br_f (by decide) h)⟩
    intro Q h
    exact mx_endI (by decide) (by decide) g1 (fun _ => br_f (by decide) (br_f (by decide) (br_f (by decide) (br_f (by decide) (br_f (by decide) (br_f (by decide) (br_f (by decide) (br_t rfl (nm_e (nm_e h)))))))))) (fun z => absurd z (by decide)) (Or.inl rfl)
  · refine ⟨52, 2, upd (upd (upd (upd s2 264 0) 263 1) 260 r1) 263 1, upd (upd (upd t2 260 r1) 263 1) 263 1, upd c2 1 (c2 1 + 1), e2, upd (upd t2 260 r1) 263 1, r1, rn2, cn2, S, Or.inr ⟨by decide, 1, rfl, st_cons (by omega) X1 (by decide) (st_last X2 ?_)⟩, op_Dof ⟨H0 _ _ (qa_agU (qa_agU (qa_agU (qa_agU qa_ag0 (by omega)) (by omega)) (by omega)) (by omega)) (qa_agU (qa_agU (qa_agU qa_ag0 (by omega)) (by omega)) (by omega)), m1, m2, m3, m4, rfl, m6, m7, rfl, g2, D1, D2, D3, D4, B1, b1, b2, Or.inr rfl, Or.inl rfl, Or.inl ⟨g3, g4, g5⟩⟩ (hr_ctT ct1 ct2), by omega, Y, fun post h => br_f (by decide) (br_f (by decide) (nm_e (br_f (by decide) h)))⟩
    intro Q h
    exact mx_endI (by decide) (by decide) g1 (fun z => absurd z (by decide)) (fun _ => br_f (by decide) (br_f (by decide) (br_f (by decide) (br_f (by decide) (br_f (by decide) (br_f (by decide) (br_f (by decide) (br_t rfl (nm_e (nm_e h)))))))))) (Or.inr rfl)
theorem op_1 : op_T 1 0 := by
  intro x1 l sa da rn cn sb p s sv iv c t tv jv e hp hlb H M N
  obtain ⟨m1, m2, m3, m4, m5, m6, m7, m8, B1, B2, B3, B4, B5, b1, b2, b3, g1, g2, g3, g4, g5⟩ := M
  have H0 : ∀ a b : Nat → Int32, qa_ag (fun i => i < 256 ∨ 266 ≤ i) s a → qa_ag (fun i => i < 256 ∨ (267 ≤ i ∧ i ≠ 269 ∧ i ≠ 274)) t b → hr_Hw a b := fun a b h1 h2 => hr_HwA H h1 h2
  have S : op_S 1 0 (sa, nI 1, 0, da, rn, cn, s, sv, iv, c) := Or.inr ⟨by omega, fun post h => br_t (by decide) h⟩
  have Y : op_Y 1 (sb, t, tv, jv, e) (sb, t, tv, jv, e) := Or.inl ⟨by omega, fun Q h => br_f (by decide) (br_t (by decide) (br_t (by decide) h))⟩
  have ep : (t 245 &&& t 246) &&& 31 = (s 245 &&& s 246) &&& 31 := by rw [(H.1 245 (by omega)).1, (H.1 246 (by omega)).1]
  rcases hlb with rfl | rfl
  · by_cases kp : (s 245 &&& s 246) &&& 31 = 0
    · refine ⟨0, 0, upd s 265 1, upd t 265 1, upd c 1 (c 1 + 1), e, t, da, rn, cn, S, Or.inl ⟨rfl, rfl, ?_⟩, op_Dof ⟨H0 _ _ (qa_agU qa_ag0 (by omega)) (qa_agU qa_ag0 (by omega)), m1, m2, m3, m4, m5, m6, m7, m8, g2.trans g1.symm, B1, B2, B3, B4, B5, b1, b2, b3, Or.inl g1, Or.inr (Or.inl ⟨rfl, rfl, g5⟩)⟩ (hr_ct0 N), by omega, Y, ?_⟩
      · intro Q h
        exact mx_endI (by decide) (by decide) g1 (fun _ => mx_halt (br_t kp h)) (fun z => absurd z (by decide)) (Or.inl rfl)
      · intro post h
        exact br_t rfl (br_t rfl (br_t (ep.trans kp) (nm_e h)))
    · have kp' : ¬ (t 245 &&& t 246) &&& 31 = 0 := by rw [ep]; exact kp
      by_cases ki : s 263 = 0
      · refine ⟨0, 0, upd s 265 2, upd t 266 1, upd c 1 (c 1 + 1), e, t, da, rn, cn, S, Or.inl ⟨rfl, rfl, ?_⟩, op_Dof ⟨H0 _ _ (qa_agU qa_ag0 (by omega)) (qa_agU qa_ag0 (by omega)), m1, m2, m3, m4, m5, m6, m7, m8, g2.trans g1.symm, B1, B2, B3, B4, B5, b1, b2, b3, Or.inl g1, Or.inr (Or.inr ⟨rfl, g4, rfl, ki⟩)⟩ (hr_ct0 N), by omega, Y, ?_⟩
        · intro Q h
          exact mx_endI (by decide) (by decide) g1 (fun _ => mx_halt (br_f kp (br_t ki h))) (fun z => absurd z (by decide)) (Or.inl rfl)
        · intro post h
          exact br_t rfl (br_t rfl (br_f kp' (br_t (m8.trans ki) (nm_e h))))
      · have ki' : ¬ t 263 = 0 := by rw [m8]; exact ki
        refine ⟨0, 0, s, t, upd c 1 (c 1 + 1), e, t, da, rn, cn, S, Or.inl ⟨rfl, rfl, ?_⟩, op_Dof ⟨H, m1, m2, m3, m4, m5, m6, m7, m8, g2.trans g1.symm, B1, B2, B3, B4, B5, b1, b2, b3, Or.inl g1, Or.inl ⟨g3, g4, g5⟩⟩ (hr_ct0 N), by omega, Y, ?_⟩
        · intro Q h
          exact mx_endI (by decide) (by decide) g1 (fun _ => mx_halt (br_f kp (br_f ki h))) (fun z => absurd z (by decide)) (Or.inl rfl)
        · intro post h
          exact br_t rfl (br_t rfl (br_f kp' (br_f ki' h)))
  · by_cases kp : (s 245 &&& s 246) &&& 31 = 0
    · refine ⟨0, 0, upd (upd (upd s 264 0) 263 1) 265 1, upd (upd t 263 1) 265 1, upd c 1 (c 1 + 1), e, t, da, rn, cn, S, Or.inl ⟨rfl, rfl, ?_⟩, op_Dof ⟨H0 _ _ (qa_agU (qa_agU (qa_agU qa_ag0 (by omega)) (by omega)) (by omega)) (qa_agU (qa_agU qa_ag0 (by omega)) (by omega)), m1, m2, m3, m4, m5, m6, m7, rfl, g2, B1, B2, B3, B4, B5, b1, b2, Or.inr rfl, Or.inl rfl, Or.inr (Or.inl ⟨rfl, rfl, g5⟩)⟩ (hr_ct0 N), by omega, Y, ?_⟩
      · intro Q h
        exact mx_endI (by decide) (by decide) g1 (fun z => absurd z (by decide)) (fun _ => mx_halt (br_t kp h)) (Or.inr rfl)
      · intro post h
        exact br_f (by decide) (br_f (by decide) (nm_e (br_t rfl (br_t (ep.trans kp) (nm_e h)))))
    · have kp' : ¬ (t 245 &&& t 246) &&& 31 = 0 := by rw [ep]; exact kp
      refine ⟨0, 0, upd (upd s 264 0) 263 1, upd t 263 1, upd c 1 (c 1 + 1), e, t, da, rn, cn, S, Or.inl ⟨rfl, rfl, ?_⟩, op_Dof ⟨H0 _ _ (qa_agU (qa_agU qa_ag0 (by omega)) (by omega)) (qa_agU qa_ag0 (by omega)), m1, m2, m3, m4, m5, m6, m7, rfl, g2, B1, B2, B3, B4, B5, b1, b2, Or.inr rfl, Or.inl rfl, Or.inl ⟨g3, g4, g5⟩⟩ (hr_ct0 N), by omega, Y, ?_⟩
      · intro Q h
        exact mx_endI (by decide) (by decide) g1 (fun z => absurd z (by decide)) (fun _ => mx_halt (br_f kp (br_f (show ¬ (1 : Int32) = 0 by decide) h))) (Or.inr rfl)
      · intro post h
        exact br_f (by decide) (br_f (by decide) (nm_e (br_t rfl (br_f kp' (br_f (show ¬ (1 : Int32) = 0 by decide) h)))))
