/-! run: both sides -/
def hr_lp (s t c e : Nat → Int32) (p : Nat) : Prop := hr_Rl s t ∧ hr_cn c e ∧ c 1 = e 1 ∧ c 2 = e 2 ∧ c 3 = e 3 ∧ e 0 = c 0 + nI p
section
variable {sa dg st da rn cn : Int32} {s sv iv c : Nat → Int32} {sb : Int32} {t tv jv e : Nat → Int32}
theorem mx_iin1 (h1 : s 263 = 1) (h2 : ¬ (s 245 &&& s 246) &&& 31 = 0) {Q : Int32 → Prop} (h : Q 1) : wpX_isInterruptNext Q (sa, dg, st, da, rn, cn, s, sv, iv, c) := by
  refine br_t h1 ?_
  unfold wpX_pending
  exact br_f h2 h
theorem mx_iin0 (hn : ¬ (s 263 = 1 ∧ ¬ (s 245 &&& s 246) &&& 31 = 0)) {Q : Int32 → Prop} (h : Q 0) : wpX_isInterruptNext Q (sa, dg, st, da, rn, cn, s, sv, iv, c) := by
  refine ⟨fun k => ?_, fun _ => h⟩
  unfold wpX_pending
  exact ⟨fun _ => h, fun k2 => absurd ⟨k, k2⟩ hn⟩
/-- one turn of X's loop at its head, where it doesn't end -/
theorem mx_head {n p k : Nat} (hn : n ≤ 2000) (hp : p < n) (NS : 0 < p → ∀ Q : Int32 → Prop, Q 0 → wpX_isAtStop Q (sa, dg, 0, da, rn, cn, s, sv, iv, c)) {b1 b2 b3 b4 b5 b6 : Int32} {b7 b8 b9 b10 : Nat → Int32} {u' : SX} (BN : ∀ Q : SX → Prop, Q (b1, b2, b3, b4, b5, b6, b7, b8, b9, b10) → wpX_beginNext Q (sa, dg, 0, da, rn, cn, s, sv, iv, c)) (R : ru_52 (nI n) p k (b1, b2, b3, b4, b5, b6, b7, b8, b9, b10) u') (post : Int32 → SX → Prop) (m : Nat) (h : ru_L post (nI n) m (nI (p + k + 1)) u') : wX_run_15 post (nI n) (m + k + 1) (nI p) sa dg 0 da rn cn s sv iv c := by
  have G48 : wX_run_48 post (wX_run_15 post (nI n) (m + k)) (nI n) (nI p) sa dg 0 da rn cn s sv iv c := by
    unfold wX_run_48
    refine BN _ ?_
    exact R post m h
  refine br_f (nI_ge (b := 2010) (by omega) (by omega)) (br_t rfl (br_f (nI_ge hp (by omega)) ?_))
  by_cases q : p = 0
  · subst q
    exact br_t (by decide) G48
  · refine br_f (nI_nle (by omega) (by omega)) ?_
    exact NS (by omega) _ (br_t rfl G48)
theorem qa_sub {a b : Int32} {p : Nat} (h : b = a + nI p) : b - a = nI p := by
  rw [h, Int32.add_comm, Int32.add_sub_cancel]
theorem ru_run {n : Nat} (hn : n ≤ 2000) : ∀ (d p : Nat) (s t c e : Nat → Int32) (dg da rn cn fl : Int32), n ≤ p + d → p ≤ 2003 → hr_lp s t c e p → ((fl = 1 ∧ p = 0) ∨ (fl = 0 ∧ 0 < p)) → ∃ (r : Int32) (s' t' c' e' : Nat → Int32) (dg' da' rn' cn' : Int32), hr_Rl s' t' ∧ (∀ i, i < 7 → c' i = e' i) ∧ (∀ post : Int32 → SX → Prop, post r (sa, dg', 0, da', rn', cn', s', sv, iv, c') → ∃ m, wX_run_15 post (nI n) m (nI p) sa dg 0 da rn cn s sv iv c) ∧ (∀ post : Int32 → SY → Prop, post r (sa, t', tv, jv, e') → ∃ m, wY_run_22 post (nI n) (c 0) m fl sa t tv jv e) := by
  intro d
  induction d with
  | zero =>
    intro p s t c e dg da rn cn fl h1 h2 L F
    obtain ⟨R, N, n1, n2, n3, n0⟩ := L
    have es := qa_sub n0
    refine ⟨nI p, s, t, upd c 0 (c 0 + nI p), e, dg, da, rn, cn, R, ?_, ?_, ?_⟩
    · intro i hi
      have ii : i = 0 ∨ i = 1 ∨ i = 2 ∨ i = 3 ∨ i = 4 ∨ i = 5 ∨ i = 6 := by omega
      rcases ii with rfl | rfl | rfl | rfl | rfl | rfl | rfl
      · exact n0.symm
      · exact n1
      · exact n2
      · exact n3
      · exact N.1
      · exact N.2.1
      · exact N.2.2
    · intro post h
      exact ⟨1, br_f (nI_ge (b := 2010) (by omega) (by omega)) (br_t rfl (br_t (nI_le (by omega) (by omega)) (nm_e h)))⟩
    · intro post h
      refine ⟨1, br_t (by rw [es]; exact nI_le (by omega) (by omega)) ?_⟩
      rw [es]
      exact h
  | succ d ih =>
    intro p s t c e dg da rn cn fl h1 h2 L F
    have L0 := L
    obtain ⟨R, N, n1, n2, n3, n0⟩ := L
    have es := qa_sub n0
    by_cases kp : n ≤ p
    · refine ⟨nI p, s, t, upd c 0 (c 0 + nI p), e, dg, da, rn, cn, R, ?_, ?_, ?_⟩
      · intro i hi
        have ii : i = 0 ∨ i = 1 ∨ i = 2 ∨ i = 3 ∨ i = 4 ∨ i = 5 ∨ i = 6 := by omega
        rcases ii with rfl | rfl | rfl | rfl | rfl | rfl | rfl
        · exact n0.symm
        · exact n1
        · exact n2
        · exact n3
        · exact N.1
        · exact N.2.1
        · exact N.2.2
      · intro post h
        exact ⟨1, br_f (nI_ge (b := 2010) (by omega) (by omega)) (br_t rfl (br_t (nI_le (by omega) (by omega)) (nm_e h)))⟩
      · intro post h
        refine ⟨1, br_t (by rw [es]; exact nI_le (by omega) (by omega)) ?_⟩
        rw [es]
        exact h
    · have ny : ¬ nI n ≤ e 0 - c 0 := by rw [es]; exact nI_ge (by omega) (by omega)
      -- what is left to do, once a turn is done
      have FIN : ∀ (k : Nat) (s2 t2 c2 e2 : Nat → Int32) (dg2 da2 rn2 cn2 : Int32), k ≤ 3 → hr_lp s2 t2 c2 e2 (p + k + 1) → c2 0 = c 0 → (∀ (post : Int32 → SX → Prop) (m : Nat), wX_run_15 post (nI n) m (nI (p + k + 1)) sa dg2 0 da2 rn2 cn2 s2 sv iv c2 → wX_run_15 post (nI n) (m + k + 1) (nI p) sa dg 0 da rn cn s sv iv c) → (∀ (post : Int32 → SY → Prop) (m : Nat), wY_run_22 post (nI n) (c 0) m 0 sa t2 tv jv e2 → wY_run_22 post (nI n) (c 0) (m + 1) fl sa t tv jv e) → ∃ (r : Int32) (s' t' c' e' : Nat → Int32) (dg' da' rn' cn' : Int32), hr_Rl s' t' ∧ (∀ i, i < 7 → c' i = e' i) ∧ (∀ post : Int32 → SX → Prop, post r (sa, dg', 0, da', rn', cn', s', sv, iv, c') → ∃ m, wX_run_15 post (nI n) m (nI p) sa dg 0 da rn cn s sv iv c) ∧ (∀ post : Int32 → SY → Prop, post r (sa, t', tv, jv, e') → ∃ m, wY_run_22 post (nI n) (c 0) m fl sa t tv jv e) := by
        intro k s2 t2 c2 e2 dg2 da2 rn2 cn2 hk L2 z0 TX TY
        obtain ⟨r, s', t', c', e', dg', da', rn', cn', a1, a2, a3, a4⟩ := ih (p + k + 1) s2 t2 c2 e2 dg2 da2 rn2 cn2 0 (by omega) (by omega) L2 (Or.inr ⟨rfl, by omega⟩)
        refine ⟨r, s', t', c', e', dg', da', rn', cn', a1, a2, ?_, ?_⟩
        · intro post h
          obtain ⟨m, hm⟩ := a3 post h
          exact ⟨_, TX post m hm⟩
        · intro post h
          obtain ⟨m, hm⟩ := a4 post h
          rw [z0] at hm
          exact ⟨_, TY post m hm⟩
      have cpu := R.2
      obtain ⟨m1, m2, m3, m4, m5, m6, m7, m8, m9, B1, B2, B3, B4, B5, b1, b2, b3, b4, ht⟩ := cpu
      have ep : (t 245 &&& t 246) &&& 31 = (s 245 &&& s 246) &&& 31 := by rw [(R.1.1 245 (by omega)).1, (R.1.1 246 (by omega)).1]
      by_cases kw : s 265 = 1
      · -- waiting
        have kw' : t 265 = 1 := by
          rcases ht with h | h | h
          · exact absurd (h.1.symm.trans kw) (by decide)
          · exact h.2.1
          · exact absurd (h.1.symm.trans kw) (by decide)
        obtain ⟨s2, t2, c2, e2, rn2, cn2, RW, R2, CT, YW⟩ := tn_wait (x1 := nI n) (p := p) (sa := sa) (da := da) (rn := rn) (cn := cn) (sv := sv) (iv := iv) (sb := sa) (tv := tv) (jv := jv) R kw N
        refine FIN 0 s2 t2 c2 e2 65 da rn2 cn2 (by omega) ⟨R2, CT.2.2.2, ?_, ?_, ?_, ?_⟩ (CT.1 0 (by unfold hr_C4; omega)) ?_ ?_
        · rw [CT.1 1 (by unfold hr_C4; omega), CT.2.1 1 (by unfold hr_E3; omega)]; exact n1
        · rw [CT.1 2 (by unfold hr_C4; omega), CT.2.1 2 (by unfold hr_E3; omega)]; exact n2
        · rw [CT.1 3 (by unfold hr_C4; omega), CT.2.1 3 (by unfold hr_E3; omega)]; exact n3
        · rw [CT.2.2.1, CT.1 0 (by unfold hr_C4; omega), n0, Int32.add_assoc, nI_add]
        · intro post m h
          refine mx_head hn (by omega) ?_ ?_ RW post m h
          · intro _ Q hQ
            exact ⟨fun _ => br_t kw hQ, fun _ => hQ⟩
          · intro Q hQ
            exact br_t kw hQ
        · intro post m h
          refine br_f ny (br_t kw' ?_)
          exact YW (fun u => match u with | (a1, a2, a3, a4, a5) => wY_run_22 post (nI n) (c 0) m 0 a1 a2 a3 a4 a5) h
      · have kw' : ¬ t 265 = 1 := by
          rcases ht with h | h | h
          · rw [h.2.1]; decide
          · exact absurd h.1 kw
          · rw [h.2.1]; decide
        by_cases ki : s 263 = 1 ∧ ¬ (s 245 &&& s 246) &&& 31 = 0
        · -- an interrupt
          have h265 : s 265 = 0 := by
            rcases ht with h | h | h
            · exact h.1
            · exact absurd h.1 kw
            · exact absurd (ki.1.symm.trans h.2.2.2) (by decide)
          obtain ⟨s2, t2, c2, e2, rn2, cn2, RW, R2, d1, d2, d3, d4, d5, d6, d7, YW⟩ := tn_int (x1 := nI n) (p := p) (sa := sa) (da := da) (rn := rn) (cn := cn) (sv := sv) (iv := iv) (sb := sa) (tv := tv) (jv := jv) (by omega) R h265 N n2 n3
          refine FIN 2 s2 t2 c2 e2 64 da rn2 cn2 (by omega) ⟨R2, d1, ?_, d4, d5, ?_⟩ d2 ?_ ?_
          · rw [d3, d7]; exact n1
          · rw [d6, d2, n0, Int32.add_assoc, nI_add]
          · intro post m h
            refine mx_head hn (by omega) ?_ ?_ RW post m h
            · intro _ Q hQ
              refine ⟨fun _ => br_f kw ?_, fun _ => hQ⟩
              exact mx_iin1 ki.1 ki.2 (br_f (by decide) hQ)
            · intro Q hQ
              refine br_f kw ?_
              exact mx_iin1 ki.1 ki.2 (br_f (by decide) (nm_e hQ))
          · intro post m h
            refine br_f ny (br_f kw' (br_t (m8.trans ki.1) ?_))
            unfold wpY_pending
            refine br_f (by rw [ep]; exact ki.2) ?_
            exact YW _ h
        · -- an instruction, or the stop
          have Y95 : ∀ (post : Int32 → SY → Prop) (m : Nat), wY_run_95 post (wY_run_22 post (nI n) (c 0) m) (nI n) (c 0) fl sa t tv jv e → wY_run_22 post (nI n) (c 0) (m + 1) fl sa t tv jv e := by
            intro post m h
            refine br_f ny (br_f kw' ⟨fun k1 => ?_, fun _ => h⟩)
            unfold wpY_pending
            exact ⟨fun _ => h, fun k2 => absurd ⟨m8.symm.trans k1, by rw [← ep]; exact k2⟩ ki⟩
          by_cases kst : 0 < p ∧ s 260 = sa
          · obtain ⟨ks1, ks2⟩ := kst
            have ff : fl = 0 := by
              rcases F with h | h
              · exact absurd h.2 (by omega)
              · exact h.1
            refine ⟨nI p, s, t, upd c 0 (c 0 + nI p), e, dg, da, rn, cn, R, ?_, ?_, ?_⟩
            · intro i hi
              have ii : i = 0 ∨ i = 1 ∨ i = 2 ∨ i = 3 ∨ i = 4 ∨ i = 5 ∨ i = 6 := by omega
              rcases ii with rfl | rfl | rfl | rfl | rfl | rfl | rfl
              · exact n0.symm
              · exact n1
              · exact n2
              · exact n3
              · exact N.1
              · exact N.2.1
              · exact N.2.2
            · intro post h
              refine ⟨1, br_f (nI_ge (b := 2010) (by omega) (by omega)) (br_t rfl (br_f (nI_ge (by omega) (by omega)) (br_f (nI_nle (by omega) (by omega)) ?_)))⟩
              refine br_t ks2 (br_f kw ?_)
              exact mx_iin0 ki (br_t rfl (br_f (by decide) (nm_e h)))
            · intro post h
              refine ⟨1, Y95 post 0 (br_t ff (br_t (m5.trans ks2) ?_))⟩
              rw [es]
              exact h
          · obtain ⟨k, s2, t2, c2, e2, dg2, da2, rn2, cn2, hk, RW, R2, d1, d2, d3, d4, d5, d6, d7, d8, d9, YW⟩ := tn_ins (x1 := nI n) (p := p) (sa := sa) (da := da) (rn := rn) (cn := cn) (sv := sv) (iv := iv) (sb := sa) (tv := tv) (jv := jv) (by omega) R kw N
            refine FIN k s2 t2 c2 e2 dg2 da2 rn2 cn2 hk ⟨R2, d1, ?_, ?_, ?_, ?_⟩ d2 ?_ ?_
            · rw [d3, d7, n1]
            · rw [d4, d8]; exact n2
            · rw [d5, d9]; exact n3
            · rw [d6, d2, n0, Int32.add_assoc, nI_add, show p + (k + 1) = p + k + 1 by omega]
            · intro post m h
              refine mx_head hn (by omega) ?_ ?_ RW post m h
              · intro hp0 Q hQ
                exact ⟨fun z => absurd ⟨hp0, z⟩ kst, fun _ => hQ⟩
              · intro Q hQ
                refine br_f kw ?_
                exact mx_iin0 ki (br_t rfl hQ)
            · intro post m h
              have G117 : wY_run_117 post (wY_run_22 post (nI n) (c 0) m) (nI n) (c 0) sa t tv jv e := by
                unfold wY_run_117
                exact YW _ h
              refine Y95 post m ⟨fun z => ⟨fun z2 => ?_, fun _ => G117⟩, fun _ => G117⟩
              refine absurd ⟨?_, m5.symm.trans z2⟩ kst
              rcases F with h | h
              · exact absurd (h.1.symm.trans z) (by decide)
              · exact h.2
end
