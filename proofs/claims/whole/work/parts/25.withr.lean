/-! the instructions with r: both sides -/
section
variable {sa dg st da rn cn : Int32} {s sv iv c : Nat → Int32} {sb : Int32} {t tv jv e : Nat → Int32}
theorem ml_ceA {k : Nat} {cf v : Int32} (a : Nat → Int32) : qa_ag (fun i => i < 256 ∨ 266 ≤ i) a (ml_ce k cf v a) := by
  unfold ml_ce
  by_cases q : k = 7
  · rw [if_pos q]; exact qa_agU (qa_agU qa_ag0 (by omega)) (by omega)
  · rw [if_neg q]; exact qa_agU (qa_agU (qa_agU qa_ag0 (by omega)) (by omega)) (by omega)
theorem ml_ceB {P : Nat → Prop} {k : Nat} {cf v : Int32} {a b : Nat → Int32} (h : qa_ag P a b) : qa_ag P (ml_ce k cf v a) (ml_ce k cf v b) := by
  unfold ml_ce
  by_cases q : k = 7
  · rw [if_pos q, if_pos q]; exact qa_agB (qa_agB h)
  · rw [if_neg q, if_neg q]; exact qa_agB (qa_agB (qa_agB h))
theorem hr_cmE {l z : Int32} {k : Nat} {cf v : Int32} (M : hr_cm l z s t) (hc : qa_b cf) (hv : qa_B v) : hr_cm l z (ml_ce k cf v s) (ml_cy k cf v t) := by
  obtain ⟨m1, m2, m3, m4, m5, m6, m7, m8, B1, B2, B3, B4, B5, b1, b2, b3, g1, g2, g3, g4, g5⟩ := M
  unfold ml_ce ml_cy
  by_cases q : k = 7
  · rw [if_pos q, if_pos q]
    exact ⟨m1, m2, m3, m4, m5, rfl, rfl, m8, B1, B2, B3, B4, B5, ml_zfb _, hc, b3, g1, g2, g3, g4, g5⟩
  · rw [if_neg q, if_neg q]
    exact ⟨rfl, m2, m3, m4, m5, rfl, rfl, m8, hv, B2, B3, B4, B5, ml_zfb _, hc, b3, g1, g2, g3, g4, g5⟩
theorem ml_cyH {k : Nat} {cf v : Int32} (H : hr_Hw s t) : hr_Hw s (ml_cy k cf v t) := by
  unfold ml_cy
  by_cases q : k = 7
  · rw [if_pos q]; exact hr_HwY (hr_HwY H (by omega)) (by omega)
  · rw [if_neg q]; exact hr_HwY (hr_HwY (hr_HwY H (by omega)) (by omega)) (by omega)
theorem my_199c {Q : SY → Prop} {k : Nat} {x2 x5 x6 v : Int32} (hk : k = 8 ∨ k = 9 ∨ k = 10) (hv : x5 &&& 255 = v) (h : wpY_set (fun u => match u with | (a1, a2, a3, a4, a5) => Q (a1, a2, a3, a4, a5)) (sb, upd (upd t 261 (ml_zf v)) 262 x6, tv, jv, e) x2 v) : wY_reckon_199 Q (nI k) x2 x5 x6 sb t tv jv e := by
  have i1 : vp_in (261 : Int32) 512 := vp_in_nI (n := 261) (by omega) (by omega)
  have c1 : (261 : Int32).toNatClampNeg = 261 := nI_clamp (n := 261) (by omega)
  have k7 : ¬ nI k ≤ 7 := by rcases hk with rfl | rfl | rfl <;> decide
  have k11 : ¬ 11 ≤ nI k := by rcases hk with rfl | rfl | rfl <;> decide
  have g224 : ∀ z : Int32, z = ml_zf v → wY_reckon_224 Q (nI k) x2 v x6 z 261 sb t tv jv e := by
    intro z hz
    refine ⟨i1, nm_r (qa_up _ _ c1) (nm_e (br_f k7 (br_f k11 ?_)))⟩
    rw [hz]
    exact h
  refine nm_r hv ⟨fun q => g224 1 ?_, fun q => g224 0 ?_⟩
  · unfold ml_zf; rw [if_pos q]
  · unfold ml_zf; rw [if_neg q]
end
theorem op_16 : op_T 16 0 := by
  intro x1 l sa da rn cn sb p s sv iv c t tv jv e hp hlb H M N
  obtain ⟨s1, t1, c1, e1, rn1, cn1, r1, H1, M1, ct1, f1, B1, X1, Y1⟩ := mp_next (sa := sa) (dg := nI 16) (da := da) (rn := rn) (cn := cn) (sv := sv) (iv := iv) (sb := sb) (tv := tv) (jv := jv) (st := 2) (st' := 0)  (by decide) (by decide) H M N
  obtain ⟨s', t', R, hE, hY⟩ := en_gen (sa := sa) (da := r1) (rn := rn1) (cn := cn1) (sv := sv) (iv := iv) (c := c1) (sb := sb) (tv := tv) (jv := jv) (e := e1) (s := s1) (t := upd t1 256 r1) (l := l) (o := nI 16) (fun a => upd a 256 r1) (fun a => qa_agU qa_ag0 (by omega)) (qa_agB (qa_agU (qa_agU qa_ag0 (by omega)) (by omega))) rfl rfl (by decide) (by decide) (by decide) (by decide) (hr_cml M1) hlb (hr_HwY H1 (by omega)) (hr_cmB M1 (by omega) B1 rfl)
    (fun Q h => by
        refine br_t (by decide) ⟨by decide, nm_r (e' := nI 0) (by decide) ⟨by decide, nm_r (e' := nI 0) (by decide) (br_f (by decide) ⟨qa_ii 256 0 488 (by omega) (by omega), ?_⟩)⟩⟩
        rw [show ((256 : Int32) + nI 0).toNatClampNeg = 256 by decide]
        refine br_f (by decide) (br_t rfl ?_)
        exact br_f (by decide) (br_t rfl ⟨qa_ii 256 0 488 (by omega) (by omega), nm_r (qa_up _ _ (qa_ic 256 0 (by omega))) h⟩))
    (fun Q h => by
        refine br_t (by decide) ⟨by decide, nm_r (e' := nI 0) (by decide) ⟨by decide, nm_r (e' := nI 0) (by decide) (br_f (by decide) ⟨qa_ii 256 0 488 (by omega) (by omega), ?_⟩)⟩⟩
        rw [show ((256 : Int32) + nI 0).toNatClampNeg = 256 by decide]
        refine br_f (by decide) (br_t rfl ?_)
        exact br_f (by decide) (br_t rfl ⟨qa_ii 256 0 488 (by omega) (by omega), nm_r (qa_up _ _ (qa_ic 256 0 (by omega))) h⟩))
  refine ⟨2, 1, s', t', _, e1, upd t1 256 r1, r1, rn1, cn1, ?_, Or.inr ⟨by decide, 0, rfl, st_last X1 hE⟩, op_Dof R ct1, by omega, ?_, hY⟩
  · exact Or.inl ⟨by omega, fun post h => ⟨by decide, nm_r (e' := nI 0) (by decide) ⟨by decide, br_f (by decide) (br_t rfl h)⟩⟩⟩
  · refine Or.inr (Or.inl ⟨by omega, by omega, fun Q h => ?_⟩)
    rw [show (nI 16 - 16) / 4 = nI 0 by decide, show nI 16 &&& 3 = nI 0 by decide]
    refine br_t rfl ?_
    refine Y1 _ ?_
    exact br_f (by decide) ⟨qa_ii 256 0 512 (by omega) (by omega), nm_r (qa_up _ _ (qa_ic 256 0 (by omega))) h⟩
theorem op_17 : op_T 17 0 := by
  intro x1 l sa da rn cn sb p s sv iv c t tv jv e hp hlb H M N
  obtain ⟨s1, t1, c1, e1, rn1, cn1, r1, H1, M1, ct1, f1, B1, X1, Y1⟩ := mp_next (sa := sa) (dg := nI 17) (da := da) (rn := rn) (cn := cn) (sv := sv) (iv := iv) (sb := sb) (tv := tv) (jv := jv) (st := 2) (st' := 0)  (by decide) (by decide) H M N
  obtain ⟨s', t', R, hE, hY⟩ := en_gen (sa := sa) (da := r1) (rn := rn1) (cn := cn1) (sv := sv) (iv := iv) (c := c1) (sb := sb) (tv := tv) (jv := jv) (e := e1) (s := s1) (t := upd t1 257 r1) (l := l) (o := nI 17) (fun a => upd a 257 r1) (fun a => qa_agU qa_ag0 (by omega)) (qa_agB (qa_agU (qa_agU qa_ag0 (by omega)) (by omega))) rfl rfl (by decide) (by decide) (by decide) (by decide) (hr_cml M1) hlb (hr_HwY H1 (by omega)) (hr_cmB M1 (by omega) B1 rfl)
    (fun Q h => by
        refine br_t (by decide) ⟨by decide, nm_r (e' := nI 0) (by decide) ⟨by decide, nm_r (e' := nI 1) (by decide) (br_f (by decide) ⟨qa_ii 256 1 488 (by omega) (by omega), ?_⟩)⟩⟩
        rw [show ((256 : Int32) + nI 1).toNatClampNeg = 257 by decide]
        refine br_f (by decide) (br_t rfl ?_)
        exact br_f (by decide) (br_t rfl ⟨qa_ii 256 1 488 (by omega) (by omega), nm_r (qa_up _ _ (qa_ic 256 1 (by omega))) h⟩))
    (fun Q h => by
        refine br_t (by decide) ⟨by decide, nm_r (e' := nI 0) (by decide) ⟨by decide, nm_r (e' := nI 1) (by decide) (br_f (by decide) ⟨qa_ii 256 1 488 (by omega) (by omega), ?_⟩)⟩⟩
        rw [show ((256 : Int32) + nI 1).toNatClampNeg = 257 by decide]
        refine br_f (by decide) (br_t rfl ?_)
        exact br_f (by decide) (br_t rfl ⟨qa_ii 256 1 488 (by omega) (by omega), nm_r (qa_up _ _ (qa_ic 256 1 (by omega))) h⟩))
  refine ⟨2, 1, s', t', _, e1, upd t1 257 r1, r1, rn1, cn1, ?_, Or.inr ⟨by decide, 0, rfl, st_last X1 hE⟩, op_Dof R ct1, by omega, ?_, hY⟩
  · exact Or.inl ⟨by omega, fun post h => ⟨by decide, nm_r (e' := nI 0) (by decide) ⟨by decide, br_f (by decide) (br_t rfl h)⟩⟩⟩
  · refine Or.inr (Or.inl ⟨by omega, by omega, fun Q h => ?_⟩)
    rw [show (nI 17 - 16) / 4 = nI 0 by decide, show nI 17 &&& 3 = nI 1 by decide]
    refine br_t rfl ?_
    refine Y1 _ ?_
    exact br_f (by decide) ⟨qa_ii 256 1 512 (by omega) (by omega), nm_r (qa_up _ _ (qa_ic 256 1 (by omega))) h⟩
theorem op_18 : op_T 18 0 := by
  intro x1 l sa da rn cn sb p s sv iv c t tv jv e hp hlb H M N
  obtain ⟨s1, t1, c1, e1, rn1, cn1, r1, H1, M1, ct1, f1, B1, X1, Y1⟩ := mp_next (sa := sa) (dg := nI 18) (da := da) (rn := rn) (cn := cn) (sv := sv) (iv := iv) (sb := sb) (tv := tv) (jv := jv) (st := 2) (st' := 0)  (by decide) (by decide) H M N
  obtain ⟨s', t', R, hE, hY⟩ := en_gen (sa := sa) (da := r1) (rn := rn1) (cn := cn1) (sv := sv) (iv := iv) (c := c1) (sb := sb) (tv := tv) (jv := jv) (e := e1) (s := s1) (t := upd t1 258 r1) (l := l) (o := nI 18) (fun a => upd a 258 r1) (fun a => qa_agU qa_ag0 (by omega)) (qa_agB (qa_agU (qa_agU qa_ag0 (by omega)) (by omega))) rfl rfl (by decide) (by decide) (by decide) (by decide) (hr_cml M1) hlb (hr_HwY H1 (by omega)) (hr_cmB M1 (by omega) B1 rfl)
    (fun Q h => by
        refine br_t (by decide) ⟨by decide, nm_r (e' := nI 0) (by decide) ⟨by decide, nm_r (e' := nI 2) (by decide) (br_f (by decide) ⟨qa_ii 256 2 488 (by omega) (by omega), ?_⟩)⟩⟩
        rw [show ((256 : Int32) + nI 2).toNatClampNeg = 258 by decide]
        refine br_f (by decide) (br_t rfl ?_)
        exact br_f (by decide) (br_t rfl ⟨qa_ii 256 2 488 (by omega) (by omega), nm_r (qa_up _ _ (qa_ic 256 2 (by omega))) h⟩))
    (fun Q h => by
        refine br_t (by decide) ⟨by decide, nm_r (e' := nI 0) (by decide) ⟨by decide, nm_r (e' := nI 2) (by decide) (br_f (by decide) ⟨qa_ii 256 2 488 (by omega) (by omega), ?_⟩)⟩⟩
        rw [show ((256 : Int32) + nI 2).toNatClampNeg = 258 by decide]
        refine br_f (by decide) (br_t rfl ?_)
        exact br_f (by decide) (br_t rfl ⟨qa_ii 256 2 488 (by omega) (by omega), nm_r (qa_up _ _ (qa_ic 256 2 (by omega))) h⟩))
  refine ⟨2, 1, s', t', _, e1, upd t1 258 r1, r1, rn1, cn1, ?_, Or.inr ⟨by decide, 0, rfl, st_last X1 hE⟩, op_Dof R ct1, by omega, ?_, hY⟩
  · exact Or.inl ⟨by omega, fun post h => ⟨by decide, nm_r (e' := nI 0) (by decide) ⟨by decide, br_f (by decide) (br_t rfl h)⟩⟩⟩
  · refine Or.inr (Or.inl ⟨by omega, by omega, fun Q h => ?_⟩)
    rw [show (nI 18 - 16) / 4 = nI 0 by decide, show nI 18 &&& 3 = nI 2 by decide]
    refine br_t rfl ?_
    refine Y1 _ ?_
    exact br_f (by decide) ⟨qa_ii 256 2 512 (by omega) (by omega), nm_r (qa_up _ _ (qa_ic 256 2 (by omega))) h⟩
theorem op_19 : op_T 19 0 := by
  intro x1 l sa da rn cn sb p s sv iv c t tv jv e hp hlb H M N
  obtain ⟨s1, t1, c1, e1, rn1, cn1, r1, H1, M1, ct1, f1, B1, X1, Y1⟩ := mp_next (sa := sa) (dg := nI 19) (da := da) (rn := rn) (cn := cn) (sv := sv) (iv := iv) (sb := sb) (tv := tv) (jv := jv) (st := 114) (st' := 7)  (by decide) (by decide) H M N
  obtain ⟨s2, t2, c2, e2, rn2, cn2, H2, M2, ct2, X2, Y2⟩ := mp_wrp0 (sa := sa) (dg := nI 19) (da := r1) (rn := rn1) (cn := cn1) (sv := sv) (iv := iv) (sb := sb) (tv := tv) (jv := jv) (st := 7) (st' := 0) B1 (by decide) (by decide) (by decide) H1 M1 ct1.2.2.2
  obtain ⟨s', t', R, hE, hY⟩ := en_gen (sa := sa) (da := r1) (rn := rn2) (cn := cn2) (sv := sv) (iv := iv) (c := c2) (sb := sb) (tv := tv) (jv := jv) (e := e2) (s := s2) (t := t2) (l := l) (o := nI 19) (fun a => a) (fun a => qa_ag0) (qa_agU (qa_agU qa_ag0 (by omega)) (by omega)) rfl rfl (by decide) (by decide) (by decide) (by decide) (hr_cml M2) hlb (H2) (M2)
    (fun Q h => by
        refine br_t (by decide) ⟨by decide, nm_r (e' := nI 0) (by decide) ⟨by decide, nm_r (e' := nI 3) (by decide) (br_t rfl ?_)⟩⟩
        refine br_f (by decide) (br_t rfl ?_)
        exact br_t rfl h)
    (fun Q h => by
        refine br_t (by decide) ⟨by decide, nm_r (e' := nI 0) (by decide) ⟨by decide, nm_r (e' := nI 3) (by decide) (br_t rfl ?_)⟩⟩
        refine br_f (by decide) (br_t rfl ?_)
        exact br_t rfl h)
  refine ⟨114, 2, s', t', _, e2, t2, r1, rn2, cn2, ?_, Or.inr ⟨by decide, 1, rfl, st_cons (by omega) X1 (by decide) (st_last X2 hE)⟩, op_Dof R (hr_ctT ct1 ct2), by omega, ?_, hY⟩
  · exact Or.inl ⟨by omega, fun post h => ⟨by decide, nm_r (e' := nI 0) (by decide) ⟨by decide, br_t (by decide) (br_t rfl h)⟩⟩⟩
  · refine Or.inr (Or.inl ⟨by omega, by omega, fun Q h => ?_⟩)
    rw [show (nI 19 - 16) / 4 = nI 0 by decide, show nI 19 &&& 3 = nI 3 by decide]
    refine br_t rfl ?_
    refine Y1 _ ?_
    refine br_t rfl ?_
    exact Y2 _ h
theorem op_20 : op_T 20 0 := by
  intro x1 l sa da rn cn sb p s sv iv c t tv jv e hp hlb H M N
  obtain ⟨s', t', R, hE, hY⟩ := en_gen (sa := sa) (da := da) (rn := rn) (cn := cn) (sv := sv) (iv := iv) (c := c) (sb := sb) (tv := tv) (jv := jv) (e := e) (s := s) (t := upd t 256 (t 256)) (l := l) (o := nI 20) (fun a => upd a 256 (s 256)) (fun a => qa_agU qa_ag0 (by omega)) (qa_agB (qa_agU (qa_agU qa_ag0 (by omega)) (by omega))) rfl rfl (by decide) (by decide) (by decide) (by decide) (hr_cml M) hlb (hr_HwY H (by omega)) (hr_cmB M (by omega) (M.2.2.2.2.2.2.2.2.1) (M.1))
    (fun Q h => by
        refine br_t (by decide) ⟨by decide, nm_r (e' := nI 1) (by decide) ⟨by decide, nm_r (e' := nI 0) (by decide) (br_f (by decide) ⟨qa_ii 256 0 488 (by omega) (by omega), ?_⟩)⟩⟩
        rw [show ((256 : Int32) + nI 0).toNatClampNeg = 256 by decide]
        exact br_t rfl (nm_e h))
    (fun Q h => by
        refine br_t (by decide) ⟨by decide, nm_r (e' := nI 1) (by decide) ⟨by decide, nm_r (e' := nI 0) (by decide) (br_f (by decide) ⟨qa_ii 256 0 488 (by omega) (by omega), ?_⟩)⟩⟩
        rw [show ((256 : Int32) + nI 0).toNatClampNeg = 256 by decide]
        exact br_t rfl (nm_e h))
  refine ⟨0, 0, s', t', _, e, upd t 256 (t 256), da, rn, cn, ?_, Or.inl ⟨rfl, rfl, hE⟩, op_Dof R (hr_ct0 N), by omega, ?_, hY⟩
  · exact Or.inl ⟨by omega, fun post h => ⟨by decide, nm_r (e' := nI 1) (by decide) ⟨by decide, br_f (by decide) (br_f (by decide) h)⟩⟩⟩
  · refine Or.inr (Or.inl ⟨by omega, by omega, fun Q h => ?_⟩)
    rw [show (nI 20 - 16) / 4 = nI 1 by decide, show nI 20 &&& 3 = nI 0 by decide]
    refine br_f (by decide) (br_t rfl (br_f (by decide) ⟨qa_ii 256 0 512 (by omega) (by omega), ?_⟩))
    rw [show ((256 : Int32) + nI 0).toNatClampNeg = 256 by decide]
    exact nm_e h
theorem op_21 : op_T 21 0 := by
  intro x1 l sa da rn cn sb p s sv iv c t tv jv e hp hlb H M N
  obtain ⟨s', t', R, hE, hY⟩ := en_gen (sa := sa) (da := da) (rn := rn) (cn := cn) (sv := sv) (iv := iv) (c := c) (sb := sb) (tv := tv) (jv := jv) (e := e) (s := s) (t := upd t 256 (t 257)) (l := l) (o := nI 21) (fun a => upd a 256 (s 257)) (fun a => qa_agU qa_ag0 (by omega)) (qa_agB (qa_agU (qa_agU qa_ag0 (by omega)) (by omega))) rfl rfl (by decide) (by decide) (by decide) (by decide) (hr_cml M) hlb (hr_HwY H (by omega)) (hr_cmB M (by omega) (M.2.2.2.2.2.2.2.2.2.1) (M.2.1))
    (fun Q h => by
        refine br_t (by decide) ⟨by decide, nm_r (e' := nI 1) (by decide) ⟨by decide, nm_r (e' := nI 1) (by decide) (br_f (by decide) ⟨qa_ii 256 1 488 (by omega) (by omega), ?_⟩)⟩⟩
        rw [show ((256 : Int32) + nI 1).toNatClampNeg = 257 by decide]
        exact br_t rfl (nm_e h))
    (fun Q h => by
        refine br_t (by decide) ⟨by decide, nm_r (e' := nI 1) (by decide) ⟨by decide, nm_r (e' := nI 1) (by decide) (br_f (by decide) ⟨qa_ii 256 1 488 (by omega) (by omega), ?_⟩)⟩⟩
        rw [show ((256 : Int32) + nI 1).toNatClampNeg = 257 by decide]
        exact br_t rfl (nm_e h))
  refine ⟨0, 0, s', t', _, e, upd t 256 (t 257), da, rn, cn, ?_, Or.inl ⟨rfl, rfl, hE⟩, op_Dof R (hr_ct0 N), by omega, ?_, hY⟩
  · exact Or.inl ⟨by omega, fun post h => ⟨by decide, nm_r (e' := nI 1) (by decide) ⟨by decide, br_f (by decide) (br_f (by decide) h)⟩⟩⟩
  · refine Or.inr (Or.inl ⟨by omega, by omega, fun Q h => ?_⟩)
    rw [show (nI 21 - 16) / 4 = nI 1 by decide, show nI 21 &&& 3 = nI 1 by decide]
    refine br_f (by decide) (br_t rfl (br_f (by decide) ⟨qa_ii 256 1 512 (by omega) (by omega), ?_⟩))
    rw [show ((256 : Int32) + nI 1).toNatClampNeg = 257 by decide]
    exact nm_e h
theorem op_22 : op_T 22 0 := by
  intro x1 l sa da rn cn sb p s sv iv c t tv jv e hp hlb H M N
  obtain ⟨s', t', R, hE, hY⟩ := en_gen (sa := sa) (da := da) (rn := rn) (cn := cn) (sv := sv) (iv := iv) (c := c) (sb := sb) (tv := tv) (jv := jv) (e := e) (s := s) (t := upd t 256 (t 258)) (l := l) (o := nI 22) (fun a => upd a 256 (s 258)) (fun a => qa_agU qa_ag0 (by omega)) (qa_agB (qa_agU (qa_agU qa_ag0 (by omega)) (by omega))) rfl rfl (by decide) (by decide) (by decide) (by decide) (hr_cml M) hlb (hr_HwY H (by omega)) (hr_cmB M (by omega) (M.2.2.2.2.2.2.2.2.2.2.1) (M.2.2.1))
    (fun Q h => by
        refine br_t (by decide) ⟨by decide, nm_r (e' := nI 1) (by decide) ⟨by decide, nm_r (e' := nI 2) (by decide) (br_f (by decide) ⟨qa_ii 256 2 488 (by omega) (by omega), ?_⟩)⟩⟩
        rw [show ((256 : Int32) + nI 2).toNatClampNeg = 258 by decide]
        exact br_t rfl (nm_e h))
    (fun Q h => by
        refine br_t (by decide) ⟨by decide, nm_r (e' := nI 1) (by decide) ⟨by decide, nm_r (e' := nI 2) (by decide) (br_f (by decide) ⟨qa_ii 256 2 488 (by omega) (by omega), ?_⟩)⟩⟩
        rw [show ((256 : Int32) + nI 2).toNatClampNeg = 258 by decide]
        exact br_t rfl (nm_e h))
  refine ⟨0, 0, s', t', _, e, upd t 256 (t 258), da, rn, cn, ?_, Or.inl ⟨rfl, rfl, hE⟩, op_Dof R (hr_ct0 N), by omega, ?_, hY⟩
  · exact Or.inl ⟨by omega, fun post h => ⟨by decide, nm_r (e' := nI 1) (by decide) ⟨by decide, br_f (by decide) (br_f (by decide) h)⟩⟩⟩
  · refine Or.inr (Or.inl ⟨by omega, by omega, fun Q h => ?_⟩)
    rw [show (nI 22 - 16) / 4 = nI 1 by decide, show nI 22 &&& 3 = nI 2 by decide]
    refine br_f (by decide) (br_t rfl (br_f (by decide) ⟨qa_ii 256 2 512 (by omega) (by omega), ?_⟩))
    rw [show ((256 : Int32) + nI 2).toNatClampNeg = 258 by decide]
    exact nm_e h
theorem op_23 : op_T 23 0 := by
  intro x1 l sa da rn cn sb p s sv iv c t tv jv e hp hlb H M N
  obtain ⟨s1, t1, c1, e1, rn1, cn1, r1, H1, M1, ct1, f1, B1, X1, Y1⟩ := mp_rdp (sa := sa) (dg := nI 23) (da := da) (rn := rn) (cn := cn) (sv := sv) (iv := iv) (sb := sb) (tv := tv) (jv := jv) (st := 6) (st' := 0)  (by decide) (by decide) H M N
  obtain ⟨s', t', R, hE, hY⟩ := en_gen (sa := sa) (da := r1) (rn := rn1) (cn := cn1) (sv := sv) (iv := iv) (c := c1) (sb := sb) (tv := tv) (jv := jv) (e := e1) (s := s1) (t := upd t1 256 r1) (l := l) (o := nI 23) (fun a => upd a 256 r1) (fun a => qa_agU qa_ag0 (by omega)) (qa_agB (qa_agU (qa_agU qa_ag0 (by omega)) (by omega))) rfl rfl (by decide) (by decide) (by decide) (by decide) (hr_cml M1) hlb (hr_HwY H1 (by omega)) (hr_cmB M1 (by omega) B1 rfl)
    (fun Q h => by
        refine br_t (by decide) ⟨by decide, nm_r (e' := nI 1) (by decide) ⟨by decide, nm_r (e' := nI 3) (by decide) (br_t rfl ?_)⟩⟩
        exact br_t rfl (nm_e h))
    (fun Q h => by
        refine br_t (by decide) ⟨by decide, nm_r (e' := nI 1) (by decide) ⟨by decide, nm_r (e' := nI 3) (by decide) (br_t rfl ?_)⟩⟩
        exact br_t rfl (nm_e h))
  refine ⟨6, 1, s', t', _, e1, upd t1 256 r1, r1, rn1, cn1, ?_, Or.inr ⟨by decide, 0, rfl, st_last X1 hE⟩, op_Dof R ct1, by omega, ?_, hY⟩
  · refine Or.inl ⟨by omega, fun post h => ⟨by decide, nm_r (e' := nI 1) (by decide) ⟨by decide, br_t (by decide) (br_f (by decide) (br_f (by decide) ?_))⟩⟩⟩
    unfold wpX_isChange
    exact br_t (by decide) (br_t rfl h)
  · refine Or.inr (Or.inl ⟨by omega, by omega, fun Q h => ?_⟩)
    rw [show (nI 23 - 16) / 4 = nI 1 by decide, show nI 23 &&& 3 = nI 3 by decide]
    refine br_f (by decide) (br_t rfl (br_t rfl ?_))
    exact Y1 _ (nm_e h)
theorem op_24 : op_T 24 0 := by
  intro x1 l sa da rn cn sb p s sv iv c t tv jv e hp hlb H M N
  obtain ⟨s', t', R, hE, hY⟩ := en_gen (sa := sa) (da := da) (rn := rn) (cn := cn) (sv := sv) (iv := iv) (c := c) (sb := sb) (tv := tv) (jv := jv) (e := e) (s := s) (t := upd t 256 (t 256)) (l := l) (o := nI 24) (fun a => upd a 256 (s 256)) (fun a => qa_agU qa_ag0 (by omega)) (qa_agB (qa_agU (qa_agU qa_ag0 (by omega)) (by omega))) rfl rfl (by decide) (by decide) (by decide) (by decide) (hr_cml M) hlb (hr_HwY H (by omega)) (hr_cmB M (by omega) (M.2.2.2.2.2.2.2.2.1) (M.1))
    (fun Q h => by
        refine br_t (by decide) ⟨by decide, nm_r (e' := nI 2) (by decide) ⟨by decide, nm_r (e' := nI 0) (by decide) (br_f (by decide) ⟨qa_ii 256 0 488 (by omega) (by omega), ?_⟩)⟩⟩
        rw [show ((256 : Int32) + nI 0).toNatClampNeg = 256 by decide]
        refine br_f (by decide) (br_f (by decide) (br_t rfl ?_))
        exact br_f (by decide) (br_f (by decide) (br_t rfl ⟨qa_ii 256 0 488 (by omega) (by omega), nm_r (qa_up _ _ (qa_ic 256 0 (by omega))) h⟩)))
    (fun Q h => by
        refine br_t (by decide) ⟨by decide, nm_r (e' := nI 2) (by decide) ⟨by decide, nm_r (e' := nI 0) (by decide) (br_f (by decide) ⟨qa_ii 256 0 488 (by omega) (by omega), ?_⟩)⟩⟩
        rw [show ((256 : Int32) + nI 0).toNatClampNeg = 256 by decide]
        refine br_f (by decide) (br_f (by decide) (br_t rfl ?_))
        exact br_f (by decide) (br_f (by decide) (br_t rfl ⟨qa_ii 256 0 488 (by omega) (by omega), nm_r (qa_up _ _ (qa_ic 256 0 (by omega))) h⟩)))
  refine ⟨0, 0, s', t', _, e, upd t 256 (t 256), da, rn, cn, ?_, Or.inl ⟨rfl, rfl, hE⟩, op_Dof R (hr_ct0 N), by omega, ?_, hY⟩
  · exact Or.inl ⟨by omega, fun post h => ⟨by decide, nm_r (e' := nI 2) (by decide) ⟨by decide, br_f (by decide) (br_f (by decide) h)⟩⟩⟩
  · refine Or.inr (Or.inl ⟨by omega, by omega, fun Q h => ?_⟩)
    rw [show (nI 24 - 16) / 4 = nI 2 by decide, show nI 24 &&& 3 = nI 0 by decide]
    exact br_f (by decide) (br_f (by decide) (br_f (by decide) ⟨qa_ii 256 0 512 (by omega) (by omega), nm_r (qa_up _ _ (qa_ic 256 0 (by omega))) h⟩))
theorem op_25 : op_T 25 0 := by
  intro x1 l sa da rn cn sb p s sv iv c t tv jv e hp hlb H M N
  obtain ⟨s', t', R, hE, hY⟩ := en_gen (sa := sa) (da := da) (rn := rn) (cn := cn) (sv := sv) (iv := iv) (c := c) (sb := sb) (tv := tv) (jv := jv) (e := e) (s := s) (t := upd t 257 (t 256)) (l := l) (o := nI 25) (fun a => upd a 257 (s 256)) (fun a => qa_agU qa_ag0 (by omega)) (qa_agB (qa_agU (qa_agU qa_ag0 (by omega)) (by omega))) rfl rfl (by decide) (by decide) (by decide) (by decide) (hr_cml M) hlb (hr_HwY H (by omega)) (hr_cmB M (by omega) (M.2.2.2.2.2.2.2.2.1) (M.1))
    (fun Q h => by
        refine br_t (by decide) ⟨by decide, nm_r (e' := nI 2) (by decide) ⟨by decide, nm_r (e' := nI 1) (by decide) (br_f (by decide) ⟨qa_ii 256 1 488 (by omega) (by omega), ?_⟩)⟩⟩
        rw [show ((256 : Int32) + nI 1).toNatClampNeg = 257 by decide]
        refine br_f (by decide) (br_f (by decide) (br_t rfl ?_))
        exact br_f (by decide) (br_f (by decide) (br_t rfl ⟨qa_ii 256 1 488 (by omega) (by omega), nm_r (qa_up _ _ (qa_ic 256 1 (by omega))) h⟩)))
    (fun Q h => by
        refine br_t (by decide) ⟨by decide, nm_r (e' := nI 2) (by decide) ⟨by decide, nm_r (e' := nI 1) (by decide) (br_f (by decide) ⟨qa_ii 256 1 488 (by omega) (by omega), ?_⟩)⟩⟩
        rw [show ((256 : Int32) + nI 1).toNatClampNeg = 257 by decide]
        refine br_f (by decide) (br_f (by decide) (br_t rfl ?_))
        exact br_f (by decide) (br_f (by decide) (br_t rfl ⟨qa_ii 256 1 488 (by omega) (by omega), nm_r (qa_up _ _ (qa_ic 256 1 (by omega))) h⟩)))
  refine ⟨0, 0, s', t', _, e, upd t 257 (t 256), da, rn, cn, ?_, Or.inl ⟨rfl, rfl, hE⟩, op_Dof R (hr_ct0 N), by omega, ?_, hY⟩
  · exact Or.inl ⟨by omega, fun post h => ⟨by decide, nm_r (e' := nI 2) (by decide) ⟨by decide, br_f (by decide) (br_f (by decide) h)⟩⟩⟩
  · refine Or.inr (Or.inl ⟨by omega, by omega, fun Q h => ?_⟩)
    rw [show (nI 25 - 16) / 4 = nI 2 by decide, show nI 25 &&& 3 = nI 1 by decide]
    exact br_f (by decide) (br_f (by decide) (br_f (by decide) ⟨qa_ii 256 1 512 (by omega) (by omega), nm_r (qa_up _ _ (qa_ic 256 1 (by omega))) h⟩))
theorem op_26 : op_T 26 0 := by
  intro x1 l sa da rn cn sb p s sv iv c t tv jv e hp hlb H M N
  obtain ⟨s', t', R, hE, hY⟩ := en_gen (sa := sa) (da := da) (rn := rn) (cn := cn) (sv := sv) (iv := iv) (c := c) (sb := sb) (tv := tv) (jv := jv) (e := e) (s := s) (t := upd t 258 (t 256)) (l := l) (o := nI 26) (fun a => upd a 258 (s 256)) (fun a => qa_agU qa_ag0 (by omega)) (qa_agB (qa_agU (qa_agU qa_ag0 (by omega)) (by omega))) rfl rfl (by decide) (by decide) (by decide) (by decide) (hr_cml M) hlb (hr_HwY H (by omega)) (hr_cmB M (by omega) (M.2.2.2.2.2.2.2.2.1) (M.1))
    (fun Q h => by
        refine br_t (by decide) ⟨by decide, nm_r (e' := nI 2) (by decide) ⟨by decide, nm_r (e' := nI 2) (by decide) (br_f (by decide) ⟨qa_ii 256 2 488 (by omega) (by omega), ?_⟩)⟩⟩
        rw [show ((256 : Int32) + nI 2).toNatClampNeg = 258 by decide]
        refine br_f (by decide) (br_f (by decide) (br_t rfl ?_))
        exact br_f (by decide) (br_f (by decide) (br_t rfl ⟨qa_ii 256 2 488 (by omega) (by omega), nm_r (qa_up _ _ (qa_ic 256 2 (by omega))) h⟩)))
    (fun Q h => by
        refine br_t (by decide) ⟨by decide, nm_r (e' := nI 2) (by decide) ⟨by decide, nm_r (e' := nI 2) (by decide) (br_f (by decide) ⟨qa_ii 256 2 488 (by omega) (by omega), ?_⟩)⟩⟩
        rw [show ((256 : Int32) + nI 2).toNatClampNeg = 258 by decide]
        refine br_f (by decide) (br_f (by decide) (br_t rfl ?_))
        exact br_f (by decide) (br_f (by decide) (br_t rfl ⟨qa_ii 256 2 488 (by omega) (by omega), nm_r (qa_up _ _ (qa_ic 256 2 (by omega))) h⟩)))
  refine ⟨0, 0, s', t', _, e, upd t 258 (t 256), da, rn, cn, ?_, Or.inl ⟨rfl, rfl, hE⟩, op_Dof R (hr_ct0 N), by omega, ?_, hY⟩
  · exact Or.inl ⟨by omega, fun post h => ⟨by decide, nm_r (e' := nI 2) (by decide) ⟨by decide, br_f (by decide) (br_f (by decide) h)⟩⟩⟩
  · refine Or.inr (Or.inl ⟨by omega, by omega, fun Q h => ?_⟩)
    rw [show (nI 26 - 16) / 4 = nI 2 by decide, show nI 26 &&& 3 = nI 2 by decide]
    exact br_f (by decide) (br_f (by decide) (br_f (by decide) ⟨qa_ii 256 2 512 (by omega) (by omega), nm_r (qa_up _ _ (qa_ic 256 2 (by omega))) h⟩))
theorem op_27 : op_T 27 0 := by
  intro x1 l sa da rn cn sb p s sv iv c t tv jv e hp hlb H M N
  obtain ⟨s1, t1, c1, e1, rn1, cn1, H1, M1, ct1, X1, Y1⟩ := mp_wrp2 (sa := sa) (dg := nI 27) (da := da) (rn := rn) (cn := cn) (sv := sv) (iv := iv) (sb := sb) (tv := tv) (jv := jv) (st := 7) (st' := 0) (by decide) (by decide) (by decide) H M N
  obtain ⟨s', t', R, hE, hY⟩ := en_gen (sa := sa) (da := da) (rn := rn1) (cn := cn1) (sv := sv) (iv := iv) (c := c1) (sb := sb) (tv := tv) (jv := jv) (e := e1) (s := s1) (t := t1) (l := l) (o := nI 27) (fun a => a) (fun a => qa_ag0) (qa_agU (qa_agU qa_ag0 (by omega)) (by omega)) rfl rfl (by decide) (by decide) (by decide) (by decide) (hr_cml M1) hlb (H1) (M1)
    (fun Q h => by
        refine br_t (by decide) ⟨by decide, nm_r (e' := nI 2) (by decide) ⟨by decide, nm_r (e' := nI 3) (by decide) (br_t rfl ?_)⟩⟩
        refine br_f (by decide) (br_f (by decide) (br_t rfl ?_))
        exact br_t rfl h)
    (fun Q h => by
        refine br_t (by decide) ⟨by decide, nm_r (e' := nI 2) (by decide) ⟨by decide, nm_r (e' := nI 3) (by decide) (br_t rfl ?_)⟩⟩
        refine br_f (by decide) (br_f (by decide) (br_t rfl ?_))
        exact br_t rfl h)
  refine ⟨7, 1, s', t', _, e1, t1, da, rn1, cn1, ?_, Or.inr ⟨by decide, 0, rfl, st_last X1 hE⟩, op_Dof R ct1, by omega, ?_, hY⟩
  · exact Or.inl ⟨by omega, fun post h => ⟨by decide, nm_r (e' := nI 2) (by decide) ⟨by decide, br_t (by decide) (br_f (by decide) (br_t rfl h))⟩⟩⟩
  · refine Or.inr (Or.inl ⟨by omega, by omega, fun Q h => ?_⟩)
    rw [show (nI 27 - 16) / 4 = nI 2 by decide, show nI 27 &&& 3 = nI 3 by decide]
    refine br_f (by decide) (br_f (by decide) (br_t rfl ?_))
    exact Y1 _ h
