/-! the plain instructions: both sides -/
theorem hr_cml {l z : Int32} {s t : Nat → Int32} (M : hr_cm l z s t) : s 264 = l := M.2.2.2.2.2.2.2.2.2.2.2.2.2.2.2.2.1
theorem op_0 : op_T 0 0 := by
  intro x1 l sa da rn cn sb p s sv iv c t tv jv e hp hlb H M N
  obtain ⟨s', t', R, hE, hY⟩ := en_gen (sa := sa) (da := da) (rn := rn) (cn := cn) (sv := sv) (iv := iv) (c := c) (sb := sb) (tv := tv) (jv := jv) (e := e) (s := s) (t := t) (l := l) (o := nI 0) (fun a => a) (fun a => qa_ag0) (qa_agU (qa_agU qa_ag0 (by omega)) (by omega)) rfl rfl (by decide) (by decide) (by decide) (by decide) (hr_cml M) hlb (H) (M)
    (fun Q h => by
        exact br_f (by decide) (br_t (by decide) h))
    (fun Q h => by
        exact br_f (by decide) (br_t (by decide) h))
  refine ⟨0, 0, s', t', _, e, t, da, rn, cn, ?_, Or.inl ⟨rfl, rfl, hE⟩, op_Dof R (hr_ct0 N), by omega, ?_, hY⟩
  · exact Or.inr ⟨by omega, fun post h => br_t (by decide) h⟩
  · exact Or.inl ⟨by omega, fun Q h => br_f (by decide) (br_t (by decide) (br_t (by decide) h))⟩
theorem op_4 : op_T 4 0 := by
  intro x1 l sa da rn cn sb p s sv iv c t tv jv e hp hlb H M N
  obtain ⟨s1, t1, c1, e1, rn1, cn1, r1, H1, M1, ct1, f1, B1, X1, Y1⟩ := mp_pull (sa := sa) (dg := nI 4) (da := da) (rn := rn) (cn := cn) (sv := sv) (iv := iv) (sb := sb) (tv := tv) (jv := jv) (st := 52) (st' := 3)  (by decide) (by decide) H M N
  obtain ⟨s2, t2, c2, e2, rn2, cn2, H2, M2, ct2, f2, X2, Y2⟩ := mp_nop (sa := sa) (dg := nI 4) (da := r1) (rn := rn1) (cn := cn1) (sv := sv) (iv := iv) (sb := sb) (tv := tv) (jv := jv) (st := 3) (st' := 0)  (by decide) (by decide) H1 M1 ct1.2.2.2
  obtain ⟨s', t', R, hE, hY⟩ := en_gen (sa := sa) (da := r1) (rn := rn2) (cn := cn2) (sv := sv) (iv := iv) (c := c2) (sb := sb) (tv := tv) (jv := jv) (e := e2) (s := s2) (t := upd t2 260 r1) (l := l) (o := nI 4) (fun a => upd a 260 r1) (fun a => qa_agU qa_ag0 (by omega)) (qa_agB (qa_agU (qa_agU qa_ag0 (by omega)) (by omega))) rfl rfl (by decide) (by decide) (by decide) (by decide) (hr_cml M2) hlb (hr_HwY H2 (by omega)) (hr_cmB M2 (by omega) B1 rfl)
    (fun Q h => by
        exact br_f (by decide) (br_f (by decide) (br_f (by decide) (br_f (by decide) (br_f (by decide) (br_f (by decide) (br_t rfl (nm_e h))))))))
    (fun Q h => by
        exact br_f (by decide) (br_f (by decide) (br_f (by decide) (br_f (by decide) (br_f (by decide) (br_f (by decide) (br_t rfl (nm_e h))))))))
  refine ⟨52, 2, s', t', _, e2, upd t2 260 r1, r1, rn2, cn2, ?_, Or.inr ⟨by decide, 1, rfl, st_cons (by omega) X1 (by decide) (st_last X2 hE)⟩, op_Dof R (hr_ctT ct1 ct2), by omega, ?_, hY⟩
  · exact Or.inr ⟨by omega, fun post h => br_f (by decide) (br_f (by decide) (br_t rfl h))⟩
  · refine Or.inl ⟨by omega, fun Q h => br_f (by decide) (br_t (by decide) (br_f (by decide) (br_f (by decide) (br_f (by decide) (br_f (by decide) (br_t rfl ?_))))))⟩
    unfold wY_simple_104
    refine Y1 _ ?_
    refine Y2 _ ?_
    exact nm_e (br_f (by decide) h)
theorem op_6 : op_T 6 0 := by
  intro x1 l sa da rn cn sb p s sv iv c t tv jv e hp hlb H M N
  obtain ⟨s1, t1, c1, e1, rn1, cn1, H1, M1, ct1, f1, X1, Y1⟩ := mp_nop (sa := sa) (dg := nI 6) (da := da) (rn := rn) (cn := cn) (sv := sv) (iv := iv) (sb := sb) (tv := tv) (jv := jv) (st := 83) (st' := 5)  (by decide) (by decide) H M N
  obtain ⟨s2, t2, c2, e2, rn2, cn2, H2, M2, ct2, X2, Y2⟩ := mp_pusha (sa := sa) (dg := nI 6) (da := da) (rn := rn1) (cn := cn1) (sv := sv) (iv := iv) (sb := sb) (tv := tv) (jv := jv) (st := 5) (st' := 0) (hd := rfl) (by decide) (by decide) H1 M1 ct1.2.2.2
  obtain ⟨s', t', R, hE, hY⟩ := en_gen (sa := sa) (da := da) (rn := rn2) (cn := cn2) (sv := sv) (iv := iv) (c := c2) (sb := sb) (tv := tv) (jv := jv) (e := e2) (s := s2) (t := t2) (l := l) (o := nI 6) (fun a => a) (fun a => qa_ag0) (qa_agU (qa_agU qa_ag0 (by omega)) (by omega)) rfl rfl (by decide) (by decide) (by decide) (by decide) (hr_cml M2) hlb (H2) (M2)
    (fun Q h => by
        exact br_f (by decide) (br_f (by decide) (br_f (by decide) (br_f (by decide) (br_f (by decide) (br_f (by decide) (br_f (by decide) (br_f (by decide) (br_t rfl h)))))))))
    (fun Q h => by
        exact br_f (by decide) (br_f (by decide) (br_f (by decide) (br_f (by decide) (br_f (by decide) (br_f (by decide) (br_f (by decide) (br_f (by decide) (br_t rfl h)))))))))
  refine ⟨83, 2, s', t', _, e2, t2, da, rn2, cn2, ?_, Or.inr ⟨by decide, 1, rfl, st_cons (by omega) X1 (by decide) (st_last X2 hE)⟩, op_Dof R (hr_ctT ct1 ct2), by omega, ?_, hY⟩
  · exact Or.inr ⟨by omega, fun post h => br_f (by decide) (br_f (by decide) (br_f (by decide) (br_f (by decide) (br_t rfl h))))⟩
  · refine Or.inl ⟨by omega, fun Q h => br_f (by decide) (br_t (by decide) (br_f (by decide) (br_f (by decide) (br_f (by decide) (br_f (by decide) (br_f (by decide) (br_f (by decide) (br_t rfl ?_))))))))⟩
    refine Y1 _ ?_
    exact Y2 _ h
theorem op_7 : op_T 7 0 := by
  intro x1 l sa da rn cn sb p s sv iv c t tv jv e hp hlb H M N
  obtain ⟨s1, t1, c1, e1, rn1, cn1, r1, H1, M1, ct1, f1, B1, X1, Y1⟩ := mp_pull (sa := sa) (dg := nI 7) (da := da) (rn := rn) (cn := cn) (sv := sv) (iv := iv) (sb := sb) (tv := tv) (jv := jv) (st := 4) (st' := 0)  (by decide) (by decide) H M N
  obtain ⟨s', t', R, hE, hY⟩ := en_gen (sa := sa) (da := r1) (rn := rn1) (cn := cn1) (sv := sv) (iv := iv) (c := c1) (sb := sb) (tv := tv) (jv := jv) (e := e1) (s := s1) (t := upd t1 256 r1) (l := l) (o := nI 7) (fun a => upd a 256 r1) (fun a => qa_agU qa_ag0 (by omega)) (qa_agB (qa_agU (qa_agU qa_ag0 (by omega)) (by omega))) rfl rfl (by decide) (by decide) (by decide) (by decide) (hr_cml M1) hlb (hr_HwY H1 (by omega)) (hr_cmB M1 (by omega) B1 rfl)
    (fun Q h => by
        exact br_f (by decide) (br_f (by decide) (br_f (by decide) (br_f (by decide) (br_f (by decide) (br_f (by decide) (br_f (by decide) (br_f (by decide) (br_f (by decide) (br_t rfl (nm_e h)))))))))))
    (fun Q h => by
        exact br_f (by decide) (br_f (by decide) (br_f (by decide) (br_f (by decide) (br_f (by decide) (br_f (by decide) (br_f (by decide) (br_f (by decide) (br_f (by decide) (br_t rfl (nm_e h)))))))))))
  refine ⟨4, 1, s', t', _, e1, upd t1 256 r1, r1, rn1, cn1, ?_, Or.inr ⟨by decide, 0, rfl, st_last X1 hE⟩, op_Dof R ct1, by omega, ?_, hY⟩
  · exact Or.inr ⟨by omega, fun post h => br_f (by decide) (br_f (by decide) (br_f (by decide) (br_f (by decide) (br_f (by decide) (br_t rfl h)))))⟩
  · refine Or.inl ⟨by omega, fun Q h => br_f (by decide) (br_t (by decide) (br_f (by decide) (br_f (by decide) (br_f (by decide) (br_f (by decide) (br_f (by decide) (br_f (by decide) (br_f (by decide) (br_t rfl ?_)))))))))⟩
    exact Y1 _ (nm_e h)
theorem op_8 : op_T 8 0 := by
  intro x1 l sa da rn cn sb p s sv iv c t tv jv e hp hlb H M N
  obtain ⟨s1, t1, c1, e1, rn1, cn1, r1, H1, M1, ct1, f1, B1, X1, Y1⟩ := mp_next (sa := sa) (dg := nI 8) (da := da) (rn := rn) (cn := cn) (sv := sv) (iv := iv) (sb := sb) (tv := tv) (jv := jv) (st := 50) (st' := 3)  (by decide) (by decide) H M N
  obtain ⟨s2, t2, c2, e2, rn2, cn2, H2, M2, ct2, f2, X2, Y2⟩ := mp_nop (sa := sa) (dg := nI 8) (da := r1) (rn := rn1) (cn := cn1) (sv := sv) (iv := iv) (sb := sb) (tv := tv) (jv := jv) (st := 3) (st' := 0)  (by decide) (by decide) H1 M1 ct1.2.2.2
  obtain ⟨s', t', R, hE, hY⟩ := en_gen (sa := sa) (da := r1) (rn := rn2) (cn := cn2) (sv := sv) (iv := iv) (c := c2) (sb := sb) (tv := tv) (jv := jv) (e := e2) (s := s2) (t := upd t2 260 r1) (l := l) (o := nI 8) (fun a => upd a 260 r1) (fun a => qa_agU qa_ag0 (by omega)) (qa_agB (qa_agU (qa_agU qa_ag0 (by omega)) (by omega))) rfl rfl (by decide) (by decide) (by decide) (by decide) (hr_cml M2) hlb (hr_HwY H2 (by omega)) (hr_cmB M2 (by omega) B1 rfl)
    (fun Q h => by
        refine br_f (by decide) (br_f (by decide) (br_f (by decide) (br_f (by decide) (br_f (by decide) (br_f (by decide) (br_f (by decide) (br_f (by decide) (br_f (by decide) (br_f (by decide) (br_t rfl ?_))))))))))
        unfold wX_endPlain_165 wpX_doesJump
        exact br_t (by decide) (br_f (by decide) (nm_e h)))
    (fun Q h => by
        refine br_f (by decide) (br_f (by decide) (br_f (by decide) (br_f (by decide) (br_f (by decide) (br_f (by decide) (br_f (by decide) (br_f (by decide) (br_f (by decide) (br_f (by decide) (br_t rfl ?_))))))))))
        unfold wX_endPlain_165 wpX_doesJump
        exact br_t (by decide) (br_f (by decide) (nm_e h)))
  refine ⟨50, 2, s', t', _, e2, upd t2 260 r1, r1, rn2, cn2, ?_, Or.inr ⟨by decide, 1, rfl, st_cons (by omega) X1 (by decide) (st_last X2 hE)⟩, op_Dof R (hr_ctT ct1 ct2), by omega, ?_, hY⟩
  · refine Or.inr ⟨by omega, fun post h => br_f (by decide) (br_f (by decide) (br_f (by decide) (br_f (by decide) (br_f (by decide) (br_f (by decide) (br_t rfl ?_))))))⟩
    unfold wX_plainSteps_76 wpX_doesJump
    exact br_t (by decide) (br_f (by decide) h)
  · refine Or.inl ⟨by omega, fun Q h => br_t rfl ?_⟩
    unfold wY_simple_12
    refine Y1 _ ?_
    refine br_f (by decide) (br_f (by decide) (br_f (by decide) (br_f (by decide) (br_f (by decide) (br_f (by decide) (br_f (by decide) (br_f (by decide) (br_t rfl ?_))))))))
    unfold wpY_go
    refine Y2 _ ?_
    exact nm_e h
theorem op_9 : op_T 9 0 := by
  intro x1 l sa da rn cn sb p s sv iv c t tv jv e hp hlb H M N
  by_cases kc : s 261 = 1
  · obtain ⟨s1, t1, c1, e1, rn1, cn1, r1, H1, M1, ct1, f1, B1, X1, Y1⟩ := mp_next (sa := sa) (dg := nI 9) (da := da) (rn := rn) (cn := cn) (sv := sv) (iv := iv) (sb := sb) (tv := tv) (jv := jv) (st := 50) (st' := 3)  (by decide) (by decide) H M N
    obtain ⟨s2, t2, c2, e2, rn2, cn2, H2, M2, ct2, f2, X2, Y2⟩ := mp_nop (sa := sa) (dg := nI 9) (da := r1) (rn := rn1) (cn := cn1) (sv := sv) (iv := iv) (sb := sb) (tv := tv) (jv := jv) (st := 3) (st' := 0)  (by decide) (by decide) H1 M1 ct1.2.2.2
    have kE : s2 261 = s 261 := ((f2 261 (by unfold hr_RG; omega)).trans (f1 261 (by unfold hr_RG; omega)))
    have kY : t1 261 = s 261 := (M1.2.2.2.2.2.1).trans (f1 261 (by unfold hr_RG; omega))
    obtain ⟨s', t', R, hE, hY⟩ := en_gen (sa := sa) (da := r1) (rn := rn2) (cn := cn2) (sv := sv) (iv := iv) (c := c2) (sb := sb) (tv := tv) (jv := jv) (e := e2) (s := s2) (t := upd t2 260 r1) (l := l) (o := nI 9) (fun a => upd a 260 r1) (fun a => qa_agU qa_ag0 (by omega)) (qa_agB (qa_agU (qa_agU qa_ag0 (by omega)) (by omega))) rfl rfl (by decide) (by decide) (by decide) (by decide) (hr_cml M2) hlb (hr_HwY H2 (by omega)) (hr_cmB M2 (by omega) B1 rfl)
      (fun Q h => by
          refine br_f (by decide) (br_f (by decide) (br_f (by decide) (br_f (by decide) (br_f (by decide) (br_f (by decide) (br_f (by decide) (br_f (by decide) (br_f (by decide) (br_f (by decide) (br_f (by decide) (br_t rfl ?_)))))))))))
          unfold wX_endPlain_165 wpX_doesJump
          exact br_f (by decide) (br_f (by decide) (br_t rfl (br_t (show s2 261 = 1 by rw [kE]; exact kc) (br_f (by decide) (nm_e h))))))
      (fun Q h => by
          refine br_f (by decide) (br_f (by decide) (br_f (by decide) (br_f (by decide) (br_f (by decide) (br_f (by decide) (br_f (by decide) (br_f (by decide) (br_f (by decide) (br_f (by decide) (br_f (by decide) (br_t rfl ?_)))))))))))
          unfold wX_endPlain_165 wpX_doesJump
          exact br_f (by decide) (br_f (by decide) (br_t rfl (br_t (show s2 261 = 1 by rw [kE]; exact kc) (br_f (by decide) (nm_e h))))))
    refine ⟨50, 2, s', t', _, e2, upd t2 260 r1, r1, rn2, cn2, ?_, Or.inr ⟨by decide, 1, rfl, st_cons (by omega) X1 (by decide) (st_last X2 hE)⟩, op_Dof R (hr_ctT ct1 ct2), by omega, ?_, hY⟩
    · refine Or.inr ⟨by omega, fun post h => br_f (by decide) (br_f (by decide) (br_f (by decide) (br_f (by decide) (br_f (by decide) (br_f (by decide) (br_f (by decide) (br_t rfl ?_)))))))⟩
      unfold wX_plainSteps_76 wpX_doesJump
      exact br_f (by decide) (br_f (by decide) (br_t rfl (br_t kc (br_f (by decide) h))))
    · refine Or.inl ⟨by omega, fun Q h => br_f (by decide) (br_f (by decide) ?_)⟩
      unfold wY_simple_12
      refine Y1 _ ?_
      refine br_f (by decide) (br_f (by decide) (br_f (by decide) (br_f (by decide) (br_f (by decide) (br_f (by decide) (br_f (by decide) (br_f (by decide) (br_f (by decide) (br_t rfl (br_t (show t1 261 = 1 by rw [kY]; exact kc) ?_))))))))))
      unfold wpY_go
      refine Y2 _ ?_
      exact nm_e h
  · obtain ⟨s1, t1, c1, e1, rn1, cn1, r1, H1, M1, ct1, f1, B1, X1, Y1⟩ := mp_next (sa := sa) (dg := nI 9) (da := da) (rn := rn) (cn := cn) (sv := sv) (iv := iv) (sb := sb) (tv := tv) (jv := jv) (st := 2) (st' := 0)  (by decide) (by decide) H M N
    have kE : s1 261 = s 261 := ((f1 261 (by unfold hr_RG; omega)))
    have kY : t1 261 = s 261 := (M1.2.2.2.2.2.1).trans (f1 261 (by unfold hr_RG; omega))
    obtain ⟨s', t', R, hE, hY⟩ := en_gen (sa := sa) (da := r1) (rn := rn1) (cn := cn1) (sv := sv) (iv := iv) (c := c1) (sb := sb) (tv := tv) (jv := jv) (e := e1) (s := s1) (t := t1) (l := l) (o := nI 9) (fun a => a) (fun a => qa_ag0) (qa_agU (qa_agU qa_ag0 (by omega)) (by omega)) rfl rfl (by decide) (by decide) (by decide) (by decide) (hr_cml M1) hlb (H1) (M1)
      (fun Q h => by
          refine br_f (by decide) (br_f (by decide) (br_f (by decide) (br_f (by decide) (br_f (by decide) (br_f (by decide) (br_f (by decide) (br_f (by decide) (br_f (by decide) (br_f (by decide) (br_f (by decide) (br_t rfl ?_)))))))))))
          unfold wX_endPlain_165 wpX_doesJump
          exact br_f (by decide) (br_f (by decide) (br_t rfl (br_f (show ¬ s1 261 = 1 by rw [kE]; exact kc) (br_t rfl h)))))
      (fun Q h => by
          refine br_f (by decide) (br_f (by decide) (br_f (by decide) (br_f (by decide) (br_f (by decide) (br_f (by decide) (br_f (by decide) (br_f (by decide) (br_f (by decide) (br_f (by decide) (br_f (by decide) (br_t rfl ?_)))))))))))
          unfold wX_endPlain_165 wpX_doesJump
          exact br_f (by decide) (br_f (by decide) (br_t rfl (br_f (show ¬ s1 261 = 1 by rw [kE]; exact kc) (br_t rfl h)))))
    refine ⟨2, 1, s', t', _, e1, t1, r1, rn1, cn1, ?_, Or.inr ⟨by decide, 0, rfl, st_last X1 hE⟩, op_Dof R ct1, by omega, ?_, hY⟩
    · refine Or.inr ⟨by omega, fun post h => br_f (by decide) (br_f (by decide) (br_f (by decide) (br_f (by decide) (br_f (by decide) (br_f (by decide) (br_f (by decide) (br_t rfl ?_)))))))⟩
      unfold wX_plainSteps_76 wpX_doesJump
      exact br_f (by decide) (br_f (by decide) (br_t rfl (br_f kc (br_t rfl h))))
    · refine Or.inl ⟨by omega, fun Q h => br_f (by decide) (br_f (by decide) ?_)⟩
      unfold wY_simple_12
      refine Y1 _ ?_
      refine br_f (by decide) (br_f (by decide) (br_f (by decide) (br_f (by decide) (br_f (by decide) (br_f (by decide) (br_f (by decide) (br_f (by decide) (br_f (by decide) (br_t rfl (br_f (show ¬ t1 261 = 1 by rw [kY]; exact kc) ?_))))))))))
      exact h
theorem op_10 : op_T 10 0 := by
  intro x1 l sa da rn cn sb p s sv iv c t tv jv e hp hlb H M N
  by_cases kc : s 261 = 0
  · obtain ⟨s1, t1, c1, e1, rn1, cn1, r1, H1, M1, ct1, f1, B1, X1, Y1⟩ := mp_next (sa := sa) (dg := nI 10) (da := da) (rn := rn) (cn := cn) (sv := sv) (iv := iv) (sb := sb) (tv := tv) (jv := jv) (st := 50) (st' := 3)  (by decide) (by decide) H M N
    obtain ⟨s2, t2, c2, e2, rn2, cn2, H2, M2, ct2, f2, X2, Y2⟩ := mp_nop (sa := sa) (dg := nI 10) (da := r1) (rn := rn1) (cn := cn1) (sv := sv) (iv := iv) (sb := sb) (tv := tv) (jv := jv) (st := 3) (st' := 0)  (by decide) (by decide) H1 M1 ct1.2.2.2
    have kE : s2 261 = s 261 := ((f2 261 (by unfold hr_RG; omega)).trans (f1 261 (by unfold hr_RG; omega)))
    have kY : t1 261 = s 261 := (M1.2.2.2.2.2.1).trans (f1 261 (by unfold hr_RG; omega))
    obtain ⟨s', t', R, hE, hY⟩ := en_gen (sa := sa) (da := r1) (rn := rn2) (cn := cn2) (sv := sv) (iv := iv) (c := c2) (sb := sb) (tv := tv) (jv := jv) (e := e2) (s := s2) (t := upd t2 260 r1) (l := l) (o := nI 10) (fun a => upd a 260 r1) (fun a => qa_agU qa_ag0 (by omega)) (qa_agB (qa_agU (qa_agU qa_ag0 (by omega)) (by omega))) rfl rfl (by decide) (by decide) (by decide) (by decide) (hr_cml M2) hlb (hr_HwY H2 (by omega)) (hr_cmB M2 (by omega) B1 rfl)
      (fun Q h => by
          refine br_f (by decide) (br_f (by decide) (br_f (by decide) (br_f (by decide) (br_f (by decide) (br_f (by decide) (br_f (by decide) (br_f (by decide) (br_f (by decide) (br_f (by decide) (br_f (by decide) (br_f (by decide) (br_t rfl ?_))))))))))))
          unfold wX_endPlain_165 wpX_doesJump
          exact br_f (by decide) (br_f (by decide) (br_f (by decide) (br_t rfl (br_t (show s2 261 = 0 by rw [kE]; exact kc) (br_f (by decide) (nm_e h)))))))
      (fun Q h => by
          refine br_f (by decide) (br_f (by decide) (br_f (by decide) (br_f (by decide) (br_f (by decide) (br_f (by decide) (br_f (by decide) (br_f (by decide) (br_f (by decide) (br_f (by decide) (br_f (by decide) (br_f (by decide) (br_t rfl ?_))))))))))))
          unfold wX_endPlain_165 wpX_doesJump
          exact br_f (by decide) (br_f (by decide) (br_f (by decide) (br_t rfl (br_t (show s2 261 = 0 by rw [kE]; exact kc) (br_f (by decide) (nm_e h)))))))
    refine ⟨50, 2, s', t', _, e2, upd t2 260 r1, r1, rn2, cn2, ?_, Or.inr ⟨by decide, 1, rfl, st_cons (by omega) X1 (by decide) (st_last X2 hE)⟩, op_Dof R (hr_ctT ct1 ct2), by omega, ?_, hY⟩
    · refine Or.inr ⟨by omega, fun post h => br_f (by decide) (br_f (by decide) (br_f (by decide) (br_f (by decide) (br_f (by decide) (br_f (by decide) (br_f (by decide) (br_f (by decide) (br_t rfl ?_))))))))⟩
      unfold wX_plainSteps_76 wpX_doesJump
      exact br_f (by decide) (br_f (by decide) (br_f (by decide) (br_t rfl (br_t kc (br_f (by decide) h)))))
    · refine Or.inl ⟨by omega, fun Q h => br_f (by decide) (br_f (by decide) ?_)⟩
      unfold wY_simple_12
      refine Y1 _ ?_
      refine br_f (by decide) (br_f (by decide) (br_f (by decide) (br_f (by decide) (br_f (by decide) (br_f (by decide) (br_f (by decide) (br_f (by decide) (br_f (by decide) (br_f (by decide) (br_t rfl (br_t (show t1 261 = 0 by rw [kY]; exact kc) ?_)))))))))))
      unfold wpY_go
      refine Y2 _ ?_
      exact nm_e h
  · obtain ⟨s1, t1, c1, e1, rn1, cn1, r1, H1, M1, ct1, f1, B1, X1, Y1⟩ := mp_next (sa := sa) (dg := nI 10) (da := da) (rn := rn) (cn := cn) (sv := sv) (iv := iv) (sb := sb) (tv := tv) (jv := jv) (st := 2) (st' := 0)  (by decide) (by decide) H M N
    have kE : s1 261 = s 261 := ((f1 261 (by unfold hr_RG; omega)))
    have kY : t1 261 = s 261 := (M1.2.2.2.2.2.1).trans (f1 261 (by unfold hr_RG; omega))
    obtain ⟨s', t', R, hE, hY⟩ := en_gen (sa := sa) (da := r1) (rn := rn1) (cn := cn1) (sv := sv) (iv := iv) (c := c1) (sb := sb) (tv := tv) (jv := jv) (e := e1) (s := s1) (t := t1) (l := l) (o := nI 10) (fun a => a) (fun a => qa_ag0) (qa_agU (qa_agU qa_ag0 (by omega)) (by omega)) rfl rfl (by decide) (by decide) (by decide) (by decide) (hr_cml M1) hlb (H1) (M1)
      (fun Q h => by
          refine br_f (by decide) (br_f (by decide) (br_f (by decide) (br_f (by decide) (br_f (by decide) (br_f (by decide) (br_f (by decide) (br_f (by decide) (br_f (by decide) (br_f (by decide) (br_f (by decide) (br_f (by decide) (br_t rfl ?_))))))))))))
          unfold wX_endPlain_165 wpX_doesJump
          exact br_f (by decide) (br_f (by decide) (br_f (by decide) (br_t rfl (br_f (show ¬ s1 261 = 0 by rw [kE]; exact kc) (br_t rfl h))))))
      (fun Q h => by
          refine br_f (by decide) (br_f (by decide) (br_f (by decide) (br_f (by decide) (br_f (by decide) (br_f (by decide) (br_f (by decide) (br_f (by decide) (br_f (by decide) (br_f (by decide) (br_f (by decide) (br_f (by decide) (br_t rfl ?_))))))))))))
          unfold wX_endPlain_165 wpX_doesJump
          exact br_f (by decide) (br_f (by decide) (br_f (by decide) (br_t rfl (br_f (show ¬ s1 261 = 0 by rw [kE]; exact kc) (br_t rfl h))))))
    refine ⟨2, 1, s', t', _, e1, t1, r1, rn1, cn1, ?_, Or.inr ⟨by decide, 0, rfl, st_last X1 hE⟩, op_Dof R ct1, by omega, ?_, hY⟩
    · refine Or.inr ⟨by omega, fun post h => br_f (by decide) (br_f (by decide) (br_f (by decide) (br_f (by decide) (br_f (by decide) (br_f (by decide) (br_f (by decide) (br_f (by decide) (br_t rfl ?_))))))))⟩
      unfold wX_plainSteps_76 wpX_doesJump
      exact br_f (by decide) (br_f (by decide) (br_f (by decide) (br_t rfl (br_f kc (br_t rfl h)))))
    · refine Or.inl ⟨by omega, fun Q h => br_f (by decide) (br_f (by decide) ?_)⟩
      unfold wY_simple_12
      refine Y1 _ ?_
      refine br_f (by decide) (br_f (by decide) (br_f (by decide) (br_f (by decide) (br_f (by decide) (br_f (by decide) (br_f (by decide) (br_f (by decide) (br_f (by decide) (br_f (by decide) (br_t rfl (br_f (show ¬ t1 261 = 0 by rw [kY]; exact kc) ?_)))))))))))
      exact h
theorem op_11 : op_T 11 0 := by
  intro x1 l sa da rn cn sb p s sv iv c t tv jv e hp hlb H M N
  by_cases kc : s 262 = 1
  · obtain ⟨s1, t1, c1, e1, rn1, cn1, r1, H1, M1, ct1, f1, B1, X1, Y1⟩ := mp_next (sa := sa) (dg := nI 11) (da := da) (rn := rn) (cn := cn) (sv := sv) (iv := iv) (sb := sb) (tv := tv) (jv := jv) (st := 50) (st' := 3)  (by decide) (by decide) H M N
    obtain ⟨s2, t2, c2, e2, rn2, cn2, H2, M2, ct2, f2, X2, Y2⟩ := mp_nop (sa := sa) (dg := nI 11) (da := r1) (rn := rn1) (cn := cn1) (sv := sv) (iv := iv) (sb := sb) (tv := tv) (jv := jv) (st := 3) (st' := 0)  (by decide) (by decide) H1 M1 ct1.2.2.2
    have kE : s2 262 = s 262 := ((f2 262 (by unfold hr_RG; omega)).trans (f1 262 (by unfold hr_RG; omega)))
    have kY : t1 262 = s 262 := (M1.2.2.2.2.2.2.1).trans (f1 262 (by unfold hr_RG; omega))
    obtain ⟨s', t', R, hE, hY⟩ := en_gen (sa := sa) (da := r1) (rn := rn2) (cn := cn2) (sv := sv) (iv := iv) (c := c2) (sb := sb) (tv := tv) (jv := jv) (e := e2) (s := s2) (t := upd t2 260 r1) (l := l) (o := nI 11) (fun a => upd a 260 r1) (fun a => qa_agU qa_ag0 (by omega)) (qa_agB (qa_agU (qa_agU qa_ag0 (by omega)) (by omega))) rfl rfl (by decide) (by decide) (by decide) (by decide) (hr_cml M2) hlb (hr_HwY H2 (by omega)) (hr_cmB M2 (by omega) B1 rfl)
      (fun Q h => by
          refine br_f (by decide) (br_f (by decide) (br_f (by decide) (br_f (by decide) (br_f (by decide) (br_f (by decide) (br_f (by decide) (br_f (by decide) (br_f (by decide) (br_f (by decide) (br_f (by decide) (br_f (by decide) (br_f (by decide) (br_t rfl ?_)))))))))))))
          unfold wX_endPlain_165 wpX_doesJump
          exact br_f (by decide) (br_f (by decide) (br_f (by decide) (br_f (by decide) (br_t rfl (br_t (show s2 262 = 1 by rw [kE]; exact kc) (br_f (by decide) (nm_e h))))))))
      (fun Q h => by
          refine br_f (by decide) (br_f (by decide) (br_f (by decide) (br_f (by decide) (br_f (by decide) (br_f (by decide) (br_f (by decide) (br_f (by decide) (br_f (by decide) (br_f (by decide) (br_f (by decide) (br_f (by decide) (br_f (by decide) (br_t rfl ?_)))))))))))))
          unfold wX_endPlain_165 wpX_doesJump
          exact br_f (by decide) (br_f (by decide) (br_f (by decide) (br_f (by decide) (br_t rfl (br_t (show s2 262 = 1 by rw [kE]; exact kc) (br_f (by decide) (nm_e h))))))))
    refine ⟨50, 2, s', t', _, e2, upd t2 260 r1, r1, rn2, cn2, ?_, Or.inr ⟨by decide, 1, rfl, st_cons (by omega) X1 (by decide) (st_last X2 hE)⟩, op_Dof R (hr_ctT ct1 ct2), by omega, ?_, hY⟩
    · refine Or.inr ⟨by omega, fun post h => br_f (by decide) (br_f (by decide) (br_f (by decide) (br_f (by decide) (br_f (by decide) (br_f (by decide) (br_f (by decide) (br_f (by decide) (br_f (by decide) (br_t rfl ?_)))))))))⟩
      unfold wX_plainSteps_76 wpX_doesJump
      exact br_f (by decide) (br_f (by decide) (br_f (by decide) (br_f (by decide) (br_t rfl (br_t kc (br_f (by decide) h))))))
    · refine Or.inl ⟨by omega, fun Q h => br_f (by decide) (br_f (by decide) ?_)⟩
      unfold wY_simple_12
      refine Y1 _ ?_
      refine br_f (by decide) (br_f (by decide) (br_f (by decide) (br_f (by decide) (br_f (by decide) (br_f (by decide) (br_f (by decide) (br_f (by decide) (br_f (by decide) (br_f (by decide) (br_f (by decide) (br_t rfl (br_t (show t1 262 = 1 by rw [kY]; exact kc) ?_))))))))))))
      unfold wpY_go
      refine Y2 _ ?_
      exact nm_e h
  · obtain ⟨s1, t1, c1, e1, rn1, cn1, r1, H1, M1, ct1, f1, B1, X1, Y1⟩ := mp_next (sa := sa) (dg := nI 11) (da := da) (rn := rn) (cn := cn) (sv := sv) (iv := iv) (sb := sb) (tv := tv) (jv := jv) (st := 2) (st' := 0)  (by decide) (by decide) H M N
    have kE : s1 262 = s 262 := ((f1 262 (by unfold hr_RG; omega)))
    have kY : t1 262 = s 262 := (M1.2.2.2.2.2.2.1).trans (f1 262 (by unfold hr_RG; omega))
    obtain ⟨s', t', R, hE, hY⟩ := en_gen (sa := sa) (da := r1) (rn := rn1) (cn := cn1) (sv := sv) (iv := iv) (c := c1) (sb := sb) (tv := tv) (jv := jv) (e := e1) (s := s1) (t := t1) (l := l) (o := nI 11) (fun a => a) (fun a => qa_ag0) (qa_agU (qa_agU qa_ag0 (by omega)) (by omega)) rfl rfl (by decide) (by decide) (by decide) (by decide) (hr_cml M1) hlb (H1) (M1)
      (fun Q h => by
          refine br_f (by decide) (br_f (by decide) (br_f (by decide) (br_f (by decide) (br_f (by decide) (br_f (by decide) (br_f (by decide) (br_f (by decide) (br_f (by decide) (br_f (by decide) (br_f (by decide) (br_f (by decide) (br_f (by decide) (br_t rfl ?_)))))))))))))
          unfold wX_endPlain_165 wpX_doesJump
          exact br_f (by decide) (br_f (by decide) (br_f (by decide) (br_f (by decide) (br_t rfl (br_f (show ¬ s1 262 = 1 by rw [kE]; exact kc) (br_t rfl h)))))))
      (fun Q h => by
          refine br_f (by decide) (br_f (by decide) (br_f (by decide) (br_f (by decide) (br_f (by decide) (br_f (by decide) (br_f (by decide) (br_f (by decide) (br_f (by decide) (br_f (by decide) (br_f (by decide) (br_f (by decide) (br_f (by decide) (br_t rfl ?_)))))))))))))
          unfold wX_endPlain_165 wpX_doesJump
          exact br_f (by decide) (br_f (by decide) (br_f (by decide) (br_f (by decide) (br_t rfl (br_f (show ¬ s1 262 = 1 by rw [kE]; exact kc) (br_t rfl h)))))))
    refine ⟨2, 1, s', t', _, e1, t1, r1, rn1, cn1, ?_, Or.inr ⟨by decide, 0, rfl, st_last X1 hE⟩, op_Dof R ct1, by omega, ?_, hY⟩
    · refine Or.inr ⟨by omega, fun post h => br_f (by decide) (br_f (by decide) (br_f (by decide) (br_f (by decide) (br_f (by decide) (br_f (by decide) (br_f (by decide) (br_f (by decide) (br_f (by decide) (br_t rfl ?_)))))))))⟩
      unfold wX_plainSteps_76 wpX_doesJump
      exact br_f (by decide) (br_f (by decide) (br_f (by decide) (br_f (by decide) (br_t rfl (br_f kc (br_t rfl h))))))
    · refine Or.inl ⟨by omega, fun Q h => br_f (by decide) (br_f (by decide) ?_)⟩
      unfold wY_simple_12
      refine Y1 _ ?_
      refine br_f (by decide) (br_f (by decide) (br_f (by decide) (br_f (by decide) (br_f (by decide) (br_f (by decide) (br_f (by decide) (br_f (by decide) (br_f (by decide) (br_f (by decide) (br_f (by decide) (br_t rfl (br_f (show ¬ t1 262 = 1 by rw [kY]; exact kc) ?_))))))))))))
      exact h
theorem op_12 : op_T 12 0 := by
  intro x1 l sa da rn cn sb p s sv iv c t tv jv e hp hlb H M N
  obtain ⟨s1, t1, c1, e1, rn1, cn1, r1, H1, M1, ct1, f1, B1, X1, Y1⟩ := mp_next (sa := sa) (dg := nI 12) (da := da) (rn := rn) (cn := cn) (sv := sv) (iv := iv) (sb := sb) (tv := tv) (jv := jv) (st := 1330) (st' := 83)  (by decide) (by decide) H M N
  obtain ⟨s2, t2, c2, e2, rn2, cn2, H2, M2, ct2, f2, X2, Y2⟩ := mp_nop (sa := sa) (dg := nI 12) (da := r1) (rn := rn1) (cn := cn1) (sv := sv) (iv := iv) (sb := sb) (tv := tv) (jv := jv) (st := 83) (st' := 5)  (by decide) (by decide) H1 M1 ct1.2.2.2
  obtain ⟨s3, t3, c3, e3, rn3, cn3, H3, M3, ct3, X3, Y3⟩ := mp_pushp (sa := sa) (dg := nI 12) (da := r1) (rn := rn2) (cn := cn2) (sv := sv) (iv := iv) (sb := sb) (tv := tv) (jv := jv) (st := 5) (st' := 0) (hd := by decide) (by decide) (by decide) H2 M2 ct2.2.2.2
  obtain ⟨s', t', R, hE, hY⟩ := en_gen (sa := sa) (da := r1) (rn := rn3) (cn := cn3) (sv := sv) (iv := iv) (c := c3) (sb := sb) (tv := tv) (jv := jv) (e := e3) (s := s3) (t := upd t3 260 r1) (l := l) (o := nI 12) (fun a => upd a 260 r1) (fun a => qa_agU qa_ag0 (by omega)) (qa_agB (qa_agU (qa_agU qa_ag0 (by omega)) (by omega))) rfl rfl (by decide) (by decide) (by decide) (by decide) (hr_cml M3) hlb (hr_HwY H3 (by omega)) (hr_cmB M3 (by omega) B1 rfl)
    (fun Q h => by
        exact br_f (by decide) (br_f (by decide) (br_f (by decide) (br_f (by decide) (br_f (by decide) (br_f (by decide) (br_f (by decide) (br_f (by decide) (br_f (by decide) (br_f (by decide) (br_f (by decide) (br_f (by decide) (br_f (by decide) (br_f (by decide) (br_t rfl (nm_e h))))))))))))))))
    (fun Q h => by
        exact br_f (by decide) (br_f (by decide) (br_f (by decide) (br_f (by decide) (br_f (by decide) (br_f (by decide) (br_f (by decide) (br_f (by decide) (br_f (by decide) (br_f (by decide) (br_f (by decide) (br_f (by decide) (br_f (by decide) (br_f (by decide) (br_t rfl (nm_e h))))))))))))))))
  refine ⟨1330, 3, s', t', _, e3, upd t3 260 r1, r1, rn3, cn3, ?_, Or.inr ⟨by decide, 2, rfl, st_cons (by omega) X1 (by decide) (st_cons (by omega) X2 (by decide) (st_last X3 hE))⟩, op_Dof R (hr_ctT (hr_ctT ct1 ct2) ct3), by omega, ?_, hY⟩
  · exact Or.inr ⟨by omega, fun post h => br_f (by decide) (br_f (by decide) (br_f (by decide) (br_f (by decide) (br_f (by decide) (br_f (by decide) (br_f (by decide) (br_f (by decide) (br_f (by decide) (br_f (by decide) (br_t rfl h))))))))))⟩
  · refine Or.inl ⟨by omega, fun Q h => br_f (by decide) (br_f (by decide) ?_)⟩
    unfold wY_simple_12
    refine Y1 _ ?_
    refine br_f (by decide) (br_f (by decide) (br_f (by decide) (br_f (by decide) (br_f (by decide) (br_f (by decide) (br_f (by decide) (br_f (by decide) (br_f (by decide) (br_f (by decide) (br_f (by decide) (br_f (by decide) (br_t rfl ?_))))))))))))
    refine Y2 _ ?_
    refine Y3 _ ?_
    exact nm_e h
theorem op_13 : op_T 13 0 := by
  intro x1 l sa da rn cn sb p s sv iv c t tv jv e hp hlb H M N
  obtain ⟨s1, t1, c1, e1, rn1, cn1, r1, H1, M1, ct1, f1, B1, X1, Y1⟩ := mp_next (sa := sa) (dg := nI 13) (da := da) (rn := rn) (cn := cn) (sv := sv) (iv := iv) (sb := sb) (tv := tv) (jv := jv) (st := 130) (st' := 8)  (by decide) (by decide) H M N
  obtain ⟨s2, t2, c2, e2, rn2, cn2, r2, H2, M2, ct2, f2, B2, X2, Y2⟩ := mp_rdn (sa := sa) (dg := nI 13) (da := r1) (rn := rn1) (cn := cn1) (sv := sv) (iv := iv) (sb := sb) (tv := tv) (jv := jv) (st := 8) (st' := 0) B1 (by decide) (by decide) H1 M1 ct1.2.2.2
  obtain ⟨s', t', R, hE, hY⟩ := en_gen (sa := sa) (da := r2) (rn := rn2) (cn := cn2) (sv := sv) (iv := iv) (c := c2) (sb := sb) (tv := tv) (jv := jv) (e := e2) (s := s2) (t := upd t2 256 r2) (l := l) (o := nI 13) (fun a => upd a 256 r2) (fun a => qa_agU qa_ag0 (by omega)) (qa_agB (qa_agU (qa_agU qa_ag0 (by omega)) (by omega))) rfl rfl (by decide) (by decide) (by decide) (by decide) (hr_cml M2) hlb (hr_HwY H2 (by omega)) (hr_cmB M2 (by omega) B2 rfl)
    (fun Q h => by
        exact br_f (by decide) (br_f (by decide) (br_f (by decide) (br_f (by decide) (br_f (by decide) (br_f (by decide) (br_f (by decide) (br_f (by decide) (br_f (by decide) (br_f (by decide) (br_f (by decide) (br_f (by decide) (br_f (by decide) (br_f (by decide) (br_f (by decide) (br_t rfl (nm_e h)))))))))))))))))
    (fun Q h => by
        exact br_f (by decide) (br_f (by decide) (br_f (by decide) (br_f (by decide) (br_f (by decide) (br_f (by decide) (br_f (by decide) (br_f (by decide) (br_f (by decide) (br_f (by decide) (br_f (by decide) (br_f (by decide) (br_f (by decide) (br_f (by decide) (br_f (by decide) (br_t rfl (nm_e h)))))))))))))))))
  refine ⟨130, 2, s', t', _, e2, upd t2 256 r2, r2, rn2, cn2, ?_, Or.inr ⟨by decide, 1, rfl, st_cons (by omega) X1 (by decide) (st_last X2 hE)⟩, op_Dof R (hr_ctT ct1 ct2), by omega, ?_, hY⟩
  · exact Or.inr ⟨by omega, fun post h => br_f (by decide) (br_f (by decide) (br_f (by decide) (br_f (by decide) (br_f (by decide) (br_f (by decide) (br_f (by decide) (br_f (by decide) (br_f (by decide) (br_f (by decide) (br_f (by decide) (br_t rfl h)))))))))))⟩
  · refine Or.inl ⟨by omega, fun Q h => br_f (by decide) (br_f (by decide) ?_)⟩
    unfold wY_simple_12
    refine Y1 _ ?_
    refine br_f (by decide) (br_f (by decide) (br_f (by decide) (br_f (by decide) (br_f (by decide) (br_f (by decide) (br_f (by decide) (br_f (by decide) (br_f (by decide) (br_f (by decide) (br_f (by decide) (br_f (by decide) (br_f (by decide) (br_t rfl ?_)))))))))))))
    refine Y2 _ ?_
    exact nm_e h
theorem op_14 : op_T 14 0 := by
  intro x1 l sa da rn cn sb p s sv iv c t tv jv e hp hlb H M N
  obtain ⟨s1, t1, c1, e1, rn1, cn1, r1, H1, M1, ct1, f1, B1, X1, Y1⟩ := mp_next (sa := sa) (dg := nI 14) (da := da) (rn := rn) (cn := cn) (sv := sv) (iv := iv) (sb := sb) (tv := tv) (jv := jv) (st := 146) (st' := 9)  (by decide) (by decide) H M N
  obtain ⟨s2, t2, c2, e2, rn2, cn2, H2, M2, ct2, X2, Y2⟩ := mp_wrn (sa := sa) (dg := nI 14) (da := r1) (rn := rn1) (cn := cn1) (sv := sv) (iv := iv) (sb := sb) (tv := tv) (jv := jv) (st := 9) (st' := 0) B1 (by decide) (by decide) H1 M1 ct1.2.2.2
  obtain ⟨s', t', R, hE, hY⟩ := en_gen (sa := sa) (da := r1) (rn := rn2) (cn := cn2) (sv := sv) (iv := iv) (c := c2) (sb := sb) (tv := tv) (jv := jv) (e := e2) (s := s2) (t := t2) (l := l) (o := nI 14) (fun a => a) (fun a => qa_ag0) (qa_agU (qa_agU qa_ag0 (by omega)) (by omega)) rfl rfl (by decide) (by decide) (by decide) (by decide) (hr_cml M2) hlb (H2) (M2)
    (fun Q h => by
        exact br_f (by decide) (br_f (by decide) (br_f (by decide) (br_f (by decide) (br_f (by decide) (br_f (by decide) (br_f (by decide) (br_f (by decide) (br_f (by decide) (br_f (by decide) (br_f (by decide) (br_f (by decide) (br_f (by decide) (br_f (by decide) (br_f (by decide) (br_f (by decide) (br_t rfl h)))))))))))))))))
    (fun Q h => by
        exact br_f (by decide) (br_f (by decide) (br_f (by decide) (br_f (by decide) (br_f (by decide) (br_f (by decide) (br_f (by decide) (br_f (by decide) (br_f (by decide) (br_f (by decide) (br_f (by decide) (br_f (by decide) (br_f (by decide) (br_f (by decide) (br_f (by decide) (br_f (by decide) (br_t rfl h)))))))))))))))))
  refine ⟨146, 2, s', t', _, e2, t2, r1, rn2, cn2, ?_, Or.inr ⟨by decide, 1, rfl, st_cons (by omega) X1 (by decide) (st_last X2 hE)⟩, op_Dof R (hr_ctT ct1 ct2), by omega, ?_, hY⟩
  · exact Or.inr ⟨by omega, fun post h => br_f (by decide) (br_f (by decide) (br_f (by decide) (br_f (by decide) (br_f (by decide) (br_f (by decide) (br_f (by decide) (br_f (by decide) (br_f (by decide) (br_f (by decide) (br_f (by decide) (br_f (by decide) (br_t rfl h))))))))))))⟩
  · refine Or.inl ⟨by omega, fun Q h => br_f (by decide) (br_f (by decide) ?_)⟩
    unfold wY_simple_12
    refine Y1 _ ?_
    refine br_f (by decide) (br_f (by decide) (br_f (by decide) (br_f (by decide) (br_f (by decide) (br_f (by decide) (br_f (by decide) (br_f (by decide) (br_f (by decide) (br_f (by decide) (br_f (by decide) (br_f (by decide) (br_f (by decide) (br_f (by decide) (br_t rfl ?_))))))))))))))
    exact Y2 _ h
theorem op_15 : op_T 15 0 := by
  intro x1 l sa da rn cn sb p s sv iv c t tv jv e hp hlb H M N
  obtain ⟨s1, t1, c1, e1, rn1, cn1, r1, H1, M1, ct1, f1, B1, X1, Y1⟩ := mp_next (sa := sa) (dg := nI 15) (da := da) (rn := rn) (cn := cn) (sv := sv) (iv := iv) (sb := sb) (tv := tv) (jv := jv) (st := 2) (st' := 0)  (by decide) (by decide) H M N
  obtain ⟨s', t', R, hE, hY⟩ := en_gen (sa := sa) (da := r1) (rn := rn1) (cn := cn1) (sv := sv) (iv := iv) (c := c1) (sb := sb) (tv := tv) (jv := jv) (e := e1) (s := s1) (t := upd t1 259 r1) (l := l) (o := nI 15) (fun a => upd a 259 r1) (fun a => qa_agU qa_ag0 (by omega)) (qa_agB (qa_agU (qa_agU qa_ag0 (by omega)) (by omega))) rfl rfl (by decide) (by decide) (by decide) (by decide) (hr_cml M1) hlb (hr_HwY H1 (by omega)) (hr_cmB M1 (by omega) B1 rfl)
    (fun Q h => by
        exact br_f (by decide) (br_f (by decide) (br_f (by decide) (br_f (by decide) (br_f (by decide) (br_f (by decide) (br_f (by decide) (br_f (by decide) (br_f (by decide) (br_f (by decide) (br_f (by decide) (br_f (by decide) (br_f (by decide) (br_f (by decide) (br_f (by decide) (br_f (by decide) (br_f (by decide) (br_t rfl (nm_e h)))))))))))))))))))
    (fun Q h => by
        exact br_f (by decide) (br_f (by decide) (br_f (by decide) (br_f (by decide) (br_f (by decide) (br_f (by decide) (br_f (by decide) (br_f (by decide) (br_f (by decide) (br_f (by decide) (br_f (by decide) (br_f (by decide) (br_f (by decide) (br_f (by decide) (br_f (by decide) (br_f (by decide) (br_f (by decide) (br_t rfl (nm_e h)))))))))))))))))))
  refine ⟨2, 1, s', t', _, e1, upd t1 259 r1, r1, rn1, cn1, ?_, Or.inr ⟨by decide, 0, rfl, st_last X1 hE⟩, op_Dof R ct1, by omega, ?_, hY⟩
  · exact Or.inr ⟨by omega, fun post h => br_f (by decide) (br_f (by decide) (br_f (by decide) (br_f (by decide) (br_f (by decide) (br_f (by decide) (br_f (by decide) (br_f (by decide) (br_f (by decide) (br_f (by decide) (br_f (by decide) (br_f (by decide) (br_f (by decide) (br_t rfl h)))))))))))))⟩
  · refine Or.inl ⟨by omega, fun Q h => br_f (by decide) (br_f (by decide) ?_)⟩
    unfold wY_simple_12
    refine Y1 _ ?_
    exact br_f (by decide) (br_f (by decide) (br_f (by decide) (br_f (by decide) (br_f (by decide) (br_f (by decide) (br_f (by decide) (br_f (by decide) (br_f (by decide) (br_f (by decide) (br_f (by decide) (br_f (by decide) (br_f (by decide) (br_f (by decide) (br_f (by decide) (br_t rfl (nm_e h))))))))))))))))
