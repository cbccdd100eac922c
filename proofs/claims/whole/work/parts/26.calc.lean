/-! the instructions that reckon: both sides -/
theorem op_28 : op_T 28 0 := by
  intro x1 l sa da rn cn sb p s sv iv c t tv jv e hp hlb H M N
  obtain ⟨cf, v, hcf, hv, hXc, hYc⟩ := pr_calc (sa := sa) (dg := nI 28) (st := 0) (da := da) (rn := rn) (cn := cn) (sv := sv) (iv := iv) (c := upd c 1 (c 1 + 1)) (sb := sb) (tv := tv) (jv := jv) (k := 3) (s := s) (x := s 256) (by unfold ml_ck; omega) (M.2.2.2.2.2.2.2.2.1) (M.2.2.2.2.2.2.2.2.1) (M.2.2.2.2.2.2.2.2.2.2.2.2.2.2.1) rfl rfl
  obtain ⟨s', t', R, hE, hY⟩ := en_gen (sa := sa) (da := da) (rn := rn) (cn := cn) (sv := sv) (iv := iv) (c := c) (sb := sb) (tv := tv) (jv := jv) (e := e) (s := s) (t := ml_cy 3 cf v t) (l := l) (o := nI 28) (ml_ce 3 cf v) (fun a => ml_ceA a) (ml_ceB (qa_agU (qa_agU qa_ag0 (by omega)) (by omega))) rfl rfl (by decide) (by decide) (by decide) (by decide) (hr_cml M) hlb (ml_cyH H) (hr_cmE M hcf hv)
    (fun Q h => by
        refine br_t (by decide) ⟨by decide, nm_r (e' := nI 3) (by decide) ⟨by decide, nm_r (e' := nI 0) (by decide) (br_f (by decide) ⟨qa_ii 256 0 488 (by omega) (by omega), ?_⟩)⟩⟩
        rw [show ((256 : Int32) + nI 0).toNatClampNeg = 256 by decide]
        refine br_f (by decide) (br_f (by decide) (br_f (by decide) ?_))
        unfold wpX_isChange
        refine br_t (by decide) (br_t rfl ?_)
        refine hXc _ _ rfl rfl ?_
        exact h)
    (fun Q h => by
        refine br_t (by decide) ⟨by decide, nm_r (e' := nI 3) (by decide) ⟨by decide, nm_r (e' := nI 0) (by decide) (br_f (by decide) ⟨qa_ii 256 0 488 (by omega) (by omega), ?_⟩)⟩⟩
        rw [show ((256 : Int32) + nI 0).toNatClampNeg = 256 by decide]
        refine br_f (by decide) (br_f (by decide) (br_f (by decide) ?_))
        unfold wpX_isChange
        refine br_t (by decide) (br_t rfl ?_)
        refine hXc _ _ rfl rfl ?_
        exact h)
  refine ⟨0, 0, s', t', _, e, ml_cy 3 cf v t, da, rn, cn, ?_, Or.inl ⟨rfl, rfl, hE⟩, op_Dof R (hr_ct0 N), by omega, ?_, hY⟩
  · exact Or.inl ⟨by omega, fun post h => ⟨by decide, nm_r (e' := nI 3) (by decide) ⟨by decide, br_f (by decide) (br_f (by decide) h)⟩⟩⟩
  · refine Or.inr (Or.inr ⟨by omega, fun Q h => ?_⟩)
    rw [show (nI 28 - 16) / 4 = nI 3 by decide, show nI 28 &&& 3 = nI 0 by decide]
    refine nm_e (br_f (by decide) ⟨qa_ii 256 0 512 (by omega) (by omega), ?_⟩)
    rw [show ((256 : Int32) + nI 0).toNatClampNeg = 256 by decide]
    refine nm_e ?_
    rw [M.1, M.2.2.2.2.2.2.1]
    exact br_f (by decide) (br_f (by decide) (br_t rfl ((((hYc t _ e Q h).2 (by decide)).2 (by decide)).1 rfl)))
theorem op_29 : op_T 29 0 := by
  intro x1 l sa da rn cn sb p s sv iv c t tv jv e hp hlb H M N
  obtain ⟨cf, v, hcf, hv, hXc, hYc⟩ := pr_calc (sa := sa) (dg := nI 29) (st := 0) (da := da) (rn := rn) (cn := cn) (sv := sv) (iv := iv) (c := upd c 1 (c 1 + 1)) (sb := sb) (tv := tv) (jv := jv) (k := 3) (s := s) (x := s 257) (by unfold ml_ck; omega) (M.2.2.2.2.2.2.2.2.1) (M.2.2.2.2.2.2.2.2.2.1) (M.2.2.2.2.2.2.2.2.2.2.2.2.2.2.1) rfl rfl
  obtain ⟨s', t', R, hE, hY⟩ := en_gen (sa := sa) (da := da) (rn := rn) (cn := cn) (sv := sv) (iv := iv) (c := c) (sb := sb) (tv := tv) (jv := jv) (e := e) (s := s) (t := ml_cy 3 cf v t) (l := l) (o := nI 29) (ml_ce 3 cf v) (fun a => ml_ceA a) (ml_ceB (qa_agU (qa_agU qa_ag0 (by omega)) (by omega))) rfl rfl (by decide) (by decide) (by decide) (by decide) (hr_cml M) hlb (ml_cyH H) (hr_cmE M hcf hv)
    (fun Q h => by
        refine br_t (by decide) ⟨by decide, nm_r (e' := nI 3) (by decide) ⟨by decide, nm_r (e' := nI 1) (by decide) (br_f (by decide) ⟨qa_ii 256 1 488 (by omega) (by omega), ?_⟩)⟩⟩
        rw [show ((256 : Int32) + nI 1).toNatClampNeg = 257 by decide]
        refine br_f (by decide) (br_f (by decide) (br_f (by decide) ?_))
        unfold wpX_isChange
        refine br_t (by decide) (br_t rfl ?_)
        refine hXc _ _ rfl rfl ?_
        exact h)
    (fun Q h => by
        refine br_t (by decide) ⟨by decide, nm_r (e' := nI 3) (by decide) ⟨by decide, nm_r (e' := nI 1) (by decide) (br_f (by decide) ⟨qa_ii 256 1 488 (by omega) (by omega), ?_⟩)⟩⟩
        rw [show ((256 : Int32) + nI 1).toNatClampNeg = 257 by decide]
        refine br_f (by decide) (br_f (by decide) (br_f (by decide) ?_))
        unfold wpX_isChange
        refine br_t (by decide) (br_t rfl ?_)
        refine hXc _ _ rfl rfl ?_
        exact h)
  refine ⟨0, 0, s', t', _, e, ml_cy 3 cf v t, da, rn, cn, ?_, Or.inl ⟨rfl, rfl, hE⟩, op_Dof R (hr_ct0 N), by omega, ?_, hY⟩
  · exact Or.inl ⟨by omega, fun post h => ⟨by decide, nm_r (e' := nI 3) (by decide) ⟨by decide, br_f (by decide) (br_f (by decide) h)⟩⟩⟩
  · refine Or.inr (Or.inr ⟨by omega, fun Q h => ?_⟩)
    rw [show (nI 29 - 16) / 4 = nI 3 by decide, show nI 29 &&& 3 = nI 1 by decide]
    refine nm_e (br_f (by decide) ⟨qa_ii 256 1 512 (by omega) (by omega), ?_⟩)
    rw [show ((256 : Int32) + nI 1).toNatClampNeg = 257 by decide]
    refine nm_e ?_
    rw [M.1, M.2.2.2.2.2.2.1, M.2.1]
    exact br_f (by decide) (br_f (by decide) (br_t rfl ((((hYc t _ e Q h).2 (by decide)).2 (by decide)).1 rfl)))
theorem op_30 : op_T 30 0 := by
  intro x1 l sa da rn cn sb p s sv iv c t tv jv e hp hlb H M N
  obtain ⟨cf, v, hcf, hv, hXc, hYc⟩ := pr_calc (sa := sa) (dg := nI 30) (st := 0) (da := da) (rn := rn) (cn := cn) (sv := sv) (iv := iv) (c := upd c 1 (c 1 + 1)) (sb := sb) (tv := tv) (jv := jv) (k := 3) (s := s) (x := s 258) (by unfold ml_ck; omega) (M.2.2.2.2.2.2.2.2.1) (M.2.2.2.2.2.2.2.2.2.2.1) (M.2.2.2.2.2.2.2.2.2.2.2.2.2.2.1) rfl rfl
  obtain ⟨s', t', R, hE, hY⟩ := en_gen (sa := sa) (da := da) (rn := rn) (cn := cn) (sv := sv) (iv := iv) (c := c) (sb := sb) (tv := tv) (jv := jv) (e := e) (s := s) (t := ml_cy 3 cf v t) (l := l) (o := nI 30) (ml_ce 3 cf v) (fun a => ml_ceA a) (ml_ceB (qa_agU (qa_agU qa_ag0 (by omega)) (by omega))) rfl rfl (by decide) (by decide) (by decide) (by decide) (hr_cml M) hlb (ml_cyH H) (hr_cmE M hcf hv)
    (fun Q h => by
        refine br_t (by decide) ⟨by decide, nm_r (e' := nI 3) (by decide) ⟨by decide, nm_r (e' := nI 2) (by decide) (br_f (by decide) ⟨qa_ii 256 2 488 (by omega) (by omega), ?_⟩)⟩⟩
        rw [show ((256 : Int32) + nI 2).toNatClampNeg = 258 by decide]
        refine br_f (by decide) (br_f (by decide) (br_f (by decide) ?_))
        unfold wpX_isChange
        refine br_t (by decide) (br_t rfl ?_)
        refine hXc _ _ rfl rfl ?_
        exact h)
    (fun Q h => by
        refine br_t (by decide) ⟨by decide, nm_r (e' := nI 3) (by decide) ⟨by decide, nm_r (e' := nI 2) (by decide) (br_f (by decide) ⟨qa_ii 256 2 488 (by omega) (by omega), ?_⟩)⟩⟩
        rw [show ((256 : Int32) + nI 2).toNatClampNeg = 258 by decide]
        refine br_f (by decide) (br_f (by decide) (br_f (by decide) ?_))
        unfold wpX_isChange
        refine br_t (by decide) (br_t rfl ?_)
        refine hXc _ _ rfl rfl ?_
        exact h)
  refine ⟨0, 0, s', t', _, e, ml_cy 3 cf v t, da, rn, cn, ?_, Or.inl ⟨rfl, rfl, hE⟩, op_Dof R (hr_ct0 N), by omega, ?_, hY⟩
  · exact Or.inl ⟨by omega, fun post h => ⟨by decide, nm_r (e' := nI 3) (by decide) ⟨by decide, br_f (by decide) (br_f (by decide) h)⟩⟩⟩
  · refine Or.inr (Or.inr ⟨by omega, fun Q h => ?_⟩)
    rw [show (nI 30 - 16) / 4 = nI 3 by decide, show nI 30 &&& 3 = nI 2 by decide]
    refine nm_e (br_f (by decide) ⟨qa_ii 256 2 512 (by omega) (by omega), ?_⟩)
    rw [show ((256 : Int32) + nI 2).toNatClampNeg = 258 by decide]
    refine nm_e ?_
    rw [M.1, M.2.2.2.2.2.2.1, M.2.2.1]
    exact br_f (by decide) (br_f (by decide) (br_t rfl ((((hYc t _ e Q h).2 (by decide)).2 (by decide)).1 rfl)))
theorem op_31 : op_T 31 0 := by
  intro x1 l sa da rn cn sb p s sv iv c t tv jv e hp hlb H M N
  obtain ⟨s1, t1, c1, e1, rn1, cn1, r1, H1, M1, ct1, f1, B1, X1, Y1⟩ := mp_rdp (sa := sa) (dg := nI 31) (da := da) (rn := rn) (cn := cn) (sv := sv) (iv := iv) (sb := sb) (tv := tv) (jv := jv) (st := 6) (st' := 0)  (by decide) (by decide) H M N
  obtain ⟨cf, v, hcf, hv, hXc, hYc⟩ := pr_calc (sa := sa) (dg := nI 31) (st := 0) (da := r1) (rn := rn1) (cn := cn1) (sv := sv) (iv := iv) (c := upd c1 1 (c1 1 + 1)) (sb := sb) (tv := tv) (jv := jv) (k := 3) (s := s1) (x := r1) (by unfold ml_ck; omega) (M1.2.2.2.2.2.2.2.2.1) (B1) (M1.2.2.2.2.2.2.2.2.2.2.2.2.2.2.1) rfl rfl
  obtain ⟨s', t', R, hE, hY⟩ := en_gen (sa := sa) (da := r1) (rn := rn1) (cn := cn1) (sv := sv) (iv := iv) (c := c1) (sb := sb) (tv := tv) (jv := jv) (e := e1) (s := s1) (t := ml_cy 3 cf v t1) (l := l) (o := nI 31) (ml_ce 3 cf v) (fun a => ml_ceA a) (ml_ceB (qa_agU (qa_agU qa_ag0 (by omega)) (by omega))) rfl rfl (by decide) (by decide) (by decide) (by decide) (hr_cml M1) hlb (ml_cyH H1) (hr_cmE M1 hcf hv)
    (fun Q h => by
        refine br_t (by decide) ⟨by decide, nm_r (e' := nI 3) (by decide) ⟨by decide, nm_r (e' := nI 3) (by decide) (br_t rfl ?_)⟩⟩
        refine br_f (by decide) (br_f (by decide) (br_f (by decide) ?_))
        unfold wpX_isChange
        refine br_t (by decide) (br_t rfl ?_)
        refine hXc _ _ rfl rfl ?_
        exact h)
    (fun Q h => by
        refine br_t (by decide) ⟨by decide, nm_r (e' := nI 3) (by decide) ⟨by decide, nm_r (e' := nI 3) (by decide) (br_t rfl ?_)⟩⟩
        refine br_f (by decide) (br_f (by decide) (br_f (by decide) ?_))
        unfold wpX_isChange
        refine br_t (by decide) (br_t rfl ?_)
        refine hXc _ _ rfl rfl ?_
        exact h)
  refine ⟨6, 1, s', t', _, e1, ml_cy 3 cf v t1, r1, rn1, cn1, ?_, Or.inr ⟨by decide, 0, rfl, st_last X1 hE⟩, op_Dof R ct1, by omega, ?_, hY⟩
  · refine Or.inl ⟨by omega, fun post h => ⟨by decide, nm_r (e' := nI 3) (by decide) ⟨by decide, br_t (by decide) (br_f (by decide) (br_f (by decide) ?_))⟩⟩⟩
    unfold wpX_isChange
    exact br_t (by decide) (br_t rfl h)
  · refine Or.inr (Or.inr ⟨by omega, fun Q h => ?_⟩)
    rw [show (nI 31 - 16) / 4 = nI 3 by decide, show nI 31 &&& 3 = nI 3 by decide]
    refine nm_e (br_t rfl ?_)
    refine Y1 _ ?_
    refine nm_e ?_
    have k6 : t 256 = s1 256 := (M.1).trans (f1 256 (by unfold hr_RG; omega)).symm
    rw [k6, M1.2.2.2.2.2.2.1]
    exact br_f (by decide) (br_f (by decide) (br_t rfl ((((hYc t1 _ e1 Q h).2 (by decide)).2 (by decide)).1 rfl)))
theorem op_32 : op_T 32 0 := by
  intro x1 l sa da rn cn sb p s sv iv c t tv jv e hp hlb H M N
  obtain ⟨cf, v, hcf, hv, hXc, hYc⟩ := pr_calc (sa := sa) (dg := nI 32) (st := 0) (da := da) (rn := rn) (cn := cn) (sv := sv) (iv := iv) (c := upd c 1 (c 1 + 1)) (sb := sb) (tv := tv) (jv := jv) (k := 4) (s := s) (x := s 256) (by unfold ml_ck; omega) (M.2.2.2.2.2.2.2.2.1) (M.2.2.2.2.2.2.2.2.1) (M.2.2.2.2.2.2.2.2.2.2.2.2.2.2.1) rfl rfl
  obtain ⟨s', t', R, hE, hY⟩ := en_gen (sa := sa) (da := da) (rn := rn) (cn := cn) (sv := sv) (iv := iv) (c := c) (sb := sb) (tv := tv) (jv := jv) (e := e) (s := s) (t := ml_cy 4 cf v t) (l := l) (o := nI 32) (ml_ce 4 cf v) (fun a => ml_ceA a) (ml_ceB (qa_agU (qa_agU qa_ag0 (by omega)) (by omega))) rfl rfl (by decide) (by decide) (by decide) (by decide) (hr_cml M) hlb (ml_cyH H) (hr_cmE M hcf hv)
    (fun Q h => by
        refine br_t (by decide) ⟨by decide, nm_r (e' := nI 4) (by decide) ⟨by decide, nm_r (e' := nI 0) (by decide) (br_f (by decide) ⟨qa_ii 256 0 488 (by omega) (by omega), ?_⟩)⟩⟩
        rw [show ((256 : Int32) + nI 0).toNatClampNeg = 256 by decide]
        refine br_f (by decide) (br_f (by decide) (br_f (by decide) ?_))
        unfold wpX_isChange
        refine br_t (by decide) (br_t rfl ?_)
        refine hXc _ _ rfl rfl ?_
        exact h)
    (fun Q h => by
        refine br_t (by decide) ⟨by decide, nm_r (e' := nI 4) (by decide) ⟨by decide, nm_r (e' := nI 0) (by decide) (br_f (by decide) ⟨qa_ii 256 0 488 (by omega) (by omega), ?_⟩)⟩⟩
        rw [show ((256 : Int32) + nI 0).toNatClampNeg = 256 by decide]
        refine br_f (by decide) (br_f (by decide) (br_f (by decide) ?_))
        unfold wpX_isChange
        refine br_t (by decide) (br_t rfl ?_)
        refine hXc _ _ rfl rfl ?_
        exact h)
  refine ⟨0, 0, s', t', _, e, ml_cy 4 cf v t, da, rn, cn, ?_, Or.inl ⟨rfl, rfl, hE⟩, op_Dof R (hr_ct0 N), by omega, ?_, hY⟩
  · exact Or.inl ⟨by omega, fun post h => ⟨by decide, nm_r (e' := nI 4) (by decide) ⟨by decide, br_f (by decide) (br_f (by decide) h)⟩⟩⟩
  · refine Or.inr (Or.inr ⟨by omega, fun Q h => ?_⟩)
    rw [show (nI 32 - 16) / 4 = nI 4 by decide, show nI 32 &&& 3 = nI 0 by decide]
    refine nm_e (br_f (by decide) ⟨qa_ii 256 0 512 (by omega) (by omega), ?_⟩)
    rw [show ((256 : Int32) + nI 0).toNatClampNeg = 256 by decide]
    refine nm_e ?_
    rw [M.1, M.2.2.2.2.2.2.1]
    exact br_f (by decide) (br_f (by decide) (br_f (by decide) (br_t rfl (((((hYc t _ e Q h).2 (by decide)).2 (by decide)).2 (by decide)).1 rfl))))
theorem op_33 : op_T 33 0 := by
  intro x1 l sa da rn cn sb p s sv iv c t tv jv e hp hlb H M N
  obtain ⟨cf, v, hcf, hv, hXc, hYc⟩ := pr_calc (sa := sa) (dg := nI 33) (st := 0) (da := da) (rn := rn) (cn := cn) (sv := sv) (iv := iv) (c := upd c 1 (c 1 + 1)) (sb := sb) (tv := tv) (jv := jv) (k := 4) (s := s) (x := s 257) (by unfold ml_ck; omega) (M.2.2.2.2.2.2.2.2.1) (M.2.2.2.2.2.2.2.2.2.1) (M.2.2.2.2.2.2.2.2.2.2.2.2.2.2.1) rfl rfl
  obtain ⟨s', t', R, hE, hY⟩ := en_gen (sa := sa) (da := da) (rn := rn) (cn := cn) (sv := sv) (iv := iv) (c := c) (sb := sb) (tv := tv) (jv := jv) (e := e) (s := s) (t := ml_cy 4 cf v t) (l := l) (o := nI 33) (ml_ce 4 cf v) (fun a => ml_ceA a) (ml_ceB (qa_agU (qa_agU qa_ag0 (by omega)) (by omega))) rfl rfl (by decide) (by decide) (by decide) (by decide) (hr_cml M) hlb (ml_cyH H) (hr_cmE M hcf hv)
    (fun Q h => by
        refine br_t (by decide) ⟨by decide, nm_r (e' := nI 4) (by decide) ⟨by decide, nm_r (e' := nI 1) (by decide) (br_f (by decide) ⟨qa_ii 256 1 488 (by omega) (by omega), ?_⟩)⟩⟩
        rw [show ((256 : Int32) + nI 1).toNatClampNeg = 257 by decide]
        refine br_f (by decide) (br_f (by decide) (br_f (by decide) ?_))
        unfold wpX_isChange
        refine br_t (by decide) (br_t rfl ?_)
        refine hXc _ _ rfl rfl ?_
        exact h)
    (fun Q h => by
        refine br_t (by decide) ⟨by decide, nm_r (e' := nI 4) (by decide) ⟨by decide, nm_r (e' := nI 1) (by decide) (br_f (by decide) ⟨qa_ii 256 1 488 (by omega) (by omega), ?_⟩)⟩⟩
        rw [show ((256 : Int32) + nI 1).toNatClampNeg = 257 by decide]
        refine br_f (by decide) (br_f (by decide) (br_f (by decide) ?_))
        unfold wpX_isChange
        refine br_t (by decide) (br_t rfl ?_)
        refine hXc _ _ rfl rfl ?_
        exact h)
  refine ⟨0, 0, s', t', _, e, ml_cy 4 cf v t, da, rn, cn, ?_, Or.inl ⟨rfl, rfl, hE⟩, op_Dof R (hr_ct0 N), by omega, ?_, hY⟩
  · exact Or.inl ⟨by omega, fun post h => ⟨by decide, nm_r (e' := nI 4) (by decide) ⟨by decide, br_f (by decide) (br_f (by decide) h)⟩⟩⟩
  · refine Or.inr (Or.inr ⟨by omega, fun Q h => ?_⟩)
    rw [show (nI 33 - 16) / 4 = nI 4 by decide, show nI 33 &&& 3 = nI 1 by decide]
    refine nm_e (br_f (by decide) ⟨qa_ii 256 1 512 (by omega) (by omega), ?_⟩)
    rw [show ((256 : Int32) + nI 1).toNatClampNeg = 257 by decide]
    refine nm_e ?_
    rw [M.1, M.2.2.2.2.2.2.1, M.2.1]
    exact br_f (by decide) (br_f (by decide) (br_f (by decide) (br_t rfl (((((hYc t _ e Q h).2 (by decide)).2 (by decide)).2 (by decide)).1 rfl))))
theorem op_34 : op_T 34 0 := by
  intro x1 l sa da rn cn sb p s sv iv c t tv jv e hp hlb H M N
  obtain ⟨cf, v, hcf, hv, hXc, hYc⟩ := pr_calc (sa := sa) (dg := nI 34) (st := 0) (da := da) (rn := rn) (cn := cn) (sv := sv) (iv := iv) (c := upd c 1 (c 1 + 1)) (sb := sb) (tv := tv) (jv := jv) (k := 4) (s := s) (x := s 258) (by unfold ml_ck; omega) (M.2.2.2.2.2.2.2.2.1) (M.2.2.2.2.2.2.2.2.2.2.1) (M.2.2.2.2.2.2.2.2.2.2.2.2.2.2.1) rfl rfl
  obtain ⟨s', t', R, hE, hY⟩ := en_gen (sa := sa) (da := da) (rn := rn) (cn := cn) (sv := sv) (iv := iv) (c := c) (sb := sb) (tv := tv) (jv := jv) (e := e) (s := s) (t := ml_cy 4 cf v t) (l := l) (o := nI 34) (ml_ce 4 cf v) (fun a => ml_ceA a) (ml_ceB (qa_agU (qa_agU qa_ag0 (by omega)) (by omega))) rfl rfl (by decide) (by decide) (by decide) (by decide) (hr_cml M) hlb (ml_cyH H) (hr_cmE M hcf hv)
    (fun Q h => by
        refine br_t (by decide) ⟨by decide, nm_r (e' := nI 4) (by decide) ⟨by decide, nm_r (e' := nI 2) (by decide) (br_f (by decide) ⟨qa_ii 256 2 488 (by omega) (by omega), ?_⟩)⟩⟩
        rw [show ((256 : Int32) + nI 2).toNatClampNeg = 258 by decide]
        refine br_f (by decide) (br_f (by decide) (br_f (by decide) ?_))
        unfold wpX_isChange
        refine br_t (by decide) (br_t rfl ?_)
        refine hXc _ _ rfl rfl ?_
        exact h)
    (fun Q h => by
        refine br_t (by decide) ⟨by decide, nm_r (e' := nI 4) (by decide) ⟨by decide, nm_r (e' := nI 2) (by decide) (br_f (by decide) ⟨qa_ii 256 2 488 (by omega) (by omega), ?_⟩)⟩⟩
        rw [show ((256 : Int32) + nI 2).toNatClampNeg = 258 by decide]
        refine br_f (by decide) (br_f (by decide) (br_f (by decide) ?_))
        unfold wpX_isChange
        refine br_t (by decide) (br_t rfl ?_)
        refine hXc _ _ rfl rfl ?_
        exact h)
  refine ⟨0, 0, s', t', _, e, ml_cy 4 cf v t, da, rn, cn, ?_, Or.inl ⟨rfl, rfl, hE⟩, op_Dof R (hr_ct0 N), by omega, ?_, hY⟩
  · exact Or.inl ⟨by omega, fun post h => ⟨by decide, nm_r (e' := nI 4) (by decide) ⟨by decide, br_f (by decide) (br_f (by decide) h)⟩⟩⟩
  · refine Or.inr (Or.inr ⟨by omega, fun Q h => ?_⟩)
    rw [show (nI 34 - 16) / 4 = nI 4 by decide, show nI 34 &&& 3 = nI 2 by decide]
    refine nm_e (br_f (by decide) ⟨qa_ii 256 2 512 (by omega) (by omega), ?_⟩)
    rw [show ((256 : Int32) + nI 2).toNatClampNeg = 258 by decide]
    refine nm_e ?_
    rw [M.1, M.2.2.2.2.2.2.1, M.2.2.1]
    exact br_f (by decide) (br_f (by decide) (br_f (by decide) (br_t rfl (((((hYc t _ e Q h).2 (by decide)).2 (by decide)).2 (by decide)).1 rfl))))
theorem op_35 : op_T 35 0 := by
  intro x1 l sa da rn cn sb p s sv iv c t tv jv e hp hlb H M N
  obtain ⟨s1, t1, c1, e1, rn1, cn1, r1, H1, M1, ct1, f1, B1, X1, Y1⟩ := mp_rdp (sa := sa) (dg := nI 35) (da := da) (rn := rn) (cn := cn) (sv := sv) (iv := iv) (sb := sb) (tv := tv) (jv := jv) (st := 6) (st' := 0)  (by decide) (by decide) H M N
  obtain ⟨cf, v, hcf, hv, hXc, hYc⟩ := pr_calc (sa := sa) (dg := nI 35) (st := 0) (da := r1) (rn := rn1) (cn := cn1) (sv := sv) (iv := iv) (c := upd c1 1 (c1 1 + 1)) (sb := sb) (tv := tv) (jv := jv) (k := 4) (s := s1) (x := r1) (by unfold ml_ck; omega) (M1.2.2.2.2.2.2.2.2.1) (B1) (M1.2.2.2.2.2.2.2.2.2.2.2.2.2.2.1) rfl rfl
  obtain ⟨s', t', R, hE, hY⟩ := en_gen (sa := sa) (da := r1) (rn := rn1) (cn := cn1) (sv := sv) (iv := iv) (c := c1) (sb := sb) (tv := tv) (jv := jv) (e := e1) (s := s1) (t := ml_cy 4 cf v t1) (l := l) (o := nI 35) (ml_ce 4 cf v) (fun a => ml_ceA a) (ml_ceB (qa_agU (qa_agU qa_ag0 (by omega)) (by omega))) rfl rfl (by decide) (by decide) (by decide) (by decide) (hr_cml M1) hlb (ml_cyH H1) (hr_cmE M1 hcf hv)
    (fun Q h => by
        refine br_t (by decide) ⟨by decide, nm_r (e' := nI 4) (by decide) ⟨by decide, nm_r (e' := nI 3) (by decide) (br_t rfl ?_)⟩⟩
        refine br_f (by decide) (br_f (by decide) (br_f (by decide) ?_))
        unfold wpX_isChange
        refine br_t (by decide) (br_t rfl ?_)
        refine hXc _ _ rfl rfl ?_
        exact h)
    (fun Q h => by
        refine br_t (by decide) ⟨by decide, nm_r (e' := nI 4) (by decide) ⟨by decide, nm_r (e' := nI 3) (by decide) (br_t rfl ?_)⟩⟩
        refine br_f (by decide) (br_f (by decide) (br_f (by decide) ?_))
        unfold wpX_isChange
        refine br_t (by decide) (br_t rfl ?_)
        refine hXc _ _ rfl rfl ?_
        exact h)
  refine ⟨6, 1, s', t', _, e1, ml_cy 4 cf v t1, r1, rn1, cn1, ?_, Or.inr ⟨by decide, 0, rfl, st_last X1 hE⟩, op_Dof R ct1, by omega, ?_, hY⟩
  · refine Or.inl ⟨by omega, fun post h => ⟨by decide, nm_r (e' := nI 4) (by decide) ⟨by decide, br_t (by decide) (br_f (by decide) (br_f (by decide) ?_))⟩⟩⟩
    unfold wpX_isChange
    exact br_t (by decide) (br_t rfl h)
  · refine Or.inr (Or.inr ⟨by omega, fun Q h => ?_⟩)
    rw [show (nI 35 - 16) / 4 = nI 4 by decide, show nI 35 &&& 3 = nI 3 by decide]
    refine nm_e (br_t rfl ?_)
    refine Y1 _ ?_
    refine nm_e ?_
    have k6 : t 256 = s1 256 := (M.1).trans (f1 256 (by unfold hr_RG; omega)).symm
    rw [k6, M1.2.2.2.2.2.2.1]
    exact br_f (by decide) (br_f (by decide) (br_f (by decide) (br_t rfl (((((hYc t1 _ e1 Q h).2 (by decide)).2 (by decide)).2 (by decide)).1 rfl))))
theorem op_36 : op_T 36 0 := by
  intro x1 l sa da rn cn sb p s sv iv c t tv jv e hp hlb H M N
  obtain ⟨cf, v, hcf, hv, hXc, hYc⟩ := pr_calc (sa := sa) (dg := nI 36) (st := 0) (da := da) (rn := rn) (cn := cn) (sv := sv) (iv := iv) (c := upd c 1 (c 1 + 1)) (sb := sb) (tv := tv) (jv := jv) (k := 5) (s := s) (x := s 256) (by unfold ml_ck; omega) (M.2.2.2.2.2.2.2.2.1) (M.2.2.2.2.2.2.2.2.1) (M.2.2.2.2.2.2.2.2.2.2.2.2.2.2.1) rfl rfl
  obtain ⟨s', t', R, hE, hY⟩ := en_gen (sa := sa) (da := da) (rn := rn) (cn := cn) (sv := sv) (iv := iv) (c := c) (sb := sb) (tv := tv) (jv := jv) (e := e) (s := s) (t := ml_cy 5 cf v t) (l := l) (o := nI 36) (ml_ce 5 cf v) (fun a => ml_ceA a) (ml_ceB (qa_agU (qa_agU qa_ag0 (by omega)) (by omega))) rfl rfl (by decide) (by decide) (by decide) (by decide) (hr_cml M) hlb (ml_cyH H) (hr_cmE M hcf hv)
    (fun Q h => by
        refine br_t (by decide) ⟨by decide, nm_r (e' := nI 5) (by decide) ⟨by decide, nm_r (e' := nI 0) (by decide) (br_f (by decide) ⟨qa_ii 256 0 488 (by omega) (by omega), ?_⟩)⟩⟩
        rw [show ((256 : Int32) + nI 0).toNatClampNeg = 256 by decide]
        refine br_f (by decide) (br_f (by decide) (br_f (by decide) ?_))
        unfold wpX_isChange
        refine br_t (by decide) (br_t rfl ?_)
        refine hXc _ _ rfl rfl ?_
        exact h)
    (fun Q h => by
        refine br_t (by decide) ⟨by decide, nm_r (e' := nI 5) (by decide) ⟨by decide, nm_r (e' := nI 0) (by decide) (br_f (by decide) ⟨qa_ii 256 0 488 (by omega) (by omega), ?_⟩)⟩⟩
        rw [show ((256 : Int32) + nI 0).toNatClampNeg = 256 by decide]
        refine br_f (by decide) (br_f (by decide) (br_f (by decide) ?_))
        unfold wpX_isChange
        refine br_t (by decide) (br_t rfl ?_)
        refine hXc _ _ rfl rfl ?_
        exact h)
  refine ⟨0, 0, s', t', _, e, ml_cy 5 cf v t, da, rn, cn, ?_, Or.inl ⟨rfl, rfl, hE⟩, op_Dof R (hr_ct0 N), by omega, ?_, hY⟩
  · exact Or.inl ⟨by omega, fun post h => ⟨by decide, nm_r (e' := nI 5) (by decide) ⟨by decide, br_f (by decide) (br_f (by decide) h)⟩⟩⟩
  · refine Or.inr (Or.inr ⟨by omega, fun Q h => ?_⟩)
    rw [show (nI 36 - 16) / 4 = nI 5 by decide, show nI 36 &&& 3 = nI 0 by decide]
    refine nm_e (br_f (by decide) ⟨qa_ii 256 0 512 (by omega) (by omega), ?_⟩)
    rw [show ((256 : Int32) + nI 0).toNatClampNeg = 256 by decide]
    refine nm_e ?_
    rw [M.1, M.2.2.2.2.2.2.1]
    exact br_f (by decide) (br_f (by decide) (br_f (by decide) (br_f (by decide) (br_t rfl ((((((hYc t _ e Q h).2 (by decide)).2 (by decide)).2 (by decide)).2 (by decide)).1 rfl)))))
theorem op_37 : op_T 37 0 := by
  intro x1 l sa da rn cn sb p s sv iv c t tv jv e hp hlb H M N
  obtain ⟨cf, v, hcf, hv, hXc, hYc⟩ := pr_calc (sa := sa) (dg := nI 37) (st := 0) (da := da) (rn := rn) (cn := cn) (sv := sv) (iv := iv) (c := upd c 1 (c 1 + 1)) (sb := sb) (tv := tv) (jv := jv) (k := 5) (s := s) (x := s 257) (by unfold ml_ck; omega) (M.2.2.2.2.2.2.2.2.1) (M.2.2.2.2.2.2.2.2.2.1) (M.2.2.2.2.2.2.2.2.2.2.2.2.2.2.1) rfl rfl
  obtain ⟨s', t', R, hE, hY⟩ := en_gen (sa := sa) (da := da) (rn := rn) (cn := cn) (sv := sv) (iv := iv) (c := c) (sb := sb) (tv := tv) (jv := jv) (e := e) (s := s) (t := ml_cy 5 cf v t) (l := l) (o := nI 37) (ml_ce 5 cf v) (fun a => ml_ceA a) (ml_ceB (qa_agU (qa_agU qa_ag0 (by omega)) (by omega))) rfl rfl (by decide) (by decide) (by decide) (by decide) (hr_cml M) hlb (ml_cyH H) (hr_cmE M hcf hv)
    (fun Q h => by
        refine br_t (by decide) ⟨by decide, nm_r (e' := nI 5) (by decide) ⟨by decide, nm_r (e' := nI 1) (by decide) (br_f (by decide) ⟨qa_ii 256 1 488 (by omega) (by omega), ?_⟩)⟩⟩
        rw [show ((256 : Int32) + nI 1).toNatClampNeg = 257 by decide]
        refine br_f (by decide) (br_f (by decide) (br_f (by decide) ?_))
        unfold wpX_isChange
        refine br_t (by decide) (br_t rfl ?_)
        refine hXc _ _ rfl rfl ?_
        exact h)
    (fun Q h => by
        refine br_t (by decide) ⟨by decide, nm_r (e' := nI 5) (by decide) ⟨by decide, nm_r (e' := nI 1) (by decide) (br_f (by decide) ⟨qa_ii 256 1 488 (by omega) (by omega), ?_⟩)⟩⟩
        rw [show ((256 : Int32) + nI 1).toNatClampNeg = 257 by decide]
        refine br_f (by decide) (br_f (by decide) (br_f (by decide) ?_))
        unfold wpX_isChange
        refine br_t (by decide) (br_t rfl ?_)
        refine hXc _ _ rfl rfl ?_
        exact h)
  refine ⟨0, 0, s', t', _, e, ml_cy 5 cf v t, da, rn, cn, ?_, Or.inl ⟨rfl, rfl, hE⟩, op_Dof R (hr_ct0 N), by omega, ?_, hY⟩
  · exact Or.inl ⟨by omega, fun post h => ⟨by decide, nm_r (e' := nI 5) (by decide) ⟨by decide, br_f (by decide) (br_f (by decide) h)⟩⟩⟩
  · refine Or.inr (Or.inr ⟨by omega, fun Q h => ?_⟩)
    rw [show (nI 37 - 16) / 4 = nI 5 by decide, show nI 37 &&& 3 = nI 1 by decide]
    refine nm_e (br_f (by decide) ⟨qa_ii 256 1 512 (by omega) (by omega), ?_⟩)
    rw [show ((256 : Int32) + nI 1).toNatClampNeg = 257 by decide]
    refine nm_e ?_
    rw [M.1, M.2.2.2.2.2.2.1, M.2.1]
    exact br_f (by decide) (br_f (by decide) (br_f (by decide) (br_f (by decide) (br_t rfl ((((((hYc t _ e Q h).2 (by decide)).2 (by decide)).2 (by decide)).2 (by decide)).1 rfl)))))
theorem op_38 : op_T 38 0 := by
  intro x1 l sa da rn cn sb p s sv iv c t tv jv e hp hlb H M N
  obtain ⟨cf, v, hcf, hv, hXc, hYc⟩ := pr_calc (sa := sa) (dg := nI 38) (st := 0) (da := da) (rn := rn) (cn := cn) (sv := sv) (iv := iv) (c := upd c 1 (c 1 + 1)) (sb := sb) (tv := tv) (jv := jv) (k := 5) (s := s) (x := s 258) (by unfold ml_ck; omega) (M.2.2.2.2.2.2.2.2.1) (M.2.2.2.2.2.2.2.2.2.2.1) (M.2.2.2.2.2.2.2.2.2.2.2.2.2.2.1) rfl rfl
  obtain ⟨s', t', R, hE, hY⟩ := en_gen (sa := sa) (da := da) (rn := rn) (cn := cn) (sv := sv) (iv := iv) (c := c) (sb := sb) (tv := tv) (jv := jv) (e := e) (s := s) (t := ml_cy 5 cf v t) (l := l) (o := nI 38) (ml_ce 5 cf v) (fun a => ml_ceA a) (ml_ceB (qa_agU (qa_agU qa_ag0 (by omega)) (by omega))) rfl rfl (by decide) (by decide) (by decide) (by decide) (hr_cml M) hlb (ml_cyH H) (hr_cmE M hcf hv)
    (fun Q h => by
        refine br_t (by decide) ⟨by decide, nm_r (e' := nI 5) (by decide) ⟨by decide, nm_r (e' := nI 2) (by decide) (br_f (by decide) ⟨qa_ii 256 2 488 (by omega) (by omega), ?_⟩)⟩⟩
        rw [show ((256 : Int32) + nI 2).toNatClampNeg = 258 by decide]
        refine br_f (by decide) (br_f (by decide) (br_f (by decide) ?_))
        unfold wpX_isChange
        refine br_t (by decide) (br_t rfl ?_)
        refine hXc _ _ rfl rfl ?_
        exact h)
    (fun Q h => by
        refine br_t (by decide) ⟨by decide, nm_r (e' := nI 5) (by decide) ⟨by decide, nm_r (e' := nI 2) (by decide) (br_f (by decide) ⟨qa_ii 256 2 488 (by omega) (by omega), ?_⟩)⟩⟩
        rw [show ((256 : Int32) + nI 2).toNatClampNeg = 258 by decide]
        refine br_f (by decide) (br_f (by decide) (br_f (by decide) ?_))
        unfold wpX_isChange
        refine br_t (by decide) (br_t rfl ?_)
        refine hXc _ _ rfl rfl ?_
        exact h)
  refine ⟨0, 0, s', t', _, e, ml_cy 5 cf v t, da, rn, cn, ?_, Or.inl ⟨rfl, rfl, hE⟩, op_Dof R (hr_ct0 N), by omega, ?_, hY⟩
  · exact Or.inl ⟨by omega, fun post h => ⟨by decide, nm_r (e' := nI 5) (by decide) ⟨by decide, br_f (by decide) (br_f (by decide) h)⟩⟩⟩
  · refine Or.inr (Or.inr ⟨by omega, fun Q h => ?_⟩)
    rw [show (nI 38 - 16) / 4 = nI 5 by decide, show nI 38 &&& 3 = nI 2 by decide]
    refine nm_e (br_f (by decide) ⟨qa_ii 256 2 512 (by omega) (by omega), ?_⟩)
    rw [show ((256 : Int32) + nI 2).toNatClampNeg = 258 by decide]
    refine nm_e ?_
    rw [M.1, M.2.2.2.2.2.2.1, M.2.2.1]
    exact br_f (by decide) (br_f (by decide) (br_f (by decide) (br_f (by decide) (br_t rfl ((((((hYc t _ e Q h).2 (by decide)).2 (by decide)).2 (by decide)).2 (by decide)).1 rfl)))))
theorem op_39 : op_T 39 0 := by
  intro x1 l sa da rn cn sb p s sv iv c t tv jv e hp hlb H M N
  obtain ⟨s1, t1, c1, e1, rn1, cn1, r1, H1, M1, ct1, f1, B1, X1, Y1⟩ := mp_rdp (sa := sa) (dg := nI 39) (da := da) (rn := rn) (cn := cn) (sv := sv) (iv := iv) (sb := sb) (tv := tv) (jv := jv) (st := 6) (st' := 0)  (by decide) (by decide) H M N
  obtain ⟨cf, v, hcf, hv, hXc, hYc⟩ := pr_calc (sa := sa) (dg := nI 39) (st := 0) (da := r1) (rn := rn1) (cn := cn1) (sv := sv) (iv := iv) (c := upd c1 1 (c1 1 + 1)) (sb := sb) (tv := tv) (jv := jv) (k := 5) (s := s1) (x := r1) (by unfold ml_ck; omega) (M1.2.2.2.2.2.2.2.2.1) (B1) (M1.2.2.2.2.2.2.2.2.2.2.2.2.2.2.1) rfl rfl
  obtain ⟨s', t', R, hE, hY⟩ := en_gen (sa := sa) (da := r1) (rn := rn1) (cn := cn1) (sv := sv) (iv := iv) (c := c1) (sb := sb) (tv := tv) (jv := jv) (e := e1) (s := s1) (t := ml_cy 5 cf v t1) (l := l) (o := nI 39) (ml_ce 5 cf v) (fun a => ml_ceA a) (ml_ceB (qa_agU (qa_agU qa_ag0 (by omega)) (by omega))) rfl rfl (by decide) (by decide) (by decide) (by decide) (hr_cml M1) hlb (ml_cyH H1) (hr_cmE M1 hcf hv)
    (fun Q h => by
        refine br_t (by decide) ⟨by decide, nm_r (e' := nI 5) (by decide) ⟨by decide, nm_r (e' := nI 3) (by decide) (br_t rfl ?_)⟩⟩
        refine br_f (by decide) (br_f (by decide) (br_f (by decide) ?_))
        unfold wpX_isChange
        refine br_t (by decide) (br_t rfl ?_)
        refine hXc _ _ rfl rfl ?_
        exact h)
    (fun Q h => by
        refine br_t (by decide) ⟨by decide, nm_r (e' := nI 5) (by decide) ⟨by decide, nm_r (e' := nI 3) (by decide) (br_t rfl ?_)⟩⟩
        refine br_f (by decide) (br_f (by decide) (br_f (by decide) ?_))
        unfold wpX_isChange
        refine br_t (by decide) (br_t rfl ?_)
        refine hXc _ _ rfl rfl ?_
        exact h)
  refine ⟨6, 1, s', t', _, e1, ml_cy 5 cf v t1, r1, rn1, cn1, ?_, Or.inr ⟨by decide, 0, rfl, st_last X1 hE⟩, op_Dof R ct1, by omega, ?_, hY⟩
  · refine Or.inl ⟨by omega, fun post h => ⟨by decide, nm_r (e' := nI 5) (by decide) ⟨by decide, br_t (by decide) (br_f (by decide) (br_f (by decide) ?_))⟩⟩⟩
    unfold wpX_isChange
    exact br_t (by decide) (br_t rfl h)
  · refine Or.inr (Or.inr ⟨by omega, fun Q h => ?_⟩)
    rw [show (nI 39 - 16) / 4 = nI 5 by decide, show nI 39 &&& 3 = nI 3 by decide]
    refine nm_e (br_t rfl ?_)
    refine Y1 _ ?_
    refine nm_e ?_
    have k6 : t 256 = s1 256 := (M.1).trans (f1 256 (by unfold hr_RG; omega)).symm
    rw [k6, M1.2.2.2.2.2.2.1]
    exact br_f (by decide) (br_f (by decide) (br_f (by decide) (br_f (by decide) (br_t rfl ((((((hYc t1 _ e1 Q h).2 (by decide)).2 (by decide)).2 (by decide)).2 (by decide)).1 rfl)))))
theorem op_40 : op_T 40 0 := by
  intro x1 l sa da rn cn sb p s sv iv c t tv jv e hp hlb H M N
  obtain ⟨cf, v, hcf, hv, hXc, hYc⟩ := pr_calc (sa := sa) (dg := nI 40) (st := 0) (da := da) (rn := rn) (cn := cn) (sv := sv) (iv := iv) (c := upd c 1 (c 1 + 1)) (sb := sb) (tv := tv) (jv := jv) (k := 6) (s := s) (x := s 256) (by unfold ml_ck; omega) (M.2.2.2.2.2.2.2.2.1) (M.2.2.2.2.2.2.2.2.1) (M.2.2.2.2.2.2.2.2.2.2.2.2.2.2.1) rfl rfl
  obtain ⟨s', t', R, hE, hY⟩ := en_gen (sa := sa) (da := da) (rn := rn) (cn := cn) (sv := sv) (iv := iv) (c := c) (sb := sb) (tv := tv) (jv := jv) (e := e) (s := s) (t := ml_cy 6 cf v t) (l := l) (o := nI 40) (ml_ce 6 cf v) (fun a => ml_ceA a) (ml_ceB (qa_agU (qa_agU qa_ag0 (by omega)) (by omega))) rfl rfl (by decide) (by decide) (by decide) (by decide) (hr_cml M) hlb (ml_cyH H) (hr_cmE M hcf hv)
    (fun Q h => by
        refine br_t (by decide) ⟨by decide, nm_r (e' := nI 6) (by decide) ⟨by decide, nm_r (e' := nI 0) (by decide) (br_f (by decide) ⟨qa_ii 256 0 488 (by omega) (by omega), ?_⟩)⟩⟩
        rw [show ((256 : Int32) + nI 0).toNatClampNeg = 256 by decide]
        refine br_f (by decide) (br_f (by decide) (br_f (by decide) ?_))
        unfold wpX_isChange
        refine br_t (by decide) (br_t rfl ?_)
        refine hXc _ _ rfl rfl ?_
        exact h)
    (fun Q h => by
        refine br_t (by decide) ⟨by decide, nm_r (e' := nI 6) (by decide) ⟨by decide, nm_r (e' := nI 0) (by decide) (br_f (by decide) ⟨qa_ii 256 0 488 (by omega) (by omega), ?_⟩)⟩⟩
        rw [show ((256 : Int32) + nI 0).toNatClampNeg = 256 by decide]
        refine br_f (by decide) (br_f (by decide) (br_f (by decide) ?_))
        unfold wpX_isChange
        refine br_t (by decide) (br_t rfl ?_)
        refine hXc _ _ rfl rfl ?_
        exact h)
  refine ⟨0, 0, s', t', _, e, ml_cy 6 cf v t, da, rn, cn, ?_, Or.inl ⟨rfl, rfl, hE⟩, op_Dof R (hr_ct0 N), by omega, ?_, hY⟩
  · exact Or.inl ⟨by omega, fun post h => ⟨by decide, nm_r (e' := nI 6) (by decide) ⟨by decide, br_f (by decide) (br_f (by decide) h)⟩⟩⟩
  · refine Or.inr (Or.inr ⟨by omega, fun Q h => ?_⟩)
    rw [show (nI 40 - 16) / 4 = nI 6 by decide, show nI 40 &&& 3 = nI 0 by decide]
    refine nm_e (br_f (by decide) ⟨qa_ii 256 0 512 (by omega) (by omega), ?_⟩)
    rw [show ((256 : Int32) + nI 0).toNatClampNeg = 256 by decide]
    refine nm_e ?_
    rw [M.1, M.2.2.2.2.2.2.1]
    exact br_f (by decide) (br_f (by decide) (br_f (by decide) (br_f (by decide) (br_f (by decide) (br_t rfl (((((((hYc t _ e Q h).2 (by decide)).2 (by decide)).2 (by decide)).2 (by decide)).2 (by decide)).1 rfl))))))
theorem op_41 : op_T 41 0 := by
  intro x1 l sa da rn cn sb p s sv iv c t tv jv e hp hlb H M N
  obtain ⟨cf, v, hcf, hv, hXc, hYc⟩ := pr_calc (sa := sa) (dg := nI 41) (st := 0) (da := da) (rn := rn) (cn := cn) (sv := sv) (iv := iv) (c := upd c 1 (c 1 + 1)) (sb := sb) (tv := tv) (jv := jv) (k := 6) (s := s) (x := s 257) (by unfold ml_ck; omega) (M.2.2.2.2.2.2.2.2.1) (M.2.2.2.2.2.2.2.2.2.1) (M.2.2.2.2.2.2.2.2.2.2.2.2.2.2.1) rfl rfl
  obtain ⟨s', t', R, hE, hY⟩ := en_gen (sa := sa) (da := da) (rn := rn) (cn := cn) (sv := sv) (iv := iv) (c := c) (sb := sb) (tv := tv) (jv := jv) (e := e) (s := s) (t := ml_cy 6 cf v t) (l := l) (o := nI 41) (ml_ce 6 cf v) (fun a => ml_ceA a) (ml_ceB (qa_agU (qa_agU qa_ag0 (by omega)) (by omega))) rfl rfl (by decide) (by decide) (by decide) (by decide) (hr_cml M) hlb (ml_cyH H) (hr_cmE M hcf hv)
    (fun Q h => by
        refine br_t (by decide) ⟨by decide, nm_r (e' := nI 6) (by decide) ⟨by decide, nm_r (e' := nI 1) (by decide) (br_f (by decide) ⟨qa_ii 256 1 488 (by omega) (by omega), ?_⟩)⟩⟩
        rw [show ((256 : Int32) + nI 1).toNatClampNeg = 257 by decide]
        refine br_f (by decide) (br_f (by decide) (br_f (by decide) ?_))
        unfold wpX_isChange
        refine br_t (by decide) (br_t rfl ?_)
        refine hXc _ _ rfl rfl ?_
        exact h)
    (fun Q h => by
        refine br_t (by decide) ⟨by decide, nm_r (e' := nI 6) (by decide) ⟨by decide, nm_r (e' := nI 1) (by decide) (br_f (by decide) ⟨qa_ii 256 1 488 (by omega) (by omega), ?_⟩)⟩⟩
        rw [show ((256 : Int32) + nI 1).toNatClampNeg = 257 by decide]
        refine br_f (by decide) (br_f (by decide) (br_f (by decide) ?_))
        unfold wpX_isChange
        refine br_t (by decide) (br_t rfl ?_)
        refine hXc _ _ rfl rfl ?_
        exact h)
  refine ⟨0, 0, s', t', _, e, ml_cy 6 cf v t, da, rn, cn, ?_, Or.inl ⟨rfl, rfl, hE⟩, op_Dof R (hr_ct0 N), by omega, ?_, hY⟩
  · exact Or.inl ⟨by omega, fun post h => ⟨by decide, nm_r (e' := nI 6) (by decide) ⟨by decide, br_f (by decide) (br_f (by decide) h)⟩⟩⟩
  · refine Or.inr (Or.inr ⟨by omega, fun Q h => ?_⟩)
    rw [show (nI 41 - 16) / 4 = nI 6 by decide, show nI 41 &&& 3 = nI 1 by decide]
    refine nm_e (br_f (by decide) ⟨qa_ii 256 1 512 (by omega) (by omega), ?_⟩)
    rw [show ((256 : Int32) + nI 1).toNatClampNeg = 257 by decide]
    refine nm_e ?_
    rw [M.1, M.2.2.2.2.2.2.1, M.2.1]
    exact br_f (by decide) (br_f (by decide) (br_f (by decide) (br_f (by decide) (br_f (by decide) (br_t rfl (((((((hYc t _ e Q h).2 (by decide)).2 (by decide)).2 (by decide)).2 (by decide)).2 (by decide)).1 rfl))))))
theorem op_42 : op_T 42 0 := by
  intro x1 l sa da rn cn sb p s sv iv c t tv jv e hp hlb H M N
  obtain ⟨cf, v, hcf, hv, hXc, hYc⟩ := pr_calc (sa := sa) (dg := nI 42) (st := 0) (da := da) (rn := rn) (cn := cn) (sv := sv) (iv := iv) (c := upd c 1 (c 1 + 1)) (sb := sb) (tv := tv) (jv := jv) (k := 6) (s := s) (x := s 258) (by unfold ml_ck; omega) (M.2.2.2.2.2.2.2.2.1) (M.2.2.2.2.2.2.2.2.2.2.1) (M.2.2.2.2.2.2.2.2.2.2.2.2.2.2.1) rfl rfl
  obtain ⟨s', t', R, hE, hY⟩ := en_gen (sa := sa) (da := da) (rn := rn) (cn := cn) (sv := sv) (iv := iv) (c := c) (sb := sb) (tv := tv) (jv := jv) (e := e) (s := s) (t := ml_cy 6 cf v t) (l := l) (o := nI 42) (ml_ce 6 cf v) (fun a => ml_ceA a) (ml_ceB (qa_agU (qa_agU qa_ag0 (by omega)) (by omega))) rfl rfl (by decide) (by decide) (by decide) (by decide) (hr_cml M) hlb (ml_cyH H) (hr_cmE M hcf hv)
    (fun Q h => by
        refine br_t (by decide) ⟨by decide, nm_r (e' := nI 6) (by decide) ⟨by decide, nm_r (e' := nI 2) (by decide) (br_f (by decide) ⟨qa_ii 256 2 488 (by omega) (by omega), ?_⟩)⟩⟩
        rw [show ((256 : Int32) + nI 2).toNatClampNeg = 258 by decide]
        refine br_f (by decide) (br_f (by decide) (br_f (by decide) ?_))
        unfold wpX_isChange
        refine br_t (by decide) (br_t rfl ?_)
        refine hXc _ _ rfl rfl ?_
        exact h)
    (fun Q h => by
        refine br_t (by decide) ⟨by decide, nm_r (e' := nI 6) (by decide) ⟨by decide, nm_r (e' := nI 2) (by decide) (br_f (by decide) ⟨qa_ii 256 2 488 (by omega) (by omega), ?_⟩)⟩⟩
        rw [show ((256 : Int32) + nI 2).toNatClampNeg = 258 by decide]
        refine br_f (by decide) (br_f (by decide) (br_f (by decide) ?_))
        unfold wpX_isChange
        refine br_t (by decide) (br_t rfl ?_)
        refine hXc _ _ rfl rfl ?_
        exact h)
  refine ⟨0, 0, s', t', _, e, ml_cy 6 cf v t, da, rn, cn, ?_, Or.inl ⟨rfl, rfl, hE⟩, op_Dof R (hr_ct0 N), by omega, ?_, hY⟩
  · exact Or.inl ⟨by omega, fun post h => ⟨by decide, nm_r (e' := nI 6) (by decide) ⟨by decide, br_f (by decide) (br_f (by decide) h)⟩⟩⟩
  · refine Or.inr (Or.inr ⟨by omega, fun Q h => ?_⟩)
    rw [show (nI 42 - 16) / 4 = nI 6 by decide, show nI 42 &&& 3 = nI 2 by decide]
    refine nm_e (br_f (by decide) ⟨qa_ii 256 2 512 (by omega) (by omega), ?_⟩)
    rw [show ((256 : Int32) + nI 2).toNatClampNeg = 258 by decide]
    refine nm_e ?_
    rw [M.1, M.2.2.2.2.2.2.1, M.2.2.1]
    exact br_f (by decide) (br_f (by decide) (br_f (by decide) (br_f (by decide) (br_f (by decide) (br_t rfl (((((((hYc t _ e Q h).2 (by decide)).2 (by decide)).2 (by decide)).2 (by decide)).2 (by decide)).1 rfl))))))
theorem op_43 : op_T 43 0 := by
  intro x1 l sa da rn cn sb p s sv iv c t tv jv e hp hlb H M N
  obtain ⟨s1, t1, c1, e1, rn1, cn1, r1, H1, M1, ct1, f1, B1, X1, Y1⟩ := mp_rdp (sa := sa) (dg := nI 43) (da := da) (rn := rn) (cn := cn) (sv := sv) (iv := iv) (sb := sb) (tv := tv) (jv := jv) (st := 6) (st' := 0)  (by decide) (by decide) H M N
  obtain ⟨cf, v, hcf, hv, hXc, hYc⟩ := pr_calc (sa := sa) (dg := nI 43) (st := 0) (da := r1) (rn := rn1) (cn := cn1) (sv := sv) (iv := iv) (c := upd c1 1 (c1 1 + 1)) (sb := sb) (tv := tv) (jv := jv) (k := 6) (s := s1) (x := r1) (by unfold ml_ck; omega) (M1.2.2.2.2.2.2.2.2.1) (B1) (M1.2.2.2.2.2.2.2.2.2.2.2.2.2.2.1) rfl rfl
  obtain ⟨s', t', R, hE, hY⟩ := en_gen (sa := sa) (da := r1) (rn := rn1) (cn := cn1) (sv := sv) (iv := iv) (c := c1) (sb := sb) (tv := tv) (jv := jv) (e := e1) (s := s1) (t := ml_cy 6 cf v t1) (l := l) (o := nI 43) (ml_ce 6 cf v) (fun a => ml_ceA a) (ml_ceB (qa_agU (qa_agU qa_ag0 (by omega)) (by omega))) rfl rfl (by decide) (by decide) (by decide) (by decide) (hr_cml M1) hlb (ml_cyH H1) (hr_cmE M1 hcf hv)
    (fun Q h => by
        refine br_t (by decide) ⟨by decide, nm_r (e' := nI 6) (by decide) ⟨by decide, nm_r (e' := nI 3) (by decide) (br_t rfl ?_)⟩⟩
        refine br_f (by decide) (br_f (by decide) (br_f (by decide) ?_))
        unfold wpX_isChange
        refine br_t (by decide) (br_t rfl ?_)
        refine hXc _ _ rfl rfl ?_
        exact h)
    (fun Q h => by
        refine br_t (by decide) ⟨by decide, nm_r (e' := nI 6) (by decide) ⟨by decide, nm_r (e' := nI 3) (by decide) (br_t rfl ?_)⟩⟩
        refine br_f (by decide) (br_f (by decide) (br_f (by decide) ?_))
        unfold wpX_isChange
        refine br_t (by decide) (br_t rfl ?_)
        refine hXc _ _ rfl rfl ?_
        exact h)
  refine ⟨6, 1, s', t', _, e1, ml_cy 6 cf v t1, r1, rn1, cn1, ?_, Or.inr ⟨by decide, 0, rfl, st_last X1 hE⟩, op_Dof R ct1, by omega, ?_, hY⟩
  · refine Or.inl ⟨by omega, fun post h => ⟨by decide, nm_r (e' := nI 6) (by decide) ⟨by decide, br_t (by decide) (br_f (by decide) (br_f (by decide) ?_))⟩⟩⟩
    unfold wpX_isChange
    exact br_t (by decide) (br_t rfl h)
  · refine Or.inr (Or.inr ⟨by omega, fun Q h => ?_⟩)
    rw [show (nI 43 - 16) / 4 = nI 6 by decide, show nI 43 &&& 3 = nI 3 by decide]
    refine nm_e (br_t rfl ?_)
    refine Y1 _ ?_
    refine nm_e ?_
    have k6 : t 256 = s1 256 := (M.1).trans (f1 256 (by unfold hr_RG; omega)).symm
    rw [k6, M1.2.2.2.2.2.2.1]
    exact br_f (by decide) (br_f (by decide) (br_f (by decide) (br_f (by decide) (br_f (by decide) (br_t rfl (((((((hYc t1 _ e1 Q h).2 (by decide)).2 (by decide)).2 (by decide)).2 (by decide)).2 (by decide)).1 rfl))))))
theorem op_44 : op_T 44 0 := by
  intro x1 l sa da rn cn sb p s sv iv c t tv jv e hp hlb H M N
  obtain ⟨cf, v, hcf, hv, hXc, hYc⟩ := pr_calc (sa := sa) (dg := nI 44) (st := 0) (da := da) (rn := rn) (cn := cn) (sv := sv) (iv := iv) (c := upd c 1 (c 1 + 1)) (sb := sb) (tv := tv) (jv := jv) (k := 7) (s := s) (x := s 256) (by unfold ml_ck; omega) (M.2.2.2.2.2.2.2.2.1) (M.2.2.2.2.2.2.2.2.1) (M.2.2.2.2.2.2.2.2.2.2.2.2.2.2.1) rfl rfl
  obtain ⟨s', t', R, hE, hY⟩ := en_gen (sa := sa) (da := da) (rn := rn) (cn := cn) (sv := sv) (iv := iv) (c := c) (sb := sb) (tv := tv) (jv := jv) (e := e) (s := s) (t := ml_cy 7 cf v t) (l := l) (o := nI 44) (ml_ce 7 cf v) (fun a => ml_ceA a) (ml_ceB (qa_agU (qa_agU qa_ag0 (by omega)) (by omega))) rfl rfl (by decide) (by decide) (by decide) (by decide) (hr_cml M) hlb (ml_cyH H) (hr_cmE M hcf hv)
    (fun Q h => by
        refine br_t (by decide) ⟨by decide, nm_r (e' := nI 7) (by decide) ⟨by decide, nm_r (e' := nI 0) (by decide) (br_f (by decide) ⟨qa_ii 256 0 488 (by omega) (by omega), ?_⟩)⟩⟩
        rw [show ((256 : Int32) + nI 0).toNatClampNeg = 256 by decide]
        refine br_f (by decide) (br_f (by decide) (br_f (by decide) ?_))
        unfold wpX_isChange
        refine br_t (by decide) (br_t rfl ?_)
        refine hXc _ _ rfl rfl ?_
        exact h)
    (fun Q h => by
        refine br_t (by decide) ⟨by decide, nm_r (e' := nI 7) (by decide) ⟨by decide, nm_r (e' := nI 0) (by decide) (br_f (by decide) ⟨qa_ii 256 0 488 (by omega) (by omega), ?_⟩)⟩⟩
        rw [show ((256 : Int32) + nI 0).toNatClampNeg = 256 by decide]
        refine br_f (by decide) (br_f (by decide) (br_f (by decide) ?_))
        unfold wpX_isChange
        refine br_t (by decide) (br_t rfl ?_)
        refine hXc _ _ rfl rfl ?_
        exact h)
  refine ⟨0, 0, s', t', _, e, ml_cy 7 cf v t, da, rn, cn, ?_, Or.inl ⟨rfl, rfl, hE⟩, op_Dof R (hr_ct0 N), by omega, ?_, hY⟩
  · exact Or.inl ⟨by omega, fun post h => ⟨by decide, nm_r (e' := nI 7) (by decide) ⟨by decide, br_f (by decide) (br_f (by decide) h)⟩⟩⟩
  · refine Or.inr (Or.inr ⟨by omega, fun Q h => ?_⟩)
    rw [show (nI 44 - 16) / 4 = nI 7 by decide, show nI 44 &&& 3 = nI 0 by decide]
    refine nm_e (br_f (by decide) ⟨qa_ii 256 0 512 (by omega) (by omega), ?_⟩)
    rw [show ((256 : Int32) + nI 0).toNatClampNeg = 256 by decide]
    refine nm_e ?_
    rw [M.1, M.2.2.2.2.2.2.1]
    exact br_f (by decide) (br_f (by decide) (br_f (by decide) (br_f (by decide) (br_f (by decide) (br_f (by decide) (br_t rfl ((((((((hYc t _ e Q h).2 (by decide)).2 (by decide)).2 (by decide)).2 (by decide)).2 (by decide)).2 (by decide)) rfl)))))))
theorem op_45 : op_T 45 0 := by
  intro x1 l sa da rn cn sb p s sv iv c t tv jv e hp hlb H M N
  obtain ⟨cf, v, hcf, hv, hXc, hYc⟩ := pr_calc (sa := sa) (dg := nI 45) (st := 0) (da := da) (rn := rn) (cn := cn) (sv := sv) (iv := iv) (c := upd c 1 (c 1 + 1)) (sb := sb) (tv := tv) (jv := jv) (k := 7) (s := s) (x := s 257) (by unfold ml_ck; omega) (M.2.2.2.2.2.2.2.2.1) (M.2.2.2.2.2.2.2.2.2.1) (M.2.2.2.2.2.2.2.2.2.2.2.2.2.2.1) rfl rfl
  obtain ⟨s', t', R, hE, hY⟩ := en_gen (sa := sa) (da := da) (rn := rn) (cn := cn) (sv := sv) (iv := iv) (c := c) (sb := sb) (tv := tv) (jv := jv) (e := e) (s := s) (t := ml_cy 7 cf v t) (l := l) (o := nI 45) (ml_ce 7 cf v) (fun a => ml_ceA a) (ml_ceB (qa_agU (qa_agU qa_ag0 (by omega)) (by omega))) rfl rfl (by decide) (by decide) (by decide) (by decide) (hr_cml M) hlb (ml_cyH H) (hr_cmE M hcf hv)
    (fun Q h => by
        refine br_t (by decide) ⟨by decide, nm_r (e' := nI 7) (by decide) ⟨by decide, nm_r (e' := nI 1) (by decide) (br_f (by decide) ⟨qa_ii 256 1 488 (by omega) (by omega), ?_⟩)⟩⟩
        rw [show ((256 : Int32) + nI 1).toNatClampNeg = 257 by decide]
        refine br_f (by decide) (br_f (by decide) (br_f (by decide) ?_))
        unfold wpX_isChange
        refine br_t (by decide) (br_t rfl ?_)
        refine hXc _ _ rfl rfl ?_
        exact h)
    (fun Q h => by
        refine br_t (by decide) ⟨by decide, nm_r (e' := nI 7) (by decide) ⟨by decide, nm_r (e' := nI 1) (by decide) (br_f (by decide) ⟨qa_ii 256 1 488 (by omega) (by omega), ?_⟩)⟩⟩
        rw [show ((256 : Int32) + nI 1).toNatClampNeg = 257 by decide]
        refine br_f (by decide) (br_f (by decide) (br_f (by decide) ?_))
        unfold wpX_isChange
        refine br_t (by decide) (br_t rfl ?_)
        refine hXc _ _ rfl rfl ?_
        exact h)
  refine ⟨0, 0, s', t', _, e, ml_cy 7 cf v t, da, rn, cn, ?_, Or.inl ⟨rfl, rfl, hE⟩, op_Dof R (hr_ct0 N), by omega, ?_, hY⟩
  · exact Or.inl ⟨by omega, fun post h => ⟨by decide, nm_r (e' := nI 7) (by decide) ⟨by decide, br_f (by decide) (br_f (by decide) h)⟩⟩⟩
  · refine Or.inr (Or.inr ⟨by omega, fun Q h => ?_⟩)
    rw [show (nI 45 - 16) / 4 = nI 7 by decide, show nI 45 &&& 3 = nI 1 by decide]
    refine nm_e (br_f (by decide) ⟨qa_ii 256 1 512 (by omega) (by omega), ?_⟩)
    rw [show ((256 : Int32) + nI 1).toNatClampNeg = 257 by decide]
    refine nm_e ?_
    rw [M.1, M.2.2.2.2.2.2.1, M.2.1]
    exact br_f (by decide) (br_f (by decide) (br_f (by decide) (br_f (by decide) (br_f (by decide) (br_f (by decide) (br_t rfl ((((((((hYc t _ e Q h).2 (by decide)).2 (by decide)).2 (by decide)).2 (by decide)).2 (by decide)).2 (by decide)) rfl)))))))
theorem op_46 : op_T 46 0 := by
  intro x1 l sa da rn cn sb p s sv iv c t tv jv e hp hlb H M N
  obtain ⟨cf, v, hcf, hv, hXc, hYc⟩ := pr_calc (sa := sa) (dg := nI 46) (st := 0) (da := da) (rn := rn) (cn := cn) (sv := sv) (iv := iv) (c := upd c 1 (c 1 + 1)) (sb := sb) (tv := tv) (jv := jv) (k := 7) (s := s) (x := s 258) (by unfold ml_ck; omega) (M.2.2.2.2.2.2.2.2.1) (M.2.2.2.2.2.2.2.2.2.2.1) (M.2.2.2.2.2.2.2.2.2.2.2.2.2.2.1) rfl rfl
  obtain ⟨s', t', R, hE, hY⟩ := en_gen (sa := sa) (da := da) (rn := rn) (cn := cn) (sv := sv) (iv := iv) (c := c) (sb := sb) (tv := tv) (jv := jv) (e := e) (s := s) (t := ml_cy 7 cf v t) (l := l) (o := nI 46) (ml_ce 7 cf v) (fun a => ml_ceA a) (ml_ceB (qa_agU (qa_agU qa_ag0 (by omega)) (by omega))) rfl rfl (by decide) (by decide) (by decide) (by decide) (hr_cml M) hlb (ml_cyH H) (hr_cmE M hcf hv)
    (fun Q h => by
        refine br_t (by decide) ⟨by decide, nm_r (e' := nI 7) (by decide) ⟨by decide, nm_r (e' := nI 2) (by decide) (br_f (by decide) ⟨qa_ii 256 2 488 (by omega) (by omega), ?_⟩)⟩⟩
        rw [show ((256 : Int32) + nI 2).toNatClampNeg = 258 by decide]
        refine br_f (by decide) (br_f (by decide) (br_f (by decide) ?_))
        unfold wpX_isChange
        refine br_t (by decide) (br_t rfl ?_)
        refine hXc _ _ rfl rfl ?_
        exact h)
    (fun Q h => by
        refine br_t (by decide) ⟨by decide, nm_r (e' := nI 7) (by decide) ⟨by decide, nm_r (e' := nI 2) (by decide) (br_f (by decide) ⟨qa_ii 256 2 488 (by omega) (by omega), ?_⟩)⟩⟩
        rw [show ((256 : Int32) + nI 2).toNatClampNeg = 258 by decide]
        refine br_f (by decide) (br_f (by decide) (br_f (by decide) ?_))
        unfold wpX_isChange
        refine br_t (by decide) (br_t rfl ?_)
        refine hXc _ _ rfl rfl ?_
        exact h)
  refine ⟨0, 0, s', t', _, e, ml_cy 7 cf v t, da, rn, cn, ?_, Or.inl ⟨rfl, rfl, hE⟩, op_Dof R (hr_ct0 N), by omega, ?_, hY⟩
  · exact Or.inl ⟨by omega, fun post h => ⟨by decide, nm_r (e' := nI 7) (by decide) ⟨by decide, br_f (by decide) (br_f (by decide) h)⟩⟩⟩
  · refine Or.inr (Or.inr ⟨by omega, fun Q h => ?_⟩)
    rw [show (nI 46 - 16) / 4 = nI 7 by decide, show nI 46 &&& 3 = nI 2 by decide]
    refine nm_e (br_f (by decide) ⟨qa_ii 256 2 512 (by omega) (by omega), ?_⟩)
    rw [show ((256 : Int32) + nI 2).toNatClampNeg = 258 by decide]
    refine nm_e ?_
    rw [M.1, M.2.2.2.2.2.2.1, M.2.2.1]
    exact br_f (by decide) (br_f (by decide) (br_f (by decide) (br_f (by decide) (br_f (by decide) (br_f (by decide) (br_t rfl ((((((((hYc t _ e Q h).2 (by decide)).2 (by decide)).2 (by decide)).2 (by decide)).2 (by decide)).2 (by decide)) rfl)))))))
theorem op_47 : op_T 47 0 := by
  intro x1 l sa da rn cn sb p s sv iv c t tv jv e hp hlb H M N
  obtain ⟨s1, t1, c1, e1, rn1, cn1, r1, H1, M1, ct1, f1, B1, X1, Y1⟩ := mp_rdp (sa := sa) (dg := nI 47) (da := da) (rn := rn) (cn := cn) (sv := sv) (iv := iv) (sb := sb) (tv := tv) (jv := jv) (st := 6) (st' := 0)  (by decide) (by decide) H M N
  obtain ⟨cf, v, hcf, hv, hXc, hYc⟩ := pr_calc (sa := sa) (dg := nI 47) (st := 0) (da := r1) (rn := rn1) (cn := cn1) (sv := sv) (iv := iv) (c := upd c1 1 (c1 1 + 1)) (sb := sb) (tv := tv) (jv := jv) (k := 7) (s := s1) (x := r1) (by unfold ml_ck; omega) (M1.2.2.2.2.2.2.2.2.1) (B1) (M1.2.2.2.2.2.2.2.2.2.2.2.2.2.2.1) rfl rfl
  obtain ⟨s', t', R, hE, hY⟩ := en_gen (sa := sa) (da := r1) (rn := rn1) (cn := cn1) (sv := sv) (iv := iv) (c := c1) (sb := sb) (tv := tv) (jv := jv) (e := e1) (s := s1) (t := ml_cy 7 cf v t1) (l := l) (o := nI 47) (ml_ce 7 cf v) (fun a => ml_ceA a) (ml_ceB (qa_agU (qa_agU qa_ag0 (by omega)) (by omega))) rfl rfl (by decide) (by decide) (by decide) (by decide) (hr_cml M1) hlb (ml_cyH H1) (hr_cmE M1 hcf hv)
    (fun Q h => by
        refine br_t (by decide) ⟨by decide, nm_r (e' := nI 7) (by decide) ⟨by decide, nm_r (e' := nI 3) (by decide) (br_t rfl ?_)⟩⟩
        refine br_f (by decide) (br_f (by decide) (br_f (by decide) ?_))
        unfold wpX_isChange
        refine br_t (by decide) (br_t rfl ?_)
        refine hXc _ _ rfl rfl ?_
        exact h)
    (fun Q h => by
        refine br_t (by decide) ⟨by decide, nm_r (e' := nI 7) (by decide) ⟨by decide, nm_r (e' := nI 3) (by decide) (br_t rfl ?_)⟩⟩
        refine br_f (by decide) (br_f (by decide) (br_f (by decide) ?_))
        unfold wpX_isChange
        refine br_t (by decide) (br_t rfl ?_)
        refine hXc _ _ rfl rfl ?_
        exact h)
  refine ⟨6, 1, s', t', _, e1, ml_cy 7 cf v t1, r1, rn1, cn1, ?_, Or.inr ⟨by decide, 0, rfl, st_last X1 hE⟩, op_Dof R ct1, by omega, ?_, hY⟩
  · refine Or.inl ⟨by omega, fun post h => ⟨by decide, nm_r (e' := nI 7) (by decide) ⟨by decide, br_t (by decide) (br_f (by decide) (br_f (by decide) ?_))⟩⟩⟩
    unfold wpX_isChange
    exact br_t (by decide) (br_t rfl h)
  · refine Or.inr (Or.inr ⟨by omega, fun Q h => ?_⟩)
    rw [show (nI 47 - 16) / 4 = nI 7 by decide, show nI 47 &&& 3 = nI 3 by decide]
    refine nm_e (br_t rfl ?_)
    refine Y1 _ ?_
    refine nm_e ?_
    have k6 : t 256 = s1 256 := (M.1).trans (f1 256 (by unfold hr_RG; omega)).symm
    rw [k6, M1.2.2.2.2.2.2.1]
    exact br_f (by decide) (br_f (by decide) (br_f (by decide) (br_f (by decide) (br_f (by decide) (br_f (by decide) (br_t rfl ((((((((hYc t1 _ e1 Q h).2 (by decide)).2 (by decide)).2 (by decide)).2 (by decide)).2 (by decide)).2 (by decide)) rfl)))))))
theorem op_48 : op_T 48 0 := by
  intro x1 l sa da rn cn sb p s sv iv c t tv jv e hp hlb H M N
  obtain ⟨s', t', R, hE, hY⟩ := en_gen (sa := sa) (da := da) (rn := rn) (cn := cn) (sv := sv) (iv := iv) (c := c) (sb := sb) (tv := tv) (jv := jv) (e := e) (s := s) (t := upd (upd (upd t 261 (ml_zf (ml_ch 8 (s 256) (s 262)))) 262 (ml_kf 8 (s 256) (s 262))) 256 (ml_ch 8 (s 256) (s 262))) (l := l) (o := nI 48) (fun a => upd (upd a 261 (ml_zf (ml_ch 8 (s 256) (s 262)))) 256 (ml_ch 8 (s 256) (s 262))) (fun a => qa_agU (qa_agU qa_ag0 (by omega)) (by omega)) (qa_agB (qa_agB (qa_agU (qa_agU qa_ag0 (by omega)) (by omega)))) rfl rfl (by decide) (by decide) (by decide) (by decide) (hr_cml M) hlb (hr_HwY (hr_HwY (hr_HwY H (by omega)) (by omega)) (by omega)) (hr_cmB (hr_cmC (x := (s 256)) M (Or.inl rfl)) (by omega) (ml_chB (Or.inl rfl) (M.2.2.2.2.2.2.2.2.1) (M.2.2.2.2.2.2.2.2.2.2.2.2.2.2.1)) rfl)
    (fun Q h => by
        refine br_t (by decide) ⟨by decide, nm_r (e' := nI 8) (by decide) ⟨by decide, nm_r (e' := nI 0) (by decide) (br_f (by decide) ⟨qa_ii 256 0 488 (by omega) (by omega), ?_⟩)⟩⟩
        rw [show ((256 : Int32) + nI 0).toNatClampNeg = 256 by decide]
        refine br_f (by decide) (br_f (by decide) (br_f (by decide) ?_))
        unfold wpX_isChange
        refine br_f (by decide) (br_f (by decide) (br_f (by decide) ?_))
        refine br_f (by decide) (br_f (by decide) (br_f (by decide) ?_))
        refine mx_changed (k := 8) (Or.inl rfl) ?_
        exact ⟨qa_ii 256 0 488 (by omega) (by omega), nm_r (qa_up _ _ (qa_ic 256 0 (by omega))) h⟩)
    (fun Q h => by
        refine br_t (by decide) ⟨by decide, nm_r (e' := nI 8) (by decide) ⟨by decide, nm_r (e' := nI 0) (by decide) (br_f (by decide) ⟨qa_ii 256 0 488 (by omega) (by omega), ?_⟩)⟩⟩
        rw [show ((256 : Int32) + nI 0).toNatClampNeg = 256 by decide]
        refine br_f (by decide) (br_f (by decide) (br_f (by decide) ?_))
        unfold wpX_isChange
        refine br_f (by decide) (br_f (by decide) (br_f (by decide) ?_))
        refine br_f (by decide) (br_f (by decide) (br_f (by decide) ?_))
        refine mx_changed (k := 8) (Or.inl rfl) ?_
        exact ⟨qa_ii 256 0 488 (by omega) (by omega), nm_r (qa_up _ _ (qa_ic 256 0 (by omega))) h⟩)
  refine ⟨0, 0, s', t', _, e, upd (upd (upd t 261 (ml_zf (ml_ch 8 (s 256) (s 262)))) 262 (ml_kf 8 (s 256) (s 262))) 256 (ml_ch 8 (s 256) (s 262)), da, rn, cn, ?_, Or.inl ⟨rfl, rfl, hE⟩, op_Dof R (hr_ct0 N), by omega, ?_, hY⟩
  · exact Or.inl ⟨by omega, fun post h => ⟨by decide, nm_r (e' := nI 8) (by decide) ⟨by decide, br_f (by decide) (br_f (by decide) h)⟩⟩⟩
  · refine Or.inr (Or.inr ⟨by omega, fun Q h => ?_⟩)
    rw [show (nI 48 - 16) / 4 = nI 8 by decide, show nI 48 &&& 3 = nI 0 by decide]
    refine nm_e (br_f (by decide) ⟨qa_ii 256 0 512 (by omega) (by omega), ?_⟩)
    rw [show ((256 : Int32) + nI 0).toNatClampNeg = 256 by decide]
    refine nm_e ?_
    rw [M.2.2.2.2.2.2.1, M.1]
    exact br_f (by decide) (br_f (by decide) (br_f (by decide) (br_f (by decide) (br_f (by decide) (br_f (by decide) (br_f (by decide) (br_t rfl (nm_e (my_199c (k := 8) (Or.inl rfl) rfl (br_f (by decide) ⟨qa_ii 256 0 512 (by omega) (by omega), nm_r (qa_up _ _ (qa_ic 256 0 (by omega))) h⟩))))))))))
theorem op_49 : op_T 49 0 := by
  intro x1 l sa da rn cn sb p s sv iv c t tv jv e hp hlb H M N
  obtain ⟨s', t', R, hE, hY⟩ := en_gen (sa := sa) (da := da) (rn := rn) (cn := cn) (sv := sv) (iv := iv) (c := c) (sb := sb) (tv := tv) (jv := jv) (e := e) (s := s) (t := upd (upd (upd t 261 (ml_zf (ml_ch 8 (s 257) (s 262)))) 262 (ml_kf 8 (s 257) (s 262))) 257 (ml_ch 8 (s 257) (s 262))) (l := l) (o := nI 49) (fun a => upd (upd a 261 (ml_zf (ml_ch 8 (s 257) (s 262)))) 257 (ml_ch 8 (s 257) (s 262))) (fun a => qa_agU (qa_agU qa_ag0 (by omega)) (by omega)) (qa_agB (qa_agB (qa_agU (qa_agU qa_ag0 (by omega)) (by omega)))) rfl rfl (by decide) (by decide) (by decide) (by decide) (hr_cml M) hlb (hr_HwY (hr_HwY (hr_HwY H (by omega)) (by omega)) (by omega)) (hr_cmB (hr_cmC (x := (s 257)) M (Or.inl rfl)) (by omega) (ml_chB (Or.inl rfl) (M.2.2.2.2.2.2.2.2.2.1) (M.2.2.2.2.2.2.2.2.2.2.2.2.2.2.1)) rfl)
    (fun Q h => by
        refine br_t (by decide) ⟨by decide, nm_r (e' := nI 8) (by decide) ⟨by decide, nm_r (e' := nI 1) (by decide) (br_f (by decide) ⟨qa_ii 256 1 488 (by omega) (by omega), ?_⟩)⟩⟩
        rw [show ((256 : Int32) + nI 1).toNatClampNeg = 257 by decide]
        refine br_f (by decide) (br_f (by decide) (br_f (by decide) ?_))
        unfold wpX_isChange
        refine br_f (by decide) (br_f (by decide) (br_f (by decide) ?_))
        refine br_f (by decide) (br_f (by decide) (br_f (by decide) ?_))
        refine mx_changed (k := 8) (Or.inl rfl) ?_
        exact ⟨qa_ii 256 1 488 (by omega) (by omega), nm_r (qa_up _ _ (qa_ic 256 1 (by omega))) h⟩)
    (fun Q h => by
        refine br_t (by decide) ⟨by decide, nm_r (e' := nI 8) (by decide) ⟨by decide, nm_r (e' := nI 1) (by decide) (br_f (by decide) ⟨qa_ii 256 1 488 (by omega) (by omega), ?_⟩)⟩⟩
        rw [show ((256 : Int32) + nI 1).toNatClampNeg = 257 by decide]
        refine br_f (by decide) (br_f (by decide) (br_f (by decide) ?_))
        unfold wpX_isChange
        refine br_f (by decide) (br_f (by decide) (br_f (by decide) ?_))
        refine br_f (by decide) (br_f (by decide) (br_f (by decide) ?_))
        refine mx_changed (k := 8) (Or.inl rfl) ?_
        exact ⟨qa_ii 256 1 488 (by omega) (by omega), nm_r (qa_up _ _ (qa_ic 256 1 (by omega))) h⟩)
  refine ⟨0, 0, s', t', _, e, upd (upd (upd t 261 (ml_zf (ml_ch 8 (s 257) (s 262)))) 262 (ml_kf 8 (s 257) (s 262))) 257 (ml_ch 8 (s 257) (s 262)), da, rn, cn, ?_, Or.inl ⟨rfl, rfl, hE⟩, op_Dof R (hr_ct0 N), by omega, ?_, hY⟩
  · exact Or.inl ⟨by omega, fun post h => ⟨by decide, nm_r (e' := nI 8) (by decide) ⟨by decide, br_f (by decide) (br_f (by decide) h)⟩⟩⟩
  · refine Or.inr (Or.inr ⟨by omega, fun Q h => ?_⟩)
    rw [show (nI 49 - 16) / 4 = nI 8 by decide, show nI 49 &&& 3 = nI 1 by decide]
    refine nm_e (br_f (by decide) ⟨qa_ii 256 1 512 (by omega) (by omega), ?_⟩)
    rw [show ((256 : Int32) + nI 1).toNatClampNeg = 257 by decide]
    refine nm_e ?_
    rw [M.2.2.2.2.2.2.1, M.2.1]
    exact br_f (by decide) (br_f (by decide) (br_f (by decide) (br_f (by decide) (br_f (by decide) (br_f (by decide) (br_f (by decide) (br_t rfl (nm_e (my_199c (k := 8) (Or.inl rfl) rfl (br_f (by decide) ⟨qa_ii 256 1 512 (by omega) (by omega), nm_r (qa_up _ _ (qa_ic 256 1 (by omega))) h⟩))))))))))
theorem op_50 : op_T 50 0 := by
  intro x1 l sa da rn cn sb p s sv iv c t tv jv e hp hlb H M N
  obtain ⟨s', t', R, hE, hY⟩ := en_gen (sa := sa) (da := da) (rn := rn) (cn := cn) (sv := sv) (iv := iv) (c := c) (sb := sb) (tv := tv) (jv := jv) (e := e) (s := s) (t := upd (upd (upd t 261 (ml_zf (ml_ch 8 (s 258) (s 262)))) 262 (ml_kf 8 (s 258) (s 262))) 258 (ml_ch 8 (s 258) (s 262))) (l := l) (o := nI 50) (fun a => upd (upd a 261 (ml_zf (ml_ch 8 (s 258) (s 262)))) 258 (ml_ch 8 (s 258) (s 262))) (fun a => qa_agU (qa_agU qa_ag0 (by omega)) (by omega)) (qa_agB (qa_agB (qa_agU (qa_agU qa_ag0 (by omega)) (by omega)))) rfl rfl (by decide) (by decide) (by decide) (by decide) (hr_cml M) hlb (hr_HwY (hr_HwY (hr_HwY H (by omega)) (by omega)) (by omega)) (hr_cmB (hr_cmC (x := (s 258)) M (Or.inl rfl)) (by omega) (ml_chB (Or.inl rfl) (M.2.2.2.2.2.2.2.2.2.2.1) (M.2.2.2.2.2.2.2.2.2.2.2.2.2.2.1)) rfl)
    (fun Q h => by
        refine br_t (by decide) ⟨by decide, nm_r (e' := nI 8) (by decide) ⟨by decide, nm_r (e' := nI 2) (by decide) (br_f (by decide) ⟨qa_ii 256 2 488 (by omega) (by omega), ?_⟩)⟩⟩
        rw [show ((256 : Int32) + nI 2).toNatClampNeg = 258 by decide]
        refine br_f (by decide) (br_f (by decide) (br_f (by decide) ?_))
        unfold wpX_isChange
        refine br_f (by decide) (br_f (by decide) (br_f (by decide) ?_))
        refine br_f (by decide) (br_f (by decide) (br_f (by decide) ?_))
        refine mx_changed (k := 8) (Or.inl rfl) ?_
        exact ⟨qa_ii 256 2 488 (by omega) (by omega), nm_r (qa_up _ _ (qa_ic 256 2 (by omega))) h⟩)
    (fun Q h => by
        refine br_t (by decide) ⟨by decide, nm_r (e' := nI 8) (by decide) ⟨by decide, nm_r (e' := nI 2) (by decide) (br_f (by decide) ⟨qa_ii 256 2 488 (by omega) (by omega), ?_⟩)⟩⟩
        rw [show ((256 : Int32) + nI 2).toNatClampNeg = 258 by decide]
        refine br_f (by decide) (br_f (by decide) (br_f (by decide) ?_))
        unfold wpX_isChange
        refine br_f (by decide) (br_f (by decide) (br_f (by decide) ?_))
        refine br_f (by decide) (br_f (by decide) (br_f (by decide) ?_))
        refine mx_changed (k := 8) (Or.inl rfl) ?_
        exact ⟨qa_ii 256 2 488 (by omega) (by omega), nm_r (qa_up _ _ (qa_ic 256 2 (by omega))) h⟩)
  refine ⟨0, 0, s', t', _, e, upd (upd (upd t 261 (ml_zf (ml_ch 8 (s 258) (s 262)))) 262 (ml_kf 8 (s 258) (s 262))) 258 (ml_ch 8 (s 258) (s 262)), da, rn, cn, ?_, Or.inl ⟨rfl, rfl, hE⟩, op_Dof R (hr_ct0 N), by omega, ?_, hY⟩
  · exact Or.inl ⟨by omega, fun post h => ⟨by decide, nm_r (e' := nI 8) (by decide) ⟨by decide, br_f (by decide) (br_f (by decide) h)⟩⟩⟩
  · refine Or.inr (Or.inr ⟨by omega, fun Q h => ?_⟩)
    rw [show (nI 50 - 16) / 4 = nI 8 by decide, show nI 50 &&& 3 = nI 2 by decide]
    refine nm_e (br_f (by decide) ⟨qa_ii 256 2 512 (by omega) (by omega), ?_⟩)
    rw [show ((256 : Int32) + nI 2).toNatClampNeg = 258 by decide]
    refine nm_e ?_
    rw [M.2.2.2.2.2.2.1, M.2.2.1]
    exact br_f (by decide) (br_f (by decide) (br_f (by decide) (br_f (by decide) (br_f (by decide) (br_f (by decide) (br_f (by decide) (br_t rfl (nm_e (my_199c (k := 8) (Or.inl rfl) rfl (br_f (by decide) ⟨qa_ii 256 2 512 (by omega) (by omega), nm_r (qa_up _ _ (qa_ic 256 2 (by omega))) h⟩))))))))))
theorem op_51 : op_T 51 0 := by
  intro x1 l sa da rn cn sb p s sv iv c t tv jv e hp hlb H M N
  obtain ⟨s1, t1, c1, e1, rn1, cn1, r1, H1, M1, ct1, f1, B1, X1, Y1⟩ := mp_rdp (sa := sa) (dg := nI 51) (da := da) (rn := rn) (cn := cn) (sv := sv) (iv := iv) (sb := sb) (tv := tv) (jv := jv) (st := 118) (st' := 7)  (by decide) (by decide) H M N
  obtain ⟨s2, t2, c2, e2, rn2, cn2, H2, M2, ct2, X2, Y2⟩ := mp_wrc (sa := sa) (dg := nI 51) (da := r1) (rn := rn1) (cn := cn1) (sv := sv) (iv := iv) (sb := sb) (tv := tv) (jv := jv) (st := 7) (st' := 0) (Or.inl rfl) B1 (by decide) (by decide) (by decide) H1 M1 ct1.2.2.2
  obtain ⟨s', t', R, hE, hY⟩ := en_gen (sa := sa) (da := r1) (rn := rn2) (cn := cn2) (sv := sv) (iv := iv) (c := c2) (sb := sb) (tv := tv) (jv := jv) (e := e2) (s := s2) (t := t2) (l := l) (o := nI 51) (fun a => a) (fun a => qa_ag0) (qa_agU (qa_agU qa_ag0 (by omega)) (by omega)) rfl rfl (by decide) (by decide) (by decide) (by decide) (hr_cml M2) hlb (H2) (M2)
    (fun Q h => by
        refine br_t (by decide) ⟨by decide, nm_r (e' := nI 8) (by decide) ⟨by decide, nm_r (e' := nI 3) (by decide) (br_t rfl ?_)⟩⟩
        refine br_f (by decide) (br_f (by decide) (br_f (by decide) ?_))
        unfold wpX_isChange
        refine br_f (by decide) (br_f (by decide) (br_f (by decide) ?_))
        exact br_t rfl h)
    (fun Q h => by
        refine br_t (by decide) ⟨by decide, nm_r (e' := nI 8) (by decide) ⟨by decide, nm_r (e' := nI 3) (by decide) (br_t rfl ?_)⟩⟩
        refine br_f (by decide) (br_f (by decide) (br_f (by decide) ?_))
        unfold wpX_isChange
        refine br_f (by decide) (br_f (by decide) (br_f (by decide) ?_))
        exact br_t rfl h)
  refine ⟨118, 2, s', t', _, e2, t2, r1, rn2, cn2, ?_, Or.inr ⟨by decide, 1, rfl, st_cons (by omega) X1 (by decide) (st_last X2 hE)⟩, op_Dof R (hr_ctT ct1 ct2), by omega, ?_, hY⟩
  · refine Or.inl ⟨by omega, fun post h => ⟨by decide, nm_r (e' := nI 8) (by decide) ⟨by decide, br_t (by decide) (br_f (by decide) (br_f (by decide) ?_))⟩⟩⟩
    unfold wpX_isChange
    exact br_f (by decide) (br_f (by decide) (br_f (by decide) h))
  · refine Or.inr (Or.inr ⟨by omega, fun Q h => ?_⟩)
    rw [show (nI 51 - 16) / 4 = nI 8 by decide, show nI 51 &&& 3 = nI 3 by decide]
    refine nm_e (br_t rfl ?_)
    refine Y1 _ ?_
    refine nm_e ?_
    rw [M1.2.2.2.2.2.2.1]
    exact br_f (by decide) (br_f (by decide) (br_f (by decide) (br_f (by decide) (br_f (by decide) (br_f (by decide) (br_f (by decide) (br_t rfl (nm_e (my_199c (k := 8) (Or.inl rfl) rfl (br_t rfl (Y2 _ h)))))))))))
theorem op_52 : op_T 52 0 := by
  intro x1 l sa da rn cn sb p s sv iv c t tv jv e hp hlb H M N
  obtain ⟨s', t', R, hE, hY⟩ := en_gen (sa := sa) (da := da) (rn := rn) (cn := cn) (sv := sv) (iv := iv) (c := c) (sb := sb) (tv := tv) (jv := jv) (e := e) (s := s) (t := upd (upd (upd t 261 (ml_zf (ml_ch 9 (s 256) (s 262)))) 262 (ml_kf 9 (s 256) (s 262))) 256 (ml_ch 9 (s 256) (s 262))) (l := l) (o := nI 52) (fun a => upd (upd a 261 (ml_zf (ml_ch 9 (s 256) (s 262)))) 256 (ml_ch 9 (s 256) (s 262))) (fun a => qa_agU (qa_agU qa_ag0 (by omega)) (by omega)) (qa_agB (qa_agB (qa_agU (qa_agU qa_ag0 (by omega)) (by omega)))) rfl rfl (by decide) (by decide) (by decide) (by decide) (hr_cml M) hlb (hr_HwY (hr_HwY (hr_HwY H (by omega)) (by omega)) (by omega)) (hr_cmB (hr_cmC (x := (s 256)) M (Or.inr (Or.inl rfl))) (by omega) (ml_chB (Or.inr (Or.inl rfl)) (M.2.2.2.2.2.2.2.2.1) (M.2.2.2.2.2.2.2.2.2.2.2.2.2.2.1)) rfl)
    (fun Q h => by
        refine br_t (by decide) ⟨by decide, nm_r (e' := nI 9) (by decide) ⟨by decide, nm_r (e' := nI 0) (by decide) (br_f (by decide) ⟨qa_ii 256 0 488 (by omega) (by omega), ?_⟩)⟩⟩
        rw [show ((256 : Int32) + nI 0).toNatClampNeg = 256 by decide]
        refine br_f (by decide) (br_f (by decide) (br_f (by decide) ?_))
        unfold wpX_isChange
        refine br_f (by decide) (br_f (by decide) (br_f (by decide) ?_))
        refine br_f (by decide) (br_f (by decide) (br_f (by decide) ?_))
        refine mx_changed (k := 9) (Or.inr (Or.inl rfl)) ?_
        exact ⟨qa_ii 256 0 488 (by omega) (by omega), nm_r (qa_up _ _ (qa_ic 256 0 (by omega))) h⟩)
    (fun Q h => by
        refine br_t (by decide) ⟨by decide, nm_r (e' := nI 9) (by decide) ⟨by decide, nm_r (e' := nI 0) (by decide) (br_f (by decide) ⟨qa_ii 256 0 488 (by omega) (by omega), ?_⟩)⟩⟩
        rw [show ((256 : Int32) + nI 0).toNatClampNeg = 256 by decide]
        refine br_f (by decide) (br_f (by decide) (br_f (by decide) ?_))
        unfold wpX_isChange
        refine br_f (by decide) (br_f (by decide) (br_f (by decide) ?_))
        refine br_f (by decide) (br_f (by decide) (br_f (by decide) ?_))
        refine mx_changed (k := 9) (Or.inr (Or.inl rfl)) ?_
        exact ⟨qa_ii 256 0 488 (by omega) (by omega), nm_r (qa_up _ _ (qa_ic 256 0 (by omega))) h⟩)
  refine ⟨0, 0, s', t', _, e, upd (upd (upd t 261 (ml_zf (ml_ch 9 (s 256) (s 262)))) 262 (ml_kf 9 (s 256) (s 262))) 256 (ml_ch 9 (s 256) (s 262)), da, rn, cn, ?_, Or.inl ⟨rfl, rfl, hE⟩, op_Dof R (hr_ct0 N), by omega, ?_, hY⟩
  · exact Or.inl ⟨by omega, fun post h => ⟨by decide, nm_r (e' := nI 9) (by decide) ⟨by decide, br_f (by decide) (br_f (by decide) h)⟩⟩⟩
  · refine Or.inr (Or.inr ⟨by omega, fun Q h => ?_⟩)
    rw [show (nI 52 - 16) / 4 = nI 9 by decide, show nI 52 &&& 3 = nI 0 by decide]
    refine nm_e (br_f (by decide) ⟨qa_ii 256 0 512 (by omega) (by omega), ?_⟩)
    rw [show ((256 : Int32) + nI 0).toNatClampNeg = 256 by decide]
    refine nm_e ?_
    rw [M.2.2.2.2.2.2.1, M.1]
    exact br_f (by decide) (br_f (by decide) (br_f (by decide) (br_f (by decide) (br_f (by decide) (br_f (by decide) (br_f (by decide) (br_f (by decide) (br_t rfl (nm_e (my_199c (k := 9) (Or.inr (Or.inl rfl)) ((qa_decI (M.2.2.2.2.2.2.2.2.1)).symm) (br_f (by decide) ⟨qa_ii 256 0 512 (by omega) (by omega), nm_r (qa_up _ _ (qa_ic 256 0 (by omega))) h⟩)))))))))))
theorem op_53 : op_T 53 0 := by
  intro x1 l sa da rn cn sb p s sv iv c t tv jv e hp hlb H M N
  obtain ⟨s', t', R, hE, hY⟩ := en_gen (sa := sa) (da := da) (rn := rn) (cn := cn) (sv := sv) (iv := iv) (c := c) (sb := sb) (tv := tv) (jv := jv) (e := e) (s := s) (t := upd (upd (upd t 261 (ml_zf (ml_ch 9 (s 257) (s 262)))) 262 (ml_kf 9 (s 257) (s 262))) 257 (ml_ch 9 (s 257) (s 262))) (l := l) (o := nI 53) (fun a => upd (upd a 261 (ml_zf (ml_ch 9 (s 257) (s 262)))) 257 (ml_ch 9 (s 257) (s 262))) (fun a => qa_agU (qa_agU qa_ag0 (by omega)) (by omega)) (qa_agB (qa_agB (qa_agU (qa_agU qa_ag0 (by omega)) (by omega)))) rfl rfl (by decide) (by decide) (by decide) (by decide) (hr_cml M) hlb (hr_HwY (hr_HwY (hr_HwY H (by omega)) (by omega)) (by omega)) (hr_cmB (hr_cmC (x := (s 257)) M (Or.inr (Or.inl rfl))) (by omega) (ml_chB (Or.inr (Or.inl rfl)) (M.2.2.2.2.2.2.2.2.2.1) (M.2.2.2.2.2.2.2.2.2.2.2.2.2.2.1)) rfl)
    (fun Q h => by
        refine br_t (by decide) ⟨by decide, nm_r (e' := nI 9) (by decide) ⟨by decide, nm_r (e' := nI 1) (by decide) (br_f (by decide) ⟨qa_ii 256 1 488 (by omega) (by omega), ?_⟩)⟩⟩
        rw [show ((256 : Int32) + nI 1).toNatClampNeg = 257 by decide]
        refine br_f (by decide) (br_f (by decide) (br_f (by decide) ?_))
        unfold wpX_isChange
        refine br_f (by decide) (br_f (by decide) (br_f (by decide) ?_))
        refine br_f (by decide) (br_f (by decide) (br_f (by decide) ?_))
        refine mx_changed (k := 9) (Or.inr (Or.inl rfl)) ?_
        exact ⟨qa_ii 256 1 488 (by omega) (by omega), nm_r (qa_up _ _ (qa_ic 256 1 (by omega))) h⟩)
    (fun Q h => by
        refine br_t (by decide) ⟨by decide, nm_r (e' := nI 9) (by decide) ⟨by decide, nm_r (e' := nI 1) (by decide) (br_f (by decide) ⟨qa_ii 256 1 488 (by omega) (by omega), ?_⟩)⟩⟩
        rw [show ((256 : Int32) + nI 1).toNatClampNeg = 257 by decide]
        refine br_f (by decide) (br_f (by decide) (br_f (by decide) ?_))
        unfold wpX_isChange
        refine br_f (by decide) (br_f (by decide) (br_f (by decide) ?_))
        refine br_f (by decide) (br_f (by decide) (br_f (by decide) ?_))
        refine mx_changed (k := 9) (Or.inr (Or.inl rfl)) ?_
        exact ⟨qa_ii 256 1 488 (by omega) (by omega), nm_r (qa_up _ _ (qa_ic 256 1 (by omega))) h⟩)
  refine ⟨0, 0, s', t', _, e, upd (upd (upd t 261 (ml_zf (ml_ch 9 (s 257) (s 262)))) 262 (ml_kf 9 (s 257) (s 262))) 257 (ml_ch 9 (s 257) (s 262)), da, rn, cn, ?_, Or.inl ⟨rfl, rfl, hE⟩, op_Dof R (hr_ct0 N), by omega, ?_, hY⟩
  · exact Or.inl ⟨by omega, fun post h => ⟨by decide, nm_r (e' := nI 9) (by decide) ⟨by decide, br_f (by decide) (br_f (by decide) h)⟩⟩⟩
  · refine Or.inr (Or.inr ⟨by omega, fun Q h => ?_⟩)
    rw [show (nI 53 - 16) / 4 = nI 9 by decide, show nI 53 &&& 3 = nI 1 by decide]
    refine nm_e (br_f (by decide) ⟨qa_ii 256 1 512 (by omega) (by omega), ?_⟩)
    rw [show ((256 : Int32) + nI 1).toNatClampNeg = 257 by decide]
    refine nm_e ?_
    rw [M.2.2.2.2.2.2.1, M.2.1]
    exact br_f (by decide) (br_f (by decide) (br_f (by decide) (br_f (by decide) (br_f (by decide) (br_f (by decide) (br_f (by decide) (br_f (by decide) (br_t rfl (nm_e (my_199c (k := 9) (Or.inr (Or.inl rfl)) ((qa_decI (M.2.2.2.2.2.2.2.2.2.1)).symm) (br_f (by decide) ⟨qa_ii 256 1 512 (by omega) (by omega), nm_r (qa_up _ _ (qa_ic 256 1 (by omega))) h⟩)))))))))))
theorem op_54 : op_T 54 0 := by
  intro x1 l sa da rn cn sb p s sv iv c t tv jv e hp hlb H M N
  obtain ⟨s', t', R, hE, hY⟩ := en_gen (sa := sa) (da := da) (rn := rn) (cn := cn) (sv := sv) (iv := iv) (c := c) (sb := sb) (tv := tv) (jv := jv) (e := e) (s := s) (t := upd (upd (upd t 261 (ml_zf (ml_ch 9 (s 258) (s 262)))) 262 (ml_kf 9 (s 258) (s 262))) 258 (ml_ch 9 (s 258) (s 262))) (l := l) (o := nI 54) (fun a => upd (upd a 261 (ml_zf (ml_ch 9 (s 258) (s 262)))) 258 (ml_ch 9 (s 258) (s 262))) (fun a => qa_agU (qa_agU qa_ag0 (by omega)) (by omega)) (qa_agB (qa_agB (qa_agU (qa_agU qa_ag0 (by omega)) (by omega)))) rfl rfl (by decide) (by decide) (by decide) (by decide) (hr_cml M) hlb (hr_HwY (hr_HwY (hr_HwY H (by omega)) (by omega)) (by omega)) (hr_cmB (hr_cmC (x := (s 258)) M (Or.inr (Or.inl rfl))) (by omega) (ml_chB (Or.inr (Or.inl rfl)) (M.2.2.2.2.2.2.2.2.2.2.1) (M.2.2.2.2.2.2.2.2.2.2.2.2.2.2.1)) rfl)
    (fun Q h => by
        refine br_t (by decide) ⟨by decide, nm_r (e' := nI 9) (by decide) ⟨by decide, nm_r (e' := nI 2) (by decide) (br_f (by decide) ⟨qa_ii 256 2 488 (by omega) (by omega), ?_⟩)⟩⟩
        rw [show ((256 : Int32) + nI 2).toNatClampNeg = 258 by decide]
        refine br_f (by decide) (br_f (by decide) (br_f (by decide) ?_))
        unfold wpX_isChange
        refine br_f (by decide) (br_f (by decide) (br_f (by decide) ?_))
        refine br_f (by decide) (br_f (by decide) (br_f (by decide) ?_))
        refine mx_changed (k := 9) (Or.inr (Or.inl rfl)) ?_
        exact ⟨qa_ii 256 2 488 (by omega) (by omega), nm_r (qa_up _ _ (qa_ic 256 2 (by omega))) h⟩)
    (fun Q h => by
        refine br_t (by decide) ⟨by decide, nm_r (e' := nI 9) (by decide) ⟨by decide, nm_r (e' := nI 2) (by decide) (br_f (by decide) ⟨qa_ii 256 2 488 (by omega) (by omega), ?_⟩)⟩⟩
        rw [show ((256 : Int32) + nI 2).toNatClampNeg = 258 by decide]
        refine br_f (by decide) (br_f (by decide) (br_f (by decide) ?_))
        unfold wpX_isChange
        refine br_f (by decide) (br_f (by decide) (br_f (by decide) ?_))
        refine br_f (by decide) (br_f (by decide) (br_f (by decide) ?_))
        refine mx_changed (k := 9) (Or.inr (Or.inl rfl)) ?_
        exact ⟨qa_ii 256 2 488 (by omega) (by omega), nm_r (qa_up _ _ (qa_ic 256 2 (by omega))) h⟩)
  refine ⟨0, 0, s', t', _, e, upd (upd (upd t 261 (ml_zf (ml_ch 9 (s 258) (s 262)))) 262 (ml_kf 9 (s 258) (s 262))) 258 (ml_ch 9 (s 258) (s 262)), da, rn, cn, ?_, Or.inl ⟨rfl, rfl, hE⟩, op_Dof R (hr_ct0 N), by omega, ?_, hY⟩
  · exact Or.inl ⟨by omega, fun post h => ⟨by decide, nm_r (e' := nI 9) (by decide) ⟨by decide, br_f (by decide) (br_f (by decide) h)⟩⟩⟩
  · refine Or.inr (Or.inr ⟨by omega, fun Q h => ?_⟩)
    rw [show (nI 54 - 16) / 4 = nI 9 by decide, show nI 54 &&& 3 = nI 2 by decide]
    refine nm_e (br_f (by decide) ⟨qa_ii 256 2 512 (by omega) (by omega), ?_⟩)
    rw [show ((256 : Int32) + nI 2).toNatClampNeg = 258 by decide]
    refine nm_e ?_
    rw [M.2.2.2.2.2.2.1, M.2.2.1]
    exact br_f (by decide) (br_f (by decide) (br_f (by decide) (br_f (by decide) (br_f (by decide) (br_f (by decide) (br_f (by decide) (br_f (by decide) (br_t rfl (nm_e (my_199c (k := 9) (Or.inr (Or.inl rfl)) ((qa_decI (M.2.2.2.2.2.2.2.2.2.2.1)).symm) (br_f (by decide) ⟨qa_ii 256 2 512 (by omega) (by omega), nm_r (qa_up _ _ (qa_ic 256 2 (by omega))) h⟩)))))))))))
theorem op_55 : op_T 55 0 := by
  intro x1 l sa da rn cn sb p s sv iv c t tv jv e hp hlb H M N
  obtain ⟨s1, t1, c1, e1, rn1, cn1, r1, H1, M1, ct1, f1, B1, X1, Y1⟩ := mp_rdp (sa := sa) (dg := nI 55) (da := da) (rn := rn) (cn := cn) (sv := sv) (iv := iv) (sb := sb) (tv := tv) (jv := jv) (st := 118) (st' := 7)  (by decide) (by decide) H M N
  obtain ⟨s2, t2, c2, e2, rn2, cn2, H2, M2, ct2, X2, Y2⟩ := mp_wrc (sa := sa) (dg := nI 55) (da := r1) (rn := rn1) (cn := cn1) (sv := sv) (iv := iv) (sb := sb) (tv := tv) (jv := jv) (st := 7) (st' := 0) (Or.inr (Or.inl rfl)) B1 (by decide) (by decide) (by decide) H1 M1 ct1.2.2.2
  obtain ⟨s', t', R, hE, hY⟩ := en_gen (sa := sa) (da := r1) (rn := rn2) (cn := cn2) (sv := sv) (iv := iv) (c := c2) (sb := sb) (tv := tv) (jv := jv) (e := e2) (s := s2) (t := t2) (l := l) (o := nI 55) (fun a => a) (fun a => qa_ag0) (qa_agU (qa_agU qa_ag0 (by omega)) (by omega)) rfl rfl (by decide) (by decide) (by decide) (by decide) (hr_cml M2) hlb (H2) (M2)
    (fun Q h => by
        refine br_t (by decide) ⟨by decide, nm_r (e' := nI 9) (by decide) ⟨by decide, nm_r (e' := nI 3) (by decide) (br_t rfl ?_)⟩⟩
        refine br_f (by decide) (br_f (by decide) (br_f (by decide) ?_))
        unfold wpX_isChange
        refine br_f (by decide) (br_f (by decide) (br_f (by decide) ?_))
        exact br_t rfl h)
    (fun Q h => by
        refine br_t (by decide) ⟨by decide, nm_r (e' := nI 9) (by decide) ⟨by decide, nm_r (e' := nI 3) (by decide) (br_t rfl ?_)⟩⟩
        refine br_f (by decide) (br_f (by decide) (br_f (by decide) ?_))
        unfold wpX_isChange
        refine br_f (by decide) (br_f (by decide) (br_f (by decide) ?_))
        exact br_t rfl h)
  refine ⟨118, 2, s', t', _, e2, t2, r1, rn2, cn2, ?_, Or.inr ⟨by decide, 1, rfl, st_cons (by omega) X1 (by decide) (st_last X2 hE)⟩, op_Dof R (hr_ctT ct1 ct2), by omega, ?_, hY⟩
  · refine Or.inl ⟨by omega, fun post h => ⟨by decide, nm_r (e' := nI 9) (by decide) ⟨by decide, br_t (by decide) (br_f (by decide) (br_f (by decide) ?_))⟩⟩⟩
    unfold wpX_isChange
    exact br_f (by decide) (br_f (by decide) (br_f (by decide) h))
  · refine Or.inr (Or.inr ⟨by omega, fun Q h => ?_⟩)
    rw [show (nI 55 - 16) / 4 = nI 9 by decide, show nI 55 &&& 3 = nI 3 by decide]
    refine nm_e (br_t rfl ?_)
    refine Y1 _ ?_
    refine nm_e ?_
    rw [M1.2.2.2.2.2.2.1]
    exact br_f (by decide) (br_f (by decide) (br_f (by decide) (br_f (by decide) (br_f (by decide) (br_f (by decide) (br_f (by decide) (br_f (by decide) (br_t rfl (nm_e (my_199c (k := 9) (Or.inr (Or.inl rfl)) ((qa_decI (B1)).symm) (br_t rfl (Y2 _ h))))))))))))
theorem op_56 : op_T 56 0 := by
  intro x1 l sa da rn cn sb p s sv iv c t tv jv e hp hlb H M N
  obtain ⟨s', t', R, hE, hY⟩ := en_gen (sa := sa) (da := da) (rn := rn) (cn := cn) (sv := sv) (iv := iv) (c := c) (sb := sb) (tv := tv) (jv := jv) (e := e) (s := s) (t := upd (upd (upd t 261 (ml_zf (ml_ch 10 (s 256) (s 262)))) 262 (ml_kf 10 (s 256) (s 262))) 256 (ml_ch 10 (s 256) (s 262))) (l := l) (o := nI 56) (fun a => upd (upd (upd a 262 ((s 256) &&& 1)) 261 (ml_zf (ml_ch 10 (s 256) (s 262)))) 256 (ml_ch 10 (s 256) (s 262))) (fun a => qa_agU (qa_agU (qa_agU qa_ag0 (by omega)) (by omega)) (by omega)) (qa_agB (qa_agB (qa_agB (qa_agU (qa_agU qa_ag0 (by omega)) (by omega))))) rfl rfl (by decide) (by decide) (by decide) (by decide) (hr_cml M) hlb (hr_HwY (hr_HwY (hr_HwY H (by omega)) (by omega)) (by omega)) (hr_cmB (hr_cmC (x := (s 256)) M (Or.inr (Or.inr rfl))) (by omega) (ml_chB (Or.inr (Or.inr rfl)) (M.2.2.2.2.2.2.2.2.1) (M.2.2.2.2.2.2.2.2.2.2.2.2.2.2.1)) rfl)
    (fun Q h => by
        refine br_t (by decide) ⟨by decide, nm_r (e' := nI 10) (by decide) ⟨by decide, nm_r (e' := nI 0) (by decide) (br_f (by decide) ⟨qa_ii 256 0 488 (by omega) (by omega), ?_⟩)⟩⟩
        rw [show ((256 : Int32) + nI 0).toNatClampNeg = 256 by decide]
        refine br_f (by decide) (br_f (by decide) (br_f (by decide) ?_))
        unfold wpX_isChange
        refine br_f (by decide) (br_f (by decide) (br_f (by decide) ?_))
        refine br_f (by decide) (br_f (by decide) (br_f (by decide) ?_))
        refine mx_changed (k := 10) (Or.inr (Or.inr rfl)) ?_
        exact ⟨qa_ii 256 0 488 (by omega) (by omega), nm_r (qa_up _ _ (qa_ic 256 0 (by omega))) h⟩)
    (fun Q h => by
        refine br_t (by decide) ⟨by decide, nm_r (e' := nI 10) (by decide) ⟨by decide, nm_r (e' := nI 0) (by decide) (br_f (by decide) ⟨qa_ii 256 0 488 (by omega) (by omega), ?_⟩)⟩⟩
        rw [show ((256 : Int32) + nI 0).toNatClampNeg = 256 by decide]
        refine br_f (by decide) (br_f (by decide) (br_f (by decide) ?_))
        unfold wpX_isChange
        refine br_f (by decide) (br_f (by decide) (br_f (by decide) ?_))
        refine br_f (by decide) (br_f (by decide) (br_f (by decide) ?_))
        refine mx_changed (k := 10) (Or.inr (Or.inr rfl)) ?_
        exact ⟨qa_ii 256 0 488 (by omega) (by omega), nm_r (qa_up _ _ (qa_ic 256 0 (by omega))) h⟩)
  refine ⟨0, 0, s', t', _, e, upd (upd (upd t 261 (ml_zf (ml_ch 10 (s 256) (s 262)))) 262 (ml_kf 10 (s 256) (s 262))) 256 (ml_ch 10 (s 256) (s 262)), da, rn, cn, ?_, Or.inl ⟨rfl, rfl, hE⟩, op_Dof R (hr_ct0 N), by omega, ?_, hY⟩
  · exact Or.inl ⟨by omega, fun post h => ⟨by decide, nm_r (e' := nI 10) (by decide) ⟨by decide, br_f (by decide) (br_f (by decide) h)⟩⟩⟩
  · refine Or.inr (Or.inr ⟨by omega, fun Q h => ?_⟩)
    rw [show (nI 56 - 16) / 4 = nI 10 by decide, show nI 56 &&& 3 = nI 0 by decide]
    refine nm_e (br_f (by decide) ⟨qa_ii 256 0 512 (by omega) (by omega), ?_⟩)
    rw [show ((256 : Int32) + nI 0).toNatClampNeg = 256 by decide]
    refine nm_e ?_
    rw [M.2.2.2.2.2.2.1, M.1]
    exact br_f (by decide) (br_f (by decide) (br_f (by decide) (br_f (by decide) (br_f (by decide) (br_f (by decide) (br_f (by decide) (br_f (by decide) (br_f (by decide) (br_t rfl (nm_e (nm_e (my_199c (k := 10) (Or.inr (Or.inr rfl)) (qa_rrI (M.2.2.2.2.2.2.2.2.1) (M.2.2.2.2.2.2.2.2.2.2.2.2.2.2.1)) (br_f (by decide) ⟨qa_ii 256 0 512 (by omega) (by omega), nm_r (qa_up _ _ (qa_ic 256 0 (by omega))) h⟩)))))))))))))
theorem op_57 : op_T 57 0 := by
  intro x1 l sa da rn cn sb p s sv iv c t tv jv e hp hlb H M N
  obtain ⟨s', t', R, hE, hY⟩ := en_gen (sa := sa) (da := da) (rn := rn) (cn := cn) (sv := sv) (iv := iv) (c := c) (sb := sb) (tv := tv) (jv := jv) (e := e) (s := s) (t := upd (upd (upd t 261 (ml_zf (ml_ch 10 (s 257) (s 262)))) 262 (ml_kf 10 (s 257) (s 262))) 257 (ml_ch 10 (s 257) (s 262))) (l := l) (o := nI 57) (fun a => upd (upd (upd a 262 ((s 257) &&& 1)) 261 (ml_zf (ml_ch 10 (s 257) (s 262)))) 257 (ml_ch 10 (s 257) (s 262))) (fun a => qa_agU (qa_agU (qa_agU qa_ag0 (by omega)) (by omega)) (by omega)) (qa_agB (qa_agB (qa_agB (qa_agU (qa_agU qa_ag0 (by omega)) (by omega))))) rfl rfl (by decide) (by decide) (by decide) (by decide) (hr_cml M) hlb (hr_HwY (hr_HwY (hr_HwY H (by omega)) (by omega)) (by omega)) (hr_cmB (hr_cmC (x := (s 257)) M (Or.inr (Or.inr rfl))) (by omega) (ml_chB (Or.inr (Or.inr rfl)) (M.2.2.2.2.2.2.2.2.2.1) (M.2.2.2.2.2.2.2.2.2.2.2.2.2.2.1)) rfl)
    (fun Q h => by
        refine br_t (by decide) ⟨by decide, nm_r (e' := nI 10) (by decide) ⟨by decide, nm_r (e' := nI 1) (by decide) (br_f (by decide) ⟨qa_ii 256 1 488 (by omega) (by omega), ?_⟩)⟩⟩
        rw [show ((256 : Int32) + nI 1).toNatClampNeg = 257 by decide]
        refine br_f (by decide) (br_f (by decide) (br_f (by decide) ?_))
        unfold wpX_isChange
        refine br_f (by decide) (br_f (by decide) (br_f (by decide) ?_))
        refine br_f (by decide) (br_f (by decide) (br_f (by decide) ?_))
        refine mx_changed (k := 10) (Or.inr (Or.inr rfl)) ?_
        exact ⟨qa_ii 256 1 488 (by omega) (by omega), nm_r (qa_up _ _ (qa_ic 256 1 (by omega))) h⟩)
    (fun Q h => by
        refine br_t (by decide) ⟨by decide, nm_r (e' := nI 10) (by decide) ⟨by decide, nm_r (e' := nI 1) (by decide) (br_f (by decide) ⟨qa_ii 256 1 488 (by omega) (by omega), ?_⟩)⟩⟩
        rw [show ((256 : Int32) + nI 1).toNatClampNeg = 257 by decide]
        refine br_f (by decide) (br_f (by decide) (br_f (by decide) ?_))
        unfold wpX_isChange
        refine br_f (by decide) (br_f (by decide) (br_f (by decide) ?_))
        refine br_f (by decide) (br_f (by decide) (br_f (by decide) ?_))
        refine mx_changed (k := 10) (Or.inr (Or.inr rfl)) ?_
        exact ⟨qa_ii 256 1 488 (by omega) (by omega), nm_r (qa_up _ _ (qa_ic 256 1 (by omega))) h⟩)
  refine ⟨0, 0, s', t', _, e, upd (upd (upd t 261 (ml_zf (ml_ch 10 (s 257) (s 262)))) 262 (ml_kf 10 (s 257) (s 262))) 257 (ml_ch 10 (s 257) (s 262)), da, rn, cn, ?_, Or.inl ⟨rfl, rfl, hE⟩, op_Dof R (hr_ct0 N), by omega, ?_, hY⟩
  · exact Or.inl ⟨by omega, fun post h => ⟨by decide, nm_r (e' := nI 10) (by decide) ⟨by decide, br_f (by decide) (br_f (by decide) h)⟩⟩⟩
  · refine Or.inr (Or.inr ⟨by omega, fun Q h => ?_⟩)
    rw [show (nI 57 - 16) / 4 = nI 10 by decide, show nI 57 &&& 3 = nI 1 by decide]
    refine nm_e (br_f (by decide) ⟨qa_ii 256 1 512 (by omega) (by omega), ?_⟩)
    rw [show ((256 : Int32) + nI 1).toNatClampNeg = 257 by decide]
    refine nm_e ?_
    rw [M.2.2.2.2.2.2.1, M.2.1]
    exact br_f (by decide) (br_f (by decide) (br_f (by decide) (br_f (by decide) (br_f (by decide) (br_f (by decide) (br_f (by decide) (br_f (by decide) (br_f (by decide) (br_t rfl (nm_e (nm_e (my_199c (k := 10) (Or.inr (Or.inr rfl)) (qa_rrI (M.2.2.2.2.2.2.2.2.2.1) (M.2.2.2.2.2.2.2.2.2.2.2.2.2.2.1)) (br_f (by decide) ⟨qa_ii 256 1 512 (by omega) (by omega), nm_r (qa_up _ _ (qa_ic 256 1 (by omega))) h⟩)))))))))))))
theorem op_58 : op_T 58 0 := by
  intro x1 l sa da rn cn sb p s sv iv c t tv jv e hp hlb H M N
  obtain ⟨s', t', R, hE, hY⟩ := en_gen (sa := sa) (da := da) (rn := rn) (cn := cn) (sv := sv) (iv := iv) (c := c) (sb := sb) (tv := tv) (jv := jv) (e := e) (s := s) (t := upd (upd (upd t 261 (ml_zf (ml_ch 10 (s 258) (s 262)))) 262 (ml_kf 10 (s 258) (s 262))) 258 (ml_ch 10 (s 258) (s 262))) (l := l) (o := nI 58) (fun a => upd (upd (upd a 262 ((s 258) &&& 1)) 261 (ml_zf (ml_ch 10 (s 258) (s 262)))) 258 (ml_ch 10 (s 258) (s 262))) (fun a => qa_agU (qa_agU (qa_agU qa_ag0 (by omega)) (by omega)) (by omega)) (qa_agB (qa_agB (qa_agB (qa_agU (qa_agU qa_ag0 (by omega)) (by omega))))) rfl rfl (by decide) (by decide) (by decide) (by decide) (hr_cml M) hlb (hr_HwY (hr_HwY (hr_HwY H (by omega)) (by omega)) (by omega)) (hr_cmB (hr_cmC (x := (s 258)) M (Or.inr (Or.inr rfl))) (by omega) (ml_chB (Or.inr (Or.inr rfl)) (M.2.2.2.2.2.2.2.2.2.2.1) (M.2.2.2.2.2.2.2.2.2.2.2.2.2.2.1)) rfl)
    (fun Q h => by
        refine br_t (by decide) ⟨by decide, nm_r (e' := nI 10) (by decide) ⟨by decide, nm_r (e' := nI 2) (by decide) (br_f (by decide) ⟨qa_ii 256 2 488 (by omega) (by omega), ?_⟩)⟩⟩
        rw [show ((256 : Int32) + nI 2).toNatClampNeg = 258 by decide]
        refine br_f (by decide) (br_f (by decide) (br_f (by decide) ?_))
        unfold wpX_isChange
        refine br_f (by decide) (br_f (by decide) (br_f (by decide) ?_))
        refine br_f (by decide) (br_f (by decide) (br_f (by decide) ?_))
        refine mx_changed (k := 10) (Or.inr (Or.inr rfl)) ?_
        exact ⟨qa_ii 256 2 488 (by omega) (by omega), nm_r (qa_up _ _ (qa_ic 256 2 (by omega))) h⟩)
    (fun Q h => by
        refine br_t (by decide) ⟨by decide, nm_r (e' := nI 10) (by decide) ⟨by decide, nm_r (e' := nI 2) (by decide) (br_f (by decide) ⟨qa_ii 256 2 488 (by omega) (by omega), ?_⟩)⟩⟩
        rw [show ((256 : Int32) + nI 2).toNatClampNeg = 258 by decide]
        refine br_f (by decide) (br_f (by decide) (br_f (by decide) ?_))
        unfold wpX_isChange
        refine br_f (by decide) (br_f (by decide) (br_f (by decide) ?_))
        refine br_f (by decide) (br_f (by decide) (br_f (by decide) ?_))
        refine mx_changed (k := 10) (Or.inr (Or.inr rfl)) ?_
        exact ⟨qa_ii 256 2 488 (by omega) (by omega), nm_r (qa_up _ _ (qa_ic 256 2 (by omega))) h⟩)
  refine ⟨0, 0, s', t', _, e, upd (upd (upd t 261 (ml_zf (ml_ch 10 (s 258) (s 262)))) 262 (ml_kf 10 (s 258) (s 262))) 258 (ml_ch 10 (s 258) (s 262)), da, rn, cn, ?_, Or.inl ⟨rfl, rfl, hE⟩, op_Dof R (hr_ct0 N), by omega, ?_, hY⟩
  · exact Or.inl ⟨by omega, fun post h => ⟨by decide, nm_r (e' := nI 10) (by decide) ⟨by decide, br_f (by decide) (br_f (by decide) h)⟩⟩⟩
  · refine Or.inr (Or.inr ⟨by omega, fun Q h => ?_⟩)
    rw [show (nI 58 - 16) / 4 = nI 10 by decide, show nI 58 &&& 3 = nI 2 by decide]
    refine nm_e (br_f (by decide) ⟨qa_ii 256 2 512 (by omega) (by omega), ?_⟩)
    rw [show ((256 : Int32) + nI 2).toNatClampNeg = 258 by decide]
    refine nm_e ?_
    rw [M.2.2.2.2.2.2.1, M.2.2.1]
    exact br_f (by decide) (br_f (by decide) (br_f (by decide) (br_f (by decide) (br_f (by decide) (br_f (by decide) (br_f (by decide) (br_f (by decide) (br_f (by decide) (br_t rfl (nm_e (nm_e (my_199c (k := 10) (Or.inr (Or.inr rfl)) (qa_rrI (M.2.2.2.2.2.2.2.2.2.2.1) (M.2.2.2.2.2.2.2.2.2.2.2.2.2.2.1)) (br_f (by decide) ⟨qa_ii 256 2 512 (by omega) (by omega), nm_r (qa_up _ _ (qa_ic 256 2 (by omega))) h⟩)))))))))))))
theorem op_59 : op_T 59 0 := by
  intro x1 l sa da rn cn sb p s sv iv c t tv jv e hp hlb H M N
  obtain ⟨s1, t1, c1, e1, rn1, cn1, r1, H1, M1, ct1, f1, B1, X1, Y1⟩ := mp_rdp (sa := sa) (dg := nI 59) (da := da) (rn := rn) (cn := cn) (sv := sv) (iv := iv) (sb := sb) (tv := tv) (jv := jv) (st := 118) (st' := 7)  (by decide) (by decide) H M N
  obtain ⟨s2, t2, c2, e2, rn2, cn2, H2, M2, ct2, X2, Y2⟩ := mp_wrc (sa := sa) (dg := nI 59) (da := r1) (rn := rn1) (cn := cn1) (sv := sv) (iv := iv) (sb := sb) (tv := tv) (jv := jv) (st := 7) (st' := 0) (Or.inr (Or.inr rfl)) B1 (by decide) (by decide) (by decide) H1 M1 ct1.2.2.2
  obtain ⟨s', t', R, hE, hY⟩ := en_gen (sa := sa) (da := r1) (rn := rn2) (cn := cn2) (sv := sv) (iv := iv) (c := c2) (sb := sb) (tv := tv) (jv := jv) (e := e2) (s := s2) (t := t2) (l := l) (o := nI 59) (fun a => a) (fun a => qa_ag0) (qa_agU (qa_agU qa_ag0 (by omega)) (by omega)) rfl rfl (by decide) (by decide) (by decide) (by decide) (hr_cml M2) hlb (H2) (M2)
    (fun Q h => by
        refine br_t (by decide) ⟨by decide, nm_r (e' := nI 10) (by decide) ⟨by decide, nm_r (e' := nI 3) (by decide) (br_t rfl ?_)⟩⟩
        refine br_f (by decide) (br_f (by decide) (br_f (by decide) ?_))
        unfold wpX_isChange
        refine br_f (by decide) (br_f (by decide) (br_f (by decide) ?_))
        exact br_t rfl h)
    (fun Q h => by
        refine br_t (by decide) ⟨by decide, nm_r (e' := nI 10) (by decide) ⟨by decide, nm_r (e' := nI 3) (by decide) (br_t rfl ?_)⟩⟩
        refine br_f (by decide) (br_f (by decide) (br_f (by decide) ?_))
        unfold wpX_isChange
        refine br_f (by decide) (br_f (by decide) (br_f (by decide) ?_))
        exact br_t rfl h)
  refine ⟨118, 2, s', t', _, e2, t2, r1, rn2, cn2, ?_, Or.inr ⟨by decide, 1, rfl, st_cons (by omega) X1 (by decide) (st_last X2 hE)⟩, op_Dof R (hr_ctT ct1 ct2), by omega, ?_, hY⟩
  · refine Or.inl ⟨by omega, fun post h => ⟨by decide, nm_r (e' := nI 10) (by decide) ⟨by decide, br_t (by decide) (br_f (by decide) (br_f (by decide) ?_))⟩⟩⟩
    unfold wpX_isChange
    exact br_f (by decide) (br_f (by decide) (br_f (by decide) h))
  · refine Or.inr (Or.inr ⟨by omega, fun Q h => ?_⟩)
    rw [show (nI 59 - 16) / 4 = nI 10 by decide, show nI 59 &&& 3 = nI 3 by decide]
    refine nm_e (br_t rfl ?_)
    refine Y1 _ ?_
    refine nm_e ?_
    rw [M1.2.2.2.2.2.2.1]
    exact br_f (by decide) (br_f (by decide) (br_f (by decide) (br_f (by decide) (br_f (by decide) (br_f (by decide) (br_f (by decide) (br_f (by decide) (br_f (by decide) (br_t rfl (nm_e (nm_e (my_199c (k := 10) (Or.inr (Or.inr rfl)) (qa_rrI (B1) (M1.2.2.2.2.2.2.2.2.2.2.2.2.2.2.1)) (br_t rfl (Y2 _ h))))))))))))))
theorem op_60 : op_T 60 0 := by
  intro x1 l sa da rn cn sb p s sv iv c t tv jv e hp hlb H M N
  obtain ⟨cf, v, hcf, hv, hXc, hYc⟩ := pr_calc (sa := sa) (dg := nI 60) (st := 0) (da := da) (rn := rn) (cn := cn) (sv := sv) (iv := iv) (c := upd c 1 (c 1 + 1)) (sb := sb) (tv := tv) (jv := jv) (k := 11) (s := s) (x := s 256) (by unfold ml_ck; omega) (M.2.2.2.2.2.2.2.2.1) (M.2.2.2.2.2.2.2.2.1) (M.2.2.2.2.2.2.2.2.2.2.2.2.2.2.1) rfl rfl
  obtain ⟨s', t', R, hE, hY⟩ := en_gen (sa := sa) (da := da) (rn := rn) (cn := cn) (sv := sv) (iv := iv) (c := c) (sb := sb) (tv := tv) (jv := jv) (e := e) (s := s) (t := ml_cy 11 cf v t) (l := l) (o := nI 60) (ml_ce 11 cf v) (fun a => ml_ceA a) (ml_ceB (qa_agU (qa_agU qa_ag0 (by omega)) (by omega))) rfl rfl (by decide) (by decide) (by decide) (by decide) (hr_cml M) hlb (ml_cyH H) (hr_cmE M hcf hv)
    (fun Q h => by
        refine br_t (by decide) ⟨by decide, nm_r (e' := nI 11) (by decide) ⟨by decide, nm_r (e' := nI 0) (by decide) (br_f (by decide) ⟨qa_ii 256 0 488 (by omega) (by omega), ?_⟩)⟩⟩
        rw [show ((256 : Int32) + nI 0).toNatClampNeg = 256 by decide]
        refine br_f (by decide) (br_f (by decide) (br_f (by decide) ?_))
        unfold wpX_isChange
        refine br_f (by decide) (br_t (by decide) (br_t rfl ?_))
        refine hXc _ _ rfl rfl ?_
        exact h)
    (fun Q h => by
        refine br_t (by decide) ⟨by decide, nm_r (e' := nI 11) (by decide) ⟨by decide, nm_r (e' := nI 0) (by decide) (br_f (by decide) ⟨qa_ii 256 0 488 (by omega) (by omega), ?_⟩)⟩⟩
        rw [show ((256 : Int32) + nI 0).toNatClampNeg = 256 by decide]
        refine br_f (by decide) (br_f (by decide) (br_f (by decide) ?_))
        unfold wpX_isChange
        refine br_f (by decide) (br_t (by decide) (br_t rfl ?_))
        refine hXc _ _ rfl rfl ?_
        exact h)
  refine ⟨0, 0, s', t', _, e, ml_cy 11 cf v t, da, rn, cn, ?_, Or.inl ⟨rfl, rfl, hE⟩, op_Dof R (hr_ct0 N), by omega, ?_, hY⟩
  · exact Or.inl ⟨by omega, fun post h => ⟨by decide, nm_r (e' := nI 11) (by decide) ⟨by decide, br_f (by decide) (br_f (by decide) h)⟩⟩⟩
  · refine Or.inr (Or.inr ⟨by omega, fun Q h => ?_⟩)
    rw [show (nI 60 - 16) / 4 = nI 11 by decide, show nI 60 &&& 3 = nI 0 by decide]
    refine nm_e (br_f (by decide) ⟨qa_ii 256 0 512 (by omega) (by omega), ?_⟩)
    rw [show ((256 : Int32) + nI 0).toNatClampNeg = 256 by decide]
    refine nm_e ?_
    rw [M.1, M.2.2.2.2.2.2.1]
    exact br_f (by decide) (br_t (by decide) (((hYc t _ e Q h).2 (by decide)).1 (by decide)))
theorem op_61 : op_T 61 0 := by
  intro x1 l sa da rn cn sb p s sv iv c t tv jv e hp hlb H M N
  obtain ⟨cf, v, hcf, hv, hXc, hYc⟩ := pr_calc (sa := sa) (dg := nI 61) (st := 0) (da := da) (rn := rn) (cn := cn) (sv := sv) (iv := iv) (c := upd c 1 (c 1 + 1)) (sb := sb) (tv := tv) (jv := jv) (k := 11) (s := s) (x := s 257) (by unfold ml_ck; omega) (M.2.2.2.2.2.2.2.2.1) (M.2.2.2.2.2.2.2.2.2.1) (M.2.2.2.2.2.2.2.2.2.2.2.2.2.2.1) rfl rfl
  obtain ⟨s', t', R, hE, hY⟩ := en_gen (sa := sa) (da := da) (rn := rn) (cn := cn) (sv := sv) (iv := iv) (c := c) (sb := sb) (tv := tv) (jv := jv) (e := e) (s := s) (t := ml_cy 11 cf v t) (l := l) (o := nI 61) (ml_ce 11 cf v) (fun a => ml_ceA a) (ml_ceB (qa_agU (qa_agU qa_ag0 (by omega)) (by omega))) rfl rfl (by decide) (by decide) (by decide) (by decide) (hr_cml M) hlb (ml_cyH H) (hr_cmE M hcf hv)
    (fun Q h => by
        refine br_t (by decide) ⟨by decide, nm_r (e' := nI 11) (by decide) ⟨by decide, nm_r (e' := nI 1) (by decide) (br_f (by decide) ⟨qa_ii 256 1 488 (by omega) (by omega), ?_⟩)⟩⟩
        rw [show ((256 : Int32) + nI 1).toNatClampNeg = 257 by decide]
        refine br_f (by decide) (br_f (by decide) (br_f (by decide) ?_))
        unfold wpX_isChange
        refine br_f (by decide) (br_t (by decide) (br_t rfl ?_))
        refine hXc _ _ rfl rfl ?_
        exact h)
    (fun Q h => by
        refine br_t (by decide) ⟨by decide, nm_r (e' := nI 11) (by decide) ⟨by decide, nm_r (e' := nI 1) (by decide) (br_f (by decide) ⟨qa_ii 256 1 488 (by omega) (by omega), ?_⟩)⟩⟩
        rw [show ((256 : Int32) + nI 1).toNatClampNeg = 257 by decide]
        refine br_f (by decide) (br_f (by decide) (br_f (by decide) ?_))
        unfold wpX_isChange
        refine br_f (by decide) (br_t (by decide) (br_t rfl ?_))
        refine hXc _ _ rfl rfl ?_
        exact h)
  refine ⟨0, 0, s', t', _, e, ml_cy 11 cf v t, da, rn, cn, ?_, Or.inl ⟨rfl, rfl, hE⟩, op_Dof R (hr_ct0 N), by omega, ?_, hY⟩
  · exact Or.inl ⟨by omega, fun post h => ⟨by decide, nm_r (e' := nI 11) (by decide) ⟨by decide, br_f (by decide) (br_f (by decide) h)⟩⟩⟩
  · refine Or.inr (Or.inr ⟨by omega, fun Q h => ?_⟩)
    rw [show (nI 61 - 16) / 4 = nI 11 by decide, show nI 61 &&& 3 = nI 1 by decide]
    refine nm_e (br_f (by decide) ⟨qa_ii 256 1 512 (by omega) (by omega), ?_⟩)
    rw [show ((256 : Int32) + nI 1).toNatClampNeg = 257 by decide]
    refine nm_e ?_
    rw [M.1, M.2.2.2.2.2.2.1, M.2.1]
    exact br_f (by decide) (br_t (by decide) (((hYc t _ e Q h).2 (by decide)).1 (by decide)))
theorem op_62 : op_T 62 0 := by
  intro x1 l sa da rn cn sb p s sv iv c t tv jv e hp hlb H M N
  obtain ⟨cf, v, hcf, hv, hXc, hYc⟩ := pr_calc (sa := sa) (dg := nI 62) (st := 0) (da := da) (rn := rn) (cn := cn) (sv := sv) (iv := iv) (c := upd c 1 (c 1 + 1)) (sb := sb) (tv := tv) (jv := jv) (k := 11) (s := s) (x := s 258) (by unfold ml_ck; omega) (M.2.2.2.2.2.2.2.2.1) (M.2.2.2.2.2.2.2.2.2.2.1) (M.2.2.2.2.2.2.2.2.2.2.2.2.2.2.1) rfl rfl
  obtain ⟨s', t', R, hE, hY⟩ := en_gen (sa := sa) (da := da) (rn := rn) (cn := cn) (sv := sv) (iv := iv) (c := c) (sb := sb) (tv := tv) (jv := jv) (e := e) (s := s) (t := ml_cy 11 cf v t) (l := l) (o := nI 62) (ml_ce 11 cf v) (fun a => ml_ceA a) (ml_ceB (qa_agU (qa_agU qa_ag0 (by omega)) (by omega))) rfl rfl (by decide) (by decide) (by decide) (by decide) (hr_cml M) hlb (ml_cyH H) (hr_cmE M hcf hv)
    (fun Q h => by
        refine br_t (by decide) ⟨by decide, nm_r (e' := nI 11) (by decide) ⟨by decide, nm_r (e' := nI 2) (by decide) (br_f (by decide) ⟨qa_ii 256 2 488 (by omega) (by omega), ?_⟩)⟩⟩
        rw [show ((256 : Int32) + nI 2).toNatClampNeg = 258 by decide]
        refine br_f (by decide) (br_f (by decide) (br_f (by decide) ?_))
        unfold wpX_isChange
        refine br_f (by decide) (br_t (by decide) (br_t rfl ?_))
        refine hXc _ _ rfl rfl ?_
        exact h)
    (fun Q h => by
        refine br_t (by decide) ⟨by decide, nm_r (e' := nI 11) (by decide) ⟨by decide, nm_r (e' := nI 2) (by decide) (br_f (by decide) ⟨qa_ii 256 2 488 (by omega) (by omega), ?_⟩)⟩⟩
        rw [show ((256 : Int32) + nI 2).toNatClampNeg = 258 by decide]
        refine br_f (by decide) (br_f (by decide) (br_f (by decide) ?_))
        unfold wpX_isChange
        refine br_f (by decide) (br_t (by decide) (br_t rfl ?_))
        refine hXc _ _ rfl rfl ?_
        exact h)
  refine ⟨0, 0, s', t', _, e, ml_cy 11 cf v t, da, rn, cn, ?_, Or.inl ⟨rfl, rfl, hE⟩, op_Dof R (hr_ct0 N), by omega, ?_, hY⟩
  · exact Or.inl ⟨by omega, fun post h => ⟨by decide, nm_r (e' := nI 11) (by decide) ⟨by decide, br_f (by decide) (br_f (by decide) h)⟩⟩⟩
  · refine Or.inr (Or.inr ⟨by omega, fun Q h => ?_⟩)
    rw [show (nI 62 - 16) / 4 = nI 11 by decide, show nI 62 &&& 3 = nI 2 by decide]
    refine nm_e (br_f (by decide) ⟨qa_ii 256 2 512 (by omega) (by omega), ?_⟩)
    rw [show ((256 : Int32) + nI 2).toNatClampNeg = 258 by decide]
    refine nm_e ?_
    rw [M.1, M.2.2.2.2.2.2.1, M.2.2.1]
    exact br_f (by decide) (br_t (by decide) (((hYc t _ e Q h).2 (by decide)).1 (by decide)))
theorem op_63 : op_T 63 0 := by
  intro x1 l sa da rn cn sb p s sv iv c t tv jv e hp hlb H M N
  obtain ⟨s1, t1, c1, e1, rn1, cn1, r1, H1, M1, ct1, f1, B1, X1, Y1⟩ := mp_rdp (sa := sa) (dg := nI 63) (da := da) (rn := rn) (cn := cn) (sv := sv) (iv := iv) (sb := sb) (tv := tv) (jv := jv) (st := 6) (st' := 0)  (by decide) (by decide) H M N
  obtain ⟨cf, v, hcf, hv, hXc, hYc⟩ := pr_calc (sa := sa) (dg := nI 63) (st := 0) (da := r1) (rn := rn1) (cn := cn1) (sv := sv) (iv := iv) (c := upd c1 1 (c1 1 + 1)) (sb := sb) (tv := tv) (jv := jv) (k := 11) (s := s1) (x := r1) (by unfold ml_ck; omega) (M1.2.2.2.2.2.2.2.2.1) (B1) (M1.2.2.2.2.2.2.2.2.2.2.2.2.2.2.1) rfl rfl
  obtain ⟨s', t', R, hE, hY⟩ := en_gen (sa := sa) (da := r1) (rn := rn1) (cn := cn1) (sv := sv) (iv := iv) (c := c1) (sb := sb) (tv := tv) (jv := jv) (e := e1) (s := s1) (t := ml_cy 11 cf v t1) (l := l) (o := nI 63) (ml_ce 11 cf v) (fun a => ml_ceA a) (ml_ceB (qa_agU (qa_agU qa_ag0 (by omega)) (by omega))) rfl rfl (by decide) (by decide) (by decide) (by decide) (hr_cml M1) hlb (ml_cyH H1) (hr_cmE M1 hcf hv)
    (fun Q h => by
        refine br_t (by decide) ⟨by decide, nm_r (e' := nI 11) (by decide) ⟨by decide, nm_r (e' := nI 3) (by decide) (br_t rfl ?_)⟩⟩
        refine br_f (by decide) (br_f (by decide) (br_f (by decide) ?_))
        unfold wpX_isChange
        refine br_f (by decide) (br_t (by decide) (br_t rfl ?_))
        refine hXc _ _ rfl rfl ?_
        exact h)
    (fun Q h => by
        refine br_t (by decide) ⟨by decide, nm_r (e' := nI 11) (by decide) ⟨by decide, nm_r (e' := nI 3) (by decide) (br_t rfl ?_)⟩⟩
        refine br_f (by decide) (br_f (by decide) (br_f (by decide) ?_))
        unfold wpX_isChange
        refine br_f (by decide) (br_t (by decide) (br_t rfl ?_))
        refine hXc _ _ rfl rfl ?_
        exact h)
  refine ⟨6, 1, s', t', _, e1, ml_cy 11 cf v t1, r1, rn1, cn1, ?_, Or.inr ⟨by decide, 0, rfl, st_last X1 hE⟩, op_Dof R ct1, by omega, ?_, hY⟩
  · refine Or.inl ⟨by omega, fun post h => ⟨by decide, nm_r (e' := nI 11) (by decide) ⟨by decide, br_t (by decide) (br_f (by decide) (br_f (by decide) ?_))⟩⟩⟩
    unfold wpX_isChange
    exact br_f (by decide) (br_t (by decide) (br_t rfl h))
  · refine Or.inr (Or.inr ⟨by omega, fun Q h => ?_⟩)
    rw [show (nI 63 - 16) / 4 = nI 11 by decide, show nI 63 &&& 3 = nI 3 by decide]
    refine nm_e (br_t rfl ?_)
    refine Y1 _ ?_
    refine nm_e ?_
    have k6 : t 256 = s1 256 := (M.1).trans (f1 256 (by unfold hr_RG; omega)).symm
    rw [k6, M1.2.2.2.2.2.2.1]
    exact br_f (by decide) (br_t (by decide) (((hYc t1 _ e1 Q h).2 (by decide)).1 (by decide)))
