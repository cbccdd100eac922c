/-! the owed statements -/
section
variable {sa dg st da rn cn : Int32} {s sv iv c : Nat → Int32} {sb : Int32} {t tv jv e : Nat → Int32}
theorem mx_resetV {post : Int32 → SX → Prop} {pc : Int32} (h : post 1 (sa, dg, st, da, rn, cn, upd (upd (qa_fill s 240 151 (fun _ => 0)) 259 240) 260 pc, sv, iv, c)) : ∃ n, wX_reset_17 post pc sa dg st da rn cn n 240 s sv iv c := by
  have g := mx_reset h 151 0 rfl
  rw [qa_fill0] at g
  exact ⟨152, g⟩
theorem mx_saveV {post : Int32 → SX → Prop} {q : Nat} (hq : q < 2) (h : post 1 (sa, dg, st, da, rn, cn, s, qa_fill sv (488 * q) 488 s, upd iv q (vp_nar .boolean 1), c)) : ∃ n, wX_save_13 post (nI q) sa dg st da rn cn n 0 s sv iv c := by
  have g := mx_save hq h 488 0 rfl
  rw [qa_fill0] at g
  exact ⟨489, g⟩
theorem my_saveV {post : Int32 → SY → Prop} {q : Nat} (hq : q < 2) (h : post 1 (sb, t, qa_fill tv (512 * q) 512 t, upd jv q (vp_nar .boolean 1), e)) : ∃ n, wY_save_13 post (nI q) sb n 0 t tv jv e := by
  have g := my_save hq h 512 0 rfl
  rw [qa_fill0] at g
  exact ⟨513, g⟩
theorem mx_loadV {post : Int32 → SX → Prop} {q : Nat} (hq : q < 2) (h : post 1 (sa, dg, st, da, rn, cn, qa_fill s 0 488 (fun i => sv (488 * q + i)), sv, iv, c)) : ∃ n, wX_load_22 post (nI q) sa dg st da rn cn n 0 s sv iv c := by
  have g := mx_load hq h 488 0 rfl
  rw [qa_fill0] at g
  exact ⟨489, g⟩
theorem my_loadV {post : Int32 → SY → Prop} {q : Nat} (hq : q < 2) (h : post 1 (sb, qa_fill t 0 512 (fun i => tv (512 * q + i)), tv, jv, e)) : ∃ n, wY_load_22 post (nI q) sb n 0 t tv jv e := by
  have g := my_load hq h 512 0 rfl
  rw [qa_fill0] at g
  exact ⟨513, g⟩
end
/-- the relation: registers, cells and the saved states as hr_Rl says, the counts alike -/
def i_Rel (k : Nat) (u : SX) (v : SY) : Prop := match u, v with
  | (sa, _, st, _, _, _, s, sv, iv, c), (sb, t, tv, jv, e) => 0 = st ∧ sa = sb ∧ hr_Rl s t ∧ (∀ i, i < 7 → c i = e i) ∧ hr_sd sv iv tv jv
theorem i_up {k : Nat} {u : SX} {v : SY} (h : i_Rel k u v) : i_Rel (k + 3) u v := h
theorem i_vc0 : wpX_init (fun u => wpY_init (fun v => i_Rel 0 u v)) := by
  refine nm_e ?_
  unfold wpY_init
  refine my_beginV ?_
  refine ⟨rfl, rfl, ?_, fun i _ => rfl, fun q _ => ⟨rfl, fun z => absurd rfl z⟩⟩
  refine hr_beg (t := fun _ => 0) (s' := upd (fun _ => 0) 259 240) qa_B0 ?_ ⟨rfl, qa_B0⟩ ?_ ?_ rfl rfl
  · intro i hi
    rw [pk_un (by omega)]
    exact ⟨rfl, qa_B0⟩
  · intro p hp
    rw [pk_un (by omega)]
  · intro i hi
    rw [pk_un (by omega)]
theorem i_vc_put {k : Nat} {u : SX} {v : SY} (I : i_Rel k u v) (hk : k + 3 ≤ 1536) (v1 : Int32) (v2 : Int32) : wpX_put (fun r u' => wpY_put (fun r' v' => r' = r ∧ i_Rel (k + 3) u' v') v v1 v2) u v1 v2 := by
  obtain ⟨sa, dg, st, da, rn, cn, s, sv, iv, c⟩ := u
  obtain ⟨sb, t, tv, jv, e⟩ := v
  have I0 := i_up I
  obtain ⟨z1, z2, R, n7, D⟩ := I
  subst z1
  subst z2
  by_cases h0 : v1 < 0
  · exact br_t h0 (br_t h0 ⟨rfl, I0⟩)
  obtain ⟨j, hj, rfl⟩ := nI_of h0
  by_cases k : j < 240
  · refine br_f h0 (br_t (nI_lt (b := 240) k (by omega)) ⟨vp_in_nI (by omega) (by omega), nm_r (qa_up _ _ (nI_clamp hj)) ?_⟩)
    refine br_f h0 (br_t (nI_le (b := 239) (by omega) (by omega)) ⟨vp_in_nI (by omega) (by omega), nm_r (qa_up _ _ (nI_clamp hj)) ?_⟩)
    exact ⟨rfl, rfl, rfl, ⟨hr_HwW R.1 k (qa_Bm _), hr_cpuA R.2 (qa_agU qa_ag0 (by unfold hr_FX; omega)) (qa_agU qa_ag0 (by unfold hr_FY; omega))⟩, n7, D⟩
  · exact br_f h0 (br_f (nI_nlt (b := 240) (by omega) (by omega)) (br_f h0 (br_f (nI_ge (a := 239) (by omega) (by omega)) ⟨rfl, I0⟩)))
theorem i_vc_reset {k : Nat} {u : SX} {v : SY} (I : i_Rel k u v) (hk : k + 3 ≤ 1536) (v1 : Int32) : wpX_reset (fun r u' => wpY_reset (fun r' v' => r' = r ∧ i_Rel (k + 3) u' v') v v1) u v1 := by
  obtain ⟨sa, dg, st, da, rn, cn, s, sv, iv, c⟩ := u
  obtain ⟨sb, t, tv, jv, e⟩ := v
  have I0 := i_up I
  obtain ⟨z1, z2, R, n7, D⟩ := I
  subst z1
  subst z2
  by_cases h0 : v1 < 0
  · exact br_t h0 (br_t h0 ⟨rfl, I0⟩)
  obtain ⟨j, hj, rfl⟩ := nI_of h0
  by_cases k : j ≤ 255
  · refine br_f h0 (br_t (nI_le (b := 255) k (by omega)) (mx_resetV ?_))
    refine br_f h0 (br_t (nI_le (b := 255) k (by omega)) ?_)
    refine my_beginV ?_
    refine ⟨rfl, rfl, rfl, ?_, n7, D⟩
    obtain ⟨C, T, P, L, K, W, V⟩ := R.1
    refine hr_beg ⟨j, by omega, rfl⟩ ?_ ?_ ?_ ?_ rfl rfl
    · intro i hi
      rw [pk_un (by omega), pk_un (by omega), qa_fillO (by omega)]
      exact C i (by omega)
    · rw [pk_un (by omega), pk_un (by omega), qa_fillO (by omega)]
      exact K
    · intro p hp
      rw [pk_un (by omega), pk_un (by omega), qa_fillO (by omega)]
      exact W p hp
    · intro i hi
      rw [pk_un (by omega), pk_un (by omega)]
      exact qa_z (by omega) (by omega)
  · exact br_f h0 (br_f (nI_ge (a := 255) (by omega) (by omega)) (br_f h0 (br_f (nI_ge (a := 255) (by omega) (by omega)) ⟨rfl, I0⟩)))
theorem i_vc_run {k : Nat} {u : SX} {v : SY} (I : i_Rel k u v) (hk : k + 3 ≤ 1536) (v1 : Int32) : wpX_run (fun r u' => wpY_run (fun r' v' => r' = r ∧ i_Rel (k + 3) u' v') v v1) u v1 := by
  obtain ⟨sa, dg, st, da, rn, cn, s, sv, iv, c⟩ := u
  obtain ⟨sb, t, tv, jv, e⟩ := v
  have I0 := i_up I
  obtain ⟨z1, z2, R, n7, D⟩ := I
  subst z1
  subst z2
  by_cases h0 : v1 < 0
  · exact br_t h0 (br_t h0 ⟨rfl, I0⟩)
  obtain ⟨j, hj, rfl⟩ := nI_of h0
  by_cases k : j ≤ 2000
  · have n0 : e 0 = c 0 + nI 0 := by
      rw [← n7 0 (by omega)]
      exact (Int32.add_zero _).symm
    obtain ⟨r, s', t', c', e', dg', da', rn', cn', R2, n2, hX, hY⟩ := ru_run (sa := sa) (sv := sv) (iv := iv) (tv := tv) (jv := jv) k j 0 s t c e dg da rn cn 1 (by omega) (by omega) ⟨R, ⟨n7 4 (by omega), n7 5 (by omega), n7 6 (by omega)⟩, n7 1 (by omega), n7 2 (by omega), n7 3 (by omega), n0⟩ (Or.inl ⟨rfl, rfl⟩)
    refine br_f h0 (br_t (nI_le (b := 2000) k (by omega)) ?_)
    refine hX _ ?_
    refine br_f h0 (br_t (nI_le (b := 2000) k (by omega)) (nm_r (n7 0 (by omega)).symm ?_))
    refine hY _ ?_
    exact ⟨rfl, rfl, rfl, R2, n2, D⟩
  · exact br_f h0 (br_f (nI_ge (a := 2000) (by omega) (by omega)) (br_f h0 (br_f (nI_ge (a := 2000) (by omega) (by omega)) ⟨rfl, I0⟩)))
theorem i_vc_stop {k : Nat} {u : SX} {v : SY} (I : i_Rel k u v) (hk : k + 3 ≤ 1536) (v1 : Int32) : wpX_stop (fun r u' => wpY_stop (fun r' v' => r' = r ∧ i_Rel (k + 3) u' v') v v1) u v1 := by
  obtain ⟨sa, dg, st, da, rn, cn, s, sv, iv, c⟩ := u
  obtain ⟨sb, t, tv, jv, e⟩ := v
  have I0 := i_up I
  obtain ⟨z1, z2, R, n7, D⟩ := I
  subst z1
  subst z2
  by_cases h0 : v1 < 0
  · exact br_t h0 (br_t h0 ⟨rfl, rfl, rfl, R, n7, D⟩)
  obtain ⟨j, hj, rfl⟩ := nI_of h0
  by_cases k : j ≤ 255
  · exact br_f h0 (br_f (nI_nlt (a := 255) k (by omega)) (br_f h0 (br_t (nI_le (b := 255) k (by omega)) ⟨rfl, rfl, rfl, R, n7, D⟩)))
  · exact br_f h0 (br_t (nI_lt (a := 255) (by omega) (by omega)) (br_f h0 (br_f (nI_ge (a := 255) (by omega) (by omega)) ⟨rfl, rfl, rfl, R, n7, D⟩)))
theorem i_vc_keys {k : Nat} {u : SX} {v : SY} (I : i_Rel k u v) (hk : k + 3 ≤ 1536) (v1 : Int32) : wpX_keys (fun r u' => wpY_keys (fun r' v' => r' = r ∧ i_Rel (k + 3) u' v') v v1) u v1 := by
  obtain ⟨sa, dg, st, da, rn, cn, s, sv, iv, c⟩ := u
  obtain ⟨sb, t, tv, jv, e⟩ := v
  have I0 := i_up I
  obtain ⟨z1, z2, R, n7, D⟩ := I
  subst z1
  subst z2
  obtain ⟨⟨C, T, P, L, K, W, V⟩, cpu⟩ := R
  have K1 : hr_ky (upd s 391 (v1 &&& 255)) (upd t 310 (v1 &&& 255)) := ⟨rfl, qa_Bm _⟩
  have C1 : hr_ce (upd s 391 (v1 &&& 255)) (upd t 310 (v1 &&& 255)) := hr_ceX (hr_ceY C (by omega)) (by omega)
  obtain ⟨s', t', C2, x2, y2, hX, hY⟩ := pr_keysN (sa := sa) (dg := dg) (st := 0) (da := da) (rn := rn) (cn := cn) (sv := sv) (iv := iv) (c := c) (sb := sa) (tv := tv) (jv := jv) (e := e) C1 K1 (ml_pd (s 240) (s 391))
  have sx : ∀ i, i ≠ 245 → i ≠ 391 → s' i = s i := fun i h1 h2 => (x2 i h1).trans (pk_un h2)
  have ty : ∀ i, i ≠ 245 → i ≠ 310 → t' i = t i := fun i h1 h2 => (y2 i h1).trans (pk_un h2)
  have H2 : hr_Hw s' t' := by
    refine ⟨C2, hr_tmA T (fun i hi => sx i (by omega) (by omega)) (fun i hi => ty i (by omega) (by omega)), hr_cpA P (fun i hi => sx i (by omega) (by omega)) (fun i hi => ty i (by omega) (by omega)), hr_lnA L (sx 271 (by omega) (by omega)) (ty 308 (by omega) (by omega)), hr_kyA K1 (x2 391 (by omega)) (y2 310 (by omega)), hr_shA W (fun i hi => sx i (by omega) (by omega)) (fun i hi => ty i (by omega) (by omega)), hr_vsA V (fun i hi => ?_) (fun i hi => ?_)⟩
    · unfold hr_PX at hi
      exact sx i (by omega) (by omega)
    · unfold hr_PY at hi
      exact ty i (by omega) (by omega)
  have cpu2 : hr_cpu s' t' := hr_cpuA cpu (fun i hi => by unfold hr_FX at hi; exact sx i (by omega) (by omega)) (fun i hi => by unfold hr_FY at hi; exact ty i (by omega) (by omega))
  have hk : qa_B (t 310) := by rw [K.1]; exact K.2
  have ep : ml_pd (t 240) (t 310) = ml_pd (s 240) (s 391) := by rw [(C 240 (by omega)).1, K.1]
  refine nm_e ?_
  refine mx_pad ?_
  refine nm_e ?_
  refine hX _ ?_
  refine nm_e ?_
  refine my_pad hk ?_
  refine nm_e ?_
  rw [ep]
  refine hY _ ?_
  exact ⟨K.1, rfl, rfl, ⟨H2, cpu2⟩, n7, D⟩
theorem i_vc_cell {k : Nat} {u : SX} {v : SY} (I : i_Rel k u v) (hk : k + 3 ≤ 1536) (v1 : Int32) : wpX_cell (fun r => wpY_cell (fun r' => r' = r ∧ i_Rel (k + 3) u v) v v1) u v1 := by
  obtain ⟨sa, dg, st, da, rn, cn, s, sv, iv, c⟩ := u
  obtain ⟨sb, t, tv, jv, e⟩ := v
  have I0 := i_up I
  obtain ⟨z1, z2, R, n7, D⟩ := I
  subst z1
  subst z2
  by_cases h0 : v1 < 0
  · exact br_t h0 (br_t h0 ⟨rfl, I0⟩)
  obtain ⟨j, hj, rfl⟩ := nI_of h0
  by_cases k : j < 256
  · obtain ⟨m, hm, m1, m2⟩ := hr_mode R.1.2.2.2.2.2.2
    obtain ⟨r, rB, rX, rY⟩ := pr_cell (sa := sa) (dg := dg) (st := 0) (da := da) (rn := rn) (cn := cn) (sv := sv) (iv := iv) (c := c) (sb := sa) (tv := tv) (jv := jv) (e := e) R.1.1 R.1.2.1 R.1.2.2.2.2.1 k hm m1 m2
    refine br_f h0 (br_t (nI_lt (b := 256) k (by omega)) ?_)
    refine rX _ ?_
    exact rY _ ⟨rfl, I0⟩
  · exact br_f h0 (br_f (nI_nlt (b := 256) (by omega) (by omega)) (br_f h0 (br_f (nI_ge (a := 255) (by omega) (by omega)) ⟨rfl, I0⟩)))
theorem i_vc_cpu {k : Nat} {u : SX} {v : SY} (I : i_Rel k u v) (hk : k + 3 ≤ 1536) (v1 : Int32) : wpX_cpu (fun r => wpY_cpu (fun r' => r' = r ∧ i_Rel (k + 3) u v) v v1) u v1 := by
  obtain ⟨sa, dg, st, da, rn, cn, s, sv, iv, c⟩ := u
  obtain ⟨sb, t, tv, jv, e⟩ := v
  have I0 := i_up I
  obtain ⟨z1, z2, R, n7, D⟩ := I
  subst z1
  subst z2
  by_cases h0 : v1 < 0
  · exact br_t h0 (br_t h0 ⟨rfl, I0⟩)
  obtain ⟨j, hj, rfl⟩ := nI_of h0
  by_cases k : j ≤ 7
  · obtain ⟨m1, m2, m3, m4, m5, m6, m7, m8, m9, B1, B2, B3, B4, B5, b1, b2, b3, b4, ht⟩ := R.2
    have jj : j = 0 ∨ j = 1 ∨ j = 2 ∨ j = 3 ∨ j = 4 ∨ j = 5 ∨ j = 6 ∨ j = 7 := by omega
    rcases jj with rfl | rfl | rfl | rfl | rfl | rfl | rfl | rfl
    · refine br_f h0 (br_f (by decide) (br_t rfl (br_f h0 (br_t (by decide) (br_f (by decide) ⟨qa_ii 256 0 512 (by omega) (by omega), ?_, I0⟩)))))
      rw [show ((256 : Int32) + nI 0).toNatClampNeg = 256 by decide]
      exact m1
    · refine br_f h0 (br_f (by decide) (br_f (by decide) (br_t rfl (br_f h0 (br_t (by decide) (br_f (by decide) ⟨qa_ii 256 1 512 (by omega) (by omega), ?_, I0⟩))))))
      rw [show ((256 : Int32) + nI 1).toNatClampNeg = 257 by decide]
      exact m2
    · refine br_f h0 (br_f (by decide) (br_f (by decide) (br_f (by decide) (br_t rfl (br_f h0 (br_t (by decide) (br_f (by decide) ⟨qa_ii 256 2 512 (by omega) (by omega), ?_, I0⟩)))))))
      rw [show ((256 : Int32) + nI 2).toNatClampNeg = 258 by decide]
      exact m3
    · refine br_f h0 (br_f (by decide) (br_f (by decide) (br_f (by decide) (br_f (by decide) (br_t rfl (br_f h0 (br_t (by decide) (br_f (by decide) ⟨qa_ii 256 3 512 (by omega) (by omega), ?_, I0⟩))))))))
      rw [show ((256 : Int32) + nI 3).toNatClampNeg = 259 by decide]
      exact m4
    · refine br_f h0 (br_f (by decide) (br_f (by decide) (br_f (by decide) (br_f (by decide) (br_f (by decide) (br_t rfl (br_f h0 (br_t (by decide) (br_f (by decide) ⟨qa_ii 256 4 512 (by omega) (by omega), ?_, I0⟩)))))))))
      rw [show ((256 : Int32) + nI 4).toNatClampNeg = 260 by decide]
      exact m5
    · refine br_f h0 (br_f (by decide) (br_f (by decide) (br_f (by decide) (br_f (by decide) (br_f (by decide) (br_f (by decide) (br_t rfl (br_f h0 (br_t (by decide) (br_t (by decide) (br_t rfl ⟨?_, I0⟩)))))))))))
      rw [m6, m7]
    · by_cases q : s 263 = 1
      · exact br_f h0 (br_f (by decide) (br_f (by decide) (br_f (by decide) (br_f (by decide) (br_f (by decide) (br_f (by decide) (br_f (by decide) (br_t rfl (br_t q (br_f h0 (br_t (by decide) (br_t (by decide) (br_f (by decide) (br_t rfl (br_t (m8.trans q) ⟨rfl, I0⟩)))))))))))))))
      · refine br_f h0 (br_f (by decide) (br_f (by decide) (br_f (by decide) (br_f (by decide) (br_f (by decide) (br_f (by decide) (br_f (by decide) (br_t rfl (br_f q (br_f h0 (br_t (by decide) (br_t (by decide) (br_f (by decide) (br_t rfl (br_f (by rw [m8]; exact q) ⟨?_, I0⟩)))))))))))))))
        rw [m9]
    · rcases ht with h | h | h
      · refine br_f h0 (br_f (by decide) (br_f (by decide) (br_f (by decide) (br_f (by decide) (br_f (by decide) (br_f (by decide) (br_f (by decide) (br_f (by decide) (br_t rfl (br_f h0 (br_t (by decide) (br_t (by decide) (br_f (by decide) (br_f (by decide) (br_f (by rw [h.2.1]; decide) ⟨?_, I0⟩)))))))))))))))
        rw [h.1, h.2.2]
        decide
      · refine br_f h0 (br_f (by decide) (br_f (by decide) (br_f (by decide) (br_f (by decide) (br_f (by decide) (br_f (by decide) (br_f (by decide) (br_f (by decide) (br_t rfl (br_f h0 (br_t (by decide) (br_t (by decide) (br_f (by decide) (br_f (by decide) (br_t h.2.1 ⟨?_, I0⟩)))))))))))))))
        rw [h.1]
      · refine br_f h0 (br_f (by decide) (br_f (by decide) (br_f (by decide) (br_f (by decide) (br_f (by decide) (br_f (by decide) (br_f (by decide) (br_f (by decide) (br_t rfl (br_f h0 (br_t (by decide) (br_t (by decide) (br_f (by decide) (br_f (by decide) (br_f (by rw [h.2.1]; decide) ⟨?_, I0⟩)))))))))))))))
        rw [h.1, h.2.2.1]
        decide
  · exact br_f h0 (br_t (nI_lt (a := 7) (by omega) (by omega)) (br_f h0 (br_f (nI_ge (a := 7) (by omega) (by omega)) ⟨rfl, I0⟩)))
theorem i_vc_timer {k : Nat} {u : SX} {v : SY} (I : i_Rel k u v) (hk : k + 3 ≤ 1536) (v1 : Int32) : wpX_timer (fun r => wpY_timer (fun r' => r' = r ∧ i_Rel (k + 3) u v) v v1) u v1 := by
  obtain ⟨sa, dg, st, da, rn, cn, s, sv, iv, c⟩ := u
  obtain ⟨sb, t, tv, jv, e⟩ := v
  have I0 := i_up I
  obtain ⟨z1, z2, R, n7, D⟩ := I
  subst z1
  subst z2
  by_cases h0 : v1 < 0
  · exact br_t h0 (br_f (fun z => absurd h0 (by rw [z]; decide)) (br_f (fun z => absurd h0 (by rw [z]; decide)) (br_f (fun z => absurd h0 (by rw [z]; decide)) ⟨rfl, I0⟩)))
  obtain ⟨j, hj, rfl⟩ := nI_of h0
  by_cases k : j ≤ 2
  · have T := R.1.2.1
    have jj : j = 0 ∨ j = 1 ∨ j = 2 := by omega
    rcases jj with rfl | rfl | rfl
    · exact br_f h0 (br_f (by decide) (br_t rfl (br_t rfl ⟨T.1, I0⟩)))
    · exact br_f h0 (br_f (by decide) (br_f (by decide) (br_t rfl (br_f (by decide) (br_t rfl ⟨T.2.2.1, I0⟩)))))
    · obtain ⟨dl, pg, nx, a1, a2, a3, e1, e2, e3, e4, e5, e6, e7⟩ := R.1.2.2.1
      by_cases k16 : nx = 16
      · subst k16
        have q5 : s 270 ≤ 0 := by rw [e5]; decide
        have q6 : 16 ≤ t 271 := by rw [e6]; decide
        by_cases kd : dl = 0
        · subst kd
          exact br_f h0 (br_f (by decide) (br_f (by decide) (br_f (by decide) (br_t rfl (br_t q5 (br_t (by rw [e1]; decide) (br_f (by decide) (br_f (by decide) (br_t rfl (br_t q6 (br_t (by rw [e2]; decide) ⟨rfl, I0⟩)))))))))))
        · exact br_f h0 (br_f (by decide) (br_f (by decide) (br_f (by decide) (br_t rfl (br_t q5 (br_f (by rw [e1]; exact nI_nle (by omega) (by omega)) (br_f (by decide) (br_f (by decide) (br_t rfl (br_t q6 (br_f (by rw [e2]; exact nI_nle (by omega) (by omega)) ⟨rfl, I0⟩)))))))))))
      · refine br_f h0 (br_f (by decide) (br_f (by decide) (br_f (by decide) (br_t rfl (br_f (by rw [e5]; exact nI_nle (by omega) (by omega)) (br_f (by decide) (br_f (by decide) (br_t rfl (br_f (by rw [e6]; exact nI_ge (b := 16) (by omega) (by omega)) ⟨?_, I0⟩)))))))))
        rw [e5, e6]
        exact pk_sub (a := 16) (by omega)
  · exact br_f h0 (br_t (nI_lt (a := 2) (by omega) (by omega)) (br_f (qa_neN (b := 0) (by omega) (by omega) (by omega)) (br_f (qa_neN (b := 1) (by omega) (by omega) (by omega)) (br_f (qa_neN (b := 2) (by omega) (by omega) (by omega)) ⟨rfl, I0⟩))))
theorem i_vc_video {k : Nat} {u : SX} {v : SY} (I : i_Rel k u v) (hk : k + 3 ≤ 1536) (v1 : Int32) : wpX_video (fun r => wpY_video (fun r' => r' = r ∧ i_Rel (k + 3) u v) v v1) u v1 := by
  obtain ⟨sa, dg, st, da, rn, cn, s, sv, iv, c⟩ := u
  obtain ⟨sb, t, tv, jv, e⟩ := v
  have I0 := i_up I
  obtain ⟨z1, z2, R, n7, D⟩ := I
  subst z1
  subst z2
  by_cases h0 : v1 < 0
  · exact br_t h0 (br_t h0 ⟨rfl, I0⟩)
  obtain ⟨j, hj, rfl⟩ := nI_of h0
  by_cases k : j ≤ 4
  · obtain ⟨ly, d, m, wl, tk, f0, f1, b1, b2, b3, b4, b5, B, S, o, z, Q⟩ := R.1.2.2.2.2.2.2
    obtain ⟨e1, e2, e3, e4, e5, e6, e7, e8, e9⟩ := B
    have jj : j = 0 ∨ j = 1 ∨ j = 2 ∨ j = 3 ∨ j = 4 := by omega
    rcases jj with rfl | rfl | rfl | rfl | rfl
    · refine br_f h0 (br_f (by decide) (br_t rfl (br_f h0 (br_f (by decide) (br_t rfl ⟨?_, I0⟩)))))
      rw [e3, e2]
    · refine br_f h0 (br_f (by decide) (br_f (by decide) (br_t rfl (br_f h0 (br_f (by decide) (br_f (by decide) (br_t rfl ⟨?_, I0⟩)))))))
      rw [e5, e4]
    · refine br_f h0 (br_f (by decide) (br_f (by decide) (br_f (by decide) (br_t rfl (br_f h0 (br_f (by decide) (br_f (by decide) (br_f (by decide) (br_t rfl ?_)))))))))
      by_cases km : m = 3
      · subst km
        rcases Q with h | h | h | h | h
        · exact absurd h.2.1 (by omega)
        · exact absurd h.2.2.1 (by omega)
        · exact absurd h.2.2.2.1 (by omega)
        · obtain ⟨h1, h2, h3, x, dp, pa, le, nx, he, D'⟩ := h
          refine br_t e5 ⟨?_, I0⟩
          rw [D'.2.2.2.2.2.2.2.2.2.1, D'.2.2.2.2.2.2.2.2.2.2.1]
        · exact absurd h.2.2.1 (by omega)
      · have m4 : m < 4 := by
          rcases Q with h | h | h | h | h <;> omega
        refine br_f (by rw [e5]; exact qa_neN (b := 3) km (by omega) (by omega)) ⟨?_, I0⟩
        exact (z km).symm
    · refine br_f h0 (br_f (by decide) (br_f (by decide) (br_f (by decide) (br_f (by decide) (br_t rfl (br_f h0 (br_f (by decide) (br_f (by decide) (br_f (by decide) (br_f (by decide) (br_t rfl ⟨?_, I0⟩)))))))))))
      rw [e9, e8]
    · refine br_f h0 (br_f (by decide) (br_f (by decide) (br_f (by decide) (br_f (by decide) (br_f (by decide) (br_t rfl (br_f h0 (br_f (by decide) (br_f (by decide) (br_f (by decide) (br_f (by decide) (br_f (by decide) (br_t rfl ⟨?_, I0⟩)))))))))))))
      rw [e7, e6]
  · exact br_f h0 (br_t (nI_lt (a := 4) (by omega) (by omega)) (br_f h0 (br_t (nI_lt (a := 4) (by omega) (by omega)) ⟨rfl, I0⟩)))
theorem i_vc_pixel {k : Nat} {u : SX} {v : SY} (I : i_Rel k u v) (hk : k + 3 ≤ 1536) (v1 : Int32) (v2 : Int32) : wpX_pixel (fun r => wpY_pixel (fun r' => r' = r ∧ i_Rel (k + 3) u v) v v1 v2) u v1 v2 := by
  obtain ⟨sa, dg, st, da, rn, cn, s, sv, iv, c⟩ := u
  obtain ⟨sb, t, tv, jv, e⟩ := v
  have I0 := i_up I
  obtain ⟨z1, z2, R, n7, D⟩ := I
  subst z1
  subst z2
  by_cases h0 : v1 < 0
  · exact br_t h0 (br_t h0 ⟨rfl, I0⟩)
  obtain ⟨j, hj, rfl⟩ := nI_of h0
  by_cases kx : j < 12
  · by_cases g0 : v2 < 0
    · exact br_f h0 (br_f (nI_ge (b := 12) kx (by omega)) (br_t g0 (br_f h0 (br_f (nI_nlt (a := 11) (by omega) (by omega)) (br_t g0 ⟨rfl, I0⟩)))))
    obtain ⟨y, hy, rfl⟩ := nI_of g0
    by_cases ky : y < 8
    · have i1 : ((392 : Int32) + 12 * nI y) + nI j = nI (392 + (12 * y + j)) := by
        show nI 392 + nI 12 * nI y + nI j = _
        rw [pk_mul, nI_add, nI_add, show 392 + 12 * y + j = 392 + (12 * y + j) by omega]
      have i2 : ((416 : Int32) + 12 * nI y) + nI j = nI (416 + (12 * y + j)) := by
        show nI 416 + nI 12 * nI y + nI j = _
        rw [pk_mul, nI_add, nI_add, show 416 + 12 * y + j = 416 + (12 * y + j) by omega]
      refine br_f h0 (br_f (nI_ge (b := 12) kx (by omega)) (br_f g0 (br_t (nI_lt (b := 8) ky (by omega)) ⟨by rw [i1]; exact vp_in_nI (by omega) (by omega), ?_⟩)))
      refine br_f h0 (br_f (nI_nlt (a := 11) (by omega) (by omega)) (br_f g0 (br_t (nI_le (b := 7) (by omega) (by omega)) ⟨by rw [i2]; exact vp_in_nI (by omega) (by omega), ?_, I0⟩)))
      rw [i1, i2, nI_clamp (by omega), nI_clamp (by omega)]
      exact R.1.2.2.2.2.2.1 _ (by omega)
    · exact br_f h0 (br_f (nI_ge (b := 12) kx (by omega)) (br_f g0 (br_f (nI_nlt (b := 8) (by omega) (by omega)) (br_f h0 (br_f (nI_nlt (a := 11) (by omega) (by omega)) (br_f g0 (br_f (nI_ge (a := 7) (by omega) (by omega)) ⟨rfl, I0⟩)))))))
  · exact br_f h0 (br_t (nI_le (a := 12) (by omega) (by omega)) (br_f h0 (br_t (nI_lt (a := 11) (by omega) (by omega)) ⟨rfl, I0⟩)))
theorem i_vc_picture {k : Nat} {u : SX} {v : SY} (I : i_Rel k u v) (hk : k + 3 ≤ 1536) : wpX_picture (fun r => wpY_picture (fun r' => r' = r ∧ i_Rel (k + 3) u v) v) u := by
  obtain ⟨sa, dg, st, da, rn, cn, s, sv, iv, c⟩ := u
  obtain ⟨sb, t, tv, jv, e⟩ := v
  have I0 := i_up I
  obtain ⟨z1, z2, R, n7, D⟩ := I
  subst z1
  subst z2
  obtain ⟨r, hX, hY⟩ := pr_pict (sa := sa) (dg := dg) (st := 0) (da := da) (rn := rn) (cn := cn) (sv := sv) (iv := iv) (c := c) (sb := sa) (tv := tv) (jv := jv) (e := e) R.1.2.2.2.2.2.1 96 0 0 rfl
  refine ⟨97, hX _ ?_⟩
  exact ⟨97, hY _ ⟨rfl, I0⟩⟩
theorem i_vc_count {k : Nat} {u : SX} {v : SY} (I : i_Rel k u v) (hk : k + 3 ≤ 1536) (v1 : Int32) : wpX_count (fun r => wpY_count (fun r' => r' = r ∧ i_Rel (k + 3) u v) v v1) u v1 := by
  obtain ⟨sa, dg, st, da, rn, cn, s, sv, iv, c⟩ := u
  obtain ⟨sb, t, tv, jv, e⟩ := v
  have I0 := i_up I
  obtain ⟨z1, z2, R, n7, D⟩ := I
  subst z1
  subst z2
  by_cases h0 : v1 < 0
  · exact br_t h0 (br_t h0 ⟨rfl, I0⟩)
  obtain ⟨j, hj, rfl⟩ := nI_of h0
  by_cases k : j < 7
  · refine br_f h0 (br_t (nI_lt (b := 7) k (by omega)) ⟨vp_in_nI k (by omega), br_f h0 (br_t (nI_le (b := 6) (by omega) (by omega)) ⟨vp_in_nI k (by omega), ?_, I0⟩)⟩)
    rw [nI_clamp hj]
    exact (n7 j k).symm
  · exact br_f h0 (br_f (nI_nlt (b := 7) (by omega) (by omega)) (br_f h0 (br_f (nI_ge (a := 6) (by omega) (by omega)) ⟨rfl, I0⟩)))
theorem i_vc_save {k : Nat} {u : SX} {v : SY} (I : i_Rel k u v) (hk : k + 3 ≤ 1536) (v1 : Int32) : wpX_save (fun r u' => wpY_save (fun r' v' => r' = r ∧ i_Rel (k + 3) u' v') v v1) u v1 := by
  obtain ⟨sa, dg, st, da, rn, cn, s, sv, iv, c⟩ := u
  obtain ⟨sb, t, tv, jv, e⟩ := v
  have I0 := i_up I
  obtain ⟨z1, z2, R, n7, D⟩ := I
  subst z1
  subst z2
  by_cases h0 : v1 < 0
  · exact br_t h0 (br_t h0 ⟨rfl, I0⟩)
  obtain ⟨j, hj, rfl⟩ := nI_of h0
  by_cases k : j < 2
  · refine br_f h0 (br_t (nI_lt (b := 2) k (by omega)) (mx_saveV k ?_))
    refine br_f h0 (br_t (nI_le (b := 1) (by omega) (by omega)) (my_saveV k ?_))
    exact ⟨rfl, rfl, rfl, R, n7, hr_sdS k R D⟩
  · exact br_f h0 (br_f (nI_nlt (b := 2) (by omega) (by omega)) (br_f h0 (br_f (nI_ge (a := 1) (by omega) (by omega)) ⟨rfl, I0⟩)))
theorem i_vc_load {k : Nat} {u : SX} {v : SY} (I : i_Rel k u v) (hk : k + 3 ≤ 1536) (v1 : Int32) : wpX_load (fun r u' => wpY_load (fun r' v' => r' = r ∧ i_Rel (k + 3) u' v') v v1) u v1 := by
  obtain ⟨sa, dg, st, da, rn, cn, s, sv, iv, c⟩ := u
  obtain ⟨sb, t, tv, jv, e⟩ := v
  have I0 := i_up I
  obtain ⟨z1, z2, R, n7, D⟩ := I
  subst z1
  subst z2
  by_cases h0 : v1 < 0
  · exact br_t h0 (br_t h0 ⟨rfl, I0⟩)
  obtain ⟨j, hj, rfl⟩ := nI_of h0
  by_cases k : j < 2
  · have cj : (nI j).toNatClampNeg = j := nI_clamp hj
    by_cases q : iv j = 0
    · exact br_f h0 (br_f (nI_ge (b := 2) k (by omega)) ⟨vp_in_nI k (by omega), br_t (by rw [cj]; exact q) (br_f h0 (br_f (nI_nlt (a := 1) (by omega) (by omega)) ⟨vp_in_nI k (by omega), br_t (by rw [cj, (D j k).1]; exact q) ⟨rfl, I0⟩⟩))⟩)
    · refine br_f h0 (br_f (nI_ge (b := 2) k (by omega)) ⟨vp_in_nI k (by omega), br_f (by rw [cj]; exact q) (mx_loadV k ?_)⟩)
      refine br_f h0 (br_f (nI_nlt (a := 1) (by omega) (by omega)) ⟨vp_in_nI k (by omega), br_f (by rw [cj, (D j k).1]; exact q) (my_loadV k ?_)⟩)
      exact ⟨rfl, rfl, rfl, hr_RlL ((D j k).2 q), n7, D⟩
  · exact br_f h0 (br_t (nI_le (a := 2) (by omega) (by omega)) (br_f h0 (br_t (nI_lt (a := 1) (by omega) (by omega)) ⟨rfl, I0⟩)))
