/-! cells and registers as the processor writes them -/
section
variable {sa dg st da rn cn : Int32} {s sv iv c : Nat → Int32} {sb : Int32} {t tv jv e : Nat → Int32}
/-- keys are noticed -/
theorem pr_keysN (C : hr_ce s t) (K : hr_ky s t) (p : Int32) : ∃ s' t' : Nat → Int32, hr_ce s' t' ∧ qa_ag (fun i => i ≠ 245) s s' ∧ qa_ag (fun i => i ≠ 245) t t' ∧ (∀ post : SX → Prop, post (sa, dg, st, da, rn, cn, s', sv, iv, c) → wpX_noticeKeys post (sa, dg, st, da, rn, cn, s, sv, iv, c) p) ∧ (∀ post : SY → Prop, post (sb, t', tv, jv, e) → wpY_fall post (sb, t, tv, jv, e) p) := by
  have ep : ml_pd (t 240) (t 310) = ml_pd (s 240) (s 391) := by rw [(C 240 (by omega)).1, K.1]
  have hk : qa_B (t 310) := by rw [K.1]; exact K.2
  by_cases k : (p &&& (ml_pd (s 240) (s 391) ^^^ (-1))) &&& 15 = 0
  · refine ⟨s, t, C, qa_ag0, qa_ag0, ?_, ?_⟩
    · intro post h
      unfold wpX_noticeKeys
      exact mx_pad (br_t k h)
    · intro post h
      unfold wpY_fall
      refine my_pad hk ?_
      rw [ep]
      exact br_t k h
  · refine ⟨upd s 245 (s 245 ||| 16), upd t 245 (t 245 ||| 16), hr_ceB C (qa_Bor (C 245 (by omega)).2 ⟨16, by decide, rfl⟩) (by rw [(C 245 (by omega)).1]), qa_agU qa_ag0 (by omega), qa_agU qa_ag0 (by omega), ?_, ?_⟩
    · intro post h
      unfold wpX_noticeKeys
      exact mx_pad (br_f k (nm_e h))
    · intro post h
      unfold wpY_fall
      refine my_pad hk ?_
      rw [ep]
      exact br_f k (nm_e h)
/-- behind the write of a register: no turn of the video -/
theorem pr_after (C : hr_ce s t) (T : hr_tm s t) (K : hr_ky s t) (L : hr_ln s t) (hm : t 276 = s 273) (b p x5 : Int32) (hon : (x5 = 1 ∧ t 247 &&& 1 = 1) ∨ (x5 = 0 ∧ ¬ t 247 &&& 1 = 1)) :
    ∃ s2 s3 s4 t4 : Nat → Int32, hr_ce s4 t4 ∧ hr_tm s4 t4 ∧ hr_ln s4 t4 ∧ qa_ag (fun i => i ≠ 242 ∧ i ≠ 245 ∧ i ≠ 267 ∧ i ≠ 271) s s4 ∧ qa_ag (fun i => i ≠ 242 ∧ i ≠ 245 ∧ i ≠ 268 ∧ i ≠ 308) t t4 ∧ (∀ post : SX → Prop, post (sa, dg, st, da, rn, cn, s2, sv, iv, c) → wpX_noticeSignal post (sa, dg, st, da, rn, cn, s, sv, iv, c) b) ∧ (∀ post : SX → Prop, post (sa, dg, st, da, rn, cn, s3, sv, iv, c) → wpX_noticeKeys post (sa, dg, st, da, rn, cn, s2, sv, iv, c) p) ∧ (∀ post : SX → Prop, post (sa, dg, st, da, rn, cn, s4, sv, iv, c) → wpX_lookAtLine post (sa, dg, st, da, rn, cn, s3, sv, iv, c)) ∧ (∀ post : SY → Prop, post (sb, t4, tv, jv, e) → wY_store_258 post b p x5 sb t tv jv e) := by
  obtain ⟨s2, t2, C2, T2, x2, y2, hX2, hY2⟩ := pr_notice (sa := sa) (dg := dg) (st := st) (da := da) (rn := rn) (cn := cn) (sv := sv) (iv := iv) (c := c) (sb := sb) (tv := tv) (jv := jv) (e := e) C T b
  have K2 : hr_ky s2 t2 := hr_kyA K (x2 391 (by omega)) (y2 310 (by omega))
  obtain ⟨s3, t3, C3, x3, y3, hX3, hY3⟩ := pr_keysN (sa := sa) (dg := dg) (st := st) (da := da) (rn := rn) (cn := cn) (sv := sv) (iv := iv) (c := c) (sb := sb) (tv := tv) (jv := jv) (e := e) C2 K2 p
  have L3 : hr_ln s3 t3 := hr_lnA L ((x3 271 (by omega)).trans (x2 271 (by omega))) ((y3 308 (by omega)).trans (y2 308 (by omega)))
  have m3 : t3 276 = s3 273 := by rw [y3 276 (by omega), y2 276 (by omega), x3 273 (by omega), x2 273 (by omega)]; exact hm
  obtain ⟨s4, t4, C4, L4, x4, y4, hX4, hY4⟩ := pr_look (sa := sa) (dg := dg) (st := st) (da := da) (rn := rn) (cn := cn) (sv := sv) (iv := iv) (c := c) (sb := sb) (tv := tv) (jv := jv) (e := e) C3 L3 m3
  refine ⟨s2, s3, s4, t4, C4, hr_tmA (hr_tmA T2 (qa_agW x3 (by omega)) (qa_agW y3 (by omega))) (qa_agW x4 (by omega)) (qa_agW y4 (by omega)), L4, qa_agT (qa_agT (qa_agW x2 (by omega)) (qa_agW x3 (by omega))) (qa_agW x4 (by omega)), qa_agT (qa_agT (qa_agW y2 (by omega)) (qa_agW y3 (by omega))) (qa_agW y4 (by omega)), hX2, hX3, hX4, ?_⟩
  intro post h
  have G273 : wY_store_273 post p x5 sb t2 tv jv e := by
    unfold wY_store_273
    refine hY3 _ ?_
    have G292 : wY_store_292 post sb t3 tv jv e := by
      unfold wY_store_292
      exact hY4 _ h
    have e247 : t3 247 = t 247 := (y3 247 (by omega)).trans (y2 247 (by omega))
    unfold wpY_isOn
    rcases hon with ⟨k1, k2⟩ | ⟨k1, k2⟩
    · exact br_t (by rw [e247]; exact k2) (br_t k1 G292)
    · exact br_f (by rw [e247]; exact k2) (br_t k1 G292)
  rcases hY2 with ⟨k, rfl⟩ | ⟨k, k2, rfl⟩ | ⟨k, k2, k3⟩
  · exact br_t k G273
  · exact br_f k (my_signal (br_f k2 G273))
  · refine br_f k (my_signal (br_t k2 ?_))
    exact k3 _ G273
def ml_on (l : Int32) : Int32 := if l &&& 1 = 1 then 1 else 0
theorem ml_on1 {l : Int32} (h : l &&& 1 = 1) : ml_on l = 1 := if_pos h
theorem ml_on0 {l : Int32} (h : ¬ l &&& 1 = 1) : ml_on l = 0 := if_neg h
theorem ml_onC (l : Int32) : (ml_on l = 1 ∧ l &&& 1 = 1) ∨ (ml_on l = 0 ∧ ¬ l &&& 1 = 1) := by
  by_cases h : l &&& 1 = 1
  · exact Or.inl ⟨if_pos h, h⟩
  · exact Or.inr ⟨if_neg h, h⟩
def hr_WX (i : Nat) : Prop := i = 247 ∨ i = 251 ∨ (256 ≤ i ∧ i < 266) ∨ 271 ≤ i
def hr_WY (i : Nat) : Prop := i = 247 ∨ i = 251 ∨ (256 ≤ i ∧ i < 267) ∨ i = 269 ∨ 274 ≤ i
/-- what a register's write leaves, ahead of what is noticed -/
def hr_rg (s1 t1 s t : Nat → Int32) : Prop := hr_ce s1 t1 ∧ hr_tm s1 t1 ∧ hr_cp s1 t1 ∧ qa_ag hr_WX s s1 ∧ qa_ag hr_WY t t1
theorem pr_rg240 {v : Int32} (C : hr_ce s t) (T : hr_tm s t) (P : hr_cp s t) (hk : qa_B (t 310)) (hv : qa_B v) (hr : t 269 = rn) (hrb : qa_b rn) : ∃ s1 t1 : Nat → Int32, hr_rg s1 t1 s t ∧ (∀ post : SX → Prop, post (sa, dg, st, da, rn, cn, s1, sv, iv, c) → wpX_writeRegister post (sa, dg, st, da, rn, cn, s, sv, iv, c) (nI 240) v) ∧ (∀ post : SY → Prop, wY_store_258 post (ml_sg (t 244) (t 267)) (ml_pd (t 240) (t 310)) (ml_on (t 247)) sb t1 tv jv e → wpY_store post (sb, t, tv, jv, e) (nI 240) v) := by
  refine ⟨upd s 240 v, upd t 240 v, ⟨hr_ceB C hv rfl, hr_tmA T (qa_agU qa_ag0 (by omega)) (qa_agU qa_ag0 (by omega)), hr_cpA P (qa_agU qa_ag0 (by omega)) (qa_agU qa_ag0 (by omega)), qa_agU qa_ag0 (by unfold hr_WX; omega), qa_agU qa_ag0 (by unfold hr_WY; omega)⟩, fun post h => br_t (by decide) ⟨vp_in_nI (n := 240) (by omega) (by omega), nm_r (qa_up _ _ (nI_clamp (n := 240) (by omega))) h⟩, ?_⟩
  intro post h
  refine br_t (by decide) (my_signal (my_pad hk ?_))
  unfold wpY_isOn
  rcases ml_onC (t 247) with ⟨k1, k2⟩ | ⟨k1, k2⟩
  · rw [k1] at h
    exact br_t k2 (br_t (by decide) ⟨vp_in_nI (n := 240) (by omega) (by omega), nm_r (qa_up _ _ (nI_clamp (n := 240) (by omega))) h⟩)
  · rw [k1] at h
    exact br_f k2 (br_t (by decide) ⟨vp_in_nI (n := 240) (by omega) (by omega), nm_r (qa_up _ _ (nI_clamp (n := 240) (by omega))) h⟩)
theorem pr_rg244 {v : Int32} (C : hr_ce s t) (T : hr_tm s t) (P : hr_cp s t) (hk : qa_B (t 310)) (hv : qa_B v) (hr : t 269 = rn) (hrb : qa_b rn) : ∃ s1 t1 : Nat → Int32, hr_rg s1 t1 s t ∧ (∀ post : SX → Prop, post (sa, dg, st, da, rn, cn, s1, sv, iv, c) → wpX_writeRegister post (sa, dg, st, da, rn, cn, s, sv, iv, c) (nI 244) v) ∧ (∀ post : SY → Prop, wY_store_258 post (ml_sg (t 244) (t 267)) (ml_pd (t 240) (t 310)) (ml_on (t 247)) sb t1 tv jv e → wpY_store post (sb, t, tv, jv, e) (nI 244) v) := by
  refine ⟨upd s 244 v, upd t 244 v, ⟨hr_ceB C hv rfl, hr_tmA T (qa_agU qa_ag0 (by omega)) (qa_agU qa_ag0 (by omega)), hr_cpA P (qa_agU qa_ag0 (by omega)) (qa_agU qa_ag0 (by omega)), qa_agU qa_ag0 (by unfold hr_WX; omega), qa_agU qa_ag0 (by unfold hr_WY; omega)⟩, fun post h => br_f (by decide) (br_f (by decide) (br_f (by decide) (br_f (by decide) (br_f (by decide) (br_t rfl ⟨vp_in_nI (n := 244) (by omega) (by omega), nm_r (qa_up _ _ (nI_clamp (n := 244) (by omega))) h⟩))))), ?_⟩
  intro post h
  refine br_t (by decide) (my_signal (my_pad hk ?_))
  unfold wpY_isOn
  rcases ml_onC (t 247) with ⟨k1, k2⟩ | ⟨k1, k2⟩
  · rw [k1] at h
    exact br_t k2 (br_f (by decide) (br_f (by decide) (br_f (by decide) (br_f (by decide) (br_f (by decide) (br_t rfl ⟨vp_in_nI (n := 244) (by omega) (by omega), nm_r (qa_up _ _ (nI_clamp (n := 244) (by omega))) h⟩))))))
  · rw [k1] at h
    exact br_f k2 (br_f (by decide) (br_f (by decide) (br_f (by decide) (br_f (by decide) (br_f (by decide) (br_t rfl ⟨vp_in_nI (n := 244) (by omega) (by omega), nm_r (qa_up _ _ (nI_clamp (n := 244) (by omega))) h⟩))))))
theorem pr_rg246 {v : Int32} (C : hr_ce s t) (T : hr_tm s t) (P : hr_cp s t) (hk : qa_B (t 310)) (hv : qa_B v) (hr : t 269 = rn) (hrb : qa_b rn) : ∃ s1 t1 : Nat → Int32, hr_rg s1 t1 s t ∧ (∀ post : SX → Prop, post (sa, dg, st, da, rn, cn, s1, sv, iv, c) → wpX_writeRegister post (sa, dg, st, da, rn, cn, s, sv, iv, c) (nI 246) v) ∧ (∀ post : SY → Prop, wY_store_258 post (ml_sg (t 244) (t 267)) (ml_pd (t 240) (t 310)) (ml_on (t 247)) sb t1 tv jv e → wpY_store post (sb, t, tv, jv, e) (nI 246) v) := by
  refine ⟨upd s 246 v, upd t 246 v, ⟨hr_ceB C hv rfl, hr_tmA T (qa_agU qa_ag0 (by omega)) (qa_agU qa_ag0 (by omega)), hr_cpA P (qa_agU qa_ag0 (by omega)) (qa_agU qa_ag0 (by omega)), qa_agU qa_ag0 (by unfold hr_WX; omega), qa_agU qa_ag0 (by unfold hr_WY; omega)⟩, fun post h => br_f (by decide) (br_f (by decide) (br_f (by decide) (br_f (by decide) (br_f (by decide) (br_f (by decide) (br_f (by decide) (br_t rfl ⟨vp_in_nI (n := 246) (by omega) (by omega), nm_r (qa_up _ _ (nI_clamp (n := 246) (by omega))) h⟩))))))), ?_⟩
  intro post h
  refine br_t (by decide) (my_signal (my_pad hk ?_))
  unfold wpY_isOn
  rcases ml_onC (t 247) with ⟨k1, k2⟩ | ⟨k1, k2⟩
  · rw [k1] at h
    exact br_t k2 (br_f (by decide) (br_f (by decide) (br_f (by decide) (br_f (by decide) (br_f (by decide) (br_f (by decide) (br_f (by decide) (br_t rfl ⟨vp_in_nI (n := 246) (by omega) (by omega), nm_r (qa_up _ _ (nI_clamp (n := 246) (by omega))) h⟩))))))))
  · rw [k1] at h
    exact br_f k2 (br_f (by decide) (br_f (by decide) (br_f (by decide) (br_f (by decide) (br_f (by decide) (br_f (by decide) (br_f (by decide) (br_t rfl ⟨vp_in_nI (n := 246) (by omega) (by omega), nm_r (qa_up _ _ (nI_clamp (n := 246) (by omega))) h⟩))))))))
theorem pr_rg249 {v : Int32} (C : hr_ce s t) (T : hr_tm s t) (P : hr_cp s t) (hk : qa_B (t 310)) (hv : qa_B v) (hr : t 269 = rn) (hrb : qa_b rn) : ∃ s1 t1 : Nat → Int32, hr_rg s1 t1 s t ∧ (∀ post : SX → Prop, post (sa, dg, st, da, rn, cn, s1, sv, iv, c) → wpX_writeRegister post (sa, dg, st, da, rn, cn, s, sv, iv, c) (nI 249) v) ∧ (∀ post : SY → Prop, wY_store_258 post (ml_sg (t 244) (t 267)) (ml_pd (t 240) (t 310)) (ml_on (t 247)) sb t1 tv jv e → wpY_store post (sb, t, tv, jv, e) (nI 249) v) := by
  refine ⟨upd s 249 v, upd t 249 v, ⟨hr_ceB C hv rfl, hr_tmA T (qa_agU qa_ag0 (by omega)) (qa_agU qa_ag0 (by omega)), hr_cpA P (qa_agU qa_ag0 (by omega)) (qa_agU qa_ag0 (by omega)), qa_agU qa_ag0 (by unfold hr_WX; omega), qa_agU qa_ag0 (by unfold hr_WY; omega)⟩, fun post h => br_f (by decide) (br_f (by decide) (br_f (by decide) (br_f (by decide) (br_f (by decide) (br_f (by decide) (br_f (by decide) (br_f (by decide) (br_f (by decide) (br_f (by decide) (br_t rfl ⟨vp_in_nI (n := 249) (by omega) (by omega), nm_r (qa_up _ _ (nI_clamp (n := 249) (by omega))) h⟩)))))))))), ?_⟩
  intro post h
  refine br_t (by decide) (my_signal (my_pad hk ?_))
  unfold wpY_isOn
  rcases ml_onC (t 247) with ⟨k1, k2⟩ | ⟨k1, k2⟩
  · rw [k1] at h
    exact br_t k2 (br_f (by decide) (br_f (by decide) (br_f (by decide) (br_f (by decide) (br_f (by decide) (br_f (by decide) (br_f (by decide) (br_f (by decide) (br_f (by decide) (br_f (by decide) (br_t rfl ⟨vp_in_nI (n := 249) (by omega) (by omega), nm_r (qa_up _ _ (nI_clamp (n := 249) (by omega))) h⟩)))))))))))
  · rw [k1] at h
    exact br_f k2 (br_f (by decide) (br_f (by decide) (br_f (by decide) (br_f (by decide) (br_f (by decide) (br_f (by decide) (br_f (by decide) (br_f (by decide) (br_f (by decide) (br_f (by decide) (br_t rfl ⟨vp_in_nI (n := 249) (by omega) (by omega), nm_r (qa_up _ _ (nI_clamp (n := 249) (by omega))) h⟩)))))))))))
theorem pr_rg250 {v : Int32} (C : hr_ce s t) (T : hr_tm s t) (P : hr_cp s t) (hk : qa_B (t 310)) (hv : qa_B v) (hr : t 269 = rn) (hrb : qa_b rn) : ∃ s1 t1 : Nat → Int32, hr_rg s1 t1 s t ∧ (∀ post : SX → Prop, post (sa, dg, st, da, rn, cn, s1, sv, iv, c) → wpX_writeRegister post (sa, dg, st, da, rn, cn, s, sv, iv, c) (nI 250) v) ∧ (∀ post : SY → Prop, wY_store_258 post (ml_sg (t 244) (t 267)) (ml_pd (t 240) (t 310)) (ml_on (t 247)) sb t1 tv jv e → wpY_store post (sb, t, tv, jv, e) (nI 250) v) := by
  refine ⟨upd s 250 v, upd t 250 v, ⟨hr_ceB C hv rfl, hr_tmA T (qa_agU qa_ag0 (by omega)) (qa_agU qa_ag0 (by omega)), hr_cpA P (qa_agU qa_ag0 (by omega)) (qa_agU qa_ag0 (by omega)), qa_agU qa_ag0 (by unfold hr_WX; omega), qa_agU qa_ag0 (by unfold hr_WY; omega)⟩, fun post h => br_f (by decide) (br_f (by decide) (br_f (by decide) (br_f (by decide) (br_f (by decide) (br_f (by decide) (br_f (by decide) (br_f (by decide) (br_f (by decide) (br_f (by decide) (br_f (by decide) (br_t rfl ⟨vp_in_nI (n := 250) (by omega) (by omega), nm_r (qa_up _ _ (nI_clamp (n := 250) (by omega))) h⟩))))))))))), ?_⟩
  intro post h
  refine br_t (by decide) (my_signal (my_pad hk ?_))
  unfold wpY_isOn
  rcases ml_onC (t 247) with ⟨k1, k2⟩ | ⟨k1, k2⟩
  · rw [k1] at h
    exact br_t k2 (br_f (by decide) (br_f (by decide) (br_f (by decide) (br_f (by decide) (br_f (by decide) (br_f (by decide) (br_f (by decide) (br_f (by decide) (br_f (by decide) (br_f (by decide) (br_f (by decide) (br_t rfl ⟨vp_in_nI (n := 250) (by omega) (by omega), nm_r (qa_up _ _ (nI_clamp (n := 250) (by omega))) h⟩))))))))))))
  · rw [k1] at h
    exact br_f k2 (br_f (by decide) (br_f (by decide) (br_f (by decide) (br_f (by decide) (br_f (by decide) (br_f (by decide) (br_f (by decide) (br_f (by decide) (br_f (by decide) (br_f (by decide) (br_f (by decide) (br_t rfl ⟨vp_in_nI (n := 250) (by omega) (by omega), nm_r (qa_up _ _ (nI_clamp (n := 250) (by omega))) h⟩))))))))))))
theorem pr_rg252 {v : Int32} (C : hr_ce s t) (T : hr_tm s t) (P : hr_cp s t) (hk : qa_B (t 310)) (hv : qa_B v) (hr : t 269 = rn) (hrb : qa_b rn) : ∃ s1 t1 : Nat → Int32, hr_rg s1 t1 s t ∧ (∀ post : SX → Prop, post (sa, dg, st, da, rn, cn, s1, sv, iv, c) → wpX_writeRegister post (sa, dg, st, da, rn, cn, s, sv, iv, c) (nI 252) v) ∧ (∀ post : SY → Prop, wY_store_258 post (ml_sg (t 244) (t 267)) (ml_pd (t 240) (t 310)) (ml_on (t 247)) sb t1 tv jv e → wpY_store post (sb, t, tv, jv, e) (nI 252) v) := by
  refine ⟨upd s 252 v, upd t 252 v, ⟨hr_ceB C hv rfl, hr_tmA T (qa_agU qa_ag0 (by omega)) (qa_agU qa_ag0 (by omega)), hr_cpA P (qa_agU qa_ag0 (by omega)) (qa_agU qa_ag0 (by omega)), qa_agU qa_ag0 (by unfold hr_WX; omega), qa_agU qa_ag0 (by unfold hr_WY; omega)⟩, fun post h => br_f (by decide) (br_f (by decide) (br_f (by decide) (br_f (by decide) (br_f (by decide) (br_f (by decide) (br_f (by decide) (br_f (by decide) (br_f (by decide) (br_f (by decide) (br_f (by decide) (br_f (by decide) (br_f (by decide) (br_t rfl ⟨vp_in_nI (n := 252) (by omega) (by omega), nm_r (qa_up _ _ (nI_clamp (n := 252) (by omega))) h⟩))))))))))))), ?_⟩
  intro post h
  refine br_t (by decide) (my_signal (my_pad hk ?_))
  unfold wpY_isOn
  rcases ml_onC (t 247) with ⟨k1, k2⟩ | ⟨k1, k2⟩
  · rw [k1] at h
    exact br_t k2 (br_f (by decide) (br_f (by decide) (br_f (by decide) (br_f (by decide) (br_f (by decide) (br_f (by decide) (br_f (by decide) (br_f (by decide) (br_f (by decide) (br_f (by decide) (br_f (by decide) (br_f (by decide) (br_f (by decide) (br_t rfl ⟨vp_in_nI (n := 252) (by omega) (by omega), nm_r (qa_up _ _ (nI_clamp (n := 252) (by omega))) h⟩))))))))))))))
  · rw [k1] at h
    exact br_f k2 (br_f (by decide) (br_f (by decide) (br_f (by decide) (br_f (by decide) (br_f (by decide) (br_f (by decide) (br_f (by decide) (br_f (by decide) (br_f (by decide) (br_f (by decide) (br_f (by decide) (br_f (by decide) (br_f (by decide) (br_t rfl ⟨vp_in_nI (n := 252) (by omega) (by omega), nm_r (qa_up _ _ (nI_clamp (n := 252) (by omega))) h⟩))))))))))))))
theorem pr_rg254 {v : Int32} (C : hr_ce s t) (T : hr_tm s t) (P : hr_cp s t) (hk : qa_B (t 310)) (hv : qa_B v) (hr : t 269 = rn) (hrb : qa_b rn) : ∃ s1 t1 : Nat → Int32, hr_rg s1 t1 s t ∧ (∀ post : SX → Prop, post (sa, dg, st, da, rn, cn, s1, sv, iv, c) → wpX_writeRegister post (sa, dg, st, da, rn, cn, s, sv, iv, c) (nI 254) v) ∧ (∀ post : SY → Prop, wY_store_258 post (ml_sg (t 244) (t 267)) (ml_pd (t 240) (t 310)) (ml_on (t 247)) sb t1 tv jv e → wpY_store post (sb, t, tv, jv, e) (nI 254) v) := by
  refine ⟨upd s 254 v, upd t 254 v, ⟨hr_ceB C hv rfl, hr_tmA T (qa_agU qa_ag0 (by omega)) (qa_agU qa_ag0 (by omega)), hr_cpA P (qa_agU qa_ag0 (by omega)) (qa_agU qa_ag0 (by omega)), qa_agU qa_ag0 (by unfold hr_WX; omega), qa_agU qa_ag0 (by unfold hr_WY; omega)⟩, fun post h => br_f (by decide) (br_t (by decide) ⟨vp_in_nI (n := 254) (by omega) (by omega), nm_r (qa_up _ _ (nI_clamp (n := 254) (by omega))) h⟩), ?_⟩
  intro post h
  refine br_t (by decide) (my_signal (my_pad hk ?_))
  unfold wpY_isOn
  rcases ml_onC (t 247) with ⟨k1, k2⟩ | ⟨k1, k2⟩
  · rw [k1] at h
    exact br_t k2 (br_f (by decide) (br_t (by decide) ⟨vp_in_nI (n := 254) (by omega) (by omega), nm_r (qa_up _ _ (nI_clamp (n := 254) (by omega))) h⟩))
  · rw [k1] at h
    exact br_f k2 (br_f (by decide) (br_t (by decide) ⟨vp_in_nI (n := 254) (by omega) (by omega), nm_r (qa_up _ _ (nI_clamp (n := 254) (by omega))) h⟩))
theorem pr_rg255 {v : Int32} (C : hr_ce s t) (T : hr_tm s t) (P : hr_cp s t) (hk : qa_B (t 310)) (hv : qa_B v) (hr : t 269 = rn) (hrb : qa_b rn) : ∃ s1 t1 : Nat → Int32, hr_rg s1 t1 s t ∧ (∀ post : SX → Prop, post (sa, dg, st, da, rn, cn, s1, sv, iv, c) → wpX_writeRegister post (sa, dg, st, da, rn, cn, s, sv, iv, c) (nI 255) v) ∧ (∀ post : SY → Prop, wY_store_258 post (ml_sg (t 244) (t 267)) (ml_pd (t 240) (t 310)) (ml_on (t 247)) sb t1 tv jv e → wpY_store post (sb, t, tv, jv, e) (nI 255) v) := by
  refine ⟨upd s 255 v, upd t 255 v, ⟨hr_ceB C hv rfl, hr_tmA T (qa_agU qa_ag0 (by omega)) (qa_agU qa_ag0 (by omega)), hr_cpA P (qa_agU qa_ag0 (by omega)) (qa_agU qa_ag0 (by omega)), qa_agU qa_ag0 (by unfold hr_WX; omega), qa_agU qa_ag0 (by unfold hr_WY; omega)⟩, fun post h => br_f (by decide) (br_t (by decide) ⟨vp_in_nI (n := 255) (by omega) (by omega), nm_r (qa_up _ _ (nI_clamp (n := 255) (by omega))) h⟩), ?_⟩
  intro post h
  refine br_t (by decide) (my_signal (my_pad hk ?_))
  unfold wpY_isOn
  rcases ml_onC (t 247) with ⟨k1, k2⟩ | ⟨k1, k2⟩
  · rw [k1] at h
    exact br_t k2 (br_f (by decide) (br_t (by decide) ⟨vp_in_nI (n := 255) (by omega) (by omega), nm_r (qa_up _ _ (nI_clamp (n := 255) (by omega))) h⟩))
  · rw [k1] at h
    exact br_f k2 (br_f (by decide) (br_t (by decide) ⟨vp_in_nI (n := 255) (by omega) (by omega), nm_r (qa_up _ _ (nI_clamp (n := 255) (by omega))) h⟩))
theorem pr_rg241 {v : Int32} (C : hr_ce s t) (T : hr_tm s t) (P : hr_cp s t) (hk : qa_B (t 310)) (hv : qa_B v) (hr : t 269 = rn) (hrb : qa_b rn) : ∃ s1 t1 : Nat → Int32, hr_rg s1 t1 s t ∧ (∀ post : SX → Prop, post (sa, dg, st, da, rn, cn, s1, sv, iv, c) → wpX_writeRegister post (sa, dg, st, da, rn, cn, s, sv, iv, c) (nI 241) v) ∧ (∀ post : SY → Prop, wY_store_258 post (ml_sg (t 244) (t 267)) (ml_pd (t 240) (t 310)) (ml_on (t 247)) sb t1 tv jv e → wpY_store post (sb, t, tv, jv, e) (nI 241) v) := by
  refine ⟨upd s 266 0, upd t 267 0, ⟨hr_ceX (hr_ceY C (by omega)) (by omega), ⟨rfl, ⟨0, by omega, rfl⟩, T.2.2.1, T.2.2.2⟩, hr_cpA P (qa_agU qa_ag0 (by omega)) (qa_agU qa_ag0 (by omega)), qa_agU qa_ag0 (by unfold hr_WX; omega), qa_agU qa_ag0 (by unfold hr_WY; omega)⟩, fun post h => br_f (by decide) (br_f (by decide) (br_t rfl (nm_e h))), ?_⟩
  intro post h
  refine br_t (by decide) (my_signal (my_pad hk ?_))
  unfold wpY_isOn
  rcases ml_onC (t 247) with ⟨k1, k2⟩ | ⟨k1, k2⟩
  · rw [k1] at h
    exact br_t k2 (br_f (by decide) (br_f (by decide) (br_t rfl (nm_e h))))
  · rw [k1] at h
    exact br_f k2 (br_f (by decide) (br_f (by decide) (br_t rfl (nm_e h))))
theorem pr_rg242 {v : Int32} (C : hr_ce s t) (T : hr_tm s t) (P : hr_cp s t) (hk : qa_B (t 310)) (hv : qa_B v) (hr : t 269 = rn) (hrb : qa_b rn) : ∃ s1 t1 : Nat → Int32, hr_rg s1 t1 s t ∧ (∀ post : SX → Prop, post (sa, dg, st, da, rn, cn, s1, sv, iv, c) → wpX_writeRegister post (sa, dg, st, da, rn, cn, s, sv, iv, c) (nI 242) v) ∧ (∀ post : SY → Prop, wY_store_258 post (ml_sg (t 244) (t 267)) (ml_pd (t 240) (t 310)) (ml_on (t 247)) sb t1 tv jv e → wpY_store post (sb, t, tv, jv, e) (nI 242) v) := by
  rcases hrb with z | z
  · refine ⟨upd (upd s 242 v) 267 0, upd (upd t 242 v) 268 0, ⟨hr_ceX (hr_ceY (hr_ceB C hv rfl) (by omega)) (by omega), ⟨T.1, T.2.1, rfl, Or.inl rfl⟩, hr_cpA P (qa_agU (qa_agU qa_ag0 (by omega)) (by omega)) (qa_agU (qa_agU qa_ag0 (by omega)) (by omega)), qa_agU (qa_agU qa_ag0 (by unfold hr_WX; omega)) (by unfold hr_WX; omega), qa_agU (qa_agU qa_ag0 (by unfold hr_WY; omega)) (by unfold hr_WY; omega)⟩, fun post h => br_f (by decide) (br_f (by decide) (br_f (by decide) (br_t rfl (br_t z (nm_e (nm_e h)))))), ?_⟩
    intro post h
    refine br_t (by decide) (my_signal (my_pad hk ?_))
    unfold wpY_isOn
    rcases ml_onC (t 247) with ⟨k1, k2⟩ | ⟨k1, k2⟩
    · rw [k1] at h
      exact br_t k2 (br_f (by decide) (br_f (by decide) (br_f (by decide) (br_t rfl (br_t (hr.trans z) (nm_e (nm_e h)))))))
    · rw [k1] at h
      exact br_f k2 (br_f (by decide) (br_f (by decide) (br_f (by decide) (br_t rfl (br_t (hr.trans z) (nm_e (nm_e h)))))))
  · refine ⟨s, t, ⟨C, T, P, qa_ag0, qa_ag0⟩, fun post h => br_f (by decide) (br_f (by decide) (br_f (by decide) (br_t rfl (br_f (by rw [z]; decide) h)))), ?_⟩
    intro post h
    refine br_t (by decide) (my_signal (my_pad hk ?_))
    unfold wpY_isOn
    rcases ml_onC (t 247) with ⟨k1, k2⟩ | ⟨k1, k2⟩
    · rw [k1] at h
      exact br_t k2 (br_f (by decide) (br_f (by decide) (br_f (by decide) (br_t rfl (br_f (by rw [hr, z]; decide) h)))))
    · rw [k1] at h
      exact br_f k2 (br_f (by decide) (br_f (by decide) (br_f (by decide) (br_t rfl (br_f (by rw [hr, z]; decide) h)))))
theorem pr_rg243 {v : Int32} (C : hr_ce s t) (T : hr_tm s t) (P : hr_cp s t) (hk : qa_B (t 310)) (hv : qa_B v) (hr : t 269 = rn) (hrb : qa_b rn) : ∃ s1 t1 : Nat → Int32, hr_rg s1 t1 s t ∧ (∀ post : SX → Prop, post (sa, dg, st, da, rn, cn, s1, sv, iv, c) → wpX_writeRegister post (sa, dg, st, da, rn, cn, s, sv, iv, c) (nI 243) v) ∧ (∀ post : SY → Prop, wY_store_258 post (ml_sg (t 244) (t 267)) (ml_pd (t 240) (t 310)) (ml_on (t 247)) sb t1 tv jv e → wpY_store post (sb, t, tv, jv, e) (nI 243) v) := by
  rcases hrb with z | z
  · refine ⟨upd s 243 v, upd t 243 v, ⟨hr_ceB C hv rfl, hr_tmA T (qa_agU qa_ag0 (by omega)) (qa_agU qa_ag0 (by omega)), hr_cpA P (qa_agU qa_ag0 (by omega)) (qa_agU qa_ag0 (by omega)), qa_agU qa_ag0 (by unfold hr_WX; omega), qa_agU qa_ag0 (by unfold hr_WY; omega)⟩, fun post h => br_f (by decide) (br_f (by decide) (br_f (by decide) (br_f (by decide) (br_t rfl (nm_e (br_t z h)))))), ?_⟩
    intro post h
    refine br_t (by decide) (my_signal (my_pad hk ?_))
    unfold wpY_isOn
    rcases ml_onC (t 247) with ⟨k1, k2⟩ | ⟨k1, k2⟩
    · rw [k1] at h
      exact br_t k2 (br_f (by decide) (br_f (by decide) (br_f (by decide) (br_f (by decide) (br_t rfl (nm_e (br_f (fun y => absurd ((hr.symm.trans y).symm.trans z) (by decide)) h)))))))
    · rw [k1] at h
      exact br_f k2 (br_f (by decide) (br_f (by decide) (br_f (by decide) (br_f (by decide) (br_t rfl (nm_e (br_f (fun y => absurd ((hr.symm.trans y).symm.trans z) (by decide)) h)))))))
  · refine ⟨upd (upd s 243 v) 242 v, upd (upd t 243 v) 242 v, ⟨hr_ceB (hr_ceB C hv rfl) hv rfl, hr_tmA T (qa_agU (qa_agU qa_ag0 (by omega)) (by omega)) (qa_agU (qa_agU qa_ag0 (by omega)) (by omega)), hr_cpA P (qa_agU (qa_agU qa_ag0 (by omega)) (by omega)) (qa_agU (qa_agU qa_ag0 (by omega)) (by omega)), qa_agU (qa_agU qa_ag0 (by unfold hr_WX; omega)) (by unfold hr_WX; omega), qa_agU (qa_agU qa_ag0 (by unfold hr_WY; omega)) (by unfold hr_WY; omega)⟩, fun post h => br_f (by decide) (br_f (by decide) (br_f (by decide) (br_f (by decide) (br_t rfl (nm_e (br_f (by rw [z]; decide) (nm_e h))))))), ?_⟩
    intro post h
    refine br_t (by decide) (my_signal (my_pad hk ?_))
    unfold wpY_isOn
    rcases ml_onC (t 247) with ⟨k1, k2⟩ | ⟨k1, k2⟩
    · rw [k1] at h
      exact br_t k2 (br_f (by decide) (br_f (by decide) (br_f (by decide) (br_f (by decide) (br_t rfl (nm_e (br_t (hr.trans z) (nm_e h))))))))
    · rw [k1] at h
      exact br_f k2 (br_f (by decide) (br_f (by decide) (br_f (by decide) (br_f (by decide) (br_t rfl (nm_e (br_t (hr.trans z) (nm_e h))))))))
theorem pr_rg245 {v : Int32} (C : hr_ce s t) (T : hr_tm s t) (P : hr_cp s t) (hk : qa_B (t 310)) (hv : qa_B v) (hr : t 269 = rn) (hrb : qa_b rn) : ∃ s1 t1 : Nat → Int32, hr_rg s1 t1 s t ∧ (∀ post : SX → Prop, post (sa, dg, st, da, rn, cn, s1, sv, iv, c) → wpX_writeRegister post (sa, dg, st, da, rn, cn, s, sv, iv, c) (nI 245) v) ∧ (∀ post : SY → Prop, wY_store_258 post (ml_sg (t 244) (t 267)) (ml_pd (t 240) (t 310)) (ml_on (t 247)) sb t1 tv jv e → wpY_store post (sb, t, tv, jv, e) (nI 245) v) := by
  refine ⟨upd s 245 (v &&& 31), upd t 245 (v &&& 31), ⟨hr_ceB C (qa_Band hv _) rfl, hr_tmA T (qa_agU qa_ag0 (by omega)) (qa_agU qa_ag0 (by omega)), hr_cpA P (qa_agU qa_ag0 (by omega)) (qa_agU qa_ag0 (by omega)), qa_agU qa_ag0 (by unfold hr_WX; omega), qa_agU qa_ag0 (by unfold hr_WY; omega)⟩, fun post h => br_f (by decide) (br_f (by decide) (br_f (by decide) (br_f (by decide) (br_f (by decide) (br_f (by decide) (br_t rfl (nm_e h))))))), ?_⟩
  intro post h
  refine br_t (by decide) (my_signal (my_pad hk ?_))
  unfold wpY_isOn
  rcases ml_onC (t 247) with ⟨k1, k2⟩ | ⟨k1, k2⟩
  · rw [k1] at h
    exact br_t k2 (br_f (by decide) (br_f (by decide) (br_f (by decide) (br_f (by decide) (br_f (by decide) (br_f (by decide) (br_t rfl (nm_e h))))))))
  · rw [k1] at h
    exact br_f k2 (br_f (by decide) (br_f (by decide) (br_f (by decide) (br_f (by decide) (br_f (by decide) (br_f (by decide) (br_t rfl (nm_e h))))))))
theorem pr_rg248 {v : Int32} (C : hr_ce s t) (T : hr_tm s t) (P : hr_cp s t) (hk : qa_B (t 310)) (hv : qa_B v) (hr : t 269 = rn) (hrb : qa_b rn) : ∃ s1 t1 : Nat → Int32, hr_rg s1 t1 s t ∧ (∀ post : SX → Prop, post (sa, dg, st, da, rn, cn, s1, sv, iv, c) → wpX_writeRegister post (sa, dg, st, da, rn, cn, s, sv, iv, c) (nI 248) v) ∧ (∀ post : SY → Prop, wY_store_258 post (ml_sg (t 244) (t 267)) (ml_pd (t 240) (t 310)) (ml_on (t 247)) sb t1 tv jv e → wpY_store post (sb, t, tv, jv, e) (nI 248) v) := by
  refine ⟨upd s 248 (v &&& 120), upd t 248 (v &&& 120), ⟨hr_ceB C (qa_Band hv _) rfl, hr_tmA T (qa_agU qa_ag0 (by omega)) (qa_agU qa_ag0 (by omega)), hr_cpA P (qa_agU qa_ag0 (by omega)) (qa_agU qa_ag0 (by omega)), qa_agU qa_ag0 (by unfold hr_WX; omega), qa_agU qa_ag0 (by unfold hr_WY; omega)⟩, fun post h => br_f (by decide) (br_f (by decide) (br_f (by decide) (br_f (by decide) (br_f (by decide) (br_f (by decide) (br_f (by decide) (br_f (by decide) (br_f (by decide) (br_t rfl (nm_e h)))))))))), ?_⟩
  intro post h
  refine br_t (by decide) (my_signal (my_pad hk ?_))
  unfold wpY_isOn
  rcases ml_onC (t 247) with ⟨k1, k2⟩ | ⟨k1, k2⟩
  · rw [k1] at h
    exact br_t k2 (br_f (by decide) (br_f (by decide) (br_f (by decide) (br_f (by decide) (br_f (by decide) (br_f (by decide) (br_f (by decide) (br_f (by decide) (br_f (by decide) (br_t rfl (nm_e h)))))))))))
  · rw [k1] at h
    exact br_f k2 (br_f (by decide) (br_f (by decide) (br_f (by decide) (br_f (by decide) (br_f (by decide) (br_f (by decide) (br_f (by decide) (br_f (by decide) (br_f (by decide) (br_t rfl (nm_e h)))))))))))
theorem pr_rg251 {v : Int32} (C : hr_ce s t) (T : hr_tm s t) (P : hr_cp s t) (hk : qa_B (t 310)) (hv : qa_B v) (hr : t 269 = rn) (hrb : qa_b rn) : ∃ s1 t1 : Nat → Int32, hr_rg s1 t1 s t ∧ (∀ post : SX → Prop, post (sa, dg, st, da, rn, cn, s1, sv, iv, c) → wpX_writeRegister post (sa, dg, st, da, rn, cn, s, sv, iv, c) (nI 251) v) ∧ (∀ post : SY → Prop, wY_store_258 post (ml_sg (t 244) (t 267)) (ml_pd (t 240) (t 310)) (ml_on (t 247)) sb t1 tv jv e → wpY_store post (sb, t, tv, jv, e) (nI 251) v) := by
  refine ⟨s, t, ⟨C, T, P, qa_ag0, qa_ag0⟩, fun post h => br_f (by decide) (br_f (by decide) (br_f (by decide) (br_f (by decide) (br_f (by decide) (br_f (by decide) (br_f (by decide) (br_f (by decide) (br_f (by decide) (br_f (by decide) (br_f (by decide) (br_f (by decide) (br_t rfl h)))))))))))), ?_⟩
  intro post h
  refine br_t (by decide) (my_signal (my_pad hk ?_))
  unfold wpY_isOn
  rcases ml_onC (t 247) with ⟨k1, k2⟩ | ⟨k1, k2⟩
  · rw [k1] at h
    exact br_t k2 (br_f (by decide) (br_f (by decide) (br_f (by decide) (br_f (by decide) (br_f (by decide) (br_f (by decide) (br_f (by decide) (br_f (by decide) (br_f (by decide) (br_f (by decide) (br_f (by decide) (br_f (by decide) (br_t rfl h)))))))))))))
  · rw [k1] at h
    exact br_f k2 (br_f (by decide) (br_f (by decide) (br_f (by decide) (br_f (by decide) (br_f (by decide) (br_f (by decide) (br_f (by decide) (br_f (by decide) (br_f (by decide) (br_f (by decide) (br_f (by decide) (br_f (by decide) (br_t rfl h)))))))))))))
theorem pr_rg253 {v : Int32} (C : hr_ce s t) (T : hr_tm s t) (P : hr_cp s t) (hk : qa_B (t 310)) (hv : qa_B v) (hr : t 269 = rn) (hrb : qa_b rn) : ∃ s1 t1 : Nat → Int32, hr_rg s1 t1 s t ∧ (∀ post : SX → Prop, post (sa, dg, st, da, rn, cn, s1, sv, iv, c) → wpX_writeRegister post (sa, dg, st, da, rn, cn, s, sv, iv, c) (nI 253) v) ∧ (∀ post : SY → Prop, wY_store_258 post (ml_sg (t 244) (t 267)) (ml_pd (t 240) (t 310)) (ml_on (t 247)) sb t1 tv jv e → wpY_store post (sb, t, tv, jv, e) (nI 253) v) := by
  have P253 : hr_cp (upd (upd s 253 v) 268 2) (upd (upd (upd t 253 v) 272 (v &&& 15)) 273 2) := by
    obtain ⟨dl, pg, nx, h1, h2, h3, e1, e2, e3, e4, e5, e6, e7⟩ := P
    exact ⟨2, pg, nx, by omega, h2, h3, rfl, rfl, e3, e4, e5, e6, rfl⟩
  refine ⟨upd (upd s 253 v) 268 2, upd (upd (upd t 253 v) 272 (v &&& 15)) 273 2, ⟨hr_ceX (hr_ceY (hr_ceY (hr_ceB C hv rfl) (by omega)) (by omega)) (by omega), hr_tmA T (qa_agU (qa_agU qa_ag0 (by omega)) (by omega)) (qa_agU (qa_agU (qa_agU qa_ag0 (by omega)) (by omega)) (by omega)), P253, qa_agU (qa_agU qa_ag0 (by unfold hr_WX; omega)) (by unfold hr_WX; omega), qa_agU (qa_agU (qa_agU qa_ag0 (by unfold hr_WY; omega)) (by unfold hr_WY; omega)) (by unfold hr_WY; omega)⟩, fun post h => br_f (by decide) (br_f (by decide) (br_f (by decide) (br_f (by decide) (br_f (by decide) (br_f (by decide) (br_f (by decide) (br_f (by decide) (br_f (by decide) (br_f (by decide) (br_f (by decide) (br_f (by decide) (br_f (by decide) (br_f (by decide) (br_t rfl (nm_e (nm_e h)))))))))))))))), ?_⟩
  intro post h
  refine br_t (by decide) (my_signal (my_pad hk ?_))
  unfold wpY_isOn
  rcases ml_onC (t 247) with ⟨k1, k2⟩ | ⟨k1, k2⟩
  · rw [k1] at h
    exact br_t k2 (br_f (by decide) (br_f (by decide) (br_f (by decide) (br_f (by decide) (br_f (by decide) (br_f (by decide) (br_f (by decide) (br_f (by decide) (br_f (by decide) (br_f (by decide) (br_f (by decide) (br_f (by decide) (br_f (by decide) (br_f (by decide) (br_t rfl (nm_e (nm_e (nm_e h))))))))))))))))))
  · rw [k1] at h
    exact br_f k2 (br_f (by decide) (br_f (by decide) (br_f (by decide) (br_f (by decide) (br_f (by decide) (br_f (by decide) (br_f (by decide) (br_f (by decide) (br_f (by decide) (br_f (by decide) (br_f (by decide) (br_f (by decide) (br_f (by decide) (br_f (by decide) (br_t rfl (nm_e (nm_e (nm_e h))))))))))))))))))
end
