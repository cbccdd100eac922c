/-! the line, the timer, copying: both sides -/
section
variable {sa dg st da rn cn : Int32} {s sv iv c : Nat → Int32} {sb : Int32} {t tv jv e : Nat → Int32}
def ml_bm (st8 m : Int32) : Prop := ¬ 3 ≤ m ∧ (st8 >>> ((3 + m) &&& 31)) &&& 1 = 1
def ml_bl (st8 y z : Int32) : Prop := y = z ∧ ¬ st8 &&& 64 = 0
theorem mx_look1 {post : SX → Prop} (hon : ¬ s 247 &&& 1 = 0) (hb : ml_bm (s 248) (s 273) ∨ ml_bl (s 248) (s 251) (s 252)) (h : wX_lookAtLine_98 post 1 sa dg st da rn cn s sv iv c) : wpX_lookAtLine post (sa, dg, st, da, rn, cn, s, sv, iv, c) := by
  have A : ∀ z, wX_lookAtLine_76 post 1 z sa dg st da rn cn s sv iv c := fun z => br_f hon (br_f (by decide) (br_f (by decide) h))
  have B0 : wX_lookAtLine_76 post 0 1 sa dg st da rn cn s sv iv c := br_f hon (br_f (by decide) (br_t rfl (br_f (by decide) h)))
  have G1 : wX_lookAtLine_37 post 1 sa dg st da rn cn s sv iv c := ⟨fun _ => ⟨fun _ => A 0, fun _ => A 1⟩, fun _ => A 0⟩
  rcases hb with k | k
  · exact nm_e (br_f k.1 (br_t k.2 G1))
  · have G0 : wX_lookAtLine_37 post 0 sa dg st da rn cn s sv iv c := br_t k.1 (br_f k.2 B0)
    exact nm_e ⟨fun _ => G0, fun _ => ⟨fun _ => G1, fun _ => G0⟩⟩
theorem mx_look0 {post : SX → Prop} (hb : s 247 &&& 1 = 0 ∨ (¬ ml_bm (s 248) (s 273) ∧ ¬ ml_bl (s 248) (s 251) (s 252))) (h : wX_lookAtLine_98 post 0 sa dg st da rn cn s sv iv c) : wpX_lookAtLine post (sa, dg, st, da, rn, cn, s, sv, iv, c) := by
  rcases hb with k | k
  · have Z : ∀ x z, wX_lookAtLine_76 post x z sa dg st da rn cn s sv iv c := fun x z => br_t k (br_t rfl h)
    have G : ∀ x, wX_lookAtLine_37 post x sa dg st da rn cn s sv iv c := fun x => ⟨fun _ => ⟨fun _ => Z x 0, fun _ => Z x 1⟩, fun _ => Z x 0⟩
    exact nm_e ⟨fun _ => G 0, fun _ => ⟨fun _ => G 1, fun _ => G 0⟩⟩
  · have Z : wX_lookAtLine_76 post 0 0 sa dg st da rn cn s sv iv c := ⟨fun _ => br_t rfl h, fun _ => br_f (by decide) (br_t rfl (br_t rfl h))⟩
    have G : wX_lookAtLine_37 post 0 sa dg st da rn cn s sv iv c := ⟨fun k3 => ⟨fun _ => Z, fun k4 => absurd ⟨k3, k4⟩ k.2⟩, fun _ => Z⟩
    exact nm_e ⟨fun _ => G, fun k1 => ⟨fun k2 => absurd ⟨k1, k2⟩ k.1, fun _ => G⟩⟩
theorem my_line1 {post : Int32 → Prop} (hon : t 247 &&& 1 = 1) (hb : ml_bm (t 248) (t 276) ∨ ml_bl (t 248) (t 251) (t 252)) (h : post 1) : wpY_line post (sb, t, tv, jv, e) := by
  have G1 : wY_line_53 post (t 248) 1 sb t tv jv e := br_f (by decide) h
  refine br_t hon (br_f (by decide) (nm_e ?_))
  rcases hb with k | k
  · exact br_f k.1 (br_t k.2 G1)
  · have G0 : wY_line_53 post (t 248) 0 sb t tv jv e := br_t rfl (br_t k.1 (br_f k.2 h))
    exact ⟨fun _ => G0, fun _ => ⟨fun _ => G1, fun _ => G0⟩⟩
theorem my_line0 {post : Int32 → Prop} (hb : ¬ t 247 &&& 1 = 1 ∨ (¬ ml_bm (t 248) (t 276) ∧ ¬ ml_bl (t 248) (t 251) (t 252))) (h : post 0) : wpY_line post (sb, t, tv, jv, e) := by
  rcases hb with k | k
  · exact br_f k (br_t rfl h)
  · have G : wY_line_53 post (t 248) 0 sb t tv jv e := br_t rfl ⟨fun k3 => ⟨fun _ => h, fun k4 => absurd ⟨k3, k4⟩ k.2⟩, fun _ => h⟩
    refine ⟨fun _ => br_f (by decide) (nm_e ⟨fun _ => G, fun k1 => ⟨fun k2 => absurd ⟨k1, k2⟩ k.1, fun _ => G⟩⟩), fun _ => br_t rfl h⟩
theorem qa_on {a b : Int32} (h : b = a) : ¬ a &&& 1 = 0 ↔ b &&& 1 = 1 := by
  rw [h]
  rcases qa_and1 a with k | k
  · rw [k]; decide
  · rw [k]; decide
theorem pr_look (C : hr_ce s t) (L : hr_ln s t) (hm : t 276 = s 273) : ∃ s' t' : Nat → Int32, hr_ce s' t' ∧ hr_ln s' t' ∧ qa_ag (fun i => i ≠ 245 ∧ i ≠ 271) s s' ∧ qa_ag (fun i => i ≠ 245 ∧ i ≠ 308) t t' ∧ (∀ post : SX → Prop, post (sa, dg, st, da, rn, cn, s', sv, iv, c) → wpX_lookAtLine post (sa, dg, st, da, rn, cn, s, sv, iv, c)) ∧ (∀ post : SY → Prop, post (sb, t', tv, jv, e) → wpY_lookAtLine post (sb, t, tv, jv, e)) := by
  have e247 := (C 247 (by omega)).1
  have e248 := (C 248 (by omega)).1
  have e251 := (C 251 (by omega)).1
  have e252 := (C 252 (by omega)).1
  by_cases P : (¬ s 247 &&& 1 = 0) ∧ (ml_bm (s 248) (s 273) ∨ ml_bl (s 248) (s 251) (s 252))
  · have Y1 : ∀ post : Int32 → Prop, post 1 → wpY_line post (sb, t, tv, jv, e) := fun post h => my_line1 ((qa_on e247).mp P.1) (by rw [e248, hm, e251, e252]; exact P.2) h
    rcases L.2 with z | z
    · have z' : t 308 = 0 := L.1.trans z
      refine ⟨upd (upd s 245 (s 245 ||| 2)) 271 1, upd (upd t 245 (t 245 ||| 2)) 308 1, ?_, ⟨rfl, Or.inr rfl⟩, qa_agU (qa_agU qa_ag0 (by omega)) (by omega), qa_agU (qa_agU qa_ag0 (by omega)) (by omega), ?_, ?_⟩
      · exact hr_ceX (hr_ceY (hr_ceB C (qa_Bor (C 245 (by omega)).2 ⟨2, by decide, rfl⟩) (by rw [(C 245 (by omega)).1])) (by omega)) (by omega)
      · intro post h
        exact mx_look1 P.1 P.2 (br_f (by rw [z]; decide) (nm_e (nm_e h)))
      · intro post h
        unfold wpY_lookAtLine
        refine Y1 _ ?_
        exact br_f (by decide) (br_t z' (nm_e (br_f (by decide) (nm_e h))))
    · have z' : ¬ t 308 = 0 := by rw [L.1, z]; decide
      refine ⟨upd s 271 1, upd t 308 1, hr_ceX (hr_ceY C (by omega)) (by omega), ⟨rfl, Or.inr rfl⟩, qa_agU qa_ag0 (by omega), qa_agU qa_ag0 (by omega), ?_, ?_⟩
      · intro post h
        exact mx_look1 P.1 P.2 (br_t (by rw [z]; decide) (nm_e h))
      · intro post h
        unfold wpY_lookAtLine
        refine Y1 _ ?_
        exact br_f (by decide) (br_f z' (br_f (by decide) (nm_e h)))
  · have P0 : s 247 &&& 1 = 0 ∨ (¬ ml_bm (s 248) (s 273) ∧ ¬ ml_bl (s 248) (s 251) (s 252)) := by
      by_cases k : s 247 &&& 1 = 0
      · exact Or.inl k
      · exact Or.inr ⟨fun z => P ⟨k, Or.inl z⟩, fun z => P ⟨k, Or.inr z⟩⟩
    refine ⟨upd s 271 0, upd t 308 0, hr_ceX (hr_ceY C (by omega)) (by omega), ⟨rfl, Or.inl rfl⟩, qa_agU qa_ag0 (by omega), qa_agU qa_ag0 (by omega), ?_, ?_⟩
    · intro post h
      refine mx_look0 P0 (br_t ?_ (nm_e h))
      rcases L.2 with z | z
      · rw [z]; decide
      · rw [z]; decide
    · intro post h
      unfold wpY_lookAtLine
      refine my_line0 ?_ ?_
      rotate_left
      · exact br_t rfl (br_t rfl (nm_e h))
      rcases P0 with k | k
      · exact Or.inl (fun z => absurd k ((qa_on e247).mpr z))
      · exact Or.inr (by rw [e248, hm, e251, e252]; exact k)
/-! the timer -/
theorem pr_more (C : hr_ce s t) (T : hr_tm s t) : ∃ s' t' : Nat → Int32, hr_ce s' t' ∧ hr_tm s' t' ∧ qa_ag (fun i => i ≠ 242 ∧ i ≠ 267) s s' ∧ qa_ag (fun i => i ≠ 242 ∧ i ≠ 268) t t' ∧ (∀ post : SX → Prop, post (sa, dg, st, da, rn, cn, s', sv, iv, c) → (s 242 = 255 → ∀ a, a = upd s 242 0 → ∀ b, b = upd a 267 1 → post (sa, dg, st, da, rn, cn, b, sv, iv, c)) ∧ (¬ s 242 = 255 → ∀ a, a = upd s 242 (s 242 + 1) → post (sa, dg, st, da, rn, cn, a, sv, iv, c))) ∧ (∀ post : SY → Prop, post (sb, t', tv, jv, e) → wpY_more post (sb, t, tv, jv, e)) := by
  obtain ⟨T1, T2, T3, T4⟩ := T
  obtain ⟨c1, n, hn, en⟩ := C 242 (by omega)
  have et : t 242 = nI n := c1.trans en
  by_cases k : n = 255
  · refine ⟨upd (upd s 242 0) 267 1, upd (upd (upd t 242 (t 242 + 1)) 242 0) 268 1, ?_, ⟨T1, T2, rfl, Or.inr rfl⟩, qa_agU (qa_agU qa_ag0 (by omega)) (by omega), qa_agU (qa_agU (qa_agU qa_ag0 (by omega)) (by omega)) (by omega), ?_, ?_⟩
    · refine hr_ceX (hr_ceY ?_ (by omega)) (by omega)
      intro i hi
      by_cases z : i = 242
      · subst z
        rw [pk_us, pk_us]
        exact ⟨rfl, qa_B0⟩
      · rw [pk_un z, pk_un z, pk_un z]
        exact C i hi
    · intro post h
      exact br_t (by rw [en, k]; rfl) (nm_e (nm_e h))
    · intro post h
      refine nm_e (br_t ?_ (nm_e (nm_e h)))
      show (256 : Int32) ≤ t 242 + 1
      rw [et, k]
      decide
  · refine ⟨upd s 242 (s 242 + 1), upd t 242 (t 242 + 1), ?_, ⟨T1, T2, T3, T4⟩, qa_agU qa_ag0 (by omega), qa_agU qa_ag0 (by omega), ?_, ?_⟩
    · exact hr_ceB C ⟨n + 1, by omega, by rw [en, nI_1]⟩ (by rw [c1])
    · intro post h
      exact br_f (by rw [en]; exact qa_neN (b := 255) k (by omega) (by omega)) (nm_e h)
    · intro post h
      refine nm_e (br_f ?_ h)
      show ¬ (256 : Int32) ≤ t 242 + 1
      rw [et, nI_1]
      exact nI_ge (b := 256) (by omega) (by omega)
/-- X's look at the signal after a change, and what Y has to do there -/
theorem pr_notice (C : hr_ce s t) (T : hr_tm s t) (b : Int32) : ∃ s' t' : Nat → Int32, hr_ce s' t' ∧ hr_tm s' t' ∧ qa_ag (fun i => i ≠ 242 ∧ i ≠ 267) s s' ∧ qa_ag (fun i => i ≠ 242 ∧ i ≠ 268) t t' ∧ (∀ post : SX → Prop, post (sa, dg, st, da, rn, cn, s', sv, iv, c) → wpX_noticeSignal post (sa, dg, st, da, rn, cn, s, sv, iv, c) b) ∧ ((b = 0 ∧ t' = t) ∨ (¬ b = 0 ∧ ¬ ml_sg (t 244) (t 267) = 0 ∧ t' = t) ∨ (¬ b = 0 ∧ ml_sg (t 244) (t 267) = 0 ∧ ∀ post : SY → Prop, post (sb, t', tv, jv, e) → wpY_more post (sb, t, tv, jv, e))) := by
  have eg : ml_sg (t 244) (t 267) = ml_sg (s 244) (s 266) := by rw [(C 244 (by omega)).1, T.1]
  by_cases k : b = 0
  · exact ⟨s, t, C, T, qa_ag0, qa_ag0, fun post h => br_t k h, Or.inl ⟨k, rfl⟩⟩
  · by_cases k2 : ml_sg (s 244) (s 266) = 0
    · obtain ⟨s', t', h1, h2, h3, h4, h5, h6⟩ := pr_more (sa := sa) (dg := dg) (st := st) (da := da) (rn := rn) (cn := cn) (sv := sv) (iv := iv) (c := c) (sb := sb) (tv := tv) (jv := jv) (e := e) C T
      exact ⟨s', t', h1, h2, h3, h4, fun post h => br_f k (mx_signal (br_t k2 (h5 post h))), Or.inr (Or.inr ⟨k, eg.trans k2, h6⟩)⟩
    · exact ⟨s, t, C, T, qa_ag0, qa_ag0, fun post h => br_f k (mx_signal (br_f k2 h)), Or.inr (Or.inl ⟨k, by rw [eg]; exact k2, rfl⟩)⟩
theorem pr_t65 (C : hr_ce s t) (T : hr_tm s t) : ∃ s' t' : Nat → Int32, hr_ce s' t' ∧ hr_tm s' t' ∧ qa_ag (fun i => i ≠ 242 ∧ i ≠ 266 ∧ i ≠ 267) s s' ∧ qa_ag (fun i => i ≠ 242 ∧ i ≠ 267 ∧ i ≠ 268) t t' ∧ (∀ post : SX → Prop, post (sa, dg, st, da, rn, cn, s', sv, iv, c) → wX_timerTurn_65 post sa dg st da rn cn s sv iv c) ∧ (∀ post : SY → Prop, post (sb, t', tv, jv, e) → wY_timerTurn_65 post sb t tv jv e) := by
  have eb : ml_sg (t 244) (t 267) = ml_sg (s 244) (s 266) := by rw [(C 244 (by omega)).1, T.1]
  have C2 : hr_ce (upd s 266 ((s 266 + 1) &&& 1023)) (upd t 267 ((t 267 + 1) &&& 1023)) := hr_ceX (hr_ceY C (by omega)) (by omega)
  have T2 : hr_tm (upd s 266 ((s 266 + 1) &&& 1023)) (upd t 267 ((t 267 + 1) &&& 1023)) := by
    refine ⟨?_, ?_, T.2.2.1, T.2.2.2⟩
    · show (t 267 + 1) &&& 1023 = (s 266 + 1) &&& 1023
      rw [T.1]
    · exact pk_andE (s 266 + 1) (m := 1023) 10 (by decide)
  obtain ⟨s', t', h1, h2, h3, h4, h5, h6⟩ := pr_notice (sa := sa) (dg := dg) (st := st) (da := da) (rn := rn) (cn := cn) (sv := sv) (iv := iv) (c := c) (sb := sb) (tv := tv) (jv := jv) (e := e) C2 T2 (ml_sg (s 244) (s 266))
  refine ⟨s', t', h1, h2, qa_agT (qa_agU qa_ag0 (by omega)) (qa_agW h3 (by omega)), qa_agT (qa_agU qa_ag0 (by omega)) (qa_agW h4 (by omega)), fun post h => mx_signal (nm_e (h5 _ h)), fun post h => my_signal (nm_e ?_)⟩
  rw [eb]
  rcases h6 with ⟨k, rfl⟩ | ⟨k, k2, rfl⟩ | ⟨k, k2, k3⟩
  · exact br_t k h
  · exact br_f k (my_signal (br_f k2 h))
  · exact br_f k (my_signal (br_t k2 (k3 _ h)))
theorem qa_fit0 : fits .boolean (.int 0) = true := by decide
theorem qa_fit1 : fits .boolean (.int 1) = true := by decide
theorem pr_timer (H : hr_Hw s t) : ∃ (s' t' : Nat → Int32) (rn' : Int32), hr_Hw s' t' ∧ qa_ag hr_FX s s' ∧ qa_ag hr_FY t t' ∧ t' 269 = rn' ∧ qa_b rn' ∧ (∀ post : SX → Prop, post (sa, dg, st, da, rn', cn, s', sv, iv, c) → wpX_timerTurn post (sa, dg, st, da, rn, cn, s, sv, iv, c)) ∧ (∀ post : SY → Prop, post (sb, t', tv, jv, e) → wpY_timerTurn post (sb, t, tv, jv, e)) := by
  have C := H.1
  have T := H.2.1
  rcases T.2.2.2 with z | z
  · have z' : ¬ t 268 = 1 := by rw [T.2.2.1, z]; decide
    have C1 : hr_ce s (upd (upd t 269 (t 268)) 268 0) := hr_ceY (hr_ceY C (by omega)) (by omega)
    have T1 : hr_tm s (upd (upd t 269 (t 268)) 268 0) := ⟨T.1, T.2.1, z.symm, T.2.2.2⟩
    obtain ⟨s', t', h1, h2, h3, h4, h5, h6⟩ := pr_t65 (sa := sa) (dg := dg) (st := st) (da := da) (rn := 0) (cn := cn) (sv := sv) (iv := iv) (c := c) (sb := sb) (tv := tv) (jv := jv) (e := e) C1 T1
    refine ⟨s', t', 0, hr_HwT H h1 h2 (qa_agW h3 (by omega)) (qa_agT (qa_agU (qa_agU qa_ag0 (by omega)) (by omega)) (qa_agW h4 (by omega))), qa_agW h3 (by unfold hr_FX; omega), qa_agT (qa_agU (qa_agU qa_ag0 (by unfold hr_FY; omega)) (by unfold hr_FY; omega)) (qa_agW h4 (by unfold hr_FY; omega)), ?_, Or.inl rfl, ?_, ?_⟩
    · rw [h4 269 (by omega)]
      exact T.2.2.1.trans z
    · intro post h
      exact br_f (by rw [z]; decide) ⟨rfl, qa_fit0, br_t rfl (h5 post h)⟩
    · intro post h
      exact nm_e (nm_e (br_f z' (h6 post h)))
  · have z' : t 268 = 1 := T.2.2.1.trans z
    have C1 : hr_ce (upd (upd (upd s 267 0) 242 (upd s 267 0 243)) 245 (upd (upd s 267 0) 242 (upd s 267 0 243) 245 ||| 4)) (upd (upd (upd (upd t 269 (t 268)) 268 0) 242 (upd (upd t 269 (t 268)) 268 0 243)) 245 (upd (upd (upd t 269 (t 268)) 268 0) 242 (upd (upd t 269 (t 268)) 268 0 243) 245 ||| 4)) := by
      refine hr_ceB (hr_ceB (hr_ceX (hr_ceY (hr_ceY C (by omega)) (by omega)) (by omega)) (C 243 (by omega)).2 (C 243 (by omega)).1) (qa_Bor (C 245 (by omega)).2 ⟨4, by decide, rfl⟩) ?_
      show t 245 ||| 4 = s 245 ||| 4
      rw [(C 245 (by omega)).1]
    have T1 : hr_tm (upd (upd (upd s 267 0) 242 (upd s 267 0 243)) 245 (upd (upd s 267 0) 242 (upd s 267 0 243) 245 ||| 4)) (upd (upd (upd (upd t 269 (t 268)) 268 0) 242 (upd (upd t 269 (t 268)) 268 0 243)) 245 (upd (upd (upd t 269 (t 268)) 268 0) 242 (upd (upd t 269 (t 268)) 268 0 243) 245 ||| 4)) := ⟨T.1, T.2.1, rfl, Or.inl rfl⟩
    obtain ⟨s', t', h1, h2, h3, h4, h5, h6⟩ := pr_t65 (sa := sa) (dg := dg) (st := st) (da := da) (rn := 1) (cn := cn) (sv := sv) (iv := iv) (c := c) (sb := sb) (tv := tv) (jv := jv) (e := e) C1 T1
    refine ⟨s', t', 1, hr_HwT H h1 h2 (qa_agT (qa_agU (qa_agU (qa_agU qa_ag0 (by omega)) (by omega)) (by omega)) (qa_agW h3 (by omega))) (qa_agT (qa_agU (qa_agU (qa_agU (qa_agU qa_ag0 (by omega)) (by omega)) (by omega)) (by omega)) (qa_agW h4 (by omega))), qa_agT (qa_agU (qa_agU (qa_agU qa_ag0 (by unfold hr_FX; omega)) (by unfold hr_FX; omega)) (by unfold hr_FX; omega)) (qa_agW h3 (by unfold hr_FX; omega)), qa_agT (qa_agU (qa_agU (qa_agU (qa_agU qa_ag0 (by unfold hr_FY; omega)) (by unfold hr_FY; omega)) (by unfold hr_FY; omega)) (by unfold hr_FY; omega)) (qa_agW h4 (by unfold hr_FY; omega)), ?_, Or.inr rfl, ?_, ?_⟩
    · rw [h4 269 (by omega)]
      exact z'
    · intro post h
      exact br_t z ⟨rfl, qa_fit1, br_f (by decide) (nm_e (nm_e (nm_e (h5 post h))))⟩
    · intro post h
      exact nm_e (nm_e (br_t z' (nm_e (nm_e (h6 post h)))))
end
