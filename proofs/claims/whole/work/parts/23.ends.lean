/-! how an instruction ends: both sides -/
def op_R (x1 : Int32) (p : Nat) (stp : Int32) (u u' : SX) (k : Nat) : Prop := (stp = 0 ∧ k = 0 ∧ ∀ Q : SX → Prop, Q u' → wpX_endThis Q u) ∨ (¬ stp = 0 ∧ ∃ j, k = j + 1 ∧ ru_52 x1 (p + 1) j u u')
def op_D (s' t' c' e' c e : Nat → Int32) (k : Nat) : Prop := hr_Rl s' t' ∧ hr_cn c' e' ∧ c' 0 = c 0 ∧ c' 1 = c 1 + 1 ∧ c' 2 = c 2 ∧ c' 3 = c 3 ∧ e' 0 = e 0 + nI k ∧ e' 1 = e 1 ∧ e' 2 = e 2 ∧ e' 3 = e 3
theorem op_Dof {s' t' c e c4 e4 : Nat → Int32} {k : Nat} (R : hr_Rl s' t') (ct : hr_ct c e c4 e4 k) : op_D s' t' (upd c4 1 (c4 1 + 1)) e4 c e k := by
  obtain ⟨a, b, h, n⟩ := ct
  refine ⟨R, n, a 0 (by unfold hr_C4; omega), ?_, a 2 (by unfold hr_C4; omega), a 3 (by unfold hr_C4; omega), h, b 1 (by unfold hr_E3; omega), b 2 (by unfold hr_E3; omega), b 3 (by unfold hr_E3; omega)⟩
  rw [pk_us, a 1 (by unfold hr_C4; omega)]
theorem hr_ct0 {c e : Nat → Int32} (n : hr_cn c e) : hr_ct c e c e 0 := by
  refine ⟨qa_ag0, qa_ag0, ?_, n⟩
  show e 0 = e 0 + 0
  exact (Int32.add_zero _).symm
def op_S (o : Nat) (stp : Int32) (u : SX) : Prop := (16 ≤ o ∧ ∀ post : Int32 → Prop, post stp → wpX_stepsWithR post u) ∨ (o < 16 ∧ ∀ post : Int32 → Prop, post stp → wpX_plainSteps post u)
def op_Y (o : Nat) (v v6 : SY) : Prop := (o < 16 ∧ ∀ Q : SY → Prop, Q v6 → wpY_simple Q v (nI o)) ∨ (16 ≤ o ∧ o < 28 ∧ ∀ Q : SY → Prop, Q v6 → wpY_move Q v ((nI o - 16) / 4) (nI o &&& 3)) ∨ (28 ≤ o ∧ ∀ Q : SY → Prop, Q v6 → wpY_reckon Q v ((nI o - 16) / 4) (nI o &&& 3))
def op_T (o : Nat) (z : Int32) : Prop := ∀ (x1 l sa da rn cn sb : Int32) (p : Nat) (s sv iv c t tv jv e : Nat → Int32), p + 5 < 2010 → qa_b l → hr_Hw s t → hr_cm l z s t → hr_cn c e →
  ∃ (stp : Int32) (k : Nat) (s' t' c' e' t6 : Nat → Int32) (da' rn' cn' : Int32), op_S o stp (sa, nI o, 0, da, rn, cn, s, sv, iv, c) ∧ op_R x1 p stp (sa, nI o, stp, da, rn, cn, s, sv, iv, c) (sa, nI o, 0, da', rn', cn', s', sv, iv, c') k ∧ op_D s' t' c' e' c e k ∧ k ≤ 3 ∧ op_Y o (sb, t, tv, jv, e) (sb, t6, tv, jv, e') ∧ (∀ post : SY → Prop, post (sb, t', tv, jv, e') → wY_instruction_105 post l (nI o) sb t6 tv jv e')
section
variable {sa dg st da rn cn : Int32} {s sv iv c : Nat → Int32} {sb : Int32} {t tv jv e : Nat → Int32}
/-- an end that leaves IME alone: E is what X does there -/
theorem en_gen {l o : Int32} (E : (Nat → Int32) → (Nat → Int32)) (hA : ∀ a : Nat → Int32, qa_ag (fun i => i < 256 ∨ 266 ≤ i) a (E a)) (hE1 : ∀ i, (256 ≤ i ∧ i < 263) ∨ i = 265 → E (upd (upd s 264 0) 263 1) i = E s i) (hE2 : E (upd (upd s 264 0) 263 1) 263 = 1) (hE3 : E (upd (upd s 264 0) 263 1) 264 = 0)
    (o1 : ¬ o = 1) (o2 : ¬ o = 2) (o64 : ¬ o = 64) (o65 : ¬ o = 65) (hl : s 264 = l) (hlb : qa_b l) (H : hr_Hw s t) (M : hr_cm l 0 (E s) t)
    (hX0 : ∀ Q : SX → Prop, Q (sa, o, 0, da, rn, cn, E s, sv, iv, upd c 1 (c 1 + 1)) → wX_endInstruction_40 Q sa o 0 da rn cn s sv iv (upd c 1 (c 1 + 1)))
    (hX1 : ∀ Q : SX → Prop, Q (sa, o, 0, da, rn, cn, E (upd (upd s 264 0) 263 1), sv, iv, upd c 1 (c 1 + 1)) → wX_endInstruction_40 Q sa o 0 da rn cn (upd (upd s 264 0) 263 1) sv iv (upd c 1 (c 1 + 1))) :
    ∃ s' t' : Nat → Int32, hr_Rl s' t' ∧ (∀ Q : SX → Prop, Q (sa, o, 0, da, rn, cn, s', sv, iv, upd c 1 (c 1 + 1)) → wpX_endThis Q (sa, o, 0, da, rn, cn, s, sv, iv, c)) ∧ (∀ post : SY → Prop, post (sb, t', tv, jv, e) → wY_instruction_105 post l o sb t tv jv e) := by
  obtain ⟨m1, m2, m3, m4, m5, m6, m7, m8, B1, B2, B3, B4, B5, b1, b2, b3, g1, g2, g3, g4, g5⟩ := M
  rcases hlb with rfl | rfl
  · refine ⟨E s, t, ⟨hr_HwA H (hA s) qa_ag0, m1, m2, m3, m4, m5, m6, m7, m8, g2.trans g1.symm, B1, B2, B3, B4, B5, b1, b2, b3, Or.inl g1, Or.inl ⟨g3, g4, g5⟩⟩, ?_, ?_⟩
    · intro Q h
      refine br_f o65 (br_f o64 ?_)
      refine nm_e (br_f (by rw [hl]; decide) ?_)
      exact hX0 _ h
    · intro post h
      exact br_t rfl (br_f o1 h)
  · have u : ∀ i, (256 ≤ i ∧ i < 263) ∨ i = 265 → E (upd (upd s 264 0) 263 1) i = E s i := hE1
    refine ⟨E (upd (upd s 264 0) 263 1), upd t 263 1, ⟨hr_HwA H (qa_agT (qa_agU (qa_agU qa_ag0 (by omega)) (by omega)) (hA _)) (qa_agU qa_ag0 (by omega)), ?_, ?_, ?_, ?_, ?_, ?_, ?_, ?_, ?_, ?_, ?_, ?_, ?_, ?_, ?_, ?_, ?_, ?_, ?_⟩, ?_, ?_⟩
    · rw [u 256 (by omega)]; exact m1
    · rw [u 257 (by omega)]; exact m2
    · rw [u 258 (by omega)]; exact m3
    · rw [u 259 (by omega)]; exact m4
    · rw [u 260 (by omega)]; exact m5
    · rw [u 261 (by omega)]; exact m6
    · rw [u 262 (by omega)]; exact m7
    · rw [hE2]; rfl
    · rw [hE3]; exact g2
    · rw [u 256 (by omega)]; exact B1
    · rw [u 257 (by omega)]; exact B2
    · rw [u 258 (by omega)]; exact B3
    · rw [u 259 (by omega)]; exact B4
    · rw [u 260 (by omega)]; exact B5
    · rw [u 261 (by omega)]; exact b1
    · rw [u 262 (by omega)]; exact b2
    · rw [hE2]; exact Or.inr rfl
    · rw [hE3]; exact Or.inl rfl
    · refine Or.inl ⟨?_, g4, g5⟩
      rw [u 265 (by omega)]; exact g3
    · intro Q h
      refine br_f o65 (br_f o64 ?_)
      refine nm_e (br_t hl (nm_e (nm_e ?_)))
      exact hX1 _ h
    · intro post h
      exact br_f (by decide) (br_f o2 (nm_e (br_f o1 h)))
/-! calculation -/
def ml_ce (k : Nat) (cf v : Int32) (s : Nat → Int32) : Nat → Int32 := if k = 7 then upd (upd s 262 cf) 261 (ml_zf v) else upd (upd (upd s 262 cf) 261 (ml_zf v)) 256 v
def ml_cy (k : Nat) (cf v : Int32) (t : Nat → Int32) : Nat → Int32 := if k = 7 then upd (upd t 261 (ml_zf v)) 262 cf else upd (upd (upd t 261 (ml_zf v)) 262 cf) 256 v
def ml_ck (k : Nat) : Prop := k = 3 ∨ k = 4 ∨ k = 5 ∨ k = 6 ∨ k = 7 ∨ k = 11
theorem mx_c119 {post : SX → Prop} {k : Nat} {x4 cf : Int32} (hk : k < 12) (h : post (sa, dg, st, da, rn, cn, ml_ce k cf (x4 &&& 255) s, sv, iv, c)) : wX_calculate_119 post (nI k) x4 cf 262 sa dg st da rn cn s sv iv c := by
  have i2 : vp_in (262 : Int32) 488 := vp_in_nI (n := 262) (by omega) (by omega)
  have c2 : (262 : Int32).toNatClampNeg = 262 := nI_clamp (n := 262) (by omega)
  have i1 : vp_in (261 : Int32) 488 := vp_in_nI (n := 261) (by omega) (by omega)
  have c1 : (261 : Int32).toNatClampNeg = 261 := nI_clamp (n := 261) (by omega)
  have g : ∀ z : Int32, z = ml_zf (x4 &&& 255) → wX_calculate_145 post (nI k) (x4 &&& 255) z 261 sa dg st da rn cn (upd s 262 cf) sv iv c := by
    intro z hz
    refine ⟨i1, nm_r (qa_up _ _ c1) ?_⟩
    rw [hz]
    unfold ml_ce at h
    by_cases q : k = 7
    · rw [if_pos q] at h
      exact br_t (by rw [q]; rfl) h
    · rw [if_neg q] at h
      exact br_f (qa_neN (b := 7) q (by omega) (by omega)) (nm_e h)
  refine ⟨i2, nm_r (qa_up _ _ c2) (nm_e ⟨fun q => g 1 ?_, fun q => g 0 ?_⟩)⟩
  · unfold ml_zf; rw [if_pos q]
  · unfold ml_zf; rw [if_neg q]
theorem mx_c94 {post : SX → Prop} {k : Nat} {x4 cf : Int32} (hk : k < 12) (hc : (cf = 1 ∧ (x4 < 0 ∨ (¬ x4 < 0 ∧ ¬ x4 ≤ 255))) ∨ (cf = 0 ∧ ¬ x4 < 0 ∧ x4 ≤ 255)) (h : post (sa, dg, st, da, rn, cn, ml_ce k cf (x4 &&& 255) s, sv, iv, c)) : wX_calculate_94 post (nI k) x4 sa dg st da rn cn s sv iv c := by
  rcases hc with ⟨rfl, q | ⟨q1, q2⟩⟩ | ⟨rfl, q1, q2⟩
  · exact br_t q (mx_c119 hk h)
  · exact br_f q1 (br_f q2 (mx_c119 hk h))
  · exact br_f q1 (br_t q2 (mx_c119 hk h))
/-- X's and Y's reckoning: one carry, one value -/
theorem pr_calc {k : Nat} {a x kf : Int32} (hk : ml_ck k) (ha : qa_B a) (hx : qa_B x) (hf : qa_b kf) (e1 : s 256 = a) (e2 : s 262 = kf) : ∃ cf v : Int32, qa_b cf ∧ qa_B v ∧ (∀ (s0 : Nat → Int32) (post : SX → Prop), s0 256 = a → s0 262 = kf → post (sa, dg, st, da, rn, cn, ml_ce k cf v s0, sv, iv, c) → wpX_calculate post (sa, dg, st, da, rn, cn, s0, sv, iv, c) (nI k) x) ∧
    (∀ (t0 : Nat → Int32) (x2 : Int32) (f : Nat → Int32) (post : SY → Prop), post (sb, ml_cy k cf v t0, tv, jv, f) → ((nI k < 3 → ∀ x5, x5 = (a + x) + kf → ∀ x6, x6 = x5 >>> ((8 : Int32) &&& 31) → wY_reckon_199 post (nI k) x2 x5 x6 sb t0 tv jv f) ∧ (¬ nI k < 3 → ((10 < nI k → ∀ x5, x5 = (a + x) + kf → ∀ x6, x6 = x5 >>> ((8 : Int32) &&& 31) → wY_reckon_199 post (nI k) x2 x5 x6 sb t0 tv jv f) ∧ (¬ 10 < nI k → ((nI k = 3 → ∀ x5, x5 = a + x → ∀ x6, x6 = x5 >>> ((8 : Int32) &&& 31) → wY_reckon_199 post (nI k) x2 x5 x6 sb t0 tv jv f) ∧ (¬ nI k = 3 → ((nI k = 4 → wY_reckon_92 post (nI k) x2 a x sb t0 tv jv f) ∧ (¬ nI k = 4 → ((nI k = 5 → ∀ x5, x5 = a &&& x → wY_reckon_199 post (nI k) x2 x5 0 sb t0 tv jv f) ∧ (¬ nI k = 5 → ((nI k = 6 → ∀ x5, x5 = a ^^^ x → wY_reckon_199 post (nI k) x2 x5 0 sb t0 tv jv f) ∧ (¬ nI k = 6 → (nI k = 7 → wY_reckon_92 post (nI k) x2 a x sb t0 tv jv f)))))))))))))) := by
  have Y199 : ∀ (t0 : Nat → Int32) (x2 x5 x6 v : Int32) (f : Nat → Int32) (post : SY → Prop), x5 &&& 255 = v → post (sb, ml_cy k x6 v t0, tv, jv, f) → wY_reckon_199 post (nI k) x2 x5 x6 sb t0 tv jv f := by
    intro t0 x2 x5 x6 v f post hv h
    have i1 : vp_in (261 : Int32) 512 := vp_in_nI (n := 261) (by omega) (by omega)
    have c1 : (261 : Int32).toNatClampNeg = 261 := nI_clamp (n := 261) (by omega)
    have g257 : ∀ tt : Nat → Int32, (k = 7 → post (sb, tt, tv, jv, f)) → (k ≠ 7 → post (sb, upd tt 256 v, tv, jv, f)) → wY_reckon_257 post (nI k) v sb tt tv jv f := by
      intro tt h7 h8
      by_cases q : k = 7
      · exact br_t (by rw [q]; rfl) (h7 q)
      · refine br_f (qa_neN (b := 7) q ?_ (by omega)) (nm_e (h8 q))
        rcases hk with h | h | h | h | h | h <;> omega
    have g224 : ∀ z : Int32, z = ml_zf v → wY_reckon_224 post (nI k) x2 v x6 z 261 sb t0 tv jv f := by
      intro z hz
      refine ⟨i1, nm_r (qa_up _ _ c1) (nm_e ?_)⟩
      rw [hz]
      unfold ml_cy at h
      have g := g257 (upd (upd t0 261 (ml_zf v)) 262 x6) (fun q => by rwa [if_pos q] at h) (fun q => by rwa [if_neg q] at h)
      rcases hk with rfl | rfl | rfl | rfl | rfl | rfl
      · exact br_t (by decide) g
      · exact br_t (by decide) g
      · exact br_t (by decide) g
      · exact br_t (by decide) g
      · exact br_t (by decide) g
      · exact br_f (by decide) (br_t (by decide) g)
    refine nm_r hv ⟨fun q => g224 1 ?_, fun q => g224 0 ?_⟩
    · unfold ml_zf; rw [if_pos q]
    · unfold ml_zf; rw [if_neg q]
  obtain ⟨m, hm, rfl⟩ := ha
  obtain ⟨n, hn, rfl⟩ := hx
  obtain ⟨q, hq, rfl⟩ : ∃ q : Nat, q < 2 ∧ kf = nI q := by
    rcases hf with h | h
    · exact ⟨0, by omega, h⟩
    · exact ⟨1, by omega, h⟩
  have S : ∀ w : Nat, w < 512 → ∃ cf : Int32, qa_b cf ∧ cf = nI w >>> ((8 : Int32) &&& 31) ∧ ((cf = 1 ∧ (nI w < 0 ∨ (¬ nI w < 0 ∧ ¬ nI w ≤ 255))) ∨ (cf = 0 ∧ ¬ nI w < 0 ∧ nI w ≤ 255)) := by
    intro w hw
    have p : ¬ nI w < 0 := nI_pos (by omega)
    by_cases d : 255 < w
    · have z : (255 : Int32) < nI w := nI_lt (a := 255) d (by omega)
      have z2 : ¬ nI w ≤ 255 := nI_ge (a := 255) d (by omega)
      exact ⟨1, Or.inr rfl, by rw [qa_c8 hw, if_pos z], Or.inl ⟨rfl, Or.inr ⟨p, z2⟩⟩⟩
    · have z : ¬ (255 : Int32) < nI w := nI_nlt (a := 255) (by omega) (by omega)
      have z2 : nI w ≤ 255 := nI_le (b := 255) (by omega) (by omega)
      exact ⟨0, Or.inl rfl, by rw [qa_c8 hw, if_neg z], Or.inr ⟨rfl, p, z2⟩⟩
  have D : ∃ cf : Int32, qa_b cf ∧ ((cf = 1 ∧ (nI m - nI n < 0 ∨ (¬ nI m - nI n < 0 ∧ ¬ nI m - nI n ≤ 255))) ∨ (cf = 0 ∧ ¬ nI m - nI n < 0 ∧ nI m - nI n ≤ 255)) ∧ ((nI n ≤ nI m ∧ cf = 0) ∨ (¬ nI n ≤ nI m ∧ cf = 1)) := by
    by_cases d : n ≤ m
    · have es : nI m - nI n = nI (m - n) := pk_sub d
      rw [es]
      exact ⟨0, Or.inl rfl, Or.inr ⟨rfl, nI_pos (by omega), nI_le (b := 255) (by omega) (by omega)⟩, Or.inl ⟨nI_le d (by omega), rfl⟩⟩
    · exact ⟨1, Or.inr rfl, Or.inl ⟨rfl, Or.inl (pk_sneg (by omega) (by omega))⟩, Or.inr ⟨nI_ge (by omega) (by omega), rfl⟩⟩
  have Y92 : ∀ (cf : Int32) (t0 : Nat → Int32) (x2 : Int32) (f : Nat → Int32) (post : SY → Prop), ((nI n ≤ nI m ∧ cf = 0) ∨ (¬ nI n ≤ nI m ∧ cf = 1)) → post (sb, ml_cy k cf ((nI m - nI n) &&& 255) t0, tv, jv, f) → wY_reckon_92 post (nI k) x2 (nI m) (nI n) sb t0 tv jv f := by
    intro cf t0 x2 f post hc h
    have ev : ((nI m - nI n) &&& 255) &&& 255 = (nI m - nI n) &&& 255 := by
      obtain ⟨w, hw, ew⟩ := qa_Bm (nI m - nI n)
      rw [ew]
      exact qa_and255 hw
    rcases hc with ⟨c1, rfl⟩ | ⟨c1, rfl⟩
    · exact nm_e (br_t c1 (Y199 t0 x2 _ 0 _ f post ev h))
    · exact nm_e (br_f c1 (Y199 t0 x2 _ 1 _ f post ev h))
  have Bits : ∀ w : Int32, qa_B w → w &&& 255 = w ∧ ((0 : Int32) = 1 ∧ (w < 0 ∨ (¬ w < 0 ∧ ¬ w ≤ 255)) ∨ ((0 : Int32) = 0 ∧ ¬ w < 0 ∧ w ≤ 255)) := by
    intro w hw
    obtain ⟨y, hy, rfl⟩ := hw
    exact ⟨qa_and255 hy, Or.inr ⟨rfl, nI_pos (by omega), nI_le (b := 255) (by omega) (by omega)⟩⟩
  rcases hk with rfl | rfl | rfl | rfl | rfl | rfl
  · obtain ⟨cf, c1, c2, c3⟩ := S (m + n) (by omega)
    rw [← nI_add] at c2 c3
    refine ⟨cf, (nI m + nI n) &&& 255, c1, qa_Bm _, ?_, ?_⟩
    · intro s0 post h1 h2 h
      exact nm_r h1 (br_f (by decide) (br_f (by decide) (br_t rfl (nm_e (mx_c94 (by omega) c3 h)))))
    · intro t0 x2 f post h
      exact br_f (by decide) (br_f (by decide) (br_t rfl (nm_e (nm_r c2.symm (Y199 t0 x2 _ _ _ f post rfl h)))))
  · obtain ⟨cf, c1, c2, c3⟩ := D
    refine ⟨cf, (nI m - nI n) &&& 255, c1, qa_Bm _, ?_, ?_⟩
    · intro s0 post h1 h2 h
      refine nm_r h1 (br_f (by decide) (br_f (by decide) (br_f (by decide) (br_t rfl (nm_e (mx_c94 (by omega) c2 h))))))
    · intro t0 x2 f post h
      exact br_f (by decide) (br_f (by decide) (br_f (by decide) (br_t rfl (Y92 cf t0 x2 f post c3 h))))
  · have b := Bits (nI m &&& nI n) (qa_Band ⟨m, hm, rfl⟩ _)
    refine ⟨0, (nI m &&& nI n) &&& 255, Or.inl rfl, qa_Bm _, ?_, ?_⟩
    · intro s0 post h1 h2 h
      exact nm_r h1 (br_f (by decide) (br_f (by decide) (br_f (by decide) (br_f (by decide) (br_t rfl (nm_e (mx_c94 (by omega) b.2 h)))))))
    · intro t0 x2 f post h
      exact br_f (by decide) (br_f (by decide) (br_f (by decide) (br_f (by decide) (br_t rfl (nm_e (Y199 t0 x2 _ _ _ f post rfl h))))))
  · have b := Bits (nI m ^^^ nI n) (qa_Bxor ⟨m, hm, rfl⟩ ⟨n, hn, rfl⟩)
    refine ⟨0, (nI m ^^^ nI n) &&& 255, Or.inl rfl, qa_Bm _, ?_, ?_⟩
    · intro s0 post h1 h2 h
      exact nm_r h1 (br_f (by decide) (br_f (by decide) (br_f (by decide) (br_f (by decide) (br_f (by decide) (br_t rfl (nm_e (mx_c94 (by omega) b.2 h))))))))
    · intro t0 x2 f post h
      exact br_f (by decide) (br_f (by decide) (br_f (by decide) (br_f (by decide) (br_f (by decide) (br_t rfl (nm_e (Y199 t0 x2 _ _ _ f post rfl h)))))))
  · obtain ⟨cf, c1, c2, c3⟩ := D
    refine ⟨cf, (nI m - nI n) &&& 255, c1, qa_Bm _, ?_, ?_⟩
    · intro s0 post h1 h2 h
      refine nm_r h1 (br_f (by decide) (br_f (by decide) (br_f (by decide) (br_f (by decide) (br_f (by decide) (br_f (by decide) (br_t rfl (nm_e (mx_c94 (by omega) c2 h)))))))))
    · intro t0 x2 f post h
      exact br_f (by decide) (br_f (by decide) (br_f (by decide) (br_f (by decide) (br_f (by decide) (br_f (by decide) (fun _ => Y92 cf t0 x2 f post c3 h))))))
  · obtain ⟨cf, c1, c2, c3⟩ := S (m + n + q) (by omega)
    rw [← nI_add, ← nI_add] at c2 c3
    refine ⟨cf, ((nI m + nI n) + nI q) &&& 255, c1, qa_Bm _, ?_, ?_⟩
    · intro s0 post h1 h2 h
      refine nm_r h1 (br_f (by decide) (br_t (by decide) (nm_r (e' := (nI m + nI n) + nI q) (by rw [h2]) (mx_c94 (by omega) c3 h))))
    · intro t0 x2 f post h
      exact br_f (by decide) (br_t (by decide) (nm_e (nm_r c2.symm (Y199 t0 x2 _ _ _ f post rfl h))))
end
