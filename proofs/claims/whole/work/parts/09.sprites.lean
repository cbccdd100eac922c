/-! sprites that are looked at and fetched, strips: both sides -/
section
variable {sa dg st da rn cn : Int32} {s sv iv c : Nat → Int32} {sb : Int32} {t tv jv e : Nat → Int32}
theorem qa_up {k : Int32} {n : Nat} (f : Nat → Int32) (v : Int32) (h : k.toNatClampNeg = n) : upd f k.toNatClampNeg v = upd f n v := by rw [h]
theorem qa_ic (b n : Nat) (h : b + n < 1000) : (nI b + nI n).toNatClampNeg = b + n := by
  rw [nI_add]
  exact nI_clamp (by omega)
theorem qa_ii (b n N : Nat) (h : b + n < N) (hN : N < 1000) : vp_in (nI b + nI n) N := by
  rw [nI_add]
  exact vp_in_nI h (by omega)
theorem qa_i4 (b n : Nat) : nI b + nI 4 * nI n = nI (b + 4 * n) := by rw [pk_mul, nI_add]
theorem pr_sprite {ly tk f0 f1 n : Nat} (C : hr_ce s t) (hl : ly ≤ 11) (hn : n < 4) (ht : tk ≤ 2) (e1 : s 251 = nI ly) (e2 : s 282 = nI tk) (e3 : t 278 = nI tk) (S : hr_ss s t ly tk f0 f1) (hf0 : f0 ≤ 1) (hf1 : f1 ≤ 1) (hc : t 274 = cn) (hb : qa_b cn) :
    ∃ (s' t' : Nat → Int32) (tk' f0' f1' : Nat), hr_ss s' t' ly tk' f0' f1' ∧ tk' ≤ 2 ∧ f0' ≤ 1 ∧ f1' ≤ 1 ∧ s' 282 = nI tk' ∧ t' 278 = nI tk' ∧ qa_ag (fun i => i < 282 ∨ 291 ≤ i) s s' ∧ qa_ag (fun i => i < 278 ∨ 287 ≤ i) t t' ∧ (∀ post : SX → Prop, post (sa, dg, st, da, rn, cn, s', sv, iv, c) → wpX_lookAtSprite post (sa, dg, st, da, rn, cn, s, sv, iv, c) (nI n)) ∧ (∀ post : SY → Prop, post (sb, t', tv, jv, e) → wpY_look post (sb, t, tv, jv, e) (nI n)) := by
  have e1' : t 251 = nI ly := (C 251 (by omega)).1.trans e1
  obtain ⟨cy, y, hy, ey⟩ := C (192 + 4 * n) (by omega)
  obtain ⟨cx, x, hx, ex⟩ := C (193 + 4 * n) (by omega)
  have i4 : (192 : Int32) + 4 * nI n = nI (192 + 4 * n) := qa_i4 192 n
  have j4 : (193 : Int32) + 4 * nI n = nI (193 + 4 * n) := qa_i4 193 n
  have ic : (nI (192 + 4 * n)).toNatClampNeg = 192 + 4 * n := nI_clamp (by omega)
  by_cases q : y ≤ ly ∧ ly - y ≤ 3 ∧ tk < 2 ∧ cn = 0
  · obtain ⟨q1, q2, q3, q4⟩ := q
    have er : s 251 - s (nI (192 + 4 * n)).toNatClampNeg = nI (ly - y) := by
      rw [ic, e1, ey]
      exact pk_sub q1
    have er' : t 251 - t (192 + 4 * nI n).toNatClampNeg = nI (ly - y) := by
      rw [i4, ic, e1', cy, ey]
      exact pk_sub q1
    have tt : tk = 0 ∨ tk = 1 := by omega
    rcases tt with rfl | rfl
    · have r1 : (nI (192 + 4 * n) + 1).toNatClampNeg = 193 + 4 * n := by
        rw [nI_1, nI_clamp (by omega)]
        omega
      have r2 : ((193 : Int32) + 4 * nI n).toNatClampNeg = 193 + 4 * n := by
        rw [j4]
        exact nI_clamp (by omega)
      refine ⟨upd (upd (upd (upd (upd s 283 (nI n)) 285 (nI (ly - y))) 287 ((upd (upd s 283 (nI n)) 285 (nI (ly - y))) (nI (192 + 4 * n) + 1).toNatClampNeg)) 289 0) 282 ((upd (upd (upd (upd s 283 (nI n)) 285 (nI (ly - y))) 287 ((upd (upd s 283 (nI n)) 285 (nI (ly - y))) (nI (192 + 4 * n) + 1).toNatClampNeg)) 289 0) 282 + 1), upd (upd (upd (upd (upd t 279 (nI n)) 281 ((upd t 279 (nI n)) (193 + 4 * nI n).toNatClampNeg)) 283 (t (192 + 4 * nI n).toNatClampNeg)) 285 0) 278 ((upd (upd (upd (upd t 279 (nI n)) 281 ((upd t 279 (nI n)) (193 + 4 * nI n).toNatClampNeg)) 283 (t (192 + 4 * nI n).toNatClampNeg)) 285 0) 278 + 1), 1, 0, f1, ?_, by omega, by omega, by omega, ?_, ?_, ?_, ?_, ?_, ?_⟩
      · refine hr_tk0 S hn q2 (by omega) hx rfl rfl rfl ?_ ?_ ?_
        · rw [i4, ic, cy, ey, show ly - (ly - y) = y by omega]
        · rw [r1, pk_un (by omega), pk_un (by omega)]
          exact ex
        · rw [r2, pk_un (by omega), cx]
          exact ex
      · show s 282 + 1 = nI 1
        rw [e2]; decide
      · show t 278 + 1 = nI 1
        rw [e3]; decide
      · exact qa_agU (qa_agU (qa_agU (qa_agU (qa_agU qa_ag0 (by omega)) (by omega)) (by omega)) (by omega)) (by omega)
      · exact qa_agU (qa_agU (qa_agU (qa_agU (qa_agU qa_ag0 (by omega)) (by omega)) (by omega)) (by omega)) (by omega)
      · intro post h
        refine nm_r i4 ⟨vp_in_nI (by omega) (by omega), nm_r er (nm_r e2 (br_f (nI_pos (by omega)) (br_f (nI_nlt (a := 3) q2 (by omega)) (br_f (nI_ge (b := 2) (by omega) (by omega)) (br_t q4 ⟨qa_ii 283 0 488 (by omega) (by omega), nm_r (qa_up _ _ (qa_ic 283 0 (by omega))) ⟨qa_ii 285 0 488 (by omega) (by omega), nm_r (qa_up _ _ (qa_ic 285 0 (by omega))) ⟨?_, qa_ii 287 0 488 (by omega) (by omega), nm_r (qa_up _ _ (qa_ic 287 0 (by omega))) ⟨qa_ii 289 0 488 (by omega) (by omega), nm_r (qa_up _ _ (qa_ic 289 0 (by omega))) (nm_e h)⟩⟩⟩⟩)))))⟩
        rw [nI_1]
        exact vp_in_nI (by omega) (by omega)
      · intro post h
        refine ⟨by rw [i4]; exact vp_in_nI (by omega) (by omega), nm_e (nm_r er' (br_f (nI_pos (by omega)) (br_f (nI_nlt (a := 3) q2 (by omega)) (br_f (by rw [e3]; decide) (br_f (by rw [hc, q4]; decide) (nm_r e3 ⟨qa_ii 279 0 512 (by omega) (by omega), nm_r (qa_up _ _ (qa_ic 279 0 (by omega))) ⟨?_, qa_ii 281 0 512 (by omega) (by omega), nm_r (qa_up _ _ (qa_ic 281 0 (by omega))) ⟨qa_ii 283 0 512 (by omega) (by omega), nm_r (qa_up _ _ (qa_ic 283 0 (by omega))) ⟨qa_ii 285 0 512 (by omega) (by omega), nm_r (qa_up _ _ (qa_ic 285 0 (by omega))) (nm_e h)⟩⟩⟩⟩))))))⟩
        rw [j4]
        exact vp_in_nI (by omega) (by omega)
    · have r1 : (nI (192 + 4 * n) + 1).toNatClampNeg = 193 + 4 * n := by
        rw [nI_1, nI_clamp (by omega)]
        omega
      have r2 : ((193 : Int32) + 4 * nI n).toNatClampNeg = 193 + 4 * n := by
        rw [j4]
        exact nI_clamp (by omega)
      refine ⟨upd (upd (upd (upd (upd s 284 (nI n)) 286 (nI (ly - y))) 288 ((upd (upd s 284 (nI n)) 286 (nI (ly - y))) (nI (192 + 4 * n) + 1).toNatClampNeg)) 290 0) 282 ((upd (upd (upd (upd s 284 (nI n)) 286 (nI (ly - y))) 288 ((upd (upd s 284 (nI n)) 286 (nI (ly - y))) (nI (192 + 4 * n) + 1).toNatClampNeg)) 290 0) 282 + 1), upd (upd (upd (upd (upd t 280 (nI n)) 282 ((upd t 280 (nI n)) (193 + 4 * nI n).toNatClampNeg)) 284 (t (192 + 4 * nI n).toNatClampNeg)) 286 0) 278 ((upd (upd (upd (upd t 280 (nI n)) 282 ((upd t 280 (nI n)) (193 + 4 * nI n).toNatClampNeg)) 284 (t (192 + 4 * nI n).toNatClampNeg)) 286 0) 278 + 1), 2, f0, 0, ?_, by omega, by omega, by omega, ?_, ?_, ?_, ?_, ?_, ?_⟩
      · refine hr_tk1 S hn q2 (by omega) hx rfl rfl rfl ?_ ?_ ?_
        · rw [i4, ic, cy, ey, show ly - (ly - y) = y by omega]
        · rw [r1, pk_un (by omega), pk_un (by omega)]
          exact ex
        · rw [r2, pk_un (by omega), cx]
          exact ex
      · show s 282 + 1 = nI 2
        rw [e2]; decide
      · show t 278 + 1 = nI 2
        rw [e3]; decide
      · exact qa_agU (qa_agU (qa_agU (qa_agU (qa_agU qa_ag0 (by omega)) (by omega)) (by omega)) (by omega)) (by omega)
      · exact qa_agU (qa_agU (qa_agU (qa_agU (qa_agU qa_ag0 (by omega)) (by omega)) (by omega)) (by omega)) (by omega)
      · intro post h
        refine nm_r i4 ⟨vp_in_nI (by omega) (by omega), nm_r er (nm_r e2 (br_f (nI_pos (by omega)) (br_f (nI_nlt (a := 3) q2 (by omega)) (br_f (nI_ge (b := 2) (by omega) (by omega)) (br_t q4 ⟨qa_ii 283 1 488 (by omega) (by omega), nm_r (qa_up _ _ (qa_ic 283 1 (by omega))) ⟨qa_ii 285 1 488 (by omega) (by omega), nm_r (qa_up _ _ (qa_ic 285 1 (by omega))) ⟨?_, qa_ii 287 1 488 (by omega) (by omega), nm_r (qa_up _ _ (qa_ic 287 1 (by omega))) ⟨qa_ii 289 1 488 (by omega) (by omega), nm_r (qa_up _ _ (qa_ic 289 1 (by omega))) (nm_e h)⟩⟩⟩⟩)))))⟩
        rw [nI_1]
        exact vp_in_nI (by omega) (by omega)
      · intro post h
        refine ⟨by rw [i4]; exact vp_in_nI (by omega) (by omega), nm_e (nm_r er' (br_f (nI_pos (by omega)) (br_f (nI_nlt (a := 3) q2 (by omega)) (br_f (by rw [e3]; decide) (br_f (by rw [hc, q4]; decide) (nm_r e3 ⟨qa_ii 279 1 512 (by omega) (by omega), nm_r (qa_up _ _ (qa_ic 279 1 (by omega))) ⟨?_, qa_ii 281 1 512 (by omega) (by omega), nm_r (qa_up _ _ (qa_ic 281 1 (by omega))) ⟨qa_ii 283 1 512 (by omega) (by omega), nm_r (qa_up _ _ (qa_ic 283 1 (by omega))) ⟨qa_ii 285 1 512 (by omega) (by omega), nm_r (qa_up _ _ (qa_ic 285 1 (by omega))) (nm_e h)⟩⟩⟩⟩))))))⟩
        rw [j4]
        exact vp_in_nI (by omega) (by omega)
  · refine ⟨s, t, tk, f0, f1, S, ht, hf0, hf1, e2, e3, qa_ag0, qa_ag0, ?_, ?_⟩
    · intro post h
      refine nm_r i4 ⟨vp_in_nI (by omega) (by omega), nm_e (nm_e ?_)⟩
      rw [ic, e1, ey, e2]
      by_cases k1 : y ≤ ly
      · rw [pk_sub k1]
        refine br_f (nI_pos (by omega)) ?_
        by_cases k2 : ly - y ≤ 3
        · refine br_f (nI_nlt (a := 3) k2 (by omega)) ?_
          by_cases k3 : tk < 2
          · exact br_f (nI_ge (b := 2) k3 (by omega)) (br_f (fun z => q ⟨k1, k2, k3, z⟩) h)
          · exact br_t (nI_le (a := 2) (by omega) (by omega)) h
        · exact br_t (nI_lt (a := 3) (by omega) (by omega)) h
      · exact br_t (pk_sneg (by omega) (by omega)) h
    · intro post h
      refine ⟨by rw [i4]; exact vp_in_nI (by omega) (by omega), nm_e (nm_e ?_)⟩
      rw [i4, ic, e1', cy, ey, e3, hc]
      by_cases k1 : y ≤ ly
      · rw [pk_sub k1]
        refine br_f (nI_pos (by omega)) ?_
        by_cases k2 : ly - y ≤ 3
        · refine br_f (nI_nlt (a := 3) k2 (by omega)) ?_
          by_cases k3 : tk < 2
          · exact br_f (qa_neN (b := 2) (by omega) (by omega) (by omega)) (br_t (hb.resolve_left (fun z => q ⟨k1, k2, k3, z⟩)) h)
          · exact br_t (by rw [show tk = 2 by omega]; rfl) h
        · exact br_t (nI_lt (a := 3) (by omega) (by omega)) h
      · exact br_t (pk_sneg (by omega) (by omega)) h
end
