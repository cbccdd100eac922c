/-! a line begins, the picture is shown: both sides -/
section
variable {sa dg st da rn cn : Int32} {s sv iv c : Nat → Int32} {sb : Int32} {t tv jv e : Nat → Int32}
theorem mx_show {post : SX → Prop} (h : post (sa, dg, st, da, rn, cn, upd (qa_fill s 392 96 (fun i => s (295 + i))) 245 (qa_fill s 392 96 (fun i => s (295 + i)) 245 ||| 1), sv, iv, upd c 4 (c 4 + 1))) :
    ∀ d k, k + d = 96 → wX_showPicture_2 post sa dg st da rn cn (d + 1) (nI k) (qa_fill s 392 k (fun i => s (295 + i))) sv iv c := by
  intro d
  induction d with
  | zero =>
    intro k hk
    have z : k = 96 := by omega
    subst z
    exact br_t (nI_le (a := 96) (by omega) (by omega)) (nm_e (nm_e h))
  | succ d ih =>
    intro k hk
    refine br_f (nI_ge (b := 96) (by omega) (by omega)) ⟨qa_ii 295 k 488 (by omega) (by omega), qa_ii 392 k 488 (by omega) (by omega), nm_r (e' := qa_fill s 392 (k + 1) (fun i => s (295 + i))) ?_ (nm_r (nI_1 k) (ih (k + 1) (by omega)))⟩
    show upd (qa_fill s 392 k (fun i => s (295 + i))) (nI 392 + nI k).toNatClampNeg (qa_fill s 392 k (fun i => s (295 + i)) (nI 295 + nI k).toNatClampNeg) = _
    rw [qa_ic 392 k (by omega), qa_ic 295 k (by omega), qa_fillO (by omega)]
    exact qa_fillS _ _ _ _
theorem my_show {post : SY → Prop} (h : post (sb, upd (qa_fill t 416 96 (fun i => t (320 + i))) 245 (qa_fill t 416 96 (fun i => t (320 + i)) 245 ||| 1), tv, jv, upd e 4 (e 4 + 1))) :
    ∀ d k, k + d = 96 → wY_beginLine_63 post sb (d + 1) (nI k) (qa_fill t 416 k (fun i => t (320 + i))) tv jv e := by
  intro d
  induction d with
  | zero =>
    intro k hk
    have z : k = 96 := by omega
    subst z
    exact br_t (nI_le (a := 96) (by omega) (by omega)) (nm_e (nm_e h))
  | succ d ih =>
    intro k hk
    refine br_f (nI_ge (b := 96) (by omega) (by omega)) ⟨qa_ii 320 k 512 (by omega) (by omega), qa_ii 416 k 512 (by omega) (by omega), nm_r (e' := qa_fill t 416 (k + 1) (fun i => t (320 + i))) ?_ (nm_r (nI_1 k) (ih (k + 1) (by omega)))⟩
    show upd (qa_fill t 416 k (fun i => t (320 + i))) (nI 416 + nI k).toNatClampNeg (qa_fill t 416 k (fun i => t (320 + i)) (nI 320 + nI k).toNatClampNeg) = _
    rw [qa_ic 416 k (by omega), qa_ic 320 k (by omega), qa_fillO (by omega)]
    exact qa_fillS _ _ _ _
def hr_HX (i : Nat) : Prop := i ≠ 245 ∧ i ≠ 273 ∧ i ≠ 280 ∧ i ≠ 281 ∧ i ≠ 282 ∧ i < 392
def hr_HY (i : Nat) : Prop := i ≠ 245 ∧ i ≠ 278 ∧ i ≠ 304 ∧ i ≠ 305 ∧ i ≠ 309 ∧ i < 416
/-- the end of a line's begin: the picture is shown where it is due -/
theorem pr_b64 {ly : Nat} (C : hr_ce s t) (W : hr_sh s t) (N : hr_cn c e) (hl : ly ≤ 11) (e1 : s 251 = nI ly) (P : ly = 8 → hr_pic s t 96) :
    ∃ s' t' c' e' : Nat → Int32, hr_ce s' t' ∧ hr_sh s' t' ∧ hr_cn c' e' ∧ qa_ag hr_C4 c c' ∧ qa_ag hr_C4 e e' ∧ qa_ag (fun i => i ≠ 245 ∧ i < 392) s s' ∧ qa_ag (fun i => i ≠ 245 ∧ i < 416) t t' ∧ (∀ post : SX → Prop, post (sa, dg, st, da, rn, cn, s', sv, iv, c') → wX_beginLine_64 post sa dg st da rn cn s sv iv c) ∧ (∀ post : SY → Prop, post (sb, t', tv, jv, e') → wY_beginLine_47 post sb t tv jv e) := by
  have e1' : t 251 = nI ly := (C 251 (by omega)).1.trans e1
  by_cases k : ly = 8
  · subst k
    have pic := P rfl
    refine ⟨upd (qa_fill s 392 96 (fun i => s (295 + i))) 245 (qa_fill s 392 96 (fun i => s (295 + i)) 245 ||| 1), upd (qa_fill t 416 96 (fun i => t (320 + i))) 245 (qa_fill t 416 96 (fun i => t (320 + i)) 245 ||| 1), upd c 4 (c 4 + 1), upd e 4 (e 4 + 1), ?_, ?_, ?_, qa_agU qa_ag0 (by unfold hr_C4; omega), qa_agU qa_ag0 (by unfold hr_C4; omega), ?_, ?_, ?_, ?_⟩
    · refine hr_ceB (hr_ceA C (fun i hi => qa_fillO (by omega)) (fun i hi => qa_fillO (by omega))) ?_ ?_
      · rw [qa_fillO (by omega)]
        exact qa_Bor (C 245 (by omega)).2 qa_B1
      · rw [qa_fillO (by omega), qa_fillO (by omega), (C 245 (by omega)).1]
    · intro p hp
      rw [pk_un (by omega), pk_un (by omega), qa_fillI hp, qa_fillI hp]
      exact pic p hp
    · refine ⟨?_, N.2.1, N.2.2⟩
      show c 4 + 1 = e 4 + 1
      rw [N.1]
    · exact qa_agU (fun i hi => qa_fillO (by omega)) (by omega)
    · exact qa_agU (fun i hi => qa_fillO (by omega)) (by omega)
    · intro post h
      refine br_t e1 ?_
      unfold wpX_showPicture
      have g := mx_show (post := fun u => match u with | (a1, a2, a3, a4, a5, a6, a7, a8, a9, a10) => post (a1, a2, a3, a4, a5, a6, a7, a8, a9, a10)) h 96 0 rfl
      rw [qa_fill0] at g
      exact ⟨97, g⟩
    · intro post h
      refine br_t e1' ?_
      have g := my_show h 96 0 rfl
      rw [qa_fill0] at g
      exact ⟨97, g⟩
  · refine ⟨s, t, c, e, C, W, N, qa_ag0, qa_ag0, qa_ag0, qa_ag0, ?_, ?_⟩
    · intro post h
      exact br_f (by rw [e1]; exact qa_neN (b := 8) k (by omega) (by omega)) h
    · intro post h
      exact br_f (by rw [e1']; exact qa_neN (b := 8) k (by omega) (by omega)) h
theorem pr_bline {ly wl : Nat} (C : hr_ce s t) (W : hr_sh s t) (N : hr_cn c e) (hl : ly ≤ 11) (e1 : s 251 = nI ly) (P : ly = 8 → hr_pic s t 96) (w1 : s 281 = nI wl) (w2 : t 305 = nI wl) :
    ∃ s' t' c' e' : Nat → Int32, hr_ce s' t' ∧ hr_sh s' t' ∧ hr_cn c' e' ∧ qa_ag hr_C4 c c' ∧ qa_ag hr_C4 e e' ∧ qa_ag hr_HX s s' ∧ qa_ag hr_HY t t' ∧ s' 273 = nI (if ly < 8 then 2 else 1) ∧ s' 282 = nI 0 ∧ t' 278 = nI 0 ∧ s' 280 = 0 ∧ t' 304 = 0 ∧ t' 309 = 0 ∧ s' 281 = nI (if ly = 0 then 0 else wl) ∧ t' 305 = nI (if ly = 0 then 0 else wl) ∧ (∀ post : SX → Prop, post (sa, dg, st, da, rn, cn, s', sv, iv, c') → wpX_beginLine post (sa, dg, st, da, rn, cn, s, sv, iv, c)) ∧ (∀ post : SY → Prop, post (sb, t', tv, jv, e') → wpY_beginLine post (sb, t, tv, jv, e)) := by
  have e1' : t 251 = nI ly := (C 251 (by omega)).1.trans e1
  obtain ⟨md, hmd, hX⟩ : ∃ md : Int32, md = nI (if ly < 8 then 2 else 1) ∧ ∀ post : SX → Prop, wX_beginLine_25 post md 273 sa dg st da rn cn s sv iv c → wpX_beginLine post (sa, dg, st, da, rn, cn, s, sv, iv, c) := by
    by_cases k : ly < 8
    · rw [if_pos k]
      exact ⟨2, rfl, fun post h => br_f (by rw [e1]; exact nI_ge (b := 8) k (by omega)) h⟩
    · rw [if_neg k]
      exact ⟨1, rfl, fun post h => br_t (by rw [e1]; exact nI_le (a := 8) (by omega) (by omega)) h⟩
  have i3 : vp_in (273 : Int32) 488 := vp_in_nI (n := 273) (by omega) (by omega)
  have c3 : (273 : Int32).toNatClampNeg = 273 := nI_clamp (n := 273) (by omega)
  by_cases k0 : ly = 0
  · obtain ⟨s', t', c', e', h1, h2, h3, h4, h5, h6, h7, h8, h9⟩ := pr_b64 (sa := sa) (dg := dg) (st := st) (da := da) (rn := rn) (cn := cn) (sv := sv) (iv := iv) (c := c) (sb := sb) (tv := tv) (jv := jv) (e := e) (s := upd (upd (upd (upd s 273 md) 282 0) 280 0) 281 0) (t := upd (upd (upd (upd t 278 0) 304 0) 309 0) 305 0) (ly := ly) (hr_ceA C (qa_agU (qa_agU (qa_agU (qa_agU qa_ag0 (by omega)) (by omega)) (by omega)) (by omega)) (qa_agU (qa_agU (qa_agU (qa_agU qa_ag0 (by omega)) (by omega)) (by omega)) (by omega))) (hr_shA W (qa_agU (qa_agU (qa_agU (qa_agU qa_ag0 (by omega)) (by omega)) (by omega)) (by omega)) (qa_agU (qa_agU (qa_agU (qa_agU qa_ag0 (by omega)) (by omega)) (by omega)) (by omega))) N hl e1 (fun z => absurd z (by omega))
    refine ⟨s', t', c', e', h1, h2, h3, h4, h5, qa_agT (qa_agU (qa_agU (qa_agU (qa_agU qa_ag0 (by unfold hr_HX; omega)) (by unfold hr_HX; omega)) (by unfold hr_HX; omega)) (by unfold hr_HX; omega)) (qa_agW h6 (by unfold hr_HX; omega)), qa_agT (qa_agU (qa_agU (qa_agU (qa_agU qa_ag0 (by unfold hr_HY; omega)) (by unfold hr_HY; omega)) (by unfold hr_HY; omega)) (by unfold hr_HY; omega)) (qa_agW h7 (by unfold hr_HY; omega)), ?_, ?_, ?_, ?_, ?_, ?_, ?_, ?_, ?_, ?_⟩
    · rw [h6 273 (by omega)]; exact hmd
    · rw [h6 282 (by omega)]; rfl
    · rw [h7 278 (by omega)]; rfl
    · rw [h6 280 (by omega)]; rfl
    · rw [h7 304 (by omega)]; rfl
    · rw [h7 309 (by omega)]; rfl
    · rw [h6 281 (by omega), if_pos k0]; rfl
    · rw [h7 305 (by omega), if_pos k0]; rfl
    · intro post h
      refine hX post ⟨i3, nm_r (qa_up _ _ c3) (nm_e (nm_e (br_t ?_ (nm_e (h8 post h)))))⟩
      show s 251 = 0
      rw [e1, k0]; rfl
    · intro post h
      refine nm_e (nm_e (nm_e (br_t ?_ (nm_e (h9 post h)))))
      show t 251 = 0
      rw [e1', k0]; rfl
  · obtain ⟨s', t', c', e', h1, h2, h3, h4, h5, h6, h7, h8, h9⟩ := pr_b64 (sa := sa) (dg := dg) (st := st) (da := da) (rn := rn) (cn := cn) (sv := sv) (iv := iv) (c := c) (sb := sb) (tv := tv) (jv := jv) (e := e) (s := upd (upd (upd s 273 md) 282 0) 280 0) (t := upd (upd (upd t 278 0) 304 0) 309 0) (ly := ly) (hr_ceA C (qa_agU (qa_agU (qa_agU qa_ag0 (by omega)) (by omega)) (by omega)) (qa_agU (qa_agU (qa_agU qa_ag0 (by omega)) (by omega)) (by omega))) (hr_shA W (qa_agU (qa_agU (qa_agU qa_ag0 (by omega)) (by omega)) (by omega)) (qa_agU (qa_agU (qa_agU qa_ag0 (by omega)) (by omega)) (by omega))) N hl e1 (fun z => hr_picA (P z) (by omega) (qa_agU (qa_agU (qa_agU qa_ag0 (by unfold hr_QX; omega)) (by unfold hr_QX; omega)) (by unfold hr_QX; omega)) (qa_agU (qa_agU (qa_agU qa_ag0 (by unfold hr_QY; omega)) (by unfold hr_QY; omega)) (by unfold hr_QY; omega)))
    refine ⟨s', t', c', e', h1, h2, h3, h4, h5, qa_agT (qa_agU (qa_agU (qa_agU qa_ag0 (by unfold hr_HX; omega)) (by unfold hr_HX; omega)) (by unfold hr_HX; omega)) (qa_agW h6 (by unfold hr_HX; omega)), qa_agT (qa_agU (qa_agU (qa_agU qa_ag0 (by unfold hr_HY; omega)) (by unfold hr_HY; omega)) (by unfold hr_HY; omega)) (qa_agW h7 (by unfold hr_HY; omega)), ?_, ?_, ?_, ?_, ?_, ?_, ?_, ?_, ?_, ?_⟩
    · rw [h6 273 (by omega)]; exact hmd
    · rw [h6 282 (by omega)]; rfl
    · rw [h7 278 (by omega)]; rfl
    · rw [h6 280 (by omega)]; rfl
    · rw [h7 304 (by omega)]; rfl
    · rw [h7 309 (by omega)]; rfl
    · rw [h6 281 (by omega), if_neg k0]; exact w1
    · rw [h7 305 (by omega), if_neg k0]; exact w2
    · intro post h
      refine hX post ⟨i3, nm_r (qa_up _ _ c3) (nm_e (nm_e (br_f ?_ (h8 post h))))⟩
      show ¬ s 251 = 0
      rw [e1]; exact nI_ne0 (by omega) (by omega)
    · intro post h
      refine nm_e (nm_e (nm_e (br_f ?_ (h9 post h))))
      show ¬ t 251 = 0
      rw [e1']; exact nI_ne0 (by omega) (by omega)
end
