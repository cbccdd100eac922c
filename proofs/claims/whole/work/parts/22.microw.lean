/-! writes of the processor in a cycle: both sides -/
section
variable {sa dg st da rn cn : Int32} {s sv iv c : Nat → Int32} {sb : Int32} {t tv jv e : Nat → Int32}
theorem qa_agI {s : Nat → Int32} : qa_ag (fun i => i < 256 ∨ 266 ≤ i) s (id s) := fun _ _ => rfl
/-- a register is pushed -/
theorem mp_pusha {l z st' : Int32} (hd : dg = 6) (h1 : st &&& 15 = 5) (h2 : st >>> ((4 : Int32) &&& 31) = st') (H : hr_Hw s t) (M : hr_cm l z s t) (N : hr_cn c e) : ∃ (s4 t4 c4 e4 : Nat → Int32) (rn' cn' : Int32), hr_Hw s4 t4 ∧ hr_cm l z s4 t4 ∧ hr_ct c e c4 e4 1 ∧ st_X (sa, dg, st, da, rn, cn, s, sv, iv, c) (sa, dg, st', da, rn', cn', s4, sv, iv, c4) ∧ (∀ post : SY → Prop, post (sb, t4, tv, jv, e4) → wpY_push post (sb, t, tv, jv, e) (t 256)) := by
  have M0 := M
  obtain ⟨m1, m2, m3, m4, m5, m6, m7, m8, B1, B2, B3, B4, B5, b1, b2, b3, g1, g2, g3, g4, g5⟩ := M
  obtain ⟨n, hn, en⟩ := qa_Bm (s 259 - 1)
  have hv : qa_B (s 256) := B1
  obtain ⟨s3, s4, t4, c4, e4, rn', cn', H4, x3, x4, y4, ct, hX, wX, wY⟩ := pr_wrc (sa := sa) (dg := dg) (st := st) (da := da) (rn := rn) (cn := cn) (sv := sv) (iv := iv) (c := c) (sb := sb) (tv := tv) (jv := jv) (e := e) (t := upd t 259 ((t 259 - 1) &&& 255)) (st2 := st') (n := n) (v := s 256) (fun a => upd a 259 ((a 259 - 1) &&& 255)) (fun a => qa_agU qa_ag0 (by omega)) (hr_HwY H (by omega)) N hn hv
  have q3 : s3 259 = s 259 := x3 259 (by unfold hr_FX; omega)
  have qv : s3 256 = s 256 := x3 256 (by unfold hr_FX; omega)
  refine ⟨s4, t4, c4, e4, rn', cn', H4, ?_, ct, ⟨_, hX, ?_⟩, ?_⟩
  · refine hr_cmA (hr_cmB (k := 259) (v := (s 259 - 1) &&& 255) (w := (t 259 - 1) &&& 255) M0 (by omega) (qa_Bm _) (by rw [m4])) ?_ y4
    refine qa_agT ?_ x4
    rw [← q3]
    exact qa_agB x3
  · intro Q h
    refine nm_r h1 (nm_r h2 (br_f (by decide) (br_f (by decide) (br_f (by decide) (br_f (by decide) (br_f (by decide) (br_f (by decide) (br_t rfl (nm_e (br_t hd ?_))))))))))
    unfold wX_processorTurn_216
    have ea : upd s3 259 ((s3 259 - 1) &&& 255) 259 = nI n := by rw [pk_us, q3, en]
    have ev : upd s3 259 ((s3 259 - 1) &&& 255) 256 = s 256 := qv
    rw [ea, ev]
    exact wX _ h
  · intro post h
    refine nm_e ?_
    have ea : upd t 259 ((t 259 - 1) &&& 255) 259 = nI n := by rw [pk_us, m4, en]
    rw [ea, m1]
    exact wY _ h
/-- a register is pushed -/
theorem mp_pushp {l z st' : Int32} (hd : ¬ dg = 6) (h1 : st &&& 15 = 5) (h2 : st >>> ((4 : Int32) &&& 31) = st') (H : hr_Hw s t) (M : hr_cm l z s t) (N : hr_cn c e) : ∃ (s4 t4 c4 e4 : Nat → Int32) (rn' cn' : Int32), hr_Hw s4 t4 ∧ hr_cm l z s4 t4 ∧ hr_ct c e c4 e4 1 ∧ st_X (sa, dg, st, da, rn, cn, s, sv, iv, c) (sa, dg, st', da, rn', cn', s4, sv, iv, c4) ∧ (∀ post : SY → Prop, post (sb, t4, tv, jv, e4) → wpY_push post (sb, t, tv, jv, e) (t 260)) := by
  have M0 := M
  obtain ⟨m1, m2, m3, m4, m5, m6, m7, m8, B1, B2, B3, B4, B5, b1, b2, b3, g1, g2, g3, g4, g5⟩ := M
  obtain ⟨n, hn, en⟩ := qa_Bm (s 259 - 1)
  have hv : qa_B (s 260) := B5
  obtain ⟨s3, s4, t4, c4, e4, rn', cn', H4, x3, x4, y4, ct, hX, wX, wY⟩ := pr_wrc (sa := sa) (dg := dg) (st := st) (da := da) (rn := rn) (cn := cn) (sv := sv) (iv := iv) (c := c) (sb := sb) (tv := tv) (jv := jv) (e := e) (t := upd t 259 ((t 259 - 1) &&& 255)) (st2 := st') (n := n) (v := s 260) (fun a => upd a 259 ((a 259 - 1) &&& 255)) (fun a => qa_agU qa_ag0 (by omega)) (hr_HwY H (by omega)) N hn hv
  have q3 : s3 259 = s 259 := x3 259 (by unfold hr_FX; omega)
  have qv : s3 260 = s 260 := x3 260 (by unfold hr_FX; omega)
  refine ⟨s4, t4, c4, e4, rn', cn', H4, ?_, ct, ⟨_, hX, ?_⟩, ?_⟩
  · refine hr_cmA (hr_cmB (k := 259) (v := (s 259 - 1) &&& 255) (w := (t 259 - 1) &&& 255) M0 (by omega) (qa_Bm _) (by rw [m4])) ?_ y4
    refine qa_agT ?_ x4
    rw [← q3]
    exact qa_agB x3
  · intro Q h
    refine nm_r h1 (nm_r h2 (br_f (by decide) (br_f (by decide) (br_f (by decide) (br_f (by decide) (br_f (by decide) (br_f (by decide) (br_t rfl (nm_e (br_f hd ?_))))))))))
    unfold wX_processorTurn_216
    have ea : upd s3 259 ((s3 259 - 1) &&& 255) 259 = nI n := by rw [pk_us, q3, en]
    have ev : upd s3 259 ((s3 259 - 1) &&& 255) 260 = s 260 := qv
    rw [ea, ev]
    exact wX _ h
  · intro post h
    refine nm_e ?_
    have ea : upd t 259 ((t 259 - 1) &&& 255) 259 = nI n := by rw [pk_us, m4, en]
    rw [ea, m5]
    exact wY _ h
/-- A is written at the byte that was read -/
theorem mp_wrn {l z st' : Int32} (hd : qa_B da) (h1 : st &&& 15 = 9) (h2 : st >>> ((4 : Int32) &&& 31) = st') (H : hr_Hw s t) (M : hr_cm l z s t) (N : hr_cn c e) : ∃ (s4 t4 c4 e4 : Nat → Int32) (rn' cn' : Int32), hr_Hw s4 t4 ∧ hr_cm l z s4 t4 ∧ hr_ct c e c4 e4 1 ∧ st_X (sa, dg, st, da, rn, cn, s, sv, iv, c) (sa, dg, st', da, rn', cn', s4, sv, iv, c4) ∧ (∀ post : SY → Prop, post (sb, t4, tv, jv, e4) → wpY_write post (sb, t, tv, jv, e) da (t 256)) := by
  obtain ⟨n, hn, rfl⟩ := hd
  have M0 := M
  obtain ⟨m1, m2, m3, m4, m5, m6, m7, m8, B1, B2, B3, B4, B5, b1, b2, b3, g1, g2, g3, g4, g5⟩ := M
  obtain ⟨s3, s4, t4, c4, e4, rn', cn', H4, x3, x4, y4, ct, hX, wX, wY⟩ := pr_wrc (sa := sa) (dg := dg) (st := st) (da := nI n) (rn := rn) (cn := cn) (sv := sv) (iv := iv) (c := c) (sb := sb) (tv := tv) (jv := jv) (e := e) (st2 := st') (n := n) (v := s 256) id (fun a => qa_agI) H N hn B1
  have qv : s3 256 = s 256 := x3 256 (by unfold hr_FX; omega)
  refine ⟨s4, t4, c4, e4, rn', cn', H4, hr_cmA M0 (qa_agT x3 x4) y4, ct, ⟨_, hX, ?_⟩, ?_⟩
  · intro Q h
    refine nm_r h1 (nm_r h2 (br_f (by decide) (br_f (by decide) (br_f (by decide) (br_f (by decide) (br_f (by decide) (br_f (by decide) (br_f (by decide) (br_f (by decide) (br_f (by decide) (br_f (by decide) (br_t rfl ?_))))))))))))
    rw [qv]
    exact wX _ h
  · intro post h
    rw [m1]
    exact wY _ h
/-- the cell at P is written -/
theorem mp_wrp0 {l z st' : Int32} (hv : qa_B da) (hd : (dg - 16) / 4 = 0) (h1 : st &&& 15 = 7) (h2 : st >>> ((4 : Int32) &&& 31) = st') (H : hr_Hw s t) (M : hr_cm l z s t) (N : hr_cn c e) : ∃ (s4 t4 c4 e4 : Nat → Int32) (rn' cn' : Int32), hr_Hw s4 t4 ∧ hr_cm l z s4 t4 ∧ hr_ct c e c4 e4 1 ∧ st_X (sa, dg, st, da, rn, cn, s, sv, iv, c) (sa, dg, st', da, rn', cn', s4, sv, iv, c4) ∧ (∀ post : SY → Prop, post (sb, t4, tv, jv, e4) → wpY_write post (sb, t, tv, jv, e) (t 258) da) := by
  have M0 := M
  obtain ⟨m1, m2, m3, m4, m5, m6, m7, m8, B1, B2, ⟨n, hn, en⟩, B4, B5, b1, b2, b3, g1, g2, g3, g4, g5⟩ := M
  obtain ⟨s3, s4, t4, c4, e4, rn', cn', H4, x3, x4, y4, ct, hX, wX, wY⟩ := pr_wrc (sa := sa) (dg := dg) (st := st) (da := da) (rn := rn) (cn := cn) (sv := sv) (iv := iv) (c := c) (sb := sb) (tv := tv) (jv := jv) (e := e) (st2 := st') (n := n) (v := da) id (fun a => qa_agI) H N hn hv
  have q3 : s3 258 = nI n := (x3 258 (by unfold hr_FX; omega)).trans en
  have qv : s3 256 = s 256 := x3 256 (by unfold hr_FX; omega)
  refine ⟨s4, t4, c4, e4, rn', cn', H4, hr_cmA M0 (qa_agT x3 x4) y4, ct, ⟨_, hX, ?_⟩, ?_⟩
  · intro Q h
    refine nm_r h1 (nm_r h2 (br_f (by decide) (br_f (by decide) (br_f (by decide) (br_f (by decide) (br_f (by decide) (br_f (by decide) (br_f (by decide) (br_f (by decide) (br_t rfl ?_))))))))))
    refine ⟨by decide, nm_r hd (br_f (by decide) ?_)⟩
    unfold wpX_isChange
    refine br_t (by decide) (br_t rfl ?_)
    unfold wX_writeAtP_50
    rw [q3]
    exact wX _ h
  · intro post h
    rw [m3, en]
    exact wY _ h
/-- the cell at P is written -/
theorem mp_wrp2 {l z st' : Int32} (hd : (dg - 16) / 4 = 2) (h1 : st &&& 15 = 7) (h2 : st >>> ((4 : Int32) &&& 31) = st') (H : hr_Hw s t) (M : hr_cm l z s t) (N : hr_cn c e) : ∃ (s4 t4 c4 e4 : Nat → Int32) (rn' cn' : Int32), hr_Hw s4 t4 ∧ hr_cm l z s4 t4 ∧ hr_ct c e c4 e4 1 ∧ st_X (sa, dg, st, da, rn, cn, s, sv, iv, c) (sa, dg, st', da, rn', cn', s4, sv, iv, c4) ∧ (∀ post : SY → Prop, post (sb, t4, tv, jv, e4) → wpY_write post (sb, t, tv, jv, e) (t 258) (t 256)) := by
  have M0 := M
  obtain ⟨m1, m2, m3, m4, m5, m6, m7, m8, B1, B2, ⟨n, hn, en⟩, B4, B5, b1, b2, b3, g1, g2, g3, g4, g5⟩ := M
  obtain ⟨s3, s4, t4, c4, e4, rn', cn', H4, x3, x4, y4, ct, hX, wX, wY⟩ := pr_wrc (sa := sa) (dg := dg) (st := st) (da := da) (rn := rn) (cn := cn) (sv := sv) (iv := iv) (c := c) (sb := sb) (tv := tv) (jv := jv) (e := e) (st2 := st') (n := n) (v := s 256) id (fun a => qa_agI) H N hn B1
  have q3 : s3 258 = nI n := (x3 258 (by unfold hr_FX; omega)).trans en
  have qv : s3 256 = s 256 := x3 256 (by unfold hr_FX; omega)
  refine ⟨s4, t4, c4, e4, rn', cn', H4, hr_cmA M0 (qa_agT x3 x4) y4, ct, ⟨_, hX, ?_⟩, ?_⟩
  · intro Q h
    refine nm_r h1 (nm_r h2 (br_f (by decide) (br_f (by decide) (br_f (by decide) (br_f (by decide) (br_f (by decide) (br_f (by decide) (br_f (by decide) (br_f (by decide) (br_t rfl ?_))))))))))
    refine ⟨by decide, nm_r hd (br_t rfl (nm_e ?_))⟩
    unfold wX_writeAtP_50
    rw [q3, qv]
    exact wX _ h
  · intro post h
    rw [m3, en, m1]
    exact wY _ h
theorem qa_rr : ∀ b, b < 256 → ∀ k, k < 2 → ((nI b >>> ((1 : Int32) &&& 31)) ||| (nI k <<< ((7 : Int32) &&& 31))) &&& 255 = (nI b >>> ((1 : Int32) &&& 31)) ||| (nI k <<< ((7 : Int32) &&& 31)) := by decide +kernel
theorem qa_rrI {b k : Int32} (hb : qa_B b) (hk : qa_b k) : ((b >>> ((1 : Int32) &&& 31)) ||| (k <<< ((7 : Int32) &&& 31))) &&& 255 = (b >>> ((1 : Int32) &&& 31)) ||| (k <<< ((7 : Int32) &&& 31)) := by
  obtain ⟨n, hn, rfl⟩ := hb
  rcases hk with rfl | rfl
  · exact qa_rr n hn 0 (by omega)
  · exact qa_rr n hn 1 (by omega)
theorem qa_rrB {b k : Int32} (hb : qa_B b) (hk : qa_b k) : qa_B ((b >>> ((1 : Int32) &&& 31)) ||| (k <<< ((7 : Int32) &&& 31))) := by
  rw [← qa_rrI hb hk]
  exact qa_Bm _
theorem qa_decI {b : Int32} (hb : qa_B b) : (b - 1) &&& 255 = (b + 255) &&& 255 := by
  obtain ⟨n, hn, rfl⟩ := hb
  exact qa_dec n hn
theorem qa_b1 (x : Int32) : qa_b (x &&& 1) := qa_and1 x
/-- what INC, DEC and ROR make of a byte: the value, Z, K -/
def ml_ch (k : Nat) (x kf : Int32) : Int32 := if k = 8 then (x + 1) &&& 255 else if k = 9 then (x - 1) &&& 255 else (x >>> ((1 : Int32) &&& 31)) ||| (kf <<< ((7 : Int32) &&& 31))
def ml_zf (v : Int32) : Int32 := if v = 0 then 1 else 0
theorem ml_zfb (v : Int32) : qa_b (ml_zf v) := by
  unfold ml_zf
  by_cases k : v = 0
  · rw [if_pos k]; exact Or.inr rfl
  · rw [if_neg k]; exact Or.inl rfl
def ml_kf (k : Nat) (x kf : Int32) : Int32 := if k = 10 then x &&& 1 else kf
def ml_cx (k : Nat) (x : Int32) (s : Nat → Int32) : Nat → Int32 := if k = 10 then upd (upd s 262 (x &&& 1)) 261 (ml_zf (ml_ch k x (s 262))) else upd s 261 (ml_zf (ml_ch k x (s 262)))
theorem mx_ch63 {post : Int32 → SX → Prop} {x : Int32} (h : post x (sa, dg, st, da, rn, cn, upd s 261 (ml_zf x), sv, iv, c)) : wX_changed_63 post x sa dg st da rn cn s sv iv c := by
  unfold ml_zf at h
  exact ⟨fun k => nm_e (by rwa [if_pos k] at h), fun k => nm_e (by rwa [if_neg k] at h)⟩
theorem mx_changed {post : Int32 → SX → Prop} {k : Nat} {x : Int32} (hk : k = 8 ∨ k = 9 ∨ k = 10) (h : post (ml_ch k x (s 262)) (sa, dg, st, da, rn, cn, ml_cx k x s, sv, iv, c)) : wpX_changed post (sa, dg, st, da, rn, cn, s, sv, iv, c) (nI k) x := by
  rcases hk with rfl | rfl | rfl
  · exact br_t rfl (nm_e (mx_ch63 h))
  · exact br_f (by decide) (br_t rfl (nm_e (mx_ch63 h)))
  · exact br_f (by decide) (br_f (by decide) (nm_e (nm_e (mx_ch63 h))))
theorem ml_chB {k : Nat} {x kf : Int32} (hk : k = 8 ∨ k = 9 ∨ k = 10) (hx : qa_B x) (hf : qa_b kf) : qa_B (ml_ch k x kf) := by
  rcases hk with rfl | rfl | rfl
  · exact qa_Bm _
  · exact qa_Bm _
  · exact qa_rrB hx hf
theorem ml_kfb {k : Nat} {x kf : Int32} (hf : qa_b kf) : qa_b (ml_kf k x kf) := by
  unfold ml_kf
  by_cases q : k = 10
  · rw [if_pos q]; exact qa_b1 x
  · rw [if_neg q]; exact hf
/-- the registers behind INC, DEC, ROR -/
theorem hr_cmC {l z : Int32} {k : Nat} {x : Int32} (M : hr_cm l z s t) (hk : k = 8 ∨ k = 9 ∨ k = 10) : hr_cm l z (ml_cx k x s) (upd (upd t 261 (ml_zf (ml_ch k x (s 262)))) 262 (ml_kf k x (s 262))) := by
  obtain ⟨m1, m2, m3, m4, m5, m6, m7, m8, B1, B2, B3, B4, B5, b1, b2, b3, g1, g2, g3, g4, g5⟩ := M
  rcases hk with rfl | rfl | rfl
  · exact ⟨m1, m2, m3, m4, m5, rfl, rfl, m8, B1, B2, B3, B4, B5, ml_zfb _, b2, b3, g1, g2, g3, g4, g5⟩
  · exact ⟨m1, m2, m3, m4, m5, rfl, rfl, m8, B1, B2, B3, B4, B5, ml_zfb _, b2, b3, g1, g2, g3, g4, g5⟩
  · exact ⟨m1, m2, m3, m4, m5, rfl, rfl, m8, B1, B2, B3, B4, B5, ml_zfb _, qa_b1 x, b3, g1, g2, g3, g4, g5⟩
theorem ml_cxA {k : Nat} {x : Int32} (a : Nat → Int32) : qa_ag (fun i => i < 256 ∨ 266 ≤ i) a (ml_cx k x a) := by
  unfold ml_cx
  by_cases q : k = 10
  · rw [if_pos q]; exact qa_agU (qa_agU qa_ag0 (by omega)) (by omega)
  · rw [if_neg q]; exact qa_agU qa_ag0 (by omega)
theorem ml_cxF {k : Nat} {x : Int32} {a b : Nat → Int32} (h : qa_ag hr_FX a b) : qa_ag hr_FX (ml_cx k x a) (ml_cx k x b) := by
  have e2 : b 262 = a 262 := h 262 (by unfold hr_FX; omega)
  unfold ml_cx
  rw [e2]
  by_cases q : k = 10
  · rw [if_pos q, if_pos q]; exact qa_agB (qa_agB h)
  · rw [if_neg q, if_neg q]; exact qa_agB h
/-- the cell at P is changed -/
theorem mp_wrc {l z st' : Int32} {k : Nat} (hk : k = 8 ∨ k = 9 ∨ k = 10) (hv : qa_B da) (hd : (dg - 16) / 4 = nI k) (h1 : st &&& 15 = 7) (h2 : st >>> ((4 : Int32) &&& 31) = st') (H : hr_Hw s t) (M : hr_cm l z s t) (N : hr_cn c e) : ∃ (s4 t4 c4 e4 : Nat → Int32) (rn' cn' : Int32), hr_Hw s4 t4 ∧ hr_cm l z s4 t4 ∧ hr_ct c e c4 e4 1 ∧ st_X (sa, dg, st, da, rn, cn, s, sv, iv, c) (sa, dg, st', da, rn', cn', s4, sv, iv, c4) ∧ (∀ post : SY → Prop, post (sb, t4, tv, jv, e4) → wpY_write post (sb, upd (upd t 261 (ml_zf (ml_ch k da (s 262)))) 262 (ml_kf k da (s 262)), tv, jv, e) (t 258) (ml_ch k da (s 262))) := by
  have M0 := M
  obtain ⟨m1, m2, m3, m4, m5, m6, m7, m8, B1, B2, ⟨n, hn, en⟩, B4, B5, b1, b2, b3, g1, g2, g3, g4, g5⟩ := M
  obtain ⟨s3, s4, t4, c4, e4, rn', cn', H4, x3, x4, y4, ct, hX, wX, wY⟩ := pr_wrc (sa := sa) (dg := dg) (st := st) (da := da) (rn := rn) (cn := cn) (sv := sv) (iv := iv) (c := c) (sb := sb) (tv := tv) (jv := jv) (e := e) (t := upd (upd t 261 (ml_zf (ml_ch k da (s 262)))) 262 (ml_kf k da (s 262))) (st2 := st') (n := n) (v := ml_ch k da (s 262)) (ml_cx k da) (fun a => ml_cxA a) (hr_HwY (hr_HwY H (by omega)) (by omega)) N hn (ml_chB hk hv b2)
  have M3 := hr_cmC (x := da) M0 hk
  refine ⟨s4, t4, c4, e4, rn', cn', H4, hr_cmA M3 (qa_agT (ml_cxF x3) x4) y4, ct, ⟨_, hX, ?_⟩, ?_⟩
  · intro Q h
    have e2 : s3 262 = s 262 := x3 262 (by unfold hr_FX; omega)
    have q3 : ml_cx k da s3 258 = nI n := by
      have a1 : ml_cx k da s 258 = s 258 := by rcases hk with rfl | rfl | rfl <;> rfl
      rw [ml_cxF x3 258 (by unfold hr_FX; omega), a1]
      exact en
    refine nm_r h1 (nm_r h2 (br_f (by decide) (br_f (by decide) (br_f (by decide) (br_f (by decide) (br_f (by decide) (br_f (by decide) (br_f (by decide) (br_f (by decide) (br_t rfl ?_))))))))))
    refine ⟨by decide, nm_r hd (br_f ?_ ?_)⟩
    · rcases hk with rfl | rfl | rfl <;> decide
    · have ic : wpX_isChange (fun r => r = 1) (sa, dg, st', da, rn', cn', s3, sv, iv, c4) (nI k) := by
        rcases hk with rfl | rfl | rfl
        · exact br_f (by decide) (br_f (by decide) rfl)
        · exact br_f (by decide) (br_f (by decide) rfl)
        · exact br_f (by decide) (br_f (by decide) rfl)
      unfold wpX_isChange
      have k8 : ¬ nI k < 8 := by rcases hk with rfl | rfl | rfl <;> decide
      have k10 : ¬ 10 < nI k := by rcases hk with rfl | rfl | rfl <;> decide
      refine br_f k8 (br_f k10 (br_f (by decide) ?_))
      refine mx_changed hk ?_
      show wX_writeAtP_50 _ _ _ _ _ _ _ _ _ _ _ _
      unfold wX_writeAtP_50
      rw [q3, e2]
      exact wX _ h
  · intro post h
    rw [m3, en]
    exact wY _ h
end
