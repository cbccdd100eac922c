/-! a new beginning, saving, loading: both sides -/
section
variable {sa dg st da rn cn : Int32} {s sv iv c : Nat → Int32} {sb : Int32} {t tv jv e : Nat → Int32}
theorem hr_new {pc : Int32} (hpc : qa_B pc) (C : ∀ i, i < 240 → t i = s i ∧ qa_B (s i)) (K : hr_ky s t) (W : hr_sh s t) (x0 : ∀ i, 240 ≤ i ∧ i < 391 ∧ i ≠ 259 ∧ i ≠ 260 → s i = 0) (x1 : s 259 = 240) (x2 : s 260 = pc) (y0 : ∀ i, 240 ≤ i ∧ i < 310 ∧ i ≠ 259 ∧ i ≠ 260 ∧ i ≠ 271 ∧ i ≠ 275 ∧ i ≠ 299 → t i = 0) (y1 : t 259 = 240) (y2 : t 260 = pc) (y3 : t 271 = 16) (y4 : t 275 = -1) : hr_Rl s t := by
  have zx : ∀ i, 240 ≤ i ∧ i < 310 ∧ i ≠ 259 ∧ i ≠ 260 ∧ i ≠ 271 ∧ i ≠ 275 ∧ i ≠ 299 → t i = s i := fun i hi => (y0 i hi).trans (x0 i (by omega)).symm
  refine ⟨⟨?_, ?_, ?_, ?_, K, W, ?_⟩, ?_⟩
  · intro i hi
    by_cases k : i < 240
    · exact C i k
    · refine ⟨zx i (by omega), ?_⟩
      rw [x0 i (by omega)]
      exact qa_B0
  · refine ⟨?_, ⟨0, by omega, x0 266 (by omega)⟩, ?_, Or.inl (x0 267 (by omega))⟩
    · rw [y0 267 (by omega), x0 266 (by omega)]
    · rw [y0 268 (by omega), x0 267 (by omega)]
  · refine ⟨0, 0, 16, by omega, by omega, by omega, x0 268 (by omega), y0 273 (by omega), x0 269 (by omega), y0 270 (by omega), x0 270 (by omega), y3, ?_⟩
    rw [y0 272 (by omega), x0 253 (by omega)]
    decide
  · refine ⟨?_, Or.inl (x0 271 (by omega))⟩
    rw [y0 308 (by omega), x0 271 (by omega)]
  · refine ⟨0, 0, 0, 0, 0, 0, 0, by omega, by omega, by omega, by omega, by omega, ⟨x0 251 (by omega), x0 272 (by omega), ?_, x0 273 (by omega), y0 276 (by omega), x0 281 (by omega), y0 305 (by omega), x0 282 (by omega), y0 278 (by omega)⟩, ⟨fun z => absurd z (by omega), fun z => absurd z (by omega)⟩, fun _ => rfl, fun _ => x0 274 (by omega), Or.inl ⟨rfl, rfl, rfl, rfl, rfl⟩⟩
    rw [y4]
    decide
  · refine ⟨zx 256 (by omega), zx 257 (by omega), zx 258 (by omega), y1.trans x1.symm, y2.trans x2.symm, zx 261 (by omega), zx 262 (by omega), zx 263 (by omega), zx 264 (by omega), ?_, ?_, ?_, ?_, ?_, Or.inl (x0 261 (by omega)), Or.inl (x0 262 (by omega)), Or.inl (x0 263 (by omega)), Or.inl (x0 264 (by omega)), Or.inl ⟨x0 265 (by omega), y0 265 (by omega), y0 266 (by omega)⟩⟩
    · rw [x0 256 (by omega)]; exact qa_B0
    · rw [x0 257 (by omega)]; exact qa_B0
    · rw [x0 258 (by omega)]; exact qa_B0
    · rw [x1]; exact ⟨240, by omega, rfl⟩
    · rw [x2]; exact hpc
theorem mx_reset {post : Int32 → SX → Prop} {pc : Int32} (h : post 1 (sa, dg, st, da, rn, cn, upd (upd (qa_fill s 240 151 (fun _ => 0)) 259 240) 260 pc, sv, iv, c)) : ∀ d k, k + d = 151 → wX_reset_17 post pc sa dg st da rn cn (d + 1) (nI (240 + k)) (qa_fill s 240 k (fun _ => 0)) sv iv c := by
  intro d
  induction d with
  | zero =>
    intro k hk
    have z : k = 151 := by omega
    subst z
    exact br_t (nI_le (a := 391) (by omega) (by omega)) (nm_e (nm_e h))
  | succ d ih =>
    intro k hk
    refine br_f (nI_ge (b := 391) (by omega) (by omega)) ⟨vp_in_nI (by omega) (by omega), nm_r (e' := qa_fill s 240 (k + 1) (fun _ => 0)) ?_ (nm_r (nI_1 _) (ih (k + 1) (by omega)))⟩
    rw [nI_clamp (by omega)]
    exact qa_fillS s 240 k (fun _ => 0)
theorem my_begin {post : SY → Prop} {pc : Int32} (h : post (sb, upd (upd (upd (upd (upd (qa_fill t 240 70 (fun _ => 0)) 259 240) 260 pc) 271 16) 275 (-1)) 299 4, tv, jv, e)) : ∀ d k, k + d = 70 → wY_begin_4 post pc sb (d + 1) (nI (240 + k)) (qa_fill t 240 k (fun _ => 0)) tv jv e := by
  intro d
  induction d with
  | zero =>
    intro k hk
    have z : k = 70 := by omega
    subst z
    exact br_t (nI_le (a := 310) (by omega) (by omega)) (nm_e (nm_e (nm_e (nm_e (nm_e h)))))
  | succ d ih =>
    intro k hk
    refine br_f (nI_ge (b := 310) (by omega) (by omega)) ⟨vp_in_nI (by omega) (by omega), nm_r (e' := qa_fill t 240 (k + 1) (fun _ => 0)) ?_ (nm_r (nI_1 _) (ih (k + 1) (by omega)))⟩
    rw [nI_clamp (by omega)]
    exact qa_fillS t 240 k (fun _ => 0)
theorem my_beginV {post : SY → Prop} {pc : Int32} (h : post (sb, upd (upd (upd (upd (upd (qa_fill t 240 70 (fun _ => 0)) 259 240) 260 pc) 271 16) 275 (-1)) 299 4, tv, jv, e)) : wpY_begin post (sb, t, tv, jv, e) pc := by
  have g := my_begin h 70 0 rfl
  rw [qa_fill0] at g
  exact ⟨71, g⟩
theorem qa_z {a : Nat → Int32} {b n i : Nat} (h1 : b ≤ i) (h2 : i < b + n) : qa_fill a b n (fun _ => 0) i = 0 := by
  unfold qa_fill
  rw [if_pos ⟨h1, h2⟩]
theorem hr_beg {pc : Int32} {s' : Nat → Int32} (hpc : qa_B pc) (C : ∀ i, i < 240 → t i = s' i ∧ qa_B (s' i)) (K : t 310 = s' 391 ∧ qa_B (s' 391)) (W : ∀ p, p < 96 → t (416 + p) = s' (392 + p)) (x0 : ∀ i, 240 ≤ i ∧ i < 391 ∧ i ≠ 259 ∧ i ≠ 260 → s' i = 0) (x1 : s' 259 = 240) (x2 : s' 260 = pc) : hr_Rl s' (upd (upd (upd (upd (upd (qa_fill t 240 70 (fun _ => 0)) 259 240) 260 pc) 271 16) 275 (-1)) 299 4) := by
  refine hr_new hpc ?_ ?_ ?_ x0 x1 x2 ?_ rfl rfl rfl rfl
  · intro i hi
    rw [pk_un (by omega), pk_un (by omega), pk_un (by omega), pk_un (by omega), pk_un (by omega), qa_fillO (by omega)]
    exact C i hi
  · refine ⟨?_, K.2⟩
    rw [pk_un (by omega), pk_un (by omega), pk_un (by omega), pk_un (by omega), pk_un (by omega), qa_fillO (by omega)]
    exact K.1
  · intro p hp
    rw [pk_un (by omega), pk_un (by omega), pk_un (by omega), pk_un (by omega), pk_un (by omega), qa_fillO (by omega)]
    exact W p hp
  · intro i hi
    rw [pk_un (by omega), pk_un (by omega), pk_un (by omega), pk_un (by omega), pk_un (by omega)]
    exact qa_z (by omega) (by omega)
/-! saving and loading -/
def hr_sd (sv iv tv jv : Nat → Int32) : Prop := ∀ q, q < 2 → jv q = iv q ∧ (¬ iv q = 0 → hr_Rl (fun i => sv (488 * q + i)) (fun i => tv (512 * q + i)))
theorem mx_save {post : Int32 → SX → Prop} {q : Nat} (hq : q < 2) (h : post 1 (sa, dg, st, da, rn, cn, s, qa_fill sv (488 * q) 488 s, upd iv q (vp_nar .boolean 1), c)) : ∀ d k, k + d = 488 → wX_save_13 post (nI q) sa dg st da rn cn (d + 1) (nI k) s (qa_fill sv (488 * q) k s) iv c := by
  intro d
  induction d with
  | zero =>
    intro k hk
    have z : k = 488 := by omega
    subst z
    exact br_t (nI_le (a := 488) (by omega) (by omega)) ⟨vp_in_nI hq (by omega), nm_r (qa_up _ _ (nI_clamp (by omega))) h⟩
  | succ d ih =>
    intro k hk
    have ei : (488 : Int32) * nI q + nI k = nI (488 * q + k) := by
      show nI 488 * nI q + nI k = _
      rw [pk_mul, nI_add]
    refine br_f (nI_ge (b := 488) (by omega) (by omega)) ⟨vp_in_nI (by omega) (by omega), by rw [ei]; exact vp_in_nI (by omega) (by omega), nm_r (e' := qa_fill sv (488 * q) (k + 1) s) ?_ (nm_r (nI_1 _) (ih (k + 1) (by omega)))⟩
    rw [ei, nI_clamp (by omega), nI_clamp (by omega)]
    exact qa_fillS sv (488 * q) k s
theorem my_save {post : Int32 → SY → Prop} {q : Nat} (hq : q < 2) (h : post 1 (sb, t, qa_fill tv (512 * q) 512 t, upd jv q (vp_nar .boolean 1), e)) : ∀ d k, k + d = 512 → wY_save_13 post (nI q) sb (d + 1) (nI k) t (qa_fill tv (512 * q) k t) jv e := by
  intro d
  induction d with
  | zero =>
    intro k hk
    have z : k = 512 := by omega
    subst z
    exact br_t (nI_le (a := 512) (by omega) (by omega)) ⟨vp_in_nI hq (by omega), nm_r (qa_up _ _ (nI_clamp (by omega))) h⟩
  | succ d ih =>
    intro k hk
    have ei : (512 : Int32) * nI q + nI k = nI (512 * q + k) := by
      show nI 512 * nI q + nI k = _
      rw [pk_mul, nI_add]
    refine br_f (nI_ge (b := 512) (by omega) (by omega)) ⟨vp_in_nI (by omega) (by omega), by rw [ei]; exact vp_in_nI (by omega) (by omega), nm_r (e' := qa_fill tv (512 * q) (k + 1) t) ?_ (nm_r (nI_1 _) (ih (k + 1) (by omega)))⟩
    rw [ei, nI_clamp (by omega), nI_clamp (by omega)]
    exact qa_fillS tv (512 * q) k t
theorem mx_load {post : Int32 → SX → Prop} {q : Nat} (hq : q < 2) (h : post 1 (sa, dg, st, da, rn, cn, qa_fill s 0 488 (fun i => sv (488 * q + i)), sv, iv, c)) : ∀ d k, k + d = 488 → wX_load_22 post (nI q) sa dg st da rn cn (d + 1) (nI k) (qa_fill s 0 k (fun i => sv (488 * q + i))) sv iv c := by
  intro d
  induction d with
  | zero =>
    intro k hk
    have z : k = 488 := by omega
    subst z
    exact br_t (nI_le (a := 488) (by omega) (by omega)) h
  | succ d ih =>
    intro k hk
    have ei : (488 : Int32) * nI q + nI k = nI (488 * q + k) := by
      show nI 488 * nI q + nI k = _
      rw [pk_mul, nI_add]
    refine br_f (nI_ge (b := 488) (by omega) (by omega)) ⟨by rw [ei]; exact vp_in_nI (by omega) (by omega), vp_in_nI (by omega) (by omega), nm_r (e' := qa_fill s 0 (k + 1) (fun i => sv (488 * q + i))) ?_ (nm_r (nI_1 _) (ih (k + 1) (by omega)))⟩
    rw [ei, nI_clamp (by omega), nI_clamp (by omega)]
    have g := qa_fillS s 0 k (fun i => sv (488 * q + i))
    rw [Nat.zero_add] at g
    exact g
theorem my_load {post : Int32 → SY → Prop} {q : Nat} (hq : q < 2) (h : post 1 (sb, qa_fill t 0 512 (fun i => tv (512 * q + i)), tv, jv, e)) : ∀ d k, k + d = 512 → wY_load_22 post (nI q) sb (d + 1) (nI k) (qa_fill t 0 k (fun i => tv (512 * q + i))) tv jv e := by
  intro d
  induction d with
  | zero =>
    intro k hk
    have z : k = 512 := by omega
    subst z
    exact br_t (nI_le (a := 512) (by omega) (by omega)) h
  | succ d ih =>
    intro k hk
    have ei : (512 : Int32) * nI q + nI k = nI (512 * q + k) := by
      show nI 512 * nI q + nI k = _
      rw [pk_mul, nI_add]
    refine br_f (nI_ge (b := 512) (by omega) (by omega)) ⟨by rw [ei]; exact vp_in_nI (by omega) (by omega), vp_in_nI (by omega) (by omega), nm_r (e' := qa_fill t 0 (k + 1) (fun i => tv (512 * q + i))) ?_ (nm_r (nI_1 _) (ih (k + 1) (by omega)))⟩
    rw [ei, nI_clamp (by omega), nI_clamp (by omega)]
    have g := qa_fillS t 0 k (fun i => tv (512 * q + i))
    rw [Nat.zero_add] at g
    exact g
theorem hr_sdS {q : Nat} (hq : q < 2) (R : hr_Rl s t) (D : hr_sd sv iv tv jv) : hr_sd (qa_fill sv (488 * q) 488 s) (upd iv q (vp_nar .boolean 1)) (qa_fill tv (512 * q) 512 t) (upd jv q (vp_nar .boolean 1)) := by
  intro w hw
  by_cases k : w = q
  · subst k
    refine ⟨by rw [pk_us, pk_us], fun _ => hr_RlA R ?_ ?_⟩
    · intro i hi
      exact qa_fillI hi
    · intro i hi
      exact qa_fillI hi
  · rw [pk_un k, pk_un k]
    refine ⟨(D w hw).1, fun z => hr_RlA ((D w hw).2 z) ?_ ?_⟩
    · intro i hi
      exact qa_fillO (by omega)
    · intro i hi
      exact qa_fillO (by omega)
theorem hr_RlL {q : Nat} (R : hr_Rl (fun i => sv (488 * q + i)) (fun i => tv (512 * q + i))) : hr_Rl (qa_fill s 0 488 (fun i => sv (488 * q + i))) (qa_fill t 0 512 (fun i => tv (512 * q + i))) := by
  refine hr_RlA R ?_ ?_
  · intro i hi
    have g := qa_fillI (a := s) (b := 0) (n := 488) (f := fun i => sv (488 * q + i)) hi
    rw [Nat.zero_add] at g
    exact g
  · intro i hi
    have g := qa_fillI (a := t) (b := 0) (n := 512) (f := fun i => tv (512 * q + i)) hi
    rw [Nat.zero_add] at g
    exact g
/-! the picture as one number -/
theorem pr_pict (W : hr_sh s t) : ∀ (d k : Nat) (x : Int64), k + d = 96 → ∃ r : Int64, (∀ post : Int64 → Prop, post r → wX_picture_4 post sa dg st da rn cn s sv iv c (d + 1) x (nI k)) ∧ (∀ post : Int64 → Prop, post r → wY_picture_4 post sb t tv jv e (d + 1) x (nI k)) := by
  intro d
  induction d with
  | zero =>
    intro k x hk
    have z : k = 96 := by omega
    subst z
    exact ⟨x, fun post h => br_t (nI_le (a := 96) (by omega) (by omega)) h, fun post h => br_t (nI_le (a := 96) (by omega) (by omega)) h⟩
  | succ d ih =>
    intro k x hk
    obtain ⟨r, hX, hY⟩ := ih (k + 1) (31 * x + (s (392 + k)).toInt64) (by omega)
    refine ⟨r, fun post h => br_f (nI_ge (b := 96) (by omega) (by omega)) ⟨qa_ii 392 k 488 (by omega) (by omega), nm_r (e' := 31 * x + (s (392 + k)).toInt64) ?_ (nm_r (nI_1 k) (hX post h))⟩, fun post h => br_f (nI_ge (b := 96) (by omega) (by omega)) ⟨qa_ii 416 k 512 (by omega) (by omega), nm_r (e' := 31 * x + (s (392 + k)).toInt64) ?_ (nm_r (nI_1 k) (hY post h))⟩⟩
    · show 31 * x + (s (nI 392 + nI k).toNatClampNeg).toInt64 = _
      rw [qa_ic 392 k (by omega)]
    · show 31 * x + (t (nI 416 + nI k).toNatClampNeg).toInt64 = _
      rw [qa_ic 416 k (by omega), W k (by omega)]
end
