/-! methods that only read -/
section
variable {sa dg st da rn cn : Int32} {s sv iv c : Nat → Int32} {sb : Int32} {t tv jv e : Nat → Int32}
def ml_sg (tac dv : Int32) : Int32 := if tac &&& 4 = 0 then 0 else if ((dv >>> ((if tac &&& 3 = 0 then 5 else tac &&& 3) &&& 31)) &&& 1) = 1 then 1 else 0
theorem ml_sg01 (a b : Int32) : ml_sg a b = 0 ∨ ml_sg a b = 1 := by
  unfold ml_sg
  by_cases k : a &&& 4 = 0
  · rw [if_pos k]
    exact Or.inl rfl
  · rw [if_neg k]
    generalize (b >>> ((if a &&& 3 = 0 then 5 else a &&& 3) &&& 31)) &&& 1 = z
    by_cases k : z = 1
    · rw [if_pos k]
      exact Or.inr rfl
    · rw [if_neg k]
      exact Or.inl rfl
theorem mx_signal {post : Int32 → Prop} (h : post (ml_sg (s 244) (s 266))) : wpX_signal post (sa, dg, st, da, rn, cn, s, sv, iv, c) := by
  have g : ∀ z : Int32, post (if s 244 &&& 4 = 0 then 0 else if ((s 266 >>> (z &&& 31)) &&& 1) = 1 then 1 else 0) → wX_signal_20 post z sa dg st da rn cn s sv iv c := by
    intro z h
    exact ⟨fun k => by rwa [if_pos k] at h, fun k => ⟨fun k2 => by rwa [if_neg k, if_pos k2] at h, fun k2 => by rwa [if_neg k, if_neg k2] at h⟩⟩
  unfold ml_sg at h
  exact nm_e ⟨fun k => g _ (by rwa [if_pos k] at h), fun k => g _ (by rwa [if_neg k] at h)⟩
theorem my_signal {post : Int32 → Prop} (h : post (ml_sg (t 244) (t 267))) : wpY_signal post (sb, t, tv, jv, e) := by
  have g : ∀ z : Int32, post (if t 244 &&& 4 = 0 then 0 else if ((t 267 >>> (z &&& 31)) &&& 1) = 1 then 1 else 0) → wY_signal_20 post z sb t tv jv e := by
    intro z h
    exact ⟨fun k => by rwa [if_pos k] at h, fun k => ⟨fun k2 => by rwa [if_neg k, if_pos k2] at h, fun k2 => by rwa [if_neg k, if_neg k2] at h⟩⟩
  unfold ml_sg at h
  exact nm_e ⟨fun k => g _ (by rwa [if_pos k] at h), fun k => g _ (by rwa [if_neg k] at h)⟩
/-! the pad -/
def ml_pd (w k : Int32) : Int32 := (w &&& 48) ||| (((if w &&& 32 = 0 then (if w &&& 16 = 0 then 0 ||| (k &&& 15) else 0) ||| (k >>> ((4 : Int32) &&& 31)) else (if w &&& 16 = 0 then 0 ||| (k &&& 15) else 0)) ^^^ (-1)) &&& 15)
theorem mx_pad {post : Int32 → Prop} (h : post (ml_pd (s 240) (s 391))) : wpX_padReading post (sa, dg, st, da, rn, cn, s, sv, iv, c) := by
  have g : ∀ z : Int32, post ((s 240 &&& 48) ||| (((if s 240 &&& 32 = 0 then z ||| (s 391 >>> ((4 : Int32) &&& 31)) else z) ^^^ (-1)) &&& 15)) → wX_padReading_30 post z sa dg st da rn cn s sv iv c := by
    intro z h
    exact ⟨fun k => nm_e (by rwa [if_pos k] at h), fun k => by rwa [if_neg k] at h⟩
  unfold ml_pd at h
  exact ⟨fun k => nm_e (g _ (by rwa [if_pos k] at h)), fun k => g _ (by rwa [if_neg k] at h)⟩
theorem ml_pdA : ∀ k, k < 256 → (((0 ||| (nI k &&& 15)) ||| (nI k >>> ((4 : Int32) &&& 31))) ^^^ (-1)) &&& 15 = 15 &&& ((nI k ||| (nI k >>> ((4 : Int32) &&& 31))) ^^^ (-1)) := by decide +kernel
theorem ml_pdB : ∀ k, k < 256 → ((0 ||| (nI k &&& 15)) ^^^ (-1)) &&& 15 = 15 &&& ((nI k ||| 0) ^^^ (-1)) := by decide +kernel
theorem ml_pdC : ∀ k, k < 256 → ((0 ||| (nI k >>> ((4 : Int32) &&& 31))) ^^^ (-1)) &&& 15 = 15 &&& ((0 ||| (nI k >>> ((4 : Int32) &&& 31))) ^^^ (-1)) := by decide +kernel
theorem ml_pdD : ((0 : Int32) ^^^ (-1)) &&& 15 = 15 &&& ((0 ||| 0) ^^^ (-1)) := by decide +kernel
theorem my_pad {post : Int32 → Prop} (hk : qa_B (t 310)) (h : post (ml_pd (t 240) (t 310))) : wpY_pad post (sb, t, tv, jv, e) := by
  obtain ⟨n, hn, en⟩ := hk
  unfold ml_pd at h
  rw [en] at h
  refine nm_e ⟨fun k => ⟨fun k2 => ?_, fun k2 => ?_⟩, fun k => ⟨fun k2 => ?_, fun k2 => ?_⟩⟩
  · rw [if_pos k2, if_pos k, ml_pdA n hn] at h
    exact nm_e (by rw [en]; exact h)
  · rw [if_neg k2, if_pos k, ml_pdB n hn] at h
    exact nm_e (by rw [en]; exact h)
  · rw [if_pos k2, if_neg k, ml_pdC n hn] at h
    exact nm_e (by rw [en]; exact h)
  · rw [if_neg k2, if_neg k, ml_pdD] at h
    exact nm_e h
theorem ml_pdB_ (w : Int32) {k : Int32} (hw : qa_B w) : qa_B (ml_pd w k) := qa_Bor (qa_Band hw _) (qa_Bandr _ ⟨15, by decide, rfl⟩)
/-! shut cells -/
theorem pr_shut {n m : Nat} (hn : n < 256) (hm : m < 4) (e1 : s 273 = nI m) (e2 : t 276 = nI m) (hc : t 274 = cn) (hb : qa_b cn) :
    ∃ r : Int32, (r = 0 ∨ r = 1) ∧ (240 ≤ n → r = 0) ∧ (∀ post : Int32 → Prop, post r → wpX_isShut post (sa, dg, st, da, rn, cn, s, sv, iv, c) (nI n)) ∧ (∀ post : Int32 → Prop, post r → wpY_isShut post (sb, t, tv, jv, e) (nI n)) := by
  have x208 : (208 : Int32) ≤ nI n ↔ 208 ≤ n := nI_leI (a := 208) (by omega) (by omega)
  have x192 : (192 : Int32) ≤ nI n ↔ 192 ≤ n := nI_leI (a := 192) (by omega) (by omega)
  have y128 : nI n < (128 : Int32) ↔ n < 128 := nI_ltI (b := 128) (by omega) (by omega)
  have y192 : nI n < (192 : Int32) ↔ n < 192 := nI_ltI (b := 192) (by omega) (by omega)
  have z127 : nI n ≤ (127 : Int32) ↔ n ≤ 127 := nI_leI (b := 127) (by omega) (by omega)
  have z191 : nI n ≤ (191 : Int32) ↔ n ≤ 191 := nI_leI (b := 191) (by omega) (by omega)
  have m2 : nI m < (2 : Int32) ↔ m < 2 := nI_ltI (b := 2) (by omega) (by omega)
  have m1 : nI m ≤ (1 : Int32) ↔ m ≤ 1 := nI_leI (b := 1) (by omega) (by omega)
  have m3 : nI m = (3 : Int32) ↔ m = 3 := nI_eq (b := 3) (by omega) (by omega)
  obtain ⟨q, hq, q0, q1⟩ : ∃ q : Nat, q ≤ 1 ∧ (cn = 0 ↔ q = 0) ∧ (cn = 1 ↔ q = 1) := by
    rcases hb with h | h
    · exact ⟨0, by omega, by rw [h]; decide, by rw [h]; decide⟩
    · exact ⟨1, by omega, by rw [h]; decide, by rw [h]; decide⟩
  refine ⟨if (q = 1 ∧ n < 208) ∨ (128 ≤ n ∧ n < 192 ∧ m = 3) ∨ (192 ≤ n ∧ n < 208 ∧ 2 ≤ m) then 1 else 0, ?_, ?_, ?_, ?_⟩
  · split
    · exact Or.inr rfl
    · exact Or.inl rfl
  · intro h
    rw [if_neg (by omega)]
  · intro post h
    have g : ¬ (q = 1 ∧ n < 208) → wX_isShut_16 post (nI n) sa dg st da rn cn s sv iv c := by
      intro g
      refine nm_r e1 ⟨fun k => ?_, fun k => ⟨fun k2 => ?_, fun k2 => ⟨fun k3 => ?_, fun k3 => ?_⟩⟩⟩
      · rw [y128] at k
        rw [if_neg (by omega)] at h
        exact br_t (y192.mpr (by omega)) h
      · rw [x192] at k2
        refine br_f (fun z => absurd (y192.mp z) (by omega)) ⟨fun k4 => ?_, fun k4 => ⟨fun k5 => ?_, fun k5 => ?_⟩⟩
        · rw [x208] at k4
          rw [if_neg (by omega)] at h
          exact h
        · rw [x208] at k4
          rw [m2] at k5
          rw [if_neg (by omega)] at h
          exact h
        · rw [x208] at k4
          rw [m2] at k5
          rw [if_pos (by omega)] at h
          exact h
      · rw [y128] at k
        rw [x192] at k2
        rw [m3] at k3
        rw [if_pos (by omega)] at h
        exact h
      · rw [y128] at k
        rw [x192] at k2
        rw [m3] at k3
        rw [if_neg (by omega)] at h
        exact h
    refine ⟨fun k => g (fun z => ?_), fun k => ⟨fun k2 => g (fun z => ?_), fun k2 => ?_⟩⟩
    · exact absurd (q0.mp k) (by omega)
    · exact absurd (x208.mp k2) (by omega)
    · rw [q0] at k
      rw [x208] at k2
      rw [if_pos (by omega)] at h
      exact h
  · intro post h
    have g46 : ¬ (q = 1 ∧ n < 208) → ¬ (128 ≤ n ∧ n < 192 ∧ m = 3) → wY_isShut_46 post (nI n) sb t tv jv e := by
      intro g g2
      refine ⟨fun k => ?_, fun k => ⟨fun k2 => ?_, fun k2 => ⟨fun k3 => ?_, fun k3 => ?_⟩⟩⟩
      · rw [z191] at k
        rw [if_neg (by omega)] at h
        exact h
      · rw [x208] at k2
        rw [if_neg (by omega)] at h
        exact h
      · rw [x208] at k2
        rw [e2, m1] at k3
        rw [if_neg (by omega)] at h
        exact h
      · rw [z191] at k
        rw [x208] at k2
        rw [e2, m1] at k3
        rw [if_pos (by omega)] at h
        exact h
    have g21 : ¬ (q = 1 ∧ n < 208) → wY_isShut_21 post (nI n) sb t tv jv e := by
      intro g
      refine ⟨fun k => g46 g ?_, fun k => ⟨fun k2 => g46 g ?_, fun k2 => ⟨fun k3 => ?_, fun k3 => g46 g ?_⟩⟩⟩
      · rw [z127] at k
        omega
      · rw [x192] at k2
        omega
      · rw [z127] at k
        rw [x192] at k2
        rw [e2, m3] at k3
        rw [if_pos (by omega)] at h
        exact h
      · rw [e2, m3] at k3
        omega
    refine ⟨fun k => g21 (fun z => absurd (x208.mp k) (by omega)), fun k => ⟨fun k2 => ?_, fun k2 => g21 (fun z => k2 (hc.trans (q1.mpr z.1)))⟩⟩
    rw [x208] at k
    have z := q1.mp (hc.symm.trans k2)
    rw [if_pos (by omega)] at h
    exact h
end
