section
theorem pk_us {f : Nat → Int32} {k : Nat} {x : Int32} : upd f k x k = x := if_pos rfl
theorem pk_un {f : Nat → Int32} {k j : Nat} {x : Int32} (h : j ≠ k) : upd f k x j = f j := if_neg h
theorem pk_sub {a b : Nat} (h : b ≤ a) : nI a - nI b = nI (a - b) := by
  obtain ⟨c, rfl⟩ : ∃ c, a = c + b := ⟨a - b, by omega⟩
  rw [← nI_add, Int32.add_sub_cancel, Nat.add_sub_cancel]
theorem pk_m1 (n : Nat) : nI (n + 1) + (-1) = nI n := by
  rw [← nI_1, Int32.add_assoc, show (1 : Int32) + (-1) = 0 from rfl, Int32.add_zero]
theorem pk_mul (a b : Nat) : nI a * nI b = nI (a * b) := (Int32.ofNat_mul a b).symm
theorem pk_div {a d : Nat} (ha : a < 2 ^ 31) (h0 : 0 < d) (hd : d < 2 ^ 31) : nI a / nI d = nI (a / d) := by
  apply Int32.toInt_inj.mp
  rw [lg_idiv_nonneg (by rw [nI_toInt ha]; omega) (by rw [nI_toInt hd]; omega), nI_toInt ha, nI_toInt hd, nI_toInt (Nat.lt_of_le_of_lt (Nat.div_le_self a d) ha)]
  first | rfl | exact (Int.natCast_ediv _ _).symm
theorem pk_rem {a d : Nat} (ha : a < 2 ^ 31) (h0 : 0 < d) (hd : d < 2 ^ 31) : nI a - nI a / nI d * nI d = nI (a % d) := by
  rw [pk_div ha h0 hd, pk_mul, pk_sub (Nat.div_mul_le_self a d)]
  exact congrArg nI (by have := Nat.div_add_mod' a d; omega)
theorem pk_sub_toInt {a b : Nat} (ha : a < 2 ^ 30) (hb : b < 2 ^ 30) : (nI a - nI b).toInt = (a : Int) - b := by
  rw [Int32.toInt_sub, nI_toInt (by omega), nI_toInt (by omega)]
  exact Int.bmod_eq_of_le (by omega) (by omega)
theorem pk_sneg {a b : Nat} (hb : b < 2 ^ 30) (h : a < b) : nI a - nI b < 0 := by
  rw [Int32.lt_iff_toInt_lt, pk_sub_toInt (by omega) hb, show (0 : Int32).toInt = 0 from by decide]
  omega
theorem pk_ix (x : Int32) {n : Nat} (hn : n < 2 ^ 31) : x < 0 ∨ nI n ≤ x ∨ ∃ j : Nat, j < n ∧ x = nI j := by
  by_cases h : x < 0
  · exact Or.inl h
  · obtain ⟨j, hj, rfl⟩ := nI_of h
    by_cases h2 : j < n
    · exact Or.inr (Or.inr ⟨j, h2, rfl⟩)
    · exact Or.inr (Or.inl (nI_le (by omega) hj))
theorem pk_le {x y : Int32} {A B : Prop} (a b : Nat) (f : a ≤ b → A) (g : b < a → B) (hx : x = nI a := by rfl) (hy : y = nI b := by rfl) (ha : a < 2 ^ 31 := by omega) (hb : b < 2 ^ 31 := by omega) : (x ≤ y → A) ∧ (¬ x ≤ y → B) := by
  subst hx hy
  rw [nI_leI ha hb]
  exact ⟨f, fun z => g (by omega)⟩
theorem pk_lt {x y : Int32} {A B : Prop} (a b : Nat) (f : a < b → A) (g : b ≤ a → B) (hx : x = nI a := by rfl) (hy : y = nI b := by rfl) (ha : a < 2 ^ 31 := by omega) (hb : b < 2 ^ 31 := by omega) : (x < y → A) ∧ (¬ x < y → B) := by
  subst hx hy
  rw [nI_ltI ha hb]
  exact ⟨f, fun z => g (by omega)⟩
theorem pk_eq {x y : Int32} {A B : Prop} (a b : Nat) (f : a = b → A) (g : a ≠ b → B) (hx : x = nI a := by rfl) (hy : y = nI b := by rfl) (ha : a < 2 ^ 31 := by omega) (hb : b < 2 ^ 31 := by omega) : (x = y → A) ∧ (¬ x = y → B) := by
  subst hx hy
  rw [nI_eq ha hb]
  exact ⟨f, g⟩
theorem pk_in {x : Int32} (n N : Nat) (h : n < N) (hx : x = nI n := by rfl) (hN : N < 2 ^ 31 := by omega) : vp_in x N := by
  subst hx
  exact vp_in_nI h hN
theorem pk_cl {x : Int32} (n : Nat) (hx : x = nI n := by rfl) (h : n < 2 ^ 31 := by omega) : x.toNatClampNeg = n := by
  subst hx
  exact nI_clamp h
theorem pk_tn {n : Nat} (h : n < 2 ^ 32) : (nI n).toBitVec.toNat = n := Nat.mod_eq_of_lt h
theorem pk_and (x : Int32) {m : Int32} (k : Nat) (hm : m.toBitVec.toNat = 2 ^ k - 1) : x &&& m = nI (x.toBitVec.toNat % 2 ^ k) := by
  apply Int32.toBitVec_inj.mp
  apply BitVec.eq_of_toNat_eq
  rw [Int32.toBitVec_and, BitVec.toNat_and, hm, Nat.and_two_pow_sub_one_eq_mod]
  show _ = (BitVec.ofNat 32 _).toNat
  rw [BitVec.toNat_ofNat]
  exact (Nat.mod_eq_of_lt (Nat.lt_of_le_of_lt (Nat.mod_le _ _) x.toBitVec.isLt)).symm
theorem pk_andN {n : Nat} (h : n < 2 ^ 32) {m : Int32} (k : Nat) (hm : m.toBitVec.toNat = 2 ^ k - 1) : nI n &&& m = nI (n % 2 ^ k) := by
  rw [pk_and _ k hm, pk_tn h]
theorem pk_andE (x : Int32) {m : Int32} (k : Nat) (hm : m.toBitVec.toNat = 2 ^ k - 1) : ∃ j : Nat, j < 2 ^ k ∧ x &&& m = nI j := ⟨_, Nat.mod_lt _ (Nat.two_pow_pos k), pk_and x k hm⟩
theorem pk_andIn (x : Int32) {m : Int32} (k : Nat) (hm : m.toBitVec.toNat = 2 ^ k - 1) (hk : k ≤ 30) : vp_in (x &&& m) (2 ^ k) := by
  obtain ⟨j, hj, e⟩ := pk_andE x k hm
  rw [e]
  exact vp_in_nI hj (Nat.lt_of_le_of_lt (Nat.pow_le_pow_right (by decide) hk) (by decide))
theorem pk_shl (a s : Int32) (k : Nat) (hs : (s.toBitVec.smod 32).toNat = k) : (a <<< s).toBitVec.toNat = a.toBitVec.toNat * 2 ^ k % 2 ^ 32 := by
  show (a.toBitVec <<< (s.toBitVec.smod 32).toNat).toNat = _
  rw [hs, BitVec.toNat_shiftLeft, Nat.shiftLeft_eq]
theorem pk_shlN {n : Nat} (s : Int32) (k : Nat) (hs : (s.toBitVec.smod 32).toNat = k) (h : n * 2 ^ k < 2 ^ 32) : nI n <<< s = nI (n * 2 ^ k) := by
  apply Int32.toBitVec_inj.mp
  apply BitVec.eq_of_toNat_eq
  have hn : n < 2 ^ 32 := Nat.lt_of_le_of_lt (Nat.le_mul_of_pos_right n (Nat.two_pow_pos k)) h
  rw [pk_shl _ _ k hs, pk_tn hn, pk_tn h, Nat.mod_eq_of_lt h]
theorem pk_shr (a s : Int32) (k : Nat) (hs : (s.toBitVec.smod 32).toNat = k) : (a >>> s).toInt = a.toInt >>> k := by
  show (a.toBitVec.sshiftRight (s.toBitVec.smod 32).toNat).toInt = _
  rw [hs, BitVec.toInt_sshiftRight]
  rfl
theorem pk_shrN {n : Nat} (h : n < 2 ^ 31) (s : Int32) (k : Nat) (hs : (s.toBitVec.smod 32).toNat = k) : nI n >>> s = nI (n / 2 ^ k) := by
  apply Int32.toInt_inj.mp
  have h2 : n / 2 ^ k ≤ n := Nat.div_le_self _ _
  rw [pk_shr _ _ k hs, nI_toInt h, nI_toInt (by omega), Int.shiftRight_eq_div_pow]
  rfl
theorem pk_loop {σ : Type} (W : Nat → Nat → σ → Prop) (I : Nat → σ → Prop) (e i0 : Nat) (s : σ) (hi : i0 ≤ e) (h0 : I i0 s) (hx : ∀ n s, I e s → W (n + 1) e s)
    (hs : ∀ n i s, i < e → I i s → (∀ s', I (i + 1) s' → W n (i + 1) s') → W (n + 1) i s) : ∃ n, W n i0 s :=
  ⟨e + 1, loop_i W I e hx hs (e + 1) i0 s hi (by omega) h0⟩
theorem ek_if {c d A B : Prop} (e : c ↔ d) (f : d → A) (g : ¬ d → B) : (c → A) ∧ (¬ c → B) :=
  ⟨fun z => f (e.mp z), fun z => g (fun y => z (e.mpr y))⟩
theorem ek_v {α : Sort _} {P : α → Prop} {a b : α} (e : a = b) (h : P b) : P a := e ▸ h
theorem nx_and (a b : Nat) : nI a &&& nI b = nI (a &&& b) := by
  apply Int32.toBitVec_inj.1
  show BitVec.ofNat 32 a &&& BitVec.ofNat 32 b = BitVec.ofNat 32 (a &&& b)
  apply BitVec.eq_of_getLsbD_eq
  intro i hi
  simp [hi]
theorem nx_xor (a b : Nat) : nI a ^^^ nI b = nI (a ^^^ b) := by
  apply Int32.toBitVec_inj.1
  show BitVec.ofNat 32 a ^^^ BitVec.ofNat 32 b = BitVec.ofNat 32 (a ^^^ b)
  apply BitVec.eq_of_getLsbD_eq
  intro i hi
  simp [hi]
/-! bytes, bits -/
def qa_B (x : Int32) : Prop := ∃ n : Nat, n < 256 ∧ x = nI n
def qa_b (x : Int32) : Prop := x = 0 ∨ x = 1
theorem qa_self (x : Int32) : x = nI x.toBitVec.toNat := by
  apply Int32.toBitVec_inj.1
  show x.toBitVec = BitVec.ofNat 32 x.toBitVec.toNat
  simp
theorem qa_orN (a b : Nat) : nI a ||| nI b = nI (a ||| b) := by
  apply Int32.toBitVec_inj.1
  show BitVec.ofNat 32 a ||| BitVec.ofNat 32 b = BitVec.ofNat 32 (a ||| b)
  apply BitVec.eq_of_getLsbD_eq
  intro i hi
  simp [hi]
theorem qa_Bn {n : Nat} (h : n < 256) : qa_B (nI n) := ⟨n, h, rfl⟩
theorem qa_B0 : qa_B 0 := ⟨0, by decide, rfl⟩
theorem qa_B1 : qa_B 1 := ⟨1, by decide, rfl⟩
theorem qa_B255 : qa_B 255 := ⟨255, by decide, rfl⟩
theorem qa_Bb {x : Int32} (h : qa_b x) : qa_B x := by
  rcases h with h | h
  · rw [h]; exact qa_B0
  · rw [h]; exact qa_B1
theorem qa_Bor {x y : Int32} (hx : qa_B x) (hy : qa_B y) : qa_B (x ||| y) := by
  obtain ⟨a, ha, rfl⟩ := hx
  obtain ⟨b, hb, rfl⟩ := hy
  exact ⟨a ||| b, Nat.or_lt_two_pow (n := 8) ha hb, qa_orN a b⟩
theorem qa_Bxor {x y : Int32} (hx : qa_B x) (hy : qa_B y) : qa_B (x ^^^ y) := by
  obtain ⟨a, ha, rfl⟩ := hx
  obtain ⟨b, hb, rfl⟩ := hy
  exact ⟨a ^^^ b, Nat.xor_lt_two_pow (n := 8) ha hb, nx_xor a b⟩
theorem qa_Band {x : Int32} (hx : qa_B x) (y : Int32) : qa_B (x &&& y) := by
  obtain ⟨a, ha, rfl⟩ := hx
  refine ⟨a &&& y.toBitVec.toNat, Nat.lt_of_le_of_lt Nat.and_le_left ha, ?_⟩
  rw [← nx_and, ← qa_self]
theorem qa_Bandr (x : Int32) {y : Int32} (hy : qa_B y) : qa_B (x &&& y) := by
  obtain ⟨a, ha, rfl⟩ := hy
  refine ⟨x.toBitVec.toNat &&& a, Nat.lt_of_le_of_lt Nat.and_le_right ha, ?_⟩
  rw [← nx_and, ← qa_self]
theorem qa_Bm (x : Int32) : qa_B (x &&& 255) := qa_Bandr x qa_B255
theorem qa_and1 (x : Int32) : x &&& 1 = 0 ∨ x &&& 1 = 1 := by
  obtain ⟨j, hj, e⟩ := pk_andE x (m := 1) 1 (by decide)
  rw [e]
  have : j = 0 ∨ j = 1 := by omega
  rcases this with h | h
  · left; rw [h]; rfl
  · right; rw [h]; rfl
theorem qa_B0le {x : Int32} (h : qa_B x) : ¬ x < 0 := by
  obtain ⟨n, hn, rfl⟩ := h
  exact nI_pos (by omega)
theorem qa_Bin {x : Int32} (h : qa_B x) {N : Nat} (hN : 256 ≤ N) (hN2 : N < 2 ^ 31) : vp_in x N := by
  obtain ⟨n, hn, rfl⟩ := h
  exact vp_in_nI (by omega) hN2
theorem qa_Bcl {x : Int32} (h : qa_B x) : x.toNatClampNeg < 256 := by
  obtain ⟨n, hn, rfl⟩ := h
  rw [nI_clamp (by omega)]
  exact hn
theorem qa_nb0 : narrow .boolean (.int 0) = .int 0 := rfl
theorem qa_nb1 : narrow .boolean (.int 1) = .int 1 := rfl
theorem qa_eqN {a b : Nat} (h : nI a = nI b) (ha : a < 2 ^ 31) (hb : b < 2 ^ 31) : a = b := (nI_eq ha hb).mp h
theorem qa_neN {a b : Nat} (h : a ≠ b) (ha : a < 2 ^ 31) (hb : b < 2 ^ 31) : ¬ nI a = nI b := fun e => h ((nI_eq ha hb).mp e)
/-! agreement of two arrays on a set of places -/
def qa_ag (P : Nat → Prop) (s s' : Nat → Int32) : Prop := ∀ i, P i → s' i = s i
theorem qa_ag0 {P : Nat → Prop} {s : Nat → Int32} : qa_ag P s s := fun _ _ => rfl
theorem qa_agU {P : Nat → Prop} {s s' : Nat → Int32} {k : Nat} {v : Int32} (h : qa_ag P s s') (hk : ¬ P k) : qa_ag P s (upd s' k v) := fun i hi => by
  have hne : i ≠ k := fun e => hk (by rw [← e]; exact hi)
  rw [pk_un hne]
  exact h i hi
theorem qa_agT {P : Nat → Prop} {s s' s'' : Nat → Int32} (h : qa_ag P s s') (h' : qa_ag P s' s'') : qa_ag P s s'' := fun i hi => (h' i hi).trans (h i hi)
theorem qa_agB {P : Nat → Prop} {s s' : Nat → Int32} {k : Nat} {v : Int32} (h : qa_ag P s s') : qa_ag P (upd s k v) (upd s' k v) := fun i hi => by
  by_cases e : i = k
  · subst e
    rw [pk_us, pk_us]
  · rw [pk_un e, pk_un e]
    exact h i hi
theorem qa_agW {P Q : Nat → Prop} {s s' : Nat → Int32} (h : qa_ag P s s') (w : ∀ i, Q i → P i) : qa_ag Q s s' := fun i hi => h i (w i hi)
/-- one array, changed below n places of a block that begins at b -/
def qa_fill (a : Nat → Int32) (b n : Nat) (f : Nat → Int32) : Nat → Int32 := fun j => if b ≤ j ∧ j < b + n then f (j - b) else a j
theorem qa_fill0 (a : Nat → Int32) (b : Nat) (f : Nat → Int32) : qa_fill a b 0 f = a := by
  funext j
  simp only [qa_fill]
  rw [if_neg (by omega)]
theorem qa_fillS (a : Nat → Int32) (b n : Nat) (f : Nat → Int32) : upd (qa_fill a b n f) (b + n) (f n) = qa_fill a b (n + 1) f := by
  funext j
  simp only [qa_fill, upd]
  by_cases e : j = b + n
  · subst e
    rw [if_pos rfl, if_pos (by omega), show b + n - b = n by omega]
  · rw [if_neg e]
    by_cases h : b ≤ j ∧ j < b + n
    · rw [if_pos h, if_pos (by omega)]
    · rw [if_neg h, if_neg (by omega)]
theorem qa_fillI {a : Nat → Int32} {b n : Nat} {f : Nat → Int32} {k : Nat} (h : k < n) : qa_fill a b n f (b + k) = f k := by
  simp only [qa_fill]
  rw [if_pos (by omega), show b + k - b = k by omega]
theorem qa_fillO {a : Nat → Int32} {b n : Nat} {f : Nat → Int32} {j : Nat} (h : j < b ∨ b + n ≤ j) : qa_fill a b n f j = a j := by
  simp only [qa_fill]
  rw [if_neg (by omega)]
end
section
/-! the relation of the hardware parts of the two states: s is X's array state, t is Y's array now -/
def hr_ce (s t : Nat → Int32) : Prop := ∀ i, i < 256 → t i = s i ∧ qa_B (s i)
def hr_tm (s t : Nat → Int32) : Prop := t 267 = s 266 ∧ (∃ n : Nat, n < 1024 ∧ s 266 = nI n) ∧ t 268 = s 267 ∧ qa_b (s 267)
def hr_cp (s t : Nat → Int32) : Prop := ∃ dl pg nx : Nat, dl ≤ 2 ∧ pg < 16 ∧ nx ≤ 16 ∧ s 268 = nI dl ∧ t 273 = nI dl ∧ s 269 = nI (16 * pg) ∧ t 270 = nI pg ∧ s 270 = nI (16 - nx) ∧ t 271 = nI nx ∧ t 272 = s 253 &&& 15
def hr_ln (s t : Nat → Int32) : Prop := t 308 = s 271 ∧ qa_b (s 271)
def hr_ky (s t : Nat → Int32) : Prop := t 310 = s 391 ∧ qa_B (s 391)
def hr_sh (s t : Nat → Int32) : Prop := ∀ p, p < 96 → t (416 + p) = s (392 + p)
def hr_pic (s t : Nat → Int32) (n : Nat) : Prop := ∀ p, p < n → t (320 + p) = s (295 + p)
/-- a sprite that is taken, at place i of the line ly; fe: fetched -/
def hr_sp (s t : Nat → Int32) (ly i fe : Nat) : Prop :=
  ∃ w r x : Nat, w < 4 ∧ r ≤ 3 ∧ r ≤ ly ∧ x < 256 ∧ s (283 + i) = nI w ∧ t (279 + i) = nI w ∧ s (285 + i) = nI r ∧ t (283 + i) = nI (ly - r) ∧ s (287 + i) = nI x ∧ t (281 + i) = nI x ∧ s (289 + i) = nI fe ∧ t (285 + i) = nI fe ∧
  (fe = 1 → ∃ lk b : Nat, lk < 256 ∧ b < 256 ∧ s (293 + i) = nI lk ∧ t (287 + i) = nI lk ∧ s (291 + i) = nI b ∧ ∀ k, k < 4 → t (289 + 4 * i + k) = nI (b / 4 ^ (3 - k) % 4))
/-- the strip that is being shown -/
def hr_st (s t : Nat → Int32) (le : Nat) : Prop := 0 < le → ∃ b : Nat, b < 256 ∧ s 277 = nI b ∧ ∀ k, k < 4 → t (300 + k) = nI (b / 4 ^ (3 - k) % 4)
/-- while a line is drawn: q bounds the dots that are left, e the strips -/
def hr_de (s t : Nat → Int32) (ly d wl f0 f1 q e x dp pa le nx he : Nat) : Prop :=
  x ≤ 12 ∧ dp ≤ 3 ∧ pa ≤ 1 ∧ le ≤ 4 ∧ nx ≤ e ∧ he ≤ 1 ∧ wl ≤ ly + he ∧ he ≤ wl ∧ (12 - x) + dp + pa + 2 * (1 - he) + 2 * (1 - f0) + 2 * (1 - f1) + d ≤ q ∧
  s 274 = nI x ∧ t 277 = nI x ∧ t 309 = nI (if x = 12 then 1 else 0) ∧ s 275 = nI dp ∧ t 297 = nI dp ∧ s 276 = nI pa ∧ t 307 = nI pa ∧ s 278 = nI le ∧ t 299 = nI (4 - le) ∧ s 279 = nI nx ∧ t 298 = nI nx ∧ s 280 = nI he ∧ t 304 = nI he ∧
  (he = 1 → t 306 = nI (wl - 1)) ∧
  hr_st s t le ∧ hr_pic s t (12 * ly + x)
def hr_dr (s t : Nat → Int32) (ly d wl f0 f1 : Nat) : Prop := ∃ x dp pa le nx he : Nat, hr_de s t ly d wl f0 f1 25 d x dp pa le nx he
def hr_bs (s t : Nat → Int32) (ly d m wl tk : Nat) : Prop := s 251 = nI ly ∧ s 272 = nI d ∧ t 275 = nI d - 1 ∧ s 273 = nI m ∧ t 276 = nI m ∧ s 281 = nI wl ∧ t 305 = nI wl ∧ s 282 = nI tk ∧ t 278 = nI tk
def hr_ss (s t : Nat → Int32) (ly tk f0 f1 : Nat) : Prop := (1 ≤ tk → hr_sp s t ly 0 f0) ∧ (2 ≤ tk → hr_sp s t ly 1 f1)
def hr_cs (s t : Nat → Int32) (ly d m wl tk f0 f1 : Nat) : Prop :=
  (d = 0 ∧ m = 0 ∧ ly = 0 ∧ wl = 0 ∧ tk = 0) ∨
  (1 ≤ d ∧ 8 ≤ ly ∧ m = 1 ∧ wl ≤ ly + 1 ∧ hr_pic s t 96) ∨
  (1 ≤ d ∧ d ≤ 4 ∧ ly ≤ 7 ∧ m = 2 ∧ wl ≤ ly ∧ t 309 = 0 ∧ s 280 = 0 ∧ t 304 = 0 ∧ hr_pic s t (12 * ly)) ∨
  (5 ≤ d ∧ ly ≤ 7 ∧ m = 3 ∧ hr_dr s t ly d wl f0 f1) ∨
  (5 ≤ d ∧ ly ≤ 7 ∧ m = 0 ∧ wl ≤ ly + 1 ∧ t 309 = 1 ∧ hr_pic s t (12 * ly + 12))
def hr_vs (s t : Nat → Int32) : Prop := ∃ ly d m wl tk f0 f1 : Nat,
  ly ≤ 11 ∧ d ≤ 28 ∧ tk ≤ 2 ∧ f0 ≤ 1 ∧ f1 ≤ 1 ∧ hr_bs s t ly d m wl tk ∧ hr_ss s t ly tk f0 f1 ∧
  (s 247 &&& 1 = 0 → d = 0) ∧ (m ≠ 3 → s 274 = 0) ∧ hr_cs s t ly d m wl tk f0 f1
def hr_Hw (s t : Nat → Int32) : Prop := hr_ce s t ∧ hr_tm s t ∧ hr_cp s t ∧ hr_ln s t ∧ hr_ky s t ∧ hr_sh s t ∧ hr_vs s t
/-! places that each part looks at -/
def hr_PX (i : Nat) : Prop := i = 247 ∨ i = 251 ∨ (272 ≤ i ∧ i < 391)
def hr_PY (i : Nat) : Prop := (275 ≤ i ∧ i < 308) ∨ i = 309 ∨ (320 ≤ i ∧ i < 416)
def hr_QX (i : Nat) : Prop := 295 ≤ i ∧ i < 391
def hr_QY (i : Nat) : Prop := 320 ≤ i ∧ i < 416
def hr_SX (i : Nat) : Prop := 283 ≤ i ∧ i < 295
def hr_SY (i : Nat) : Prop := 279 ≤ i ∧ i < 297
theorem hr_PQX : ∀ i, hr_QX i → hr_PX i := by intro i h; unfold hr_QX at h; unfold hr_PX; omega
theorem hr_PQY : ∀ i, hr_QY i → hr_PY i := by intro i h; unfold hr_QY at h; unfold hr_PY; omega
theorem hr_PSX : ∀ i, hr_SX i → hr_PX i := by intro i h; unfold hr_SX at h; unfold hr_PX; omega
theorem hr_PSY : ∀ i, hr_SY i → hr_PY i := by intro i h; unfold hr_SY at h; unfold hr_PY; omega
theorem hr_ceX {s t : Nat → Int32} {k : Nat} {v : Int32} (h : hr_ce s t) (hk : 256 ≤ k) : hr_ce (upd s k v) t := fun i hi => by
  rw [pk_un (by omega)]
  exact h i hi
theorem hr_ceY {s t : Nat → Int32} {k : Nat} {v : Int32} (h : hr_ce s t) (hk : 256 ≤ k) : hr_ce s (upd t k v) := fun i hi => by
  rw [pk_un (by omega)]
  exact h i hi
theorem hr_ceB {s t : Nat → Int32} {k : Nat} {v w : Int32} (h : hr_ce s t) (hv : qa_B v) (e : w = v) : hr_ce (upd s k v) (upd t k w) := fun i hi => by
  by_cases c : i = k
  · subst c
    rw [pk_us, pk_us]
    exact ⟨e, hv⟩
  · rw [pk_un c, pk_un c]
    exact h i hi
theorem hr_ceA {s t s' t' : Nat → Int32} (h : hr_ce s t) (hx : qa_ag (fun i => i < 256) s s') (hy : qa_ag (fun i => i < 256) t t') : hr_ce s' t' := fun i hi => by
  rw [hx i hi, hy i hi]
  exact h i hi
theorem hr_tmA {s t s' t' : Nat → Int32} (h : hr_tm s t) (hx : qa_ag (fun i => i = 266 ∨ i = 267) s s') (hy : qa_ag (fun i => i = 267 ∨ i = 268) t t') : hr_tm s' t' := by
  unfold hr_tm
  rw [hx 266 (by omega), hx 267 (by omega), hy 267 (by omega), hy 268 (by omega)]
  exact h
theorem hr_cpA {s t s' t' : Nat → Int32} (h : hr_cp s t) (hx : qa_ag (fun i => i = 253 ∨ (268 ≤ i ∧ i ≤ 270)) s s') (hy : qa_ag (fun i => 270 ≤ i ∧ i ≤ 273) t t') : hr_cp s' t' := by
  unfold hr_cp
  rw [hx 253 (by omega), hx 268 (by omega), hx 269 (by omega), hx 270 (by omega), hy 270 (by omega), hy 271 (by omega), hy 272 (by omega), hy 273 (by omega)]
  exact h
theorem hr_lnA {s t s' t' : Nat → Int32} (h : hr_ln s t) (hx : s' 271 = s 271) (hy : t' 308 = t 308) : hr_ln s' t' := by
  unfold hr_ln
  rw [hx, hy]
  exact h
theorem hr_kyA {s t s' t' : Nat → Int32} (h : hr_ky s t) (hx : s' 391 = s 391) (hy : t' 310 = t 310) : hr_ky s' t' := by
  unfold hr_ky
  rw [hx, hy]
  exact h
theorem hr_shA {s t s' t' : Nat → Int32} (h : hr_sh s t) (hx : qa_ag (fun i => 392 ≤ i) s s') (hy : qa_ag (fun i => 416 ≤ i) t t') : hr_sh s' t' := fun p hp => by
  rw [hx _ (by omega), hy _ (by omega)]
  exact h p hp
theorem hr_picA {s t s' t' : Nat → Int32} {n : Nat} (h : hr_pic s t n) (hn : n ≤ 96) (hx : qa_ag hr_QX s s') (hy : qa_ag hr_QY t t') : hr_pic s' t' n := fun p hp => by
  rw [hx _ (by unfold hr_QX; omega), hy _ (by unfold hr_QY; omega)]
  exact h p hp
theorem hr_spA {s t s' t' : Nat → Int32} {ly i fe : Nat} (h : hr_sp s t ly i fe) (hi : i < 2) (hx : qa_ag hr_SX s s') (hy : qa_ag hr_SY t t') : hr_sp s' t' ly i fe := by
  obtain ⟨w, r, x, h1, h2, h3, h4, e1, e2, e3, e4, e5, e6, e7, e8, g⟩ := h
  refine ⟨w, r, x, h1, h2, h3, h4, ?_, ?_, ?_, ?_, ?_, ?_, ?_, ?_, ?_⟩
  · rw [hx _ (by unfold hr_SX; omega)]; exact e1
  · rw [hy _ (by unfold hr_SY; omega)]; exact e2
  · rw [hx _ (by unfold hr_SX; omega)]; exact e3
  · rw [hy _ (by unfold hr_SY; omega)]; exact e4
  · rw [hx _ (by unfold hr_SX; omega)]; exact e5
  · rw [hy _ (by unfold hr_SY; omega)]; exact e6
  · rw [hx _ (by unfold hr_SX; omega)]; exact e7
  · rw [hy _ (by unfold hr_SY; omega)]; exact e8
  · intro f
    obtain ⟨lk, b, l1, l2, q1, q2, q3, q4⟩ := g f
    refine ⟨lk, b, l1, l2, ?_, ?_, ?_, ?_⟩
    · rw [hx _ (by unfold hr_SX; omega)]; exact q1
    · rw [hy _ (by unfold hr_SY; omega)]; exact q2
    · rw [hx _ (by unfold hr_SX; omega)]; exact q3
    · intro k hk
      rw [hy _ (by unfold hr_SY; omega)]
      exact q4 k hk
theorem hr_deA {s t s' t' : Nat → Int32} {ly d wl f0 f1 q e x dp pa le nx he : Nat} (h : hr_de s t ly d wl f0 f1 q e x dp pa le nx he) (hl : ly ≤ 7) (hx : qa_ag hr_PX s s') (hy : qa_ag hr_PY t t') : hr_de s' t' ly d wl f0 f1 q e x dp pa le nx he := by
  obtain ⟨a1, a2, a3, a4, a5, a6, a7, a8, a9, e1, e2, e3, e4, e5, e6, e7, e8, e9, e10, e11, e12, e13, g1, g2, g4⟩ := h
  refine ⟨a1, a2, a3, a4, a5, a6, a7, a8, a9, ?_, ?_, ?_, ?_, ?_, ?_, ?_, ?_, ?_, ?_, ?_, ?_, ?_, ?_, ?_, hr_picA g4 (by omega) (qa_agW hx hr_PQX) (qa_agW hy hr_PQY)⟩
  · rw [hx _ (by unfold hr_PX; omega)]; exact e1
  · rw [hy _ (by unfold hr_PY; omega)]; exact e2
  · rw [hy _ (by unfold hr_PY; omega)]; exact e3
  · rw [hx _ (by unfold hr_PX; omega)]; exact e4
  · rw [hy _ (by unfold hr_PY; omega)]; exact e5
  · rw [hx _ (by unfold hr_PX; omega)]; exact e6
  · rw [hy _ (by unfold hr_PY; omega)]; exact e7
  · rw [hx _ (by unfold hr_PX; omega)]; exact e8
  · rw [hy _ (by unfold hr_PY; omega)]; exact e9
  · rw [hx _ (by unfold hr_PX; omega)]; exact e10
  · rw [hy _ (by unfold hr_PY; omega)]; exact e11
  · rw [hx _ (by unfold hr_PX; omega)]; exact e12
  · rw [hy _ (by unfold hr_PY; omega)]; exact e13
  · intro f
    rw [hy _ (by unfold hr_PY; omega)]
    exact g1 f
  · intro f
    obtain ⟨b, hb, q1, q2⟩ := g2 f
    refine ⟨b, hb, ?_, ?_⟩
    · rw [hx _ (by unfold hr_PX; omega)]; exact q1
    · intro k hk
      rw [hy _ (by unfold hr_PY; omega)]
      exact q2 k hk
theorem hr_drA {s t s' t' : Nat → Int32} {ly d wl f0 f1 : Nat} (h : hr_dr s t ly d wl f0 f1) (hl : ly ≤ 7) (hx : qa_ag hr_PX s s') (hy : qa_ag hr_PY t t') : hr_dr s' t' ly d wl f0 f1 := by
  obtain ⟨x, dp, pa, le, nx, he, h⟩ := h
  exact ⟨x, dp, pa, le, nx, he, hr_deA h hl hx hy⟩
theorem hr_bsA {s t s' t' : Nat → Int32} {ly d m wl tk : Nat} (h : hr_bs s t ly d m wl tk) (hx : qa_ag (fun i => i = 251 ∨ i = 272 ∨ i = 273 ∨ i = 281 ∨ i = 282) s s') (hy : qa_ag (fun i => i = 275 ∨ i = 276 ∨ i = 305 ∨ i = 278) t t') : hr_bs s' t' ly d m wl tk := by
  unfold hr_bs
  rw [hx 251 (by omega), hx 272 (by omega), hx 273 (by omega), hx 281 (by omega), hx 282 (by omega), hy 275 (by omega), hy 276 (by omega), hy 305 (by omega), hy 278 (by omega)]
  exact h
theorem hr_ssA {s t s' t' : Nat → Int32} {ly tk f0 f1 : Nat} (h : hr_ss s t ly tk f0 f1) (hx : qa_ag hr_SX s s') (hy : qa_ag hr_SY t t') : hr_ss s' t' ly tk f0 f1 :=
  ⟨fun q => hr_spA (h.1 q) (by omega) hx hy, fun q => hr_spA (h.2 q) (by omega) hx hy⟩
theorem hr_csA {s t s' t' : Nat → Int32} {ly d m wl tk f0 f1 : Nat} (h : hr_cs s t ly d m wl tk f0 f1) (hx : qa_ag hr_PX s s') (hy : qa_ag hr_PY t t') : hr_cs s' t' ly d m wl tk f0 f1 := by
  have e1 : s' 280 = s 280 := hx _ (by unfold hr_PX; omega)
  have e2 : t' 304 = t 304 := hy _ (by unfold hr_PY; omega)
  have e3 : t' 309 = t 309 := hy _ (by unfold hr_PY; omega)
  unfold hr_cs
  rw [e1, e2, e3]
  rcases h with h | h | h | h | h
  · exact Or.inl h
  · exact Or.inr (Or.inl ⟨h.1, h.2.1, h.2.2.1, h.2.2.2.1, hr_picA h.2.2.2.2 (by omega) (qa_agW hx hr_PQX) (qa_agW hy hr_PQY)⟩)
  · obtain ⟨h1, h2, h3, h4, h5, h6, h7, h8, h9⟩ := h
    exact Or.inr (Or.inr (Or.inl ⟨h1, h2, h3, h4, h5, h6, h7, h8, hr_picA h9 (by omega) (qa_agW hx hr_PQX) (qa_agW hy hr_PQY)⟩))
  · obtain ⟨h1, h2, h3, h4⟩ := h
    exact Or.inr (Or.inr (Or.inr (Or.inl ⟨h1, h2, h3, hr_drA h4 h2 hx hy⟩)))
  · obtain ⟨h1, h2, h3, h4, h5, h6⟩ := h
    exact Or.inr (Or.inr (Or.inr (Or.inr ⟨h1, h2, h3, h4, h5, hr_picA h6 (by omega) (qa_agW hx hr_PQX) (qa_agW hy hr_PQY)⟩)))
theorem hr_vsA {s t s' t' : Nat → Int32} (h : hr_vs s t) (hx : qa_ag hr_PX s s') (hy : qa_ag hr_PY t t') : hr_vs s' t' := by
  obtain ⟨ly, d, m, wl, tk, f0, f1, b1, b2, b3, b4, b5, e, p, o, z, c⟩ := h
  refine ⟨ly, d, m, wl, tk, f0, f1, b1, b2, b3, b4, b5, hr_bsA e (qa_agW hx ?_) (qa_agW hy ?_), hr_ssA p (qa_agW hx hr_PSX) (qa_agW hy hr_PSY), ?_, ?_, hr_csA c hx hy⟩
  · intro i h
    unfold hr_PX
    omega
  · intro i h
    unfold hr_PY
    omega
  · rw [hx 247 (by unfold hr_PX; omega)]; exact o
  · rw [hx 274 (by unfold hr_PX; omega)]; exact z
/-! the parts that a turn leaves alone -/
theorem hr_HwA {s t s' t' : Nat → Int32} (H : hr_Hw s t) (hx : qa_ag (fun i => i < 256 ∨ 266 ≤ i) s s') (hy : qa_ag (fun i => i < 256 ∨ (267 ≤ i ∧ i ≠ 269 ∧ i ≠ 274)) t t') : hr_Hw s' t' := by
  obtain ⟨h1, h2, h3, h4, h5, h6, h7⟩ := H
  refine ⟨hr_ceA h1 (qa_agW hx ?_) (qa_agW hy ?_), hr_tmA h2 (qa_agW hx ?_) (qa_agW hy ?_), hr_cpA h3 (qa_agW hx ?_) (qa_agW hy ?_), hr_lnA h4 (hx _ ?_) (hy _ ?_), hr_kyA h5 (hx _ ?_) (hy _ ?_), hr_shA h6 (qa_agW hx ?_) (qa_agW hy ?_), hr_vsA h7 (qa_agW hx ?_) (qa_agW hy ?_)⟩ <;> (try unfold hr_PX) <;> (try unfold hr_PY) <;> omega
theorem hr_HwT {s t s' t' : Nat → Int32} (H : hr_Hw s t) (c : hr_ce s' t') (m : hr_tm s' t') (hx : qa_ag (fun i => i = 247 ∨ i = 251 ∨ i = 253 ∨ 268 ≤ i) s s') (hy : qa_ag (fun i => 270 ≤ i ∧ i ≠ 274) t t') : hr_Hw s' t' := by
  obtain ⟨h1, h2, h3, h4, h5, h6, h7⟩ := H
  refine ⟨c, m, hr_cpA h3 (qa_agW hx ?_) (qa_agW hy ?_), hr_lnA h4 (hx _ ?_) (hy _ ?_), hr_kyA h5 (hx _ ?_) (hy _ ?_), hr_shA h6 (qa_agW hx ?_) (qa_agW hy ?_), hr_vsA h7 (qa_agW hx ?_) (qa_agW hy ?_)⟩ <;> (try unfold hr_PX) <;> (try unfold hr_PY) <;> omega
theorem hr_HwC {s t s' t' : Nat → Int32} (H : hr_Hw s t) (c : hr_ce s' t') (p : hr_cp s' t') (hx : qa_ag (fun i => i = 247 ∨ i = 251 ∨ i = 266 ∨ i = 267 ∨ 271 ≤ i) s s') (hy : qa_ag (fun i => i = 267 ∨ i = 268 ∨ 275 ≤ i) t t') : hr_Hw s' t' := by
  obtain ⟨h1, h2, h3, h4, h5, h6, h7⟩ := H
  refine ⟨c, hr_tmA h2 (qa_agW hx ?_) (qa_agW hy ?_), p, hr_lnA h4 (hx _ ?_) (hy _ ?_), hr_kyA h5 (hx _ ?_) (hy _ ?_), hr_shA h6 (qa_agW hx ?_) (qa_agW hy ?_), hr_vsA h7 (qa_agW hx ?_) (qa_agW hy ?_)⟩ <;> (try unfold hr_PX) <;> (try unfold hr_PY) <;> omega
theorem hr_HwV {s t s' t' : Nat → Int32} (H : hr_Hw s t) (c : hr_ce s' t') (l : hr_ln s' t') (w : hr_sh s' t') (v : hr_vs s' t') (hx : qa_ag (fun i => i = 253 ∨ (266 ≤ i ∧ i ≤ 270) ∨ i = 391) s s') (hy : qa_ag (fun i => (267 ≤ i ∧ i ≤ 273 ∧ i ≠ 269) ∨ i = 310) t t') : hr_Hw s' t' := by
  obtain ⟨h1, h2, h3, h4, h5, h6, h7⟩ := H
  refine ⟨c, hr_tmA h2 (qa_agW hx ?_) (qa_agW hy ?_), hr_cpA h3 (qa_agW hx ?_) (qa_agW hy ?_), l, hr_kyA h5 (hx _ ?_) (hy _ ?_), w, v⟩ <;> omega
/-! the registers of the processor: what a turn of the hardware leaves alone -/
def hr_FX (i : Nat) : Prop := 256 ≤ i ∧ i < 266
def hr_FY (i : Nat) : Prop := 256 ≤ i ∧ i < 267
end
section
/-! what each dot does to the picture's state, on both sides -/
theorem hr_picX {s t : Nat → Int32} {n k : Nat} {v : Int32} (h : hr_pic s t n) (hn : n ≤ 96) (hk : k < 295 ∨ 391 ≤ k) : hr_pic (upd s k v) t n := fun p hp => by
  rw [pk_un (by omega)]
  exact h p hp
theorem hr_picY {s t : Nat → Int32} {n k : Nat} {v : Int32} (h : hr_pic s t n) (hn : n ≤ 96) (hk : k < 320 ∨ 416 ≤ k) : hr_pic s (upd t k v) n := fun p hp => by
  rw [pk_un (by omega)]
  exact h p hp
theorem hr_picS {s t : Nat → Int32} {n : Nat} {v : Int32} (h : hr_pic s t n) : hr_pic (upd s (295 + n) v) (upd t (320 + n) v) (n + 1) := fun p hp => by
  by_cases c : p = n
  · subst c
    rw [pk_us, pk_us]
  · rw [pk_un (by omega), pk_un (by omega)]
    exact h p (by omega)
theorem hr_picL {s t : Nat → Int32} {n m : Nat} (h : hr_pic s t n) (hm : m ≤ n) : hr_pic s t m := fun p hp => h p (by omega)
theorem hr_stX {s t : Nat → Int32} {le k : Nat} {v : Int32} (h : hr_st s t le) (hk : k ≠ 277) : hr_st (upd s k v) t le := fun f => by
  obtain ⟨b, hb, q1, q2⟩ := h f
  exact ⟨b, hb, by rw [pk_un (fun z => hk z.symm)]; exact q1, q2⟩
theorem hr_stY {s t : Nat → Int32} {le k : Nat} {v : Int32} (h : hr_st s t le) (hk : k < 300 ∨ 304 ≤ k) : hr_st s (upd t k v) le := fun f => by
  obtain ⟨b, hb, q1, q2⟩ := h f
  exact ⟨b, hb, q1, fun j hj => by rw [pk_un (by omega)]; exact q2 j hj⟩
theorem hr_stL {s t : Nat → Int32} {le le' : Nat} (h : hr_st s t le) (hk : 0 < le' → 0 < le) : hr_st s t le' := fun f => h (hk f)
theorem hr_a1 {s t : Nat → Int32} {ly d wl f0 f1 q e x dp le nx he : Nat} (h : hr_de s t ly d wl f0 f1 (q + 1) e x dp 1 le nx he) (hl : ly ≤ 7) : hr_de (upd s 276 0) (upd t 307 0) ly d wl f0 f1 q e x dp 0 le nx he := by
  obtain ⟨a1, a2, a3, a4, a5, a6, a7, a8, a9, e1, e2, e3, e4, e5, e6, e7, e8, e9, e10, e11, e12, e13, g1, g2, g4⟩ := h
  exact ⟨a1, a2, by omega, a4, a5, a6, a7, a8, by omega, e1, e2, e3, e4, e5, rfl, rfl, e8, e9, e10, e11, e12, e13, g1, hr_stX (hr_stY g2 (by omega)) (by omega), hr_picX (hr_picY g4 (by omega) (by omega)) (by omega) (by omega)⟩
theorem hr_a2 {s t : Nat → Int32} {ly d wl f0 f1 q e x dp le nx : Nat} {v w r : Int32} (h : hr_de s t ly d wl f0 f1 (q + 1) e x dp 0 le nx 0) (hl : ly ≤ 7) (hv : v = nI (wl + 1)) (hw : w = nI (wl + 1)) (hr : r = nI wl) :
    hr_de (upd (upd (upd (upd (upd (upd s 280 1) 281 v) 278 0) 279 0) 275 0) 276 1) (upd (upd (upd (upd (upd (upd (upd t 304 1) 306 r) 305 w) 298 0) 299 4) 297 0) 307 1) ly d (wl + 1) f0 f1 q e x 0 1 0 0 1 := by
  obtain ⟨a1, a2, a3, a4, a5, a6, a7, a8, a9, e1, e2, e3, e4, e5, e6, e7, e8, e9, e10, e11, e12, e13, g1, g2, g4⟩ := h
  refine ⟨a1, by omega, by omega, by omega, by omega, by omega, by omega, by omega, by omega, e1, e2, e3, rfl, rfl, rfl, rfl, rfl, rfl, rfl, rfl, rfl, rfl, fun _ => hr, fun z => absurd z (by omega), ?_⟩
  have hn : 12 * ly + x ≤ 96 := by omega
  iterate 6 refine hr_picX ?_ hn (by omega)
  iterate 7 refine hr_picY ?_ hn (by omega)
  exact g4
theorem hr_a2b {s t : Nat → Int32} {ly d m wl tk : Nat} {v w r : Int32} (h : hr_bs s t ly d m wl tk) (hv : v = nI (wl + 1)) (hw : w = nI (wl + 1)) :
    hr_bs (upd (upd (upd (upd (upd (upd s 280 1) 281 v) 278 0) 279 0) 275 0) 276 1) (upd (upd (upd (upd (upd (upd (upd t 304 1) 306 r) 305 w) 298 0) 299 4) 297 0) 307 1) ly d m (wl + 1) tk := by
  obtain ⟨h1, h2, h3, h4, h5, h6, h7, h8, h9⟩ := h
  exact ⟨h1, h2, h3, h4, h5, hv, hw, h8, h9⟩
/-- a strip is fetched -/
theorem hr_a4 {s t t' : Nat → Int32} {ly d wl f0 f1 q e x dp pa nx he b : Nat} {v1 v3 w1 : Int32} (h : hr_de s t ly d wl f0 f1 q e x dp pa 0 nx he) (hl : ly ≤ 7) (hb : b < 256) (h1 : v1 = nI b) (h3 : v3 = nI (nx + 1)) (k1 : w1 = nI (nx + 1)) (hf : ∀ k, k < 4 → t' (300 + k) = nI (b / 4 ^ (3 - k) % 4)) (ha : qa_ag (fun i => i < 300 ∨ 304 ≤ i) t t') :
    hr_de (upd (upd (upd s 277 v1) 278 4) 279 v3) (upd (upd t' 298 w1) 299 0) ly d wl f0 f1 q (e + 1) x dp pa 4 (nx + 1) he := by
  obtain ⟨a1, a2, a3, a4, a5, a6, a7, a8, a9, e1, e2, e3, e4, e5, e6, e7, e8, e9, e10, e11, e12, e13, g1, g2, g4⟩ := h
  have hn : 12 * ly + x ≤ 96 := by omega
  refine ⟨a1, a2, a3, by omega, by omega, a6, a7, a8, a9, e1, (ha 277 (by omega)).trans e2, (ha 309 (by omega)).trans e3, e4, (ha 297 (by omega)).trans e5, e6, (ha 307 (by omega)).trans e7, rfl, rfl, h3, k1, e12, (ha 304 (by omega)).trans e13, fun z => (ha 306 (by omega)).trans (g1 z), fun _ => ⟨b, hb, h1, ?_⟩, ?_⟩
  · intro k hk
    rw [pk_un (by omega), pk_un (by omega)]
    exact hf k hk
  · iterate 3 refine hr_picX ?_ hn (by omega)
    iterate 2 refine hr_picY ?_ hn (by omega)
    intro p hp
    rw [ha _ (by omega)]
    exact g4 p hp
/-- a pixel is dropped -/
theorem hr_a5 {s t : Nat → Int32} {ly d wl f0 f1 q e x dp pa le nx he : Nat} {v1 v2 w1 w2 : Int32} (h : hr_de s t ly d wl f0 f1 (q + 1) e x (dp + 1) pa (le + 1) nx he) (hl : ly ≤ 7) (h1 : v1 = nI le) (h2 : v2 = nI dp) (k1 : w1 = nI dp) (k2 : w2 = nI (4 - le)) :
    hr_de (upd (upd s 278 v1) 275 v2) (upd (upd t 297 w1) 299 w2) ly d wl f0 f1 q e x dp pa le nx he := by
  obtain ⟨a1, a2, a3, a4, a5, a6, a7, a8, a9, e1, e2, e3, e4, e5, e6, e7, e8, e9, e10, e11, e12, e13, g1, g2, g4⟩ := h
  have hn : 12 * ly + x ≤ 96 := by omega
  refine ⟨a1, by omega, a3, by omega, a5, a6, a7, a8, by omega, e1, e2, e3, h2, k1, e6, e7, h1, k2, e10, e11, e12, e13, g1, hr_stX (hr_stX (hr_stY (hr_stY (hr_stL g2 (by omega)) (by omega)) (by omega)) (by omega)) (by omega), ?_⟩
  iterate 2 refine hr_picX ?_ hn (by omega)
  iterate 2 refine hr_picY ?_ hn (by omega)
  exact g4
/-- a pixel is drawn: not the last one of its line -/
theorem hr_a6 {s t : Nat → Int32} {ly d wl f0 f1 q e x pa le nx he : Nat} {v1 v3 w1 w3 c : Int32} (h : hr_de s t ly d wl f0 f1 (q + 1) e x 0 pa (le + 1) nx he) (hl : ly ≤ 7) (hx : x < 11) (h1 : v1 = nI le) (h3 : v3 = nI (x + 1)) (k1 : w1 = nI (4 - le)) (k3 : w3 = nI (x + 1)) :
    hr_de (upd (upd (upd s 278 v1) (295 + (12 * ly + x)) c) 274 v3) (upd (upd (upd t 299 w1) (320 + (12 * ly + x)) c) 277 w3) ly d wl f0 f1 q e (x + 1) 0 pa le nx he := by
  obtain ⟨a1, a2, a3, a4, a5, a6, a7, a8, a9, e1, e2, e3, e4, e5, e6, e7, e8, e9, e10, e11, e12, e13, g1, g2, g4⟩ := h
  have hn : 12 * ly + x ≤ 95 := by omega
  have ux : ∀ j v, j < 295 → upd (upd s 278 v) (295 + (12 * ly + x)) c j = upd s 278 v j := fun j v hj => pk_un (by omega)
  have uy : ∀ j v, j < 320 → upd (upd t 299 v) (320 + (12 * ly + x)) c j = upd t 299 v j := fun j v hj => pk_un (by omega)
  refine ⟨by omega, by omega, a3, by omega, a5, a6, a7, a8, by omega, h3, k3, ?_, (ux 275 _ (by omega)).trans e4, (uy 297 _ (by omega)).trans e5, (ux 276 _ (by omega)).trans e6, (uy 307 _ (by omega)).trans e7, (ux 278 _ (by omega)).trans h1, (uy 299 _ (by omega)).trans k1, (ux 279 _ (by omega)).trans e10, (uy 298 _ (by omega)).trans e11, (ux 280 _ (by omega)).trans e12, (uy 304 _ (by omega)).trans e13, fun z => (uy 306 _ (by omega)).trans (g1 z), ?_, ?_⟩
  · rw [if_neg (by omega)] at e3 ⊢
    exact (uy 309 _ (by omega)).trans e3
  · exact hr_stX (hr_stY (hr_stX (hr_stY (hr_stX (hr_stY (hr_stL g2 (by omega)) (by omega)) (by omega)) (by omega)) (by omega)) (by omega)) (by omega)
  · rw [show 12 * ly + (x + 1) = (12 * ly + x) + 1 by omega]
    refine hr_picX (hr_picY (hr_picS ?_) (by omega) (by omega)) (by omega) (by omega)
    exact hr_picX (hr_picY g4 (by omega) (by omega)) (by omega) (by omega)
/-- the last pixel of its line is drawn -/
theorem hr_a7 {s t : Nat → Int32} {ly d wl f0 f1 q e pa le nx he : Nat} {v1 v3 w1 w3 c : Int32} (h : hr_de s t ly d wl f0 f1 (q + 1) e 11 0 pa (le + 1) nx he) (hl : ly ≤ 7) (h1 : v1 = nI le) (h3 : v3 = nI 12) (k1 : w1 = nI (4 - le)) (k3 : w3 = nI 12) :
    hr_de (upd (upd (upd s 278 v1) (295 + (12 * ly + 11)) c) 274 v3) (upd (upd (upd (upd t 299 w1) (320 + (12 * ly + 11)) c) 277 w3) 309 1) ly d wl f0 f1 q e 12 0 pa le nx he := by
  obtain ⟨a1, a2, a3, a4, a5, a6, a7, a8, a9, e1, e2, e3, e4, e5, e6, e7, e8, e9, e10, e11, e12, e13, g1, g2, g4⟩ := h
  have hn : 12 * ly + 11 ≤ 95 := by omega
  have ux : ∀ j v, j < 295 → upd (upd s 278 v) (295 + (12 * ly + 11)) c j = upd s 278 v j := fun j v hj => pk_un (by omega)
  have uy : ∀ j v, j < 320 → upd (upd t 299 v) (320 + (12 * ly + 11)) c j = upd t 299 v j := fun j v hj => pk_un (by omega)
  refine ⟨by omega, by omega, a3, by omega, a5, a6, a7, a8, by omega, h3, k3, rfl, (ux 275 _ (by omega)).trans e4, (uy 297 _ (by omega)).trans e5, (ux 276 _ (by omega)).trans e6, (uy 307 _ (by omega)).trans e7, (ux 278 _ (by omega)).trans h1, (uy 299 _ (by omega)).trans k1, (ux 279 _ (by omega)).trans e10, (uy 298 _ (by omega)).trans e11, (ux 280 _ (by omega)).trans e12, (uy 304 _ (by omega)).trans e13, fun z => (uy 306 _ (by omega)).trans (g1 z), ?_, ?_⟩
  · exact hr_stY (hr_stX (hr_stY (hr_stX (hr_stY (hr_stX (hr_stY (hr_stL g2 (by omega)) (by omega)) (by omega)) (by omega)) (by omega)) (by omega)) (by omega)) (by omega)
  · rw [show 12 * ly + 12 = (12 * ly + 11) + 1 by omega]
    refine hr_picY (hr_picX (hr_picY (hr_picS ?_) (by omega) (by omega)) (by omega) (by omega)) (by omega) (by omega)
    exact hr_picX (hr_picY g4 (by omega) (by omega)) (by omega) (by omega)
/-- drawing begins -/
theorem hr_a8 {s t : Nat → Int32} {ly wl f0 f1 dp : Nat} {v w : Int32} (hl : ly ≤ 7) (hw : wl ≤ ly) (e12 : s 280 = 0) (e13 : t 304 = 0) (e3 : t 309 = 0) (g4 : hr_pic s t (12 * ly)) (hd : dp ≤ 3) (hv : v = nI dp) (hw : w = nI dp) :
    hr_de (upd (upd (upd (upd (upd (upd s 273 3) 274 0) 275 v) 276 0) 278 0) 279 0) (upd (upd (upd (upd (upd (upd t 276 3) 277 0) 307 0) 298 0) 299 4) 297 w) ly 5 wl f0 f1 26 4 0 dp 0 0 0 0 := by
  have hn : 12 * ly ≤ 96 := by omega
  refine ⟨by omega, hd, by omega, by omega, by omega, by omega, by omega, by omega, by omega, rfl, rfl, e3, hv, hw, rfl, rfl, rfl, rfl, rfl, rfl, e12, e13, fun z => absurd z (by omega), fun z => absurd z (by omega), ?_⟩
  iterate 6 refine hr_picX ?_ hn (by omega)
  iterate 6 refine hr_picY ?_ hn (by omega)
  exact g4
/-! sprites: taken, fetched -/
def hr_SXi (i j : Nat) : Prop := j = 283 + i ∨ j = 285 + i ∨ j = 287 + i ∨ j = 289 + i ∨ j = 291 + i ∨ j = 293 + i
def hr_SYi (i j : Nat) : Prop := j = 279 + i ∨ j = 281 + i ∨ j = 283 + i ∨ j = 285 + i ∨ j = 287 + i ∨ (289 + 4 * i ≤ j ∧ j < 293 + 4 * i)
theorem hr_spB {s t s' t' : Nat → Int32} {ly i fe : Nat} (h : hr_sp s t ly i fe) (hx : qa_ag (hr_SXi i) s s') (hy : qa_ag (hr_SYi i) t t') : hr_sp s' t' ly i fe := by
  obtain ⟨w, r, x, h1, h2, h3, h4, e1, e2, e3, e4, e5, e6, e7, e8, g⟩ := h
  refine ⟨w, r, x, h1, h2, h3, h4, ?_, ?_, ?_, ?_, ?_, ?_, ?_, ?_, ?_⟩
  · rw [hx _ (by unfold hr_SXi; omega)]; exact e1
  · rw [hy _ (by unfold hr_SYi; omega)]; exact e2
  · rw [hx _ (by unfold hr_SXi; omega)]; exact e3
  · rw [hy _ (by unfold hr_SYi; omega)]; exact e4
  · rw [hx _ (by unfold hr_SXi; omega)]; exact e5
  · rw [hy _ (by unfold hr_SYi; omega)]; exact e6
  · rw [hx _ (by unfold hr_SXi; omega)]; exact e7
  · rw [hy _ (by unfold hr_SYi; omega)]; exact e8
  · intro f
    obtain ⟨lk, b, l1, l2, q1, q2, q3, q4⟩ := g f
    refine ⟨lk, b, l1, l2, ?_, ?_, ?_, ?_⟩
    · rw [hx _ (by unfold hr_SXi; omega)]; exact q1
    · rw [hy _ (by unfold hr_SYi; omega)]; exact q2
    · rw [hx _ (by unfold hr_SXi; omega)]; exact q3
    · intro k hk
      rw [hy _ (by unfold hr_SYi; omega)]
      exact q4 k hk
/-- a sprite is taken at place 0 -/
theorem hr_tk0 {s t : Nat → Int32} {ly f0 f1 w r x : Nat} {a b c v a' c' y' v' : Int32} (h : hr_ss s t ly 0 f0 f1) (hw : w < 4) (hr : r ≤ 3) (hl : r ≤ ly) (hx : x < 256) (h1 : a = nI w) (h2 : a' = nI w) (h3 : b = nI r) (h4 : y' = nI (ly - r)) (h5 : c = nI x) (h6 : c' = nI x) :
    hr_ss (upd (upd (upd (upd (upd s 283 a) 285 b) 287 c) 289 0) 282 v) (upd (upd (upd (upd (upd t 279 a') 281 c') 283 y') 285 0) 278 v') ly 1 0 f1 := by
  refine ⟨fun _ => ⟨w, r, x, hw, hr, hl, hx, h1, h2, h3, h4, h5, h6, rfl, rfl, fun z => absurd z (by omega)⟩, fun z => absurd z (by omega)⟩
/-- a sprite is taken at place 1 -/
theorem hr_tk1 {s t : Nat → Int32} {ly f0 f1 w r x : Nat} {a b c v a' c' y' v' : Int32} (h : hr_ss s t ly 1 f0 f1) (hw : w < 4) (hr : r ≤ 3) (hl : r ≤ ly) (hx : x < 256) (h1 : a = nI w) (h2 : a' = nI w) (h3 : b = nI r) (h4 : y' = nI (ly - r)) (h5 : c = nI x) (h6 : c' = nI x) :
    hr_ss (upd (upd (upd (upd (upd s 284 a) 286 b) 288 c) 290 0) 282 v) (upd (upd (upd (upd (upd t 280 a') 282 c') 284 y') 286 0) 278 v') ly 2 f0 0 := by
  refine ⟨fun _ => hr_spB (h.1 (by omega)) ?_ ?_, fun _ => ⟨w, r, x, hw, hr, hl, hx, h1, h2, h3, h4, h5, h6, rfl, rfl, fun z => absurd z (by omega)⟩⟩
  · intro j hj
    unfold hr_SXi at hj
    simp only [upd]
    repeat rw [if_neg (by omega)]
  · intro j hj
    unfold hr_SYi at hj
    simp only [upd]
    repeat rw [if_neg (by omega)]
/-- the sprite at place 0 is fetched -/
theorem hr_fs0 {s t t' : Nat → Int32} {ly tk f0 f1 lk b : Nat} {v1 v2 w2 : Int32} (h : hr_ss s t ly tk 0 f1) (hk : 1 ≤ tk) (hb : b < 256) (hl : lk < 256) (h1 : v1 = nI b) (h2 : v2 = nI lk) (h3 : w2 = nI lk) (hf : ∀ k, k < 4 → t' (289 + k) = nI (b / 4 ^ (3 - k) % 4)) (ha : qa_ag (fun j => j < 289 ∨ 293 ≤ j) t t') :
    hr_ss (upd (upd (upd (upd s 289 1) 291 v1) 293 v2) 276 1) (upd (upd (upd t' 287 w2) 285 1) 307 1) ly tk 1 f1 := by
  refine ⟨fun _ => ?_, fun z => ?_⟩
  · obtain ⟨w, r, x, b1, b2, b3, b4, e1, e2, e3, e4, e5, e6, e7, e8, g⟩ := h.1 (by omega)
    refine ⟨w, r, x, b1, b2, b3, b4, e1, (ha _ (by omega)).trans e2, e3, (ha _ (by omega)).trans e4, e5, (ha _ (by omega)).trans e6, rfl, rfl, fun _ => ⟨lk, b, hl, hb, h2, h3, h1, ?_⟩⟩
    intro k hk
    rw [pk_un (by omega), pk_un (by omega), pk_un (by omega)]
    exact hf k hk
  · refine hr_spB (h.2 z) ?_ ?_
    · intro j hj
      unfold hr_SXi at hj
      simp only [upd]
      repeat rw [if_neg (by omega)]
    · intro j hj
      unfold hr_SYi at hj
      simp only [upd]
      repeat rw [if_neg (by omega)]
      exact ha j (by omega)
/-- the sprite at place 1 is fetched -/
theorem hr_fs1 {s t t' : Nat → Int32} {ly tk f0 f1 lk b : Nat} {v1 v2 w2 : Int32} (h : hr_ss s t ly tk f0 0) (hk : 2 ≤ tk) (hb : b < 256) (hl : lk < 256) (h1 : v1 = nI b) (h2 : v2 = nI lk) (h3 : w2 = nI lk) (hf : ∀ k, k < 4 → t' (293 + k) = nI (b / 4 ^ (3 - k) % 4)) (ha : qa_ag (fun j => j < 293 ∨ 297 ≤ j) t t') :
    hr_ss (upd (upd (upd (upd s 290 1) 292 v1) 294 v2) 276 1) (upd (upd (upd t' 288 w2) 286 1) 307 1) ly tk f0 1 := by
  refine ⟨fun z => ?_, fun _ => ?_⟩
  · refine hr_spB (h.1 z) ?_ ?_
    · intro j hj
      unfold hr_SXi at hj
      simp only [upd]
      repeat rw [if_neg (by omega)]
    · intro j hj
      unfold hr_SYi at hj
      simp only [upd]
      repeat rw [if_neg (by omega)]
      exact ha j (by omega)
  · obtain ⟨w, r, x, b1, b2, b3, b4, e1, e2, e3, e4, e5, e6, e7, e8, g⟩ := h.2 (by omega)
    refine ⟨w, r, x, b1, b2, b3, b4, e1, (ha _ (by omega)).trans e2, e3, (ha _ (by omega)).trans e4, e5, (ha _ (by omega)).trans e6, rfl, rfl, fun _ => ⟨lk, b, hl, hb, h2, h3, h1, ?_⟩⟩
    intro k hk
    rw [pk_un (by omega), pk_un (by omega), pk_un (by omega)]
    exact hf k hk
/-- a fetch of a sprite, as the rest sees it -/
theorem hr_a3 {s t s' t' : Nat → Int32} {ly d wl f0 f1 g0 g1 q e x dp le nx he : Nat} (h : hr_de s t ly d wl f0 f1 (q + 1) e x dp 0 le nx he) (hl : ly ≤ 7) (hx : qa_ag (fun i => i = 274 ∨ i = 275 ∨ (277 ≤ i ∧ i ≤ 280) ∨ (295 ≤ i ∧ i < 391)) s s') (h6 : s' 276 = 1) (hy : qa_ag (fun i => i = 277 ∨ (297 ≤ i ∧ i ≤ 306) ∨ i = 309 ∨ (320 ≤ i ∧ i < 416)) t t') (h7 : t' 307 = 1) (hf : 2 * (1 - g0) + 2 * (1 - g1) + 2 ≤ 2 * (1 - f0) + 2 * (1 - f1)) : hr_de s' t' ly d wl g0 g1 q e x dp 1 le nx he := by
  obtain ⟨a1, a2, a3, a4, a5, a6, a7, a8, a9, e1, e2, e3, e4, e5, e6, e7, e8, e9, e10, e11, e12, e13, g1, g2, g4⟩ := h
  refine ⟨a1, a2, by omega, a4, a5, a6, a7, a8, by omega, (hx _ (by omega)).trans e1, (hy _ (by omega)).trans e2, (hy _ (by omega)).trans e3, (hx _ (by omega)).trans e4, (hy _ (by omega)).trans e5, h6, h7, (hx _ (by omega)).trans e8, (hy _ (by omega)).trans e9, (hx _ (by omega)).trans e10, (hy _ (by omega)).trans e11, (hx _ (by omega)).trans e12, (hy _ (by omega)).trans e13, fun z => (hy _ (by omega)).trans (g1 z), ?_, ?_⟩
  · intro f
    obtain ⟨b, hb, q1, q2⟩ := g2 f
    exact ⟨b, hb, (hx _ (by omega)).trans q1, fun k hk => (hy _ (by omega)).trans (q2 k hk)⟩
  · intro p hp
    rw [hx _ (by omega), hy _ (by omega)]
    exact g4 p hp
end
section
/-! pixels out of bytes -/
theorem qa_px {b k : Nat} (hb : b < 256) (hk : k < 4) : (nI b >>> (nI (2 * k) &&& 31)) &&& 3 = nI (b / 4 ^ k % 4) := by
  have h : k = 0 ∨ k = 1 ∨ k = 2 ∨ k = 3 := by omega
  rcases h with rfl | rfl | rfl | rfl
  · rw [pk_shrN (by omega) (nI (2 * 0) &&& 31) 0 (by decide), pk_andN (by omega) 2 (by decide)]
  · rw [pk_shrN (by omega) (nI (2 * 1) &&& 31) 2 (by decide), pk_andN (by omega) 2 (by decide)]
  · rw [pk_shrN (by omega) (nI (2 * 2) &&& 31) 4 (by decide), pk_andN (by omega) 2 (by decide)]
  · rw [pk_shrN (by omega) (nI (2 * 3) &&& 31) 6 (by decide), pk_andN (by omega) 2 (by decide)]
def qa_rv (b : Nat) : Nat := b % 4 * 64 + b / 4 % 4 * 16 + b / 16 % 4 * 4 + b / 64
theorem qa_rvX : ∀ b, b < 256 → ((((nI b &&& 3) <<< ((6 : Int32) &&& 31)) ||| ((nI b &&& 12) <<< ((2 : Int32) &&& 31))) ||| ((nI b >>> ((2 : Int32) &&& 31)) &&& 12)) ||| (nI b >>> ((6 : Int32) &&& 31)) = nI (qa_rv b) := by decide +kernel
theorem qa_rvB {b : Nat} (h : b < 256) : qa_rv b < 256 := by unfold qa_rv; omega
theorem qa_rvT : ∀ b, b < 256 → ∀ k, k < 4 → qa_rv b / 4 ^ (3 - k) % 4 = b / 4 ^ k % 4 := by decide +kernel
theorem qa_rvK {b k : Nat} (hb : b < 256) (hk : k < 4) : qa_rv b / 4 ^ (3 - k) % 4 = b / 4 ^ k % 4 := qa_rvT b hb k hk
/-! the pad -/
theorem qa_pad0 : ∀ k, k < 256 → ((0 ||| (nI k &&& 15)) ^^^ (-1)) &&& 15 = 15 &&& ((nI k ||| 0) ^^^ (-1)) := by decide +kernel
/-! reckoning -/
theorem qa_dec : ∀ b, b < 256 → (nI b - 1) &&& 255 = (nI b + 255) &&& 255 := by decide +kernel
theorem qa_and255 {n : Nat} (h : n < 256) : nI n &&& 255 = nI n := by
  rw [pk_andN (by omega) 8 (by decide), Nat.mod_eq_of_lt h]
theorem qa_c8 {n : Nat} (h : n < 512) : nI n >>> ((8 : Int32) &&& 31) = if 255 < nI n then 1 else 0 := by
  rw [pk_shrN (by omega) _ 8 (by decide)]
  by_cases c : 255 < n
  · have z : (255 : Int32) < nI n := nI_lt (a := 255) c (by omega)
    rw [if_pos z, show n / 2 ^ 8 = 1 by omega]
    rfl
  · have z : ¬ (255 : Int32) < nI n := nI_nlt (b := n) (a := 255) (by omega) (by omega)
    rw [if_neg z, show n / 2 ^ 8 = 0 by omega]
    rfl
end
section
/-! the processor's registers -/
def hr_ht (s t : Nat → Int32) : Prop := (s 265 = 0 ∧ t 265 = 0 ∧ t 266 = 0) ∨ (s 265 = 1 ∧ t 265 = 1 ∧ t 266 = 0) ∨ (s 265 = 2 ∧ t 265 = 0 ∧ t 266 = 1 ∧ s 263 = 0)
def hr_cpu (s t : Nat → Int32) : Prop := t 256 = s 256 ∧ t 257 = s 257 ∧ t 258 = s 258 ∧ t 259 = s 259 ∧ t 260 = s 260 ∧ t 261 = s 261 ∧ t 262 = s 262 ∧ t 263 = s 263 ∧ t 264 = s 264 ∧ qa_B (s 256) ∧ qa_B (s 257) ∧ qa_B (s 258) ∧ qa_B (s 259) ∧ qa_B (s 260) ∧ qa_b (s 261) ∧ qa_b (s 262) ∧ qa_b (s 263) ∧ qa_b (s 264) ∧ hr_ht s t
theorem hr_cpuA {s t s' t' : Nat → Int32} (h : hr_cpu s t) (hx : qa_ag hr_FX s s') (hy : qa_ag hr_FY t t') : hr_cpu s' t' := by
  unfold hr_cpu hr_ht
  rw [hx 256 (by unfold hr_FX; omega), hx 257 (by unfold hr_FX; omega), hx 258 (by unfold hr_FX; omega), hx 259 (by unfold hr_FX; omega), hx 260 (by unfold hr_FX; omega), hx 261 (by unfold hr_FX; omega), hx 262 (by unfold hr_FX; omega), hx 263 (by unfold hr_FX; omega), hx 264 (by unfold hr_FX; omega), hx 265 (by unfold hr_FX; omega)]
  rw [hy 256 (by unfold hr_FY; omega), hy 257 (by unfold hr_FY; omega), hy 258 (by unfold hr_FY; omega), hy 259 (by unfold hr_FY; omega), hy 260 (by unfold hr_FY; omega), hy 261 (by unfold hr_FY; omega), hy 262 (by unfold hr_FY; omega), hy 263 (by unfold hr_FY; omega), hy 264 (by unfold hr_FY; omega), hy 265 (by unfold hr_FY; omega), hy 266 (by unfold hr_FY; omega)]
  exact h
def hr_Rl (s t : Nat → Int32) : Prop := hr_Hw s t ∧ hr_cpu s t
theorem hr_RlA {s t s' t' : Nat → Int32} (h : hr_Rl s t) (hx : qa_ag (fun i => i < 488) s s') (hy : qa_ag (fun i => i < 512) t t') : hr_Rl s' t' := by
  obtain ⟨⟨h1, h2, h3, h4, h5, h6, h7⟩, h8⟩ := h
  refine ⟨⟨hr_ceA h1 (qa_agW hx ?_) (qa_agW hy ?_), hr_tmA h2 (qa_agW hx ?_) (qa_agW hy ?_), hr_cpA h3 (qa_agW hx ?_) (qa_agW hy ?_), hr_lnA h4 (hx _ ?_) (hy _ ?_), hr_kyA h5 (hx _ ?_) (hy _ ?_), ?_, hr_vsA h7 (qa_agW hx ?_) (qa_agW hy ?_)⟩, hr_cpuA h8 (qa_agW hx ?_) (qa_agW hy ?_)⟩
  case refine_11 =>
    intro p hp
    rw [hx _ (by omega), hy _ (by omega)]
    exact h6 p hp
  all_goals (try unfold hr_PX) <;> (try unfold hr_PY) <;> (try unfold hr_FX) <;> (try unfold hr_FY) <;> omega
/-! sides of the processor's registers leave the hardware alone -/
theorem hr_HwX {s t : Nat → Int32} {k : Nat} {v : Int32} (H : hr_Hw s t) (h1 : 256 ≤ k) (h2 : k < 266) : hr_Hw (upd s k v) t :=
  hr_HwA H (qa_agU qa_ag0 (by omega)) qa_ag0
theorem hr_HwY {s t : Nat → Int32} {k : Nat} {v : Int32} (H : hr_Hw s t) (h1 : (256 ≤ k ∧ k < 267) ∨ k = 269 ∨ k = 274) : hr_Hw s (upd t k v) :=
  hr_HwA H qa_ag0 (qa_agU qa_ag0 (by omega))
end
section
/-! methods that only read -/
section
variable {sa dg st da rn cn : Int32} {s sv iv c : Nat → Int32} {sb : Int32} {t tv jv e : Nat → Int32}
def ml_sg (tac dv : Int32) : Int32 := if tac &&& 4 = 0 then 0 else if ((dv >>> ((if tac &&& 3 = 0 then 5 else tac &&& 3) &&& 31)) &&& 1) = 1 then 1 else 0
theorem ml_sg01 (a b : Int32) : ml_sg a b = 0 ∨ ml_sg a b = 1 := by
  unfold ml_sg
  by_cases k : a &&& 4 = 0
  · rw [if_pos k]
    exact Or.inl rfl
  · rw [if_neg k]
    generalize (b >>> ((if a &&& 3 = 0 then 5 else a &&& 3) &&& 31)) &&& 1 = z
    by_cases k : z = 1
    · rw [if_pos k]
      exact Or.inr rfl
    · rw [if_neg k]
      exact Or.inl rfl
theorem mx_signal {post : Int32 → Prop} (h : post (ml_sg (s 244) (s 266))) : wpX_signal post (sa, dg, st, da, rn, cn, s, sv, iv, c) := by
  have g : ∀ z : Int32, post (if s 244 &&& 4 = 0 then 0 else if ((s 266 >>> (z &&& 31)) &&& 1) = 1 then 1 else 0) → wX_signal_20 post z sa dg st da rn cn s sv iv c := by
    intro z h
    exact ⟨fun k => by rwa [if_pos k] at h, fun k => ⟨fun k2 => by rwa [if_neg k, if_pos k2] at h, fun k2 => by rwa [if_neg k, if_neg k2] at h⟩⟩
  unfold ml_sg at h
  exact nm_e ⟨fun k => g _ (by rwa [if_pos k] at h), fun k => g _ (by rwa [if_neg k] at h)⟩
theorem my_signal {post : Int32 → Prop} (h : post (ml_sg (t 244) (t 267))) : wpY_signal post (sb, t, tv, jv, e) := by
  have g : ∀ z : Int32, post (if t 244 &&& 4 = 0 then 0 else if ((t 267 >>> (z &&& 31)) &&& 1) = 1 then 1 else 0) → wY_signal_20 post z sb t tv jv e := by
    intro z h
    exact ⟨fun k => by rwa [if_pos k] at h, fun k => ⟨fun k2 => by rwa [if_neg k, if_pos k2] at h, fun k2 => by rwa [if_neg k, if_neg k2] at h⟩⟩
  unfold ml_sg at h
  exact nm_e ⟨fun k => g _ (by rwa [if_pos k] at h), fun k => g _ (by rwa [if_neg k] at h)⟩
/-! the pad -/
def ml_pd (w k : Int32) : Int32 := (w &&& 48) ||| (((if w &&& 32 = 0 then (if w &&& 16 = 0 then 0 ||| (k &&& 15) else 0) ||| (k >>> ((4 : Int32) &&& 31)) else (if w &&& 16 = 0 then 0 ||| (k &&& 15) else 0)) ^^^ (-1)) &&& 15)
theorem mx_pad {post : Int32 → Prop} (h : post (ml_pd (s 240) (s 391))) : wpX_padReading post (sa, dg, st, da, rn, cn, s, sv, iv, c) := by
  have g : ∀ z : Int32, post ((s 240 &&& 48) ||| (((if s 240 &&& 32 = 0 then z ||| (s 391 >>> ((4 : Int32) &&& 31)) else z) ^^^ (-1)) &&& 15)) → wX_padReading_30 post z sa dg st da rn cn s sv iv c := by
    intro z h
    exact ⟨fun k => nm_e (by rwa [if_pos k] at h), fun k => by rwa [if_neg k] at h⟩
  unfold ml_pd at h
  exact ⟨fun k => nm_e (g _ (by rwa [if_pos k] at h)), fun k => g _ (by rwa [if_neg k] at h)⟩
theorem ml_pdA : ∀ k, k < 256 → (((0 ||| (nI k &&& 15)) ||| (nI k >>> ((4 : Int32) &&& 31))) ^^^ (-1)) &&& 15 = 15 &&& ((nI k ||| (nI k >>> ((4 : Int32) &&& 31))) ^^^ (-1)) := by decide +kernel
theorem ml_pdB : ∀ k, k < 256 → ((0 ||| (nI k &&& 15)) ^^^ (-1)) &&& 15 = 15 &&& ((nI k ||| 0) ^^^ (-1)) := by decide +kernel
theorem ml_pdC : ∀ k, k < 256 → ((0 ||| (nI k >>> ((4 : Int32) &&& 31))) ^^^ (-1)) &&& 15 = 15 &&& ((0 ||| (nI k >>> ((4 : Int32) &&& 31))) ^^^ (-1)) := by decide +kernel
theorem ml_pdD : ((0 : Int32) ^^^ (-1)) &&& 15 = 15 &&& ((0 ||| 0) ^^^ (-1)) := by decide +kernel
theorem my_pad {post : Int32 → Prop} (hk : qa_B (t 310)) (h : post (ml_pd (t 240) (t 310))) : wpY_pad post (sb, t, tv, jv, e) := by
  obtain ⟨n, hn, en⟩ := hk
  unfold ml_pd at h
  rw [en] at h
  refine nm_e ⟨fun k => ⟨fun k2 => ?_, fun k2 => ?_⟩, fun k => ⟨fun k2 => ?_, fun k2 => ?_⟩⟩
  · rw [if_pos k2, if_pos k, ml_pdA n hn] at h
    exact nm_e (by rw [en]; exact h)
  · rw [if_neg k2, if_pos k, ml_pdB n hn] at h
    exact nm_e (by rw [en]; exact h)
  · rw [if_pos k2, if_neg k, ml_pdC n hn] at h
    exact nm_e (by rw [en]; exact h)
  · rw [if_neg k2, if_neg k, ml_pdD] at h
    exact nm_e h
theorem ml_pdB_ (w : Int32) {k : Int32} (hw : qa_B w) : qa_B (ml_pd w k) := qa_Bor (qa_Band hw _) (qa_Bandr _ ⟨15, by decide, rfl⟩)
/-! shut cells -/
theorem pr_shut {n m : Nat} (hn : n < 256) (hm : m < 4) (e1 : s 273 = nI m) (e2 : t 276 = nI m) (hc : t 274 = cn) (hb : qa_b cn) :
    ∃ r : Int32, (r = 0 ∨ r = 1) ∧ (240 ≤ n → r = 0) ∧ (∀ post : Int32 → Prop, post r → wpX_isShut post (sa, dg, st, da, rn, cn, s, sv, iv, c) (nI n)) ∧ (∀ post : Int32 → Prop, post r → wpY_isShut post (sb, t, tv, jv, e) (nI n)) := by
  have x208 : (208 : Int32) ≤ nI n ↔ 208 ≤ n := nI_leI (a := 208) (by omega) (by omega)
  have x192 : (192 : Int32) ≤ nI n ↔ 192 ≤ n := nI_leI (a := 192) (by omega) (by omega)
  have y128 : nI n < (128 : Int32) ↔ n < 128 := nI_ltI (b := 128) (by omega) (by omega)
  have y192 : nI n < (192 : Int32) ↔ n < 192 := nI_ltI (b := 192) (by omega) (by omega)
  have z127 : nI n ≤ (127 : Int32) ↔ n ≤ 127 := nI_leI (b := 127) (by omega) (by omega)
  have z191 : nI n ≤ (191 : Int32) ↔ n ≤ 191 := nI_leI (b := 191) (by omega) (by omega)
  have m2 : nI m < (2 : Int32) ↔ m < 2 := nI_ltI (b := 2) (by omega) (by omega)
  have m1 : nI m ≤ (1 : Int32) ↔ m ≤ 1 := nI_leI (b := 1) (by omega) (by omega)
  have m3 : nI m = (3 : Int32) ↔ m = 3 := nI_eq (b := 3) (by omega) (by omega)
  obtain ⟨q, hq, q0, q1⟩ : ∃ q : Nat, q ≤ 1 ∧ (cn = 0 ↔ q = 0) ∧ (cn = 1 ↔ q = 1) := by
    rcases hb with h | h
    · exact ⟨0, by omega, by rw [h]; decide, by rw [h]; decide⟩
    · exact ⟨1, by omega, by rw [h]; decide, by rw [h]; decide⟩
  refine ⟨if (q = 1 ∧ n < 208) ∨ (128 ≤ n ∧ n < 192 ∧ m = 3) ∨ (192 ≤ n ∧ n < 208 ∧ 2 ≤ m) then 1 else 0, ?_, ?_, ?_, ?_⟩
  · split
    · exact Or.inr rfl
    · exact Or.inl rfl
  · intro h
    rw [if_neg (by omega)]
  · intro post h
    have g : ¬ (q = 1 ∧ n < 208) → wX_isShut_16 post (nI n) sa dg st da rn cn s sv iv c := by
      intro g
      refine nm_r e1 ⟨fun k => ?_, fun k => ⟨fun k2 => ?_, fun k2 => ⟨fun k3 => ?_, fun k3 => ?_⟩⟩⟩
      · rw [y128] at k
        rw [if_neg (by omega)] at h
        exact br_t (y192.mpr (by omega)) h
      · rw [x192] at k2
        refine br_f (fun z => absurd (y192.mp z) (by omega)) ⟨fun k4 => ?_, fun k4 => ⟨fun k5 => ?_, fun k5 => ?_⟩⟩
        · rw [x208] at k4
          rw [if_neg (by omega)] at h
          exact h
        · rw [x208] at k4
          rw [m2] at k5
          rw [if_neg (by omega)] at h
          exact h
        · rw [x208] at k4
          rw [m2] at k5
          rw [if_pos (by omega)] at h
          exact h
      · rw [y128] at k
        rw [x192] at k2
        rw [m3] at k3
        rw [if_pos (by omega)] at h
        exact h
      · rw [y128] at k
        rw [x192] at k2
        rw [m3] at k3
        rw [if_neg (by omega)] at h
        exact h
    refine ⟨fun k => g (fun z => ?_), fun k => ⟨fun k2 => g (fun z => ?_), fun k2 => ?_⟩⟩
    · exact absurd (q0.mp k) (by omega)
    · exact absurd (x208.mp k2) (by omega)
    · rw [q0] at k
      rw [x208] at k2
      rw [if_pos (by omega)] at h
      exact h
  · intro post h
    have g46 : ¬ (q = 1 ∧ n < 208) → ¬ (128 ≤ n ∧ n < 192 ∧ m = 3) → wY_isShut_46 post (nI n) sb t tv jv e := by
      intro g g2
      refine ⟨fun k => ?_, fun k => ⟨fun k2 => ?_, fun k2 => ⟨fun k3 => ?_, fun k3 => ?_⟩⟩⟩
      · rw [z191] at k
        rw [if_neg (by omega)] at h
        exact h
      · rw [x208] at k2
        rw [if_neg (by omega)] at h
        exact h
      · rw [x208] at k2
        rw [e2, m1] at k3
        rw [if_neg (by omega)] at h
        exact h
      · rw [z191] at k
        rw [x208] at k2
        rw [e2, m1] at k3
        rw [if_pos (by omega)] at h
        exact h
    have g21 : ¬ (q = 1 ∧ n < 208) → wY_isShut_21 post (nI n) sb t tv jv e := by
      intro g
      refine ⟨fun k => g46 g ?_, fun k => ⟨fun k2 => g46 g ?_, fun k2 => ⟨fun k3 => ?_, fun k3 => g46 g ?_⟩⟩⟩
      · rw [z127] at k
        omega
      · rw [x192] at k2
        omega
      · rw [z127] at k
        rw [x192] at k2
        rw [e2, m3] at k3
        rw [if_pos (by omega)] at h
        exact h
      · rw [e2, m3] at k3
        omega
    refine ⟨fun k => g21 (fun z => absurd (x208.mp k) (by omega)), fun k => ⟨fun k2 => ?_, fun k2 => g21 (fun z => k2 (hc.trans (q1.mpr z.1)))⟩⟩
    rw [x208] at k
    have z := q1.mp (hc.symm.trans k2)
    rw [if_pos (by omega)] at h
    exact h
end
end
section
/-! the line, the timer, copying: both sides -/
section
variable {sa dg st da rn cn : Int32} {s sv iv c : Nat → Int32} {sb : Int32} {t tv jv e : Nat → Int32}
def ml_bm (st8 m : Int32) : Prop := ¬ 3 ≤ m ∧ (st8 >>> ((3 + m) &&& 31)) &&& 1 = 1
def ml_bl (st8 y z : Int32) : Prop := y = z ∧ ¬ st8 &&& 64 = 0
theorem mx_look1 {post : SX → Prop} (hon : ¬ s 247 &&& 1 = 0) (hb : ml_bm (s 248) (s 273) ∨ ml_bl (s 248) (s 251) (s 252)) (h : wX_lookAtLine_98 post 1 sa dg st da rn cn s sv iv c) : wpX_lookAtLine post (sa, dg, st, da, rn, cn, s, sv, iv, c) := by
  have A : ∀ z, wX_lookAtLine_76 post 1 z sa dg st da rn cn s sv iv c := fun z => br_f hon (br_f (by decide) (br_f (by decide) h))
  have B0 : wX_lookAtLine_76 post 0 1 sa dg st da rn cn s sv iv c := br_f hon (br_f (by decide) (br_t rfl (br_f (by decide) h)))
  have G1 : wX_lookAtLine_37 post 1 sa dg st da rn cn s sv iv c := ⟨fun _ => ⟨fun _ => A 0, fun _ => A 1⟩, fun _ => A 0⟩
  rcases hb with k | k
  · exact nm_e (br_f k.1 (br_t k.2 G1))
  · have G0 : wX_lookAtLine_37 post 0 sa dg st da rn cn s sv iv c := br_t k.1 (br_f k.2 B0)
    exact nm_e ⟨fun _ => G0, fun _ => ⟨fun _ => G1, fun _ => G0⟩⟩
theorem mx_look0 {post : SX → Prop} (hb : s 247 &&& 1 = 0 ∨ (¬ ml_bm (s 248) (s 273) ∧ ¬ ml_bl (s 248) (s 251) (s 252))) (h : wX_lookAtLine_98 post 0 sa dg st da rn cn s sv iv c) : wpX_lookAtLine post (sa, dg, st, da, rn, cn, s, sv, iv, c) := by
  rcases hb with k | k
  · have Z : ∀ x z, wX_lookAtLine_76 post x z sa dg st da rn cn s sv iv c := fun x z => br_t k (br_t rfl h)
    have G : ∀ x, wX_lookAtLine_37 post x sa dg st da rn cn s sv iv c := fun x => ⟨fun _ => ⟨fun _ => Z x 0, fun _ => Z x 1⟩, fun _ => Z x 0⟩
    exact nm_e ⟨fun _ => G 0, fun _ => ⟨fun _ => G 1, fun _ => G 0⟩⟩
  · have Z : wX_lookAtLine_76 post 0 0 sa dg st da rn cn s sv iv c := ⟨fun _ => br_t rfl h, fun _ => br_f (by decide) (br_t rfl (br_t rfl h))⟩
    have G : wX_lookAtLine_37 post 0 sa dg st da rn cn s sv iv c := ⟨fun k3 => ⟨fun _ => Z, fun k4 => absurd ⟨k3, k4⟩ k.2⟩, fun _ => Z⟩
    exact nm_e ⟨fun _ => G, fun k1 => ⟨fun k2 => absurd ⟨k1, k2⟩ k.1, fun _ => G⟩⟩
theorem my_line1 {post : Int32 → Prop} (hon : t 247 &&& 1 = 1) (hb : ml_bm (t 248) (t 276) ∨ ml_bl (t 248) (t 251) (t 252)) (h : post 1) : wpY_line post (sb, t, tv, jv, e) := by
  have G1 : wY_line_53 post (t 248) 1 sb t tv jv e := br_f (by decide) h
  refine br_t hon (br_f (by decide) (nm_e ?_))
  rcases hb with k | k
  · exact br_f k.1 (br_t k.2 G1)
  · have G0 : wY_line_53 post (t 248) 0 sb t tv jv e := br_t rfl (br_t k.1 (br_f k.2 h))
    exact ⟨fun _ => G0, fun _ => ⟨fun _ => G1, fun _ => G0⟩⟩
theorem my_line0 {post : Int32 → Prop} (hb : ¬ t 247 &&& 1 = 1 ∨ (¬ ml_bm (t 248) (t 276) ∧ ¬ ml_bl (t 248) (t 251) (t 252))) (h : post 0) : wpY_line post (sb, t, tv, jv, e) := by
  rcases hb with k | k
  · exact br_f k (br_t rfl h)
  · have G : wY_line_53 post (t 248) 0 sb t tv jv e := br_t rfl ⟨fun k3 => ⟨fun _ => h, fun k4 => absurd ⟨k3, k4⟩ k.2⟩, fun _ => h⟩
    refine ⟨fun _ => br_f (by decide) (nm_e ⟨fun _ => G, fun k1 => ⟨fun k2 => absurd ⟨k1, k2⟩ k.1, fun _ => G⟩⟩), fun _ => br_t rfl h⟩
theorem qa_on {a b : Int32} (h : b = a) : ¬ a &&& 1 = 0 ↔ b &&& 1 = 1 := by
  rw [h]
  rcases qa_and1 a with k | k
  · rw [k]; decide
  · rw [k]; decide
theorem pr_look (C : hr_ce s t) (L : hr_ln s t) (hm : t 276 = s 273) : ∃ s' t' : Nat → Int32, hr_ce s' t' ∧ hr_ln s' t' ∧ qa_ag (fun i => i ≠ 245 ∧ i ≠ 271) s s' ∧ qa_ag (fun i => i ≠ 245 ∧ i ≠ 308) t t' ∧ (∀ post : SX → Prop, post (sa, dg, st, da, rn, cn, s', sv, iv, c) → wpX_lookAtLine post (sa, dg, st, da, rn, cn, s, sv, iv, c)) ∧ (∀ post : SY → Prop, post (sb, t', tv, jv, e) → wpY_lookAtLine post (sb, t, tv, jv, e)) := by
  have e247 := (C 247 (by omega)).1
  have e248 := (C 248 (by omega)).1
  have e251 := (C 251 (by omega)).1
  have e252 := (C 252 (by omega)).1
  by_cases P : (¬ s 247 &&& 1 = 0) ∧ (ml_bm (s 248) (s 273) ∨ ml_bl (s 248) (s 251) (s 252))
  · have Y1 : ∀ post : Int32 → Prop, post 1 → wpY_line post (sb, t, tv, jv, e) := fun post h => my_line1 ((qa_on e247).mp P.1) (by rw [e248, hm, e251, e252]; exact P.2) h
    rcases L.2 with z | z
    · have z' : t 308 = 0 := L.1.trans z
      refine ⟨upd (upd s 245 (s 245 ||| 2)) 271 1, upd (upd t 245 (t 245 ||| 2)) 308 1, ?_, ⟨rfl, Or.inr rfl⟩, qa_agU (qa_agU qa_ag0 (by omega)) (by omega), qa_agU (qa_agU qa_ag0 (by omega)) (by omega), ?_, ?_⟩
      · exact hr_ceX (hr_ceY (hr_ceB C (qa_Bor (C 245 (by omega)).2 ⟨2, by decide, rfl⟩) (by rw [(C 245 (by omega)).1])) (by omega)) (by omega)
      · intro post h
        exact mx_look1 P.1 P.2 (br_f (by rw [z]; decide) (nm_e (nm_e h)))
      · intro post h
        unfold wpY_lookAtLine
        refine Y1 _ ?_
        exact br_f (by decide) (br_t z' (nm_e (br_f (by decide) (nm_e h))))
    · have z' : ¬ t 308 = 0 := by rw [L.1, z]; decide
      refine ⟨upd s 271 1, upd t 308 1, hr_ceX (hr_ceY C (by omega)) (by omega), ⟨rfl, Or.inr rfl⟩, qa_agU qa_ag0 (by omega), qa_agU qa_ag0 (by omega), ?_, ?_⟩
      · intro post h
        exact mx_look1 P.1 P.2 (br_t (by rw [z]; decide) (nm_e h))
      · intro post h
        unfold wpY_lookAtLine
        refine Y1 _ ?_
        exact br_f (by decide) (br_f z' (br_f (by decide) (nm_e h)))
  · have P0 : s 247 &&& 1 = 0 ∨ (¬ ml_bm (s 248) (s 273) ∧ ¬ ml_bl (s 248) (s 251) (s 252)) := by
      by_cases k : s 247 &&& 1 = 0
      · exact Or.inl k
      · exact Or.inr ⟨fun z => P ⟨k, Or.inl z⟩, fun z => P ⟨k, Or.inr z⟩⟩
    refine ⟨upd s 271 0, upd t 308 0, hr_ceX (hr_ceY C (by omega)) (by omega), ⟨rfl, Or.inl rfl⟩, qa_agU qa_ag0 (by omega), qa_agU qa_ag0 (by omega), ?_, ?_⟩
    · intro post h
      refine mx_look0 P0 (br_t ?_ (nm_e h))
      rcases L.2 with z | z
      · rw [z]; decide
      · rw [z]; decide
    · intro post h
      unfold wpY_lookAtLine
      refine my_line0 ?_ ?_
      rotate_left
      · exact br_t rfl (br_t rfl (nm_e h))
      rcases P0 with k | k
      · exact Or.inl (fun z => absurd k ((qa_on e247).mpr z))
      · exact Or.inr (by rw [e248, hm, e251, e252]; exact k)
/-! the timer -/
theorem pr_more (C : hr_ce s t) (T : hr_tm s t) : ∃ s' t' : Nat → Int32, hr_ce s' t' ∧ hr_tm s' t' ∧ qa_ag (fun i => i ≠ 242 ∧ i ≠ 267) s s' ∧ qa_ag (fun i => i ≠ 242 ∧ i ≠ 268) t t' ∧ (∀ post : SX → Prop, post (sa, dg, st, da, rn, cn, s', sv, iv, c) → (s 242 = 255 → ∀ a, a = upd s 242 0 → ∀ b, b = upd a 267 1 → post (sa, dg, st, da, rn, cn, b, sv, iv, c)) ∧ (¬ s 242 = 255 → ∀ a, a = upd s 242 (s 242 + 1) → post (sa, dg, st, da, rn, cn, a, sv, iv, c))) ∧ (∀ post : SY → Prop, post (sb, t', tv, jv, e) → wpY_more post (sb, t, tv, jv, e)) := by
  obtain ⟨T1, T2, T3, T4⟩ := T
  obtain ⟨c1, n, hn, en⟩ := C 242 (by omega)
  have et : t 242 = nI n := c1.trans en
  by_cases k : n = 255
  · refine ⟨upd (upd s 242 0) 267 1, upd (upd (upd t 242 (t 242 + 1)) 242 0) 268 1, ?_, ⟨T1, T2, rfl, Or.inr rfl⟩, qa_agU (qa_agU qa_ag0 (by omega)) (by omega), qa_agU (qa_agU (qa_agU qa_ag0 (by omega)) (by omega)) (by omega), ?_, ?_⟩
    · refine hr_ceX (hr_ceY ?_ (by omega)) (by omega)
      intro i hi
      by_cases z : i = 242
      · subst z
        rw [pk_us, pk_us]
        exact ⟨rfl, qa_B0⟩
      · rw [pk_un z, pk_un z, pk_un z]
        exact C i hi
    · intro post h
      exact br_t (by rw [en, k]; rfl) (nm_e (nm_e h))
    · intro post h
      refine nm_e (br_t ?_ (nm_e (nm_e h)))
      show (256 : Int32) ≤ t 242 + 1
      rw [et, k]
      decide
  · refine ⟨upd s 242 (s 242 + 1), upd t 242 (t 242 + 1), ?_, ⟨T1, T2, T3, T4⟩, qa_agU qa_ag0 (by omega), qa_agU qa_ag0 (by omega), ?_, ?_⟩
    · exact hr_ceB C ⟨n + 1, by omega, by rw [en, nI_1]⟩ (by rw [c1])
    · intro post h
      exact br_f (by rw [en]; exact qa_neN (b := 255) k (by omega) (by omega)) (nm_e h)
    · intro post h
      refine nm_e (br_f ?_ h)
      show ¬ (256 : Int32) ≤ t 242 + 1
      rw [et, nI_1]
      exact nI_ge (b := 256) (by omega) (by omega)
/-- X's look at the signal after a change, and what Y has to do there -/
theorem pr_notice (C : hr_ce s t) (T : hr_tm s t) (b : Int32) : ∃ s' t' : Nat → Int32, hr_ce s' t' ∧ hr_tm s' t' ∧ qa_ag (fun i => i ≠ 242 ∧ i ≠ 267) s s' ∧ qa_ag (fun i => i ≠ 242 ∧ i ≠ 268) t t' ∧ (∀ post : SX → Prop, post (sa, dg, st, da, rn, cn, s', sv, iv, c) → wpX_noticeSignal post (sa, dg, st, da, rn, cn, s, sv, iv, c) b) ∧ ((b = 0 ∧ t' = t) ∨ (¬ b = 0 ∧ ¬ ml_sg (t 244) (t 267) = 0 ∧ t' = t) ∨ (¬ b = 0 ∧ ml_sg (t 244) (t 267) = 0 ∧ ∀ post : SY → Prop, post (sb, t', tv, jv, e) → wpY_more post (sb, t, tv, jv, e))) := by
  have eg : ml_sg (t 244) (t 267) = ml_sg (s 244) (s 266) := by rw [(C 244 (by omega)).1, T.1]
  by_cases k : b = 0
  · exact ⟨s, t, C, T, qa_ag0, qa_ag0, fun post h => br_t k h, Or.inl ⟨k, rfl⟩⟩
  · by_cases k2 : ml_sg (s 244) (s 266) = 0
    · obtain ⟨s', t', h1, h2, h3, h4, h5, h6⟩ := pr_more (sa := sa) (dg := dg) (st := st) (da := da) (rn := rn) (cn := cn) (sv := sv) (iv := iv) (c := c) (sb := sb) (tv := tv) (jv := jv) (e := e) C T
      exact ⟨s', t', h1, h2, h3, h4, fun post h => br_f k (mx_signal (br_t k2 (h5 post h))), Or.inr (Or.inr ⟨k, eg.trans k2, h6⟩)⟩
    · exact ⟨s, t, C, T, qa_ag0, qa_ag0, fun post h => br_f k (mx_signal (br_f k2 h)), Or.inr (Or.inl ⟨k, by rw [eg]; exact k2, rfl⟩)⟩
theorem pr_t65 (C : hr_ce s t) (T : hr_tm s t) : ∃ s' t' : Nat → Int32, hr_ce s' t' ∧ hr_tm s' t' ∧ qa_ag (fun i => i ≠ 242 ∧ i ≠ 266 ∧ i ≠ 267) s s' ∧ qa_ag (fun i => i ≠ 242 ∧ i ≠ 267 ∧ i ≠ 268) t t' ∧ (∀ post : SX → Prop, post (sa, dg, st, da, rn, cn, s', sv, iv, c) → wX_timerTurn_65 post sa dg st da rn cn s sv iv c) ∧ (∀ post : SY → Prop, post (sb, t', tv, jv, e) → wY_timerTurn_65 post sb t tv jv e) := by
  have eb : ml_sg (t 244) (t 267) = ml_sg (s 244) (s 266) := by rw [(C 244 (by omega)).1, T.1]
  have C2 : hr_ce (upd s 266 ((s 266 + 1) &&& 1023)) (upd t 267 ((t 267 + 1) &&& 1023)) := hr_ceX (hr_ceY C (by omega)) (by omega)
  have T2 : hr_tm (upd s 266 ((s 266 + 1) &&& 1023)) (upd t 267 ((t 267 + 1) &&& 1023)) := by
    refine ⟨?_, ?_, T.2.2.1, T.2.2.2⟩
    · show (t 267 + 1) &&& 1023 = (s 266 + 1) &&& 1023
      rw [T.1]
    · exact pk_andE (s 266 + 1) (m := 1023) 10 (by decide)
  obtain ⟨s', t', h1, h2, h3, h4, h5, h6⟩ := pr_notice (sa := sa) (dg := dg) (st := st) (da := da) (rn := rn) (cn := cn) (sv := sv) (iv := iv) (c := c) (sb := sb) (tv := tv) (jv := jv) (e := e) C2 T2 (ml_sg (s 244) (s 266))
  refine ⟨s', t', h1, h2, qa_agT (qa_agU qa_ag0 (by omega)) (qa_agW h3 (by omega)), qa_agT (qa_agU qa_ag0 (by omega)) (qa_agW h4 (by omega)), fun post h => mx_signal (nm_e (h5 _ h)), fun post h => my_signal (nm_e ?_)⟩
  rw [eb]
  rcases h6 with ⟨k, rfl⟩ | ⟨k, k2, rfl⟩ | ⟨k, k2, k3⟩
  · exact br_t k h
  · exact br_f k (my_signal (br_f k2 h))
  · exact br_f k (my_signal (br_t k2 (k3 _ h)))
theorem qa_fit0 : fits .boolean (.int 0) = true := by decide
theorem qa_fit1 : fits .boolean (.int 1) = true := by decide
theorem pr_timer (H : hr_Hw s t) : ∃ (s' t' : Nat → Int32) (rn' : Int32), hr_Hw s' t' ∧ qa_ag hr_FX s s' ∧ qa_ag hr_FY t t' ∧ t' 269 = rn' ∧ qa_b rn' ∧ (∀ post : SX → Prop, post (sa, dg, st, da, rn', cn, s', sv, iv, c) → wpX_timerTurn post (sa, dg, st, da, rn, cn, s, sv, iv, c)) ∧ (∀ post : SY → Prop, post (sb, t', tv, jv, e) → wpY_timerTurn post (sb, t, tv, jv, e)) := by
  have C := H.1
  have T := H.2.1
  rcases T.2.2.2 with z | z
  · have z' : ¬ t 268 = 1 := by rw [T.2.2.1, z]; decide
    have C1 : hr_ce s (upd (upd t 269 (t 268)) 268 0) := hr_ceY (hr_ceY C (by omega)) (by omega)
    have T1 : hr_tm s (upd (upd t 269 (t 268)) 268 0) := ⟨T.1, T.2.1, z.symm, T.2.2.2⟩
    obtain ⟨s', t', h1, h2, h3, h4, h5, h6⟩ := pr_t65 (sa := sa) (dg := dg) (st := st) (da := da) (rn := 0) (cn := cn) (sv := sv) (iv := iv) (c := c) (sb := sb) (tv := tv) (jv := jv) (e := e) C1 T1
    refine ⟨s', t', 0, hr_HwT H h1 h2 (qa_agW h3 (by omega)) (qa_agT (qa_agU (qa_agU qa_ag0 (by omega)) (by omega)) (qa_agW h4 (by omega))), qa_agW h3 (by unfold hr_FX; omega), qa_agT (qa_agU (qa_agU qa_ag0 (by unfold hr_FY; omega)) (by unfold hr_FY; omega)) (qa_agW h4 (by unfold hr_FY; omega)), ?_, Or.inl rfl, ?_, ?_⟩
    · rw [h4 269 (by omega)]
      exact T.2.2.1.trans z
    · intro post h
      exact br_f (by rw [z]; decide) ⟨rfl, qa_fit0, br_t rfl (h5 post h)⟩
    · intro post h
      exact nm_e (nm_e (br_f z' (h6 post h)))
  · have z' : t 268 = 1 := T.2.2.1.trans z
    have C1 : hr_ce (upd (upd (upd s 267 0) 242 (upd s 267 0 243)) 245 (upd (upd s 267 0) 242 (upd s 267 0 243) 245 ||| 4)) (upd (upd (upd (upd t 269 (t 268)) 268 0) 242 (upd (upd t 269 (t 268)) 268 0 243)) 245 (upd (upd (upd t 269 (t 268)) 268 0) 242 (upd (upd t 269 (t 268)) 268 0 243) 245 ||| 4)) := by
      refine hr_ceB (hr_ceB (hr_ceX (hr_ceY (hr_ceY C (by omega)) (by omega)) (by omega)) (C 243 (by omega)).2 (C 243 (by omega)).1) (qa_Bor (C 245 (by omega)).2 ⟨4, by decide, rfl⟩) ?_
      show t 245 ||| 4 = s 245 ||| 4
      rw [(C 245 (by omega)).1]
    have T1 : hr_tm (upd (upd (upd s 267 0) 242 (upd s 267 0 243)) 245 (upd (upd s 267 0) 242 (upd s 267 0 243) 245 ||| 4)) (upd (upd (upd (upd t 269 (t 268)) 268 0) 242 (upd (upd t 269 (t 268)) 268 0 243)) 245 (upd (upd (upd t 269 (t 268)) 268 0) 242 (upd (upd t 269 (t 268)) 268 0 243) 245 ||| 4)) := ⟨T.1, T.2.1, rfl, Or.inl rfl⟩
    obtain ⟨s', t', h1, h2, h3, h4, h5, h6⟩ := pr_t65 (sa := sa) (dg := dg) (st := st) (da := da) (rn := 1) (cn := cn) (sv := sv) (iv := iv) (c := c) (sb := sb) (tv := tv) (jv := jv) (e := e) C1 T1
    refine ⟨s', t', 1, hr_HwT H h1 h2 (qa_agT (qa_agU (qa_agU (qa_agU qa_ag0 (by omega)) (by omega)) (by omega)) (qa_agW h3 (by omega))) (qa_agT (qa_agU (qa_agU (qa_agU (qa_agU qa_ag0 (by omega)) (by omega)) (by omega)) (by omega)) (qa_agW h4 (by omega))), qa_agT (qa_agU (qa_agU (qa_agU qa_ag0 (by unfold hr_FX; omega)) (by unfold hr_FX; omega)) (by unfold hr_FX; omega)) (qa_agW h3 (by unfold hr_FX; omega)), qa_agT (qa_agU (qa_agU (qa_agU (qa_agU qa_ag0 (by unfold hr_FY; omega)) (by unfold hr_FY; omega)) (by unfold hr_FY; omega)) (by unfold hr_FY; omega)) (qa_agW h4 (by unfold hr_FY; omega)), ?_, Or.inr rfl, ?_, ?_⟩
    · rw [h4 269 (by omega)]
      exact z'
    · intro post h
      exact br_t z ⟨rfl, qa_fit1, br_f (by decide) (nm_e (nm_e (nm_e (h5 post h))))⟩
    · intro post h
      exact nm_e (nm_e (br_t z' (nm_e (nm_e (h6 post h)))))
end
end
section
/-! copying: both sides -/
section
variable {sa dg st da rn cn : Int32} {s sv iv c : Nat → Int32} {sb : Int32} {t tv jv e : Nat → Int32}
def hr_cn (c e : Nat → Int32) : Prop := c 4 = e 4 ∧ c 5 = e 5 ∧ c 6 = e 6
def hr_C4 (i : Nat) : Prop := i < 4
theorem pr_c66 (C : hr_ce s t) (P : hr_cp s t) (z : t 274 = 0) (N : hr_cn c e) : ∃ (s' t' : Nat → Int32) (cn' : Int32) (c' e' : Nat → Int32), hr_ce s' t' ∧ hr_cp s' t' ∧ qa_ag (fun i => 208 ≤ i ∧ i ≠ 270) s s' ∧ qa_ag (fun i => 208 ≤ i ∧ i ≠ 271 ∧ i ≠ 274) t t' ∧ t' 274 = cn' ∧ qa_b cn' ∧ hr_cn c' e' ∧ qa_ag hr_C4 c c' ∧ qa_ag hr_C4 e e' ∧ (∀ post : SX → Prop, post (sa, dg, st, da, rn, cn', s', sv, iv, c') → wX_copyingTurn_66 post sa dg st da rn cn s sv iv c) ∧ (∀ post : SY → Prop, post (sb, t', tv, jv, e') → wY_copying_68 post sb t tv jv e) := by
  obtain ⟨dl, pg, nx, h1, h2, h3, e1, e2, e3, e4, e5, e6, e7⟩ := P
  by_cases k : nx = 16
  · subst k
    refine ⟨s, t, 0, c, e, C, ⟨dl, pg, 16, h1, h2, h3, e1, e2, e3, e4, e5, e6, e7⟩, qa_ag0, qa_ag0, z, Or.inl rfl, N, qa_ag0, qa_ag0, ?_, ?_⟩
    · intro post h
      exact br_t (by rw [e5]; decide) ⟨rfl, qa_fit0, br_t rfl h⟩
    · intro post h
      exact br_t e6 h
  · have hv : ∃ v : Int32, qa_B v ∧ (∀ post : SX → Prop, (∀ a, a = upd s (192 + nx) v → ∀ b, b = upd a 270 (a 270 - 1) → ∀ d, d = upd c 5 (c 5 + 1) → post (sa, dg, st, da, rn, 1, b, sv, iv, d)) → wX_copyingTurn_66 post sa dg st da rn cn s sv iv c) ∧ (∀ post : SY → Prop, (∀ a, a = upd t (192 + nx) v → ∀ b, b = upd a 271 (a 271 + 1) → ∀ f, f = upd b 274 1 → ∀ d, d = upd e 5 (e 5 + 1) → post (sb, f, tv, jv, d)) → wY_copying_68 post sb t tv jv e) := by
      have x0 : ¬ s 270 ≤ 0 := by rw [e5]; exact nI_nle (by omega) (by omega)
      have x1 : 16 - s 270 = nI nx := by
        rw [e5]
        show nI 16 - nI (16 - nx) = nI nx
        rw [pk_sub (by omega), show 16 - (16 - nx) = nx by omega]
      have x2 : s 269 + nI nx = nI (16 * pg + nx) := by rw [e3, nI_add]
      have x3 : (192 : Int32) + nI nx = nI (192 + nx) := nI_add 192 nx
      have y0 : ¬ t 271 = 16 := by rw [e6]; exact qa_neN (b := 16) k (by omega) (by omega)
      have y1 : 16 * t 270 + t 271 = nI (16 * pg + nx) := by
        rw [e4, e6]
        show nI 16 * nI pg + nI nx = _
        rw [pk_mul, nI_add]
      have i1 : vp_in (192 + nI nx) 488 := by rw [x3]; exact vp_in_nI (by omega) (by omega)
      have i2 : vp_in (192 + t 271) 512 := by rw [e6, x3]; exact vp_in_nI (by omega) (by omega)
      have c1 : ((192 : Int32) + nI nx).toNatClampNeg = 192 + nx := by rw [x3]; exact nI_clamp (by omega)
      have c2 : ((192 : Int32) + t 271).toNatClampNeg = 192 + nx := by rw [e6]; exact c1
      by_cases k2 : 16 * pg + nx < 240
      · refine ⟨s (16 * pg + nx), (C _ (by omega)).2, ?_, ?_⟩
        · intro post h
          refine br_f x0 ⟨rfl, qa_fit1, br_f (by decide) (nm_r x1 (nm_r x2 (br_f (nI_ge (b := 240) k2 (by omega)) ⟨vp_in_nI (by omega) (by omega), i1, ?_⟩)))⟩
          rw [c1, nI_clamp (by omega)]
          exact h
        · intro post h
          refine br_f y0 (nm_r y1 (br_t (nI_le (b := 239) (by omega) (by omega)) ⟨vp_in_nI (by omega) (by omega), i2, ?_⟩))
          rw [c2, nI_clamp (by omega), (C (16 * pg + nx) (by omega)).1]
          exact h
      · refine ⟨255, qa_B255, ?_, ?_⟩
        · intro post h
          refine br_f x0 ⟨rfl, qa_fit1, br_f (by decide) (nm_r x1 (nm_r x2 (br_t (nI_le (a := 240) (by omega) (by omega)) ⟨i1, ?_⟩)))⟩
          rw [c1]
          exact h
        · intro post h
          refine br_f y0 (nm_r y1 (br_f (nI_ge (a := 239) (by omega) (by omega)) ⟨i2, ?_⟩))
          rw [c2]
          exact h
    obtain ⟨v, hv, hX, hY⟩ := hv
    refine ⟨upd (upd s (192 + nx) v) 270 (upd s (192 + nx) v 270 - 1), upd (upd (upd t (192 + nx) v) 271 (upd t (192 + nx) v 271 + 1)) 274 1, 1, upd c 5 (c 5 + 1), upd e 5 (e 5 + 1), ?_, ?_, ?_, ?_, pk_us, Or.inr rfl, ?_, qa_agU qa_ag0 (by unfold hr_C4; omega), qa_agU qa_ag0 (by unfold hr_C4; omega), ?_, ?_⟩
    · exact hr_ceX (hr_ceY (hr_ceY (hr_ceB C hv rfl) (by omega)) (by omega)) (by omega)
    · refine ⟨dl, pg, nx + 1, h1, h2, by omega, ?_, ?_, ?_, ?_, ?_, ?_, ?_⟩
      · rw [pk_un (by omega), pk_un (by omega)]; exact e1
      · rw [pk_un (by omega), pk_un (by omega), pk_un (by omega)]; exact e2
      · rw [pk_un (by omega), pk_un (by omega)]; exact e3
      · rw [pk_un (by omega), pk_un (by omega), pk_un (by omega)]; exact e4
      · rw [pk_us, pk_un (by omega), e5]
        show nI (16 - nx) - nI 1 = _
        rw [pk_sub (by omega), show 16 - nx - 1 = 16 - (nx + 1) by omega]
      · rw [pk_un (by omega), pk_us, pk_un (by omega), e6, nI_1]
      · rw [pk_un (by omega), pk_un (by omega), pk_un (by omega), pk_un (by omega), pk_un (by omega)]; exact e7
    · exact qa_agU (qa_agU qa_ag0 (by omega)) (by omega)
    · exact qa_agU (qa_agU (qa_agU qa_ag0 (by omega)) (by omega)) (by omega)
    · refine ⟨N.1, ?_, N.2.2⟩
      show c 5 + 1 = e 5 + 1
      rw [N.2.1]
    · intro post h
      exact hX post (nm_e (nm_e (nm_e h)))
    · intro post h
      exact hY post (nm_e (nm_e (nm_e (nm_e h))))
theorem pr_copying (H : hr_Hw s t) (N : hr_cn c e) : ∃ (s' t' : Nat → Int32) (cn' : Int32) (c' e' : Nat → Int32), hr_Hw s' t' ∧ qa_ag hr_FX s s' ∧ qa_ag hr_FY t t' ∧ t' 269 = t 269 ∧ t' 274 = cn' ∧ qa_b cn' ∧ hr_cn c' e' ∧ qa_ag hr_C4 c c' ∧ qa_ag hr_C4 e e' ∧ (∀ post : SX → Prop, post (sa, dg, st, da, rn, cn', s', sv, iv, c') → wpX_copyingTurn post (sa, dg, st, da, rn, cn, s, sv, iv, c)) ∧ (∀ post : SY → Prop, post (sb, t', tv, jv, e') → wpY_copying post (sb, t, tv, jv, e)) := by
  have C := H.1
  have P := H.2.2.1
  have E : ∃ s1 t1 : Nat → Int32, hr_ce s1 t1 ∧ hr_cp s1 t1 ∧ t1 274 = 0 ∧ qa_ag (fun i => i < 268 ∨ 271 ≤ i) s s1 ∧ qa_ag (fun i => i ≠ 270 ∧ i ≠ 271 ∧ i ≠ 273 ∧ i ≠ 274) t t1 ∧ (∀ post : SX → Prop, wX_copyingTurn_66 post sa dg st da rn cn s1 sv iv c → wpX_copyingTurn post (sa, dg, st, da, rn, cn, s, sv, iv, c)) ∧ (∀ post : SY → Prop, wY_copying_68 post sb t1 tv jv e → wpY_copying post (sb, t, tv, jv, e)) := by
    obtain ⟨dl, pg, nx, h1, h2, h3, e1, e2, e3, e4, e5, e6, e7⟩ := P
    by_cases k0 : dl = 0
    · subst k0
      refine ⟨s, upd t 274 0, hr_ceY C (by omega), ⟨0, pg, nx, h1, h2, h3, e1, e2, e3, e4, e5, e6, e7⟩, rfl, qa_ag0, qa_agU qa_ag0 (by omega), ?_, ?_⟩
      · intro post h
        exact br_t (by rw [e1]; decide) h
      · intro post h
        refine nm_e (br_t ?_ h)
        show t 273 ≤ 0
        rw [e2]; decide
    by_cases k1 : dl = 1
    · subst k1
      refine ⟨upd (upd (upd s 268 (s 268 - 1)) 269 (16 * (upd s 268 (s 268 - 1) 253 &&& 15))) 270 16, upd (upd (upd (upd t 274 0) 273 (upd t 274 0 273 - 1)) 270 (upd (upd t 274 0) 273 (upd t 274 0 273 - 1) 272)) 271 0, ?_, ?_, rfl, ?_, ?_, ?_, ?_⟩
      · exact hr_ceX (hr_ceX (hr_ceX (hr_ceY (hr_ceY (hr_ceY (hr_ceY C (by omega)) (by omega)) (by omega)) (by omega)) (by omega)) (by omega)) (by omega)
      · obtain ⟨j, hj, ej⟩ := pk_andE (s 253) (m := 15) 4 (by decide)
        refine ⟨0, j, 0, by omega, by omega, by omega, ?_, ?_, ?_, ?_, rfl, rfl, e7⟩
        · show s 268 - 1 = nI 0
          rw [e1]; decide
        · show t 273 - 1 = nI 0
          rw [e2]; decide
        · show 16 * (s 253 &&& 15) = nI (16 * j)
          rw [ej]
          exact pk_mul 16 j
        · show t 272 = nI j
          rw [e7, ej]
      · exact qa_agU (qa_agU (qa_agU qa_ag0 (by omega)) (by omega)) (by omega)
      · exact qa_agU (qa_agU (qa_agU (qa_agU qa_ag0 (by omega)) (by omega)) (by omega)) (by omega)
      · intro post h
        refine br_f (by rw [e1]; decide) (nm_e (br_t ?_ (nm_e (nm_e h))))
        show s 268 - 1 = 0
        rw [e1]; decide
      · intro post h
        refine nm_e (br_f ?_ (nm_e (br_t ?_ (nm_e (nm_e h)))))
        · show ¬ t 273 ≤ 0
          rw [e2]; decide
        · show t 273 - 1 = 0
          rw [e2]; decide
    · have k2 : dl = 2 := by omega
      subst k2
      refine ⟨upd s 268 (s 268 - 1), upd (upd t 274 0) 273 (upd t 274 0 273 - 1), ?_, ⟨1, pg, nx, by omega, h2, h3, ?_, ?_, e3, e4, e5, e6, e7⟩, rfl, qa_agU qa_ag0 (by omega), qa_agU (qa_agU qa_ag0 (by omega)) (by omega), ?_, ?_⟩
      · exact hr_ceX (hr_ceY (hr_ceY C (by omega)) (by omega)) (by omega)
      · show s 268 - 1 = nI 1
        rw [e1]; decide
      · show t 273 - 1 = nI 1
        rw [e2]; decide
      · intro post h
        refine br_f (by rw [e1]; decide) (nm_e (br_f ?_ h))
        show ¬ s 268 - 1 = 0
        rw [e1]; decide
      · intro post h
        refine nm_e (br_f ?_ (nm_e (br_f ?_ h)))
        · show ¬ t 273 ≤ 0
          rw [e2]; decide
        · show ¬ t 273 - 1 = 0
          rw [e2]; decide
  obtain ⟨s1, t1, C1, P1, z1, a1, b1, X1, Y1⟩ := E
  obtain ⟨s', t', cn', c', e', h1, h2, h3, h4, h5, h6, h7, h8, h9, hX, hY⟩ := pr_c66 (sa := sa) (dg := dg) (st := st) (da := da) (rn := rn) (cn := cn) (sv := sv) (iv := iv) (c := c) (sb := sb) (tv := tv) (jv := jv) (e := e) C1 P1 z1 N
  refine ⟨s', t', cn', c', e', hr_HwC H h1 h2 ?_ ?_, ?_, ?_, ?_, h5, h6, h7, h8, h9, fun post h => X1 post (hX post h), fun post h => Y1 post (hY post h)⟩
  · exact qa_agT (qa_agW a1 (by omega)) (qa_agW h3 (by omega))
  · exact qa_agT (qa_agW b1 (by omega)) (qa_agW h4 (by omega))
  · exact qa_agT (qa_agW a1 (by unfold hr_FX; omega)) (qa_agW h3 (by unfold hr_FX; omega))
  · exact qa_agT (qa_agW b1 (by unfold hr_FY; omega)) (qa_agW h4 (by unfold hr_FY; omega))
  · exact (h4 269 (by omega)).trans (b1 269 (by omega))
end
end
section
/-! sprites that are looked at and fetched, strips: both sides -/
section
variable {sa dg st da rn cn : Int32} {s sv iv c : Nat → Int32} {sb : Int32} {t tv jv e : Nat → Int32}
theorem qa_up {k : Int32} {n : Nat} (f : Nat → Int32) (v : Int32) (h : k.toNatClampNeg = n) : upd f k.toNatClampNeg v = upd f n v := by rw [h]
theorem qa_ic (b n : Nat) (h : b + n < 1000) : (nI b + nI n).toNatClampNeg = b + n := by
  rw [nI_add]
  exact nI_clamp (by omega)
theorem qa_ii (b n N : Nat) (h : b + n < N) (hN : N < 1000) : vp_in (nI b + nI n) N := by
  rw [nI_add]
  exact vp_in_nI h (by omega)
theorem qa_i4 (b n : Nat) : nI b + nI 4 * nI n = nI (b + 4 * n) := by rw [pk_mul, nI_add]
theorem pr_sprite {ly tk f0 f1 n : Nat} (C : hr_ce s t) (hl : ly ≤ 11) (hn : n < 4) (ht : tk ≤ 2) (e1 : s 251 = nI ly) (e2 : s 282 = nI tk) (e3 : t 278 = nI tk) (S : hr_ss s t ly tk f0 f1) (hf0 : f0 ≤ 1) (hf1 : f1 ≤ 1) (hc : t 274 = cn) (hb : qa_b cn) :
    ∃ (s' t' : Nat → Int32) (tk' f0' f1' : Nat), hr_ss s' t' ly tk' f0' f1' ∧ tk' ≤ 2 ∧ f0' ≤ 1 ∧ f1' ≤ 1 ∧ s' 282 = nI tk' ∧ t' 278 = nI tk' ∧ qa_ag (fun i => i < 282 ∨ 291 ≤ i) s s' ∧ qa_ag (fun i => i < 278 ∨ 287 ≤ i) t t' ∧ (∀ post : SX → Prop, post (sa, dg, st, da, rn, cn, s', sv, iv, c) → wpX_lookAtSprite post (sa, dg, st, da, rn, cn, s, sv, iv, c) (nI n)) ∧ (∀ post : SY → Prop, post (sb, t', tv, jv, e) → wpY_look post (sb, t, tv, jv, e) (nI n)) := by
  have e1' : t 251 = nI ly := (C 251 (by omega)).1.trans e1
  obtain ⟨cy, y, hy, ey⟩ := C (192 + 4 * n) (by omega)
  obtain ⟨cx, x, hx, ex⟩ := C (193 + 4 * n) (by omega)
  have i4 : (192 : Int32) + 4 * nI n = nI (192 + 4 * n) := qa_i4 192 n
  have j4 : (193 : Int32) + 4 * nI n = nI (193 + 4 * n) := qa_i4 193 n
  have ic : (nI (192 + 4 * n)).toNatClampNeg = 192 + 4 * n := nI_clamp (by omega)
  by_cases q : y ≤ ly ∧ ly - y ≤ 3 ∧ tk < 2 ∧ cn = 0
  · obtain ⟨q1, q2, q3, q4⟩ := q
    have er : s 251 - s (nI (192 + 4 * n)).toNatClampNeg = nI (ly - y) := by
      rw [ic, e1, ey]
      exact pk_sub q1
    have er' : t 251 - t (192 + 4 * nI n).toNatClampNeg = nI (ly - y) := by
      rw [i4, ic, e1', cy, ey]
      exact pk_sub q1
    have tt : tk = 0 ∨ tk = 1 := by omega
    rcases tt with rfl | rfl
    · have r1 : (nI (192 + 4 * n) + 1).toNatClampNeg = 193 + 4 * n := by
        rw [nI_1, nI_clamp (by omega)]
        omega
      have r2 : ((193 : Int32) + 4 * nI n).toNatClampNeg = 193 + 4 * n := by
        rw [j4]
        exact nI_clamp (by omega)
      refine ⟨upd (upd (upd (upd (upd s 283 (nI n)) 285 (nI (ly - y))) 287 ((upd (upd s 283 (nI n)) 285 (nI (ly - y))) (nI (192 + 4 * n) + 1).toNatClampNeg)) 289 0) 282 ((upd (upd (upd (upd s 283 (nI n)) 285 (nI (ly - y))) 287 ((upd (upd s 283 (nI n)) 285 (nI (ly - y))) (nI (192 + 4 * n) + 1).toNatClampNeg)) 289 0) 282 + 1), upd (upd (upd (upd (upd t 279 (nI n)) 281 ((upd t 279 (nI n)) (193 + 4 * nI n).toNatClampNeg)) 283 (t (192 + 4 * nI n).toNatClampNeg)) 285 0) 278 ((upd (upd (upd (upd t 279 (nI n)) 281 ((upd t 279 (nI n)) (193 + 4 * nI n).toNatClampNeg)) 283 (t (192 + 4 * nI n).toNatClampNeg)) 285 0) 278 + 1), 1, 0, f1, ?_, by omega, by omega, by omega, ?_, ?_, ?_, ?_, ?_, ?_⟩
      · refine hr_tk0 S hn q2 (by omega) hx rfl rfl rfl ?_ ?_ ?_
        · rw [i4, ic, cy, ey, show ly - (ly - y) = y by omega]
        · rw [r1, pk_un (by omega), pk_un (by omega)]
          exact ex
        · rw [r2, pk_un (by omega), cx]
          exact ex
      · show s 282 + 1 = nI 1
        rw [e2]; decide
      · show t 278 + 1 = nI 1
        rw [e3]; decide
      · exact qa_agU (qa_agU (qa_agU (qa_agU (qa_agU qa_ag0 (by omega)) (by omega)) (by omega)) (by omega)) (by omega)
      · exact qa_agU (qa_agU (qa_agU (qa_agU (qa_agU qa_ag0 (by omega)) (by omega)) (by omega)) (by omega)) (by omega)
      · intro post h
        refine nm_r i4 ⟨vp_in_nI (by omega) (by omega), nm_r er (nm_r e2 (br_f (nI_pos (by omega)) (br_f (nI_nlt (a := 3) q2 (by omega)) (br_f (nI_ge (b := 2) (by omega) (by omega)) (br_t q4 ⟨qa_ii 283 0 488 (by omega) (by omega), nm_r (qa_up _ _ (qa_ic 283 0 (by omega))) ⟨qa_ii 285 0 488 (by omega) (by omega), nm_r (qa_up _ _ (qa_ic 285 0 (by omega))) ⟨?_, qa_ii 287 0 488 (by omega) (by omega), nm_r (qa_up _ _ (qa_ic 287 0 (by omega))) ⟨qa_ii 289 0 488 (by omega) (by omega), nm_r (qa_up _ _ (qa_ic 289 0 (by omega))) (nm_e h)⟩⟩⟩⟩)))))⟩
        rw [nI_1]
        exact vp_in_nI (by omega) (by omega)
      · intro post h
        refine ⟨by rw [i4]; exact vp_in_nI (by omega) (by omega), nm_e (nm_r er' (br_f (nI_pos (by omega)) (br_f (nI_nlt (a := 3) q2 (by omega)) (br_f (by rw [e3]; decide) (br_f (by rw [hc, q4]; decide) (nm_r e3 ⟨qa_ii 279 0 512 (by omega) (by omega), nm_r (qa_up _ _ (qa_ic 279 0 (by omega))) ⟨?_, qa_ii 281 0 512 (by omega) (by omega), nm_r (qa_up _ _ (qa_ic 281 0 (by omega))) ⟨qa_ii 283 0 512 (by omega) (by omega), nm_r (qa_up _ _ (qa_ic 283 0 (by omega))) ⟨qa_ii 285 0 512 (by omega) (by omega), nm_r (qa_up _ _ (qa_ic 285 0 (by omega))) (nm_e h)⟩⟩⟩⟩))))))⟩
        rw [j4]
        exact vp_in_nI (by omega) (by omega)
    · have r1 : (nI (192 + 4 * n) + 1).toNatClampNeg = 193 + 4 * n := by
        rw [nI_1, nI_clamp (by omega)]
        omega
      have r2 : ((193 : Int32) + 4 * nI n).toNatClampNeg = 193 + 4 * n := by
        rw [j4]
        exact nI_clamp (by omega)
      refine ⟨upd (upd (upd (upd (upd s 284 (nI n)) 286 (nI (ly - y))) 288 ((upd (upd s 284 (nI n)) 286 (nI (ly - y))) (nI (192 + 4 * n) + 1).toNatClampNeg)) 290 0) 282 ((upd (upd (upd (upd s 284 (nI n)) 286 (nI (ly - y))) 288 ((upd (upd s 284 (nI n)) 286 (nI (ly - y))) (nI (192 + 4 * n) + 1).toNatClampNeg)) 290 0) 282 + 1), upd (upd (upd (upd (upd t 280 (nI n)) 282 ((upd t 280 (nI n)) (193 + 4 * nI n).toNatClampNeg)) 284 (t (192 + 4 * nI n).toNatClampNeg)) 286 0) 278 ((upd (upd (upd (upd t 280 (nI n)) 282 ((upd t 280 (nI n)) (193 + 4 * nI n).toNatClampNeg)) 284 (t (192 + 4 * nI n).toNatClampNeg)) 286 0) 278 + 1), 2, f0, 0, ?_, by omega, by omega, by omega, ?_, ?_, ?_, ?_, ?_, ?_⟩
      · refine hr_tk1 S hn q2 (by omega) hx rfl rfl rfl ?_ ?_ ?_
        · rw [i4, ic, cy, ey, show ly - (ly - y) = y by omega]
        · rw [r1, pk_un (by omega), pk_un (by omega)]
          exact ex
        · rw [r2, pk_un (by omega), cx]
          exact ex
      · show s 282 + 1 = nI 2
        rw [e2]; decide
      · show t 278 + 1 = nI 2
        rw [e3]; decide
      · exact qa_agU (qa_agU (qa_agU (qa_agU (qa_agU qa_ag0 (by omega)) (by omega)) (by omega)) (by omega)) (by omega)
      · exact qa_agU (qa_agU (qa_agU (qa_agU (qa_agU qa_ag0 (by omega)) (by omega)) (by omega)) (by omega)) (by omega)
      · intro post h
        refine nm_r i4 ⟨vp_in_nI (by omega) (by omega), nm_r er (nm_r e2 (br_f (nI_pos (by omega)) (br_f (nI_nlt (a := 3) q2 (by omega)) (br_f (nI_ge (b := 2) (by omega) (by omega)) (br_t q4 ⟨qa_ii 283 1 488 (by omega) (by omega), nm_r (qa_up _ _ (qa_ic 283 1 (by omega))) ⟨qa_ii 285 1 488 (by omega) (by omega), nm_r (qa_up _ _ (qa_ic 285 1 (by omega))) ⟨?_, qa_ii 287 1 488 (by omega) (by omega), nm_r (qa_up _ _ (qa_ic 287 1 (by omega))) ⟨qa_ii 289 1 488 (by omega) (by omega), nm_r (qa_up _ _ (qa_ic 289 1 (by omega))) (nm_e h)⟩⟩⟩⟩)))))⟩
        rw [nI_1]
        exact vp_in_nI (by omega) (by omega)
      · intro post h
        refine ⟨by rw [i4]; exact vp_in_nI (by omega) (by omega), nm_e (nm_r er' (br_f (nI_pos (by omega)) (br_f (nI_nlt (a := 3) q2 (by omega)) (br_f (by rw [e3]; decide) (br_f (by rw [hc, q4]; decide) (nm_r e3 ⟨qa_ii 279 1 512 (by omega) (by omega), nm_r (qa_up _ _ (qa_ic 279 1 (by omega))) ⟨?_, qa_ii 281 1 512 (by omega) (by omega), nm_r (qa_up _ _ (qa_ic 281 1 (by omega))) ⟨qa_ii 283 1 512 (by omega) (by omega), nm_r (qa_up _ _ (qa_ic 283 1 (by omega))) ⟨qa_ii 285 1 512 (by omega) (by omega), nm_r (qa_up _ _ (qa_ic 285 1 (by omega))) (nm_e h)⟩⟩⟩⟩))))))⟩
        rw [j4]
        exact vp_in_nI (by omega) (by omega)
  · refine ⟨s, t, tk, f0, f1, S, ht, hf0, hf1, e2, e3, qa_ag0, qa_ag0, ?_, ?_⟩
    · intro post h
      refine nm_r i4 ⟨vp_in_nI (by omega) (by omega), nm_e (nm_e ?_)⟩
      rw [ic, e1, ey, e2]
      by_cases k1 : y ≤ ly
      · rw [pk_sub k1]
        refine br_f (nI_pos (by omega)) ?_
        by_cases k2 : ly - y ≤ 3
        · refine br_f (nI_nlt (a := 3) k2 (by omega)) ?_
          by_cases k3 : tk < 2
          · exact br_f (nI_ge (b := 2) k3 (by omega)) (br_f (fun z => q ⟨k1, k2, k3, z⟩) h)
          · exact br_t (nI_le (a := 2) (by omega) (by omega)) h
        · exact br_t (nI_lt (a := 3) (by omega) (by omega)) h
      · exact br_t (pk_sneg (by omega) (by omega)) h
    · intro post h
      refine ⟨by rw [i4]; exact vp_in_nI (by omega) (by omega), nm_e (nm_e ?_)⟩
      rw [i4, ic, e1', cy, ey, e3, hc]
      by_cases k1 : y ≤ ly
      · rw [pk_sub k1]
        refine br_f (nI_pos (by omega)) ?_
        by_cases k2 : ly - y ≤ 3
        · refine br_f (nI_nlt (a := 3) k2 (by omega)) ?_
          by_cases k3 : tk < 2
          · exact br_f (qa_neN (b := 2) (by omega) (by omega) (by omega)) (br_t (hb.resolve_left (fun z => q ⟨k1, k2, k3, z⟩)) h)
          · exact br_t (by rw [show tk = 2 by omega]; rfl) h
        · exact br_t (nI_lt (a := 3) (by omega) (by omega)) h
      · exact br_t (pk_sneg (by omega) (by omega)) h
end
end
section
/-! sprites and strips are fetched: both sides -/
section
variable {sa dg st da rn cn : Int32} {s sv iv c : Nat → Int32} {sb : Int32} {t tv jv e : Nat → Int32}
theorem qa_p2 {b k : Nat} (hb : b < 256) (hk : k < 4) : (nI b >>> ((2 * nI k) &&& 31)) &&& 3 = nI (b / 4 ^ k % 4) := by
  have z : (2 : Int32) * nI k = nI (2 * k) := pk_mul 2 k
  rw [z]
  exact qa_px hb hk
theorem qa_p6 {b k : Nat} (hb : b < 256) (hk : k < 4) : (nI b >>> ((6 - 2 * nI k) &&& 31)) &&& 3 = nI (b / 4 ^ (3 - k) % 4) := by
  have z : (6 : Int32) - 2 * nI k = nI (2 * (3 - k)) := by
    show nI 6 - nI 2 * nI k = _
    rw [pk_mul, pk_sub (by omega), show 6 - 2 * k = 2 * (3 - k) by omega]
  rw [z]
  exact qa_px hb (by omega)
theorem my_fl {post : SY → Prop} {i lk b0 : Nat} (hi : i < 2) (f : Nat → Int32) (hf : ∀ k, k < 4 → (if nI lk &&& 1 = 0 then (nI b0 >>> ((6 - 2 * nI k) &&& 31)) &&& 3 else (nI b0 >>> ((2 * nI k) &&& 31)) &&& 3) = f k) (h : post (sb, upd (upd (qa_fill t (289 + 4 * i) 4 f) (287 + i) (nI lk)) (285 + i) 1, tv, jv, e)) :
    ∀ d k, k + d = 4 → wY_fetch_89 post (nI i) (nI lk) (nI b0) sb (d + 1) (nI k) (qa_fill t (289 + 4 * i) k f) tv jv e := by
  intro d
  induction d with
  | zero =>
    intro k hk
    have z : k = 4 := by omega
    subst z
    exact br_t (nI_le (a := 4) (by omega) (by omega)) ⟨qa_ii 287 i 512 (by omega) (by omega), nm_r (qa_up _ _ (qa_ic 287 i (by omega))) ⟨qa_ii 285 i 512 (by omega) (by omega), nm_r (qa_up _ _ (qa_ic 285 i (by omega))) h⟩⟩
  | succ d ih =>
    intro k hk
    have ei : (289 : Int32) + 4 * nI i + nI k = nI (289 + 4 * i + k) := by
      show nI 289 + nI 4 * nI i + nI k = _
      rw [qa_i4, nI_add]
    have hI : vp_in (289 + 4 * nI i + nI k) 512 := by rw [ei]; exact vp_in_nI (by omega) (by omega)
    have hS : ∀ v, v = f k → upd (qa_fill t (289 + 4 * i) k f) (289 + 4 * nI i + nI k).toNatClampNeg v = qa_fill t (289 + 4 * i) (k + 1) f := by
      intro v hv
      rw [ei, nI_clamp (by omega), hv]
      exact qa_fillS _ _ _ _
    have hk4 := hf k (by omega)
    refine br_f (nI_ge (b := 4) (by omega) (by omega)) ⟨fun z => ⟨hI, nm_r (hS _ ?_) (nm_r (nI_1 k) (ih (k + 1) (by omega)))⟩, fun z => ⟨hI, nm_r (hS _ ?_) (nm_r (nI_1 k) (ih (k + 1) (by omega)))⟩⟩
    · rwa [if_pos z] at hk4
    · rwa [if_neg z] at hk4
theorem pr_fetch {ly i fe : Nat} (C : hr_ce s t) (hl : ly ≤ 11) (hi : i < 2) (e1 : s 251 = nI ly) (S : hr_sp s t ly i fe) :
    ∃ (b lk : Nat) (t' : Nat → Int32), b < 256 ∧ lk < 256 ∧ (∀ k, k < 4 → t' (289 + 4 * i + k) = nI (b / 4 ^ (3 - k) % 4)) ∧ qa_ag (fun j => j < 289 + 4 * i ∨ 293 + 4 * i ≤ j) t t' ∧ (∀ post : SX → Prop, post (sa, dg, st, da, rn, cn, upd (upd (upd s (289 + i) 1) (291 + i) (nI b)) (293 + i) (nI lk), sv, iv, c) → wpX_fetchSprite post (sa, dg, st, da, rn, cn, s, sv, iv, c) (nI i)) ∧ (∀ post : SY → Prop, post (sb, upd (upd t' (287 + i) (nI lk)) (285 + i) 1, tv, jv, e) → wpY_fetch post (sb, t, tv, jv, e) (nI i)) := by
  obtain ⟨w, r, x, h1, h2, h3, h4, g1, g2, g3, g4, g5, g6, g7, g8, g⟩ := S
  have e1' : t 251 = nI ly := (C 251 (by omega)).1.trans e1
  obtain ⟨cl, lk, hlk, el⟩ := C (195 + 4 * w) (by omega)
  obtain ⟨ct, u0, hu0, eu0⟩ := C (194 + 4 * w) (by omega)
  obtain ⟨rr, hrr, r0, r1⟩ : ∃ rr : Nat, rr ≤ 3 ∧ (nI lk &&& 2 = 0 → rr = r) ∧ (¬ nI lk &&& 2 = 0 → rr = 3 - r) := by
    by_cases z : nI lk &&& 2 = 0
    · exact ⟨r, h2, fun _ => rfl, fun y => absurd z y⟩
    · exact ⟨3 - r, by omega, fun y => absurd y z, fun _ => rfl⟩
  have eu : nI u0 &&& 7 = nI (u0 % 8) := pk_andN (by omega) 3 (by decide)
  obtain ⟨cb, b0, hb0, eb0⟩ := C (128 + 4 * (u0 % 8) + rr) (by omega)
  obtain ⟨b, hb, f0, f1⟩ : ∃ b : Nat, b < 256 ∧ (nI lk &&& 1 = 0 → b = b0) ∧ (¬ nI lk &&& 1 = 0 → b = qa_rv b0) := by
    by_cases z : nI lk &&& 1 = 0
    · exact ⟨b0, hb0, fun _ => rfl, fun y => absurd z y⟩
    · exact ⟨qa_rv b0, qa_rvB hb0, fun y => absurd y z, fun _ => rfl⟩
  have a1 : (192 : Int32) + 4 * nI w = nI (192 + 4 * w) := qa_i4 192 w
  have a3 : nI (192 + 4 * w) + 3 = nI (195 + 4 * w) := by
    show nI (192 + 4 * w) + nI 3 = _
    rw [nI_add, show 192 + 4 * w + 3 = 195 + 4 * w by omega]
  have a2 : nI (192 + 4 * w) + 2 = nI (194 + 4 * w) := by
    show nI (192 + 4 * w) + nI 2 = _
    rw [nI_add, show 192 + 4 * w + 2 = 194 + 4 * w by omega]
  have a5 : ((128 : Int32) + 4 * nI (u0 % 8)) + nI rr = nI (128 + 4 * (u0 % 8) + rr) := by
    show nI 128 + nI 4 * nI (u0 % 8) + nI rr = _
    rw [qa_i4, nI_add]
  refine ⟨b, lk, qa_fill t (289 + 4 * i) 4 (fun k => nI (b / 4 ^ (3 - k) % 4)), hb, hlk, fun k hk => qa_fillI hk, fun j hj => qa_fillO (by omega), ?_, ?_⟩
  · intro post h
    have G114 : wX_fetchSprite_114 post (nI i) (nI lk) (nI b) sa dg st da rn cn s sv iv c := ⟨qa_ii 289 i 488 (by omega) (by omega), nm_r (qa_up _ _ (qa_ic 289 i (by omega))) ⟨qa_ii 291 i 488 (by omega) (by omega), nm_r (qa_up _ _ (qa_ic 291 i (by omega))) ⟨qa_ii 293 i 488 (by omega) (by omega), nm_r (qa_up _ _ (qa_ic 293 i (by omega))) h⟩⟩⟩
    have G50 : wX_fetchSprite_50 post (nI i) (nI (192 + 4 * w)) (nI lk) (nI rr) sa dg st da rn cn s sv iv c := by
      have q1 : s (nI (192 + 4 * w) + 2).toNatClampNeg &&& 7 = nI (u0 % 8) := by rw [a2, nI_clamp (by omega), eu0, eu]
      refine ⟨by rw [a2]; exact vp_in_nI (by omega) (by omega), by rw [q1, a5]; exact vp_in_nI (by omega) (by omega), nm_r (e' := nI b0) (by rw [q1, a5, nI_clamp (by omega)]; exact eb0) ⟨fun z => ?_, fun z => ?_⟩⟩
      · rw [← f0 z]; exact G114
      · refine nm_r (e' := nI b) ?_ G114
        rw [f1 z]; exact qa_rvX b0 hb0
    refine ⟨qa_ii 283 i 488 (by omega) (by omega), nm_r (e' := nI (192 + 4 * w)) ?_ ⟨by rw [a3]; exact vp_in_nI (by omega) (by omega), nm_r (e' := nI lk) ?_ ⟨qa_ii 285 i 488 (by omega) (by omega), nm_r (e' := nI r) ?_ ⟨fun z => ?_, fun z => nm_r (e' := nI rr) ?_ G50⟩⟩⟩⟩
    · show (192 : Int32) + 4 * s (nI 283 + nI i).toNatClampNeg = _
      rw [qa_ic 283 i (by omega), g1, a1]
    · rw [a3, nI_clamp (by omega)]; exact el
    · show s (nI 285 + nI i).toNatClampNeg = _
      rw [qa_ic 285 i (by omega)]; exact g3
    · rw [← r0 z]; exact G50
    · rw [r1 z]; exact pk_sub (a := 3) h2
  · intro post h
    have GL := my_fl (b0 := b0) hi (fun k => nI (b / 4 ^ (3 - k) % 4)) (by
      intro k hk
      by_cases z : nI lk &&& 1 = 0
      · rw [if_pos z, f0 z]; exact qa_p6 hb0 hk
      · rw [if_neg z, f1 z, qa_p2 hb0 hk, qa_rvK hb0 hk]) h 4 0 rfl
    rw [qa_fill0] at GL
    have G59 : wY_fetch_59 post (nI i) (nI (192 + 4 * w)) (nI lk) (nI rr) sb t tv jv e := by
      have q1 : t (nI (192 + 4 * w) + 2).toNatClampNeg &&& 7 = nI (u0 % 8) := by rw [a2, nI_clamp (by omega), ct, eu0, eu]
      exact ⟨by rw [a2]; exact vp_in_nI (by omega) (by omega), by rw [q1, a5]; exact vp_in_nI (by omega) (by omega), nm_r (e' := nI b0) (by rw [q1, a5, nI_clamp (by omega), cb]; exact eb0) ⟨5, GL⟩⟩
    refine ⟨qa_ii 279 i 512 (by omega) (by omega), nm_r (e' := nI (192 + 4 * w)) ?_ ⟨by rw [a3]; exact vp_in_nI (by omega) (by omega), nm_r (e' := nI lk) ?_ ⟨qa_ii 283 i 512 (by omega) (by omega), nm_r (e' := nI r) ?_ ⟨fun z => ?_, fun z => nm_r (e' := nI rr) ?_ G59⟩⟩⟩⟩
    · show (192 : Int32) + 4 * t (nI 279 + nI i).toNatClampNeg = _
      rw [qa_ic 279 i (by omega), g2, a1]
    · rw [a3, nI_clamp (by omega), cl]; exact el
    · show t 251 - t (nI 283 + nI i).toNatClampNeg = _
      rw [qa_ic 283 i (by omega), g4, e1', pk_sub (by omega), show ly - (ly - r) = r by omega]
    · rw [← r0 z]; exact G59
    · rw [r1 z]; exact pk_sub (a := 3) h2
/-! a strip -/
theorem mx_s77 {post : SX → Prop} {v a z b : Nat} (hv : v < 1000) (ha : a + 12 < 256) (ez : s (a + 4 * (v / 4 % 4)) = nI z) (hz : z < 256) (eb : s (128 + 4 * (z % 8) + v % 4) = nI b) (h : post (sa, dg, st, da, rn, cn, upd (upd (upd s 277 (nI b)) 278 4) 279 (upd (upd s 277 (nI b)) 278 4 279 + 1), sv, iv, c)) : wX_fetchStrip_77 post (nI v) (nI a) sa dg st da rn cn s sv iv c := by
  have d4 : nI v / 4 = nI (v / 4) := pk_div (d := 4) (by omega) (by omega) (by omega)
  have r4 : nI (v / 4) - nI (v / 4) / 4 * 4 = nI (v / 4 % 4) := pk_rem (d := 4) (by omega) (by omega) (by omega)
  have r5 : nI v - nI v / 4 * 4 = nI (v % 4) := pk_rem (d := 4) (by omega) (by omega) (by omega)
  have i1 : nI a + 4 * ((nI v / 4) - (nI v / 4) / 4 * 4) = nI (a + 4 * (v / 4 % 4)) := by
    rw [d4, r4]
    exact qa_i4 a _
  have q1 : s (nI a + 4 * ((nI v / 4) - (nI v / 4) / 4 * 4)).toNatClampNeg &&& 7 = nI (z % 8) := by
    rw [i1, nI_clamp (by omega), ez]
    exact pk_andN (by omega) 3 (by decide)
  have i2 : ((128 : Int32) + 4 * nI (z % 8)) + (nI v - nI v / 4 * 4) = nI (128 + 4 * (z % 8) + v % 4) := by
    rw [r5]
    show nI 128 + nI 4 * nI (z % 8) + nI (v % 4) = _
    rw [qa_i4, nI_add]
  have q2 : s (((128 : Int32) + 4 * nI (z % 8)) + (nI v - nI v / 4 * 4)).toNatClampNeg = nI b := by
    rw [i2, nI_clamp (by omega)]
    exact eb
  refine ⟨by decide, by decide, by rw [i1]; exact vp_in_nI (by omega) (by omega), nm_r q1 ⟨by decide, by rw [i2]; exact vp_in_nI (by omega) (by omega), ?_⟩⟩
  rw [q2]
  exact nm_e (nm_e (nm_e h))
theorem my_sl {post : SY → Prop} {b : Nat} (hb : b < 256) (h : post (sb, upd (upd (qa_fill t 300 4 (fun k => nI (b / 4 ^ (3 - k) % 4))) 298 (qa_fill t 300 4 (fun k => nI (b / 4 ^ (3 - k) % 4)) 298 + 1)) 299 0, tv, jv, e)) :
    ∀ d k, k + d = 4 → wY_strip_151 post (nI b) sb (d + 1) (nI k) (qa_fill t 300 k (fun k => nI (b / 4 ^ (3 - k) % 4))) tv jv e := by
  intro d
  induction d with
  | zero =>
    intro k hk
    have z : k = 4 := by omega
    subst z
    exact br_t (nI_le (a := 4) (by omega) (by omega)) (nm_e (nm_e h))
  | succ d ih =>
    intro k hk
    have hS : upd (qa_fill t 300 k (fun k => nI (b / 4 ^ (3 - k) % 4))) (nI 300 + nI k).toNatClampNeg ((nI b >>> ((6 - 2 * nI k) &&& 31)) &&& 3) = qa_fill t 300 (k + 1) (fun k => nI (b / 4 ^ (3 - k) % 4)) := by
      rw [qa_ic 300 k (by omega), qa_p6 hb (by omega)]
      exact qa_fillS _ _ _ _
    exact br_f (nI_ge (b := 4) (by omega) (by omega)) ⟨qa_ii 300 k 512 (by omega) (by omega), nm_r hS (nm_r (nI_1 k) (ih (k + 1) (by omega)))⟩
theorem my_s105 {post : SY → Prop} {v ac mp z b : Nat} (hv : v < 1000) (hac : ac < 1000) (ha : mp + 16 < 256) (ez : t (mp + 4 * (v / 4 % 4) + ac % 4) = nI z) (hz : z < 256) (eb : t (128 + 4 * (z % 8) + v % 4) = nI b) (hb : b < 256) (h : post (sb, upd (upd (qa_fill t 300 4 (fun k => nI (b / 4 ^ (3 - k) % 4))) 298 (qa_fill t 300 4 (fun k => nI (b / 4 ^ (3 - k) % 4)) 298 + 1)) 299 0, tv, jv, e)) : wY_strip_105 post (nI v) (nI ac) (nI mp) sb t tv jv e := by
  have d4 : nI v / 4 = nI (v / 4) := pk_div (d := 4) (by omega) (by omega) (by omega)
  have r4 : nI (v / 4) - nI (v / 4) / 4 * 4 = nI (v / 4 % 4) := pk_rem (d := 4) (by omega) (by omega) (by omega)
  have r5 : nI v - nI v / 4 * 4 = nI (v % 4) := pk_rem (d := 4) (by omega) (by omega) (by omega)
  have r6 : nI ac - nI ac / 4 * 4 = nI (ac % 4) := pk_rem (d := 4) (by omega) (by omega) (by omega)
  have i1 : (nI mp + 4 * ((nI v / 4) - (nI v / 4) / 4 * 4)) + (nI ac - nI ac / 4 * 4) = nI (mp + 4 * (v / 4 % 4) + ac % 4) := by
    rw [d4, r4, r6]
    show nI mp + nI 4 * nI (v / 4 % 4) + nI (ac % 4) = _
    rw [qa_i4, nI_add]
  have q1 : t ((nI mp + 4 * ((nI v / 4) - (nI v / 4) / 4 * 4)) + (nI ac - nI ac / 4 * 4)).toNatClampNeg &&& 7 = nI (z % 8) := by
    rw [i1, nI_clamp (by omega), ez]
    exact pk_andN (by omega) 3 (by decide)
  have i2 : ((128 : Int32) + 4 * nI (z % 8)) + (nI v - nI v / 4 * 4) = nI (128 + 4 * (z % 8) + v % 4) := by
    rw [r5]
    show nI 128 + nI 4 * nI (z % 8) + nI (v % 4) = _
    rw [qa_i4, nI_add]
  have q2 : t (((128 : Int32) + 4 * nI (z % 8)) + (nI v - nI v / 4 * 4)).toNatClampNeg = nI b := by
    rw [i2, nI_clamp (by omega)]
    exact eb
  have GL := my_sl hb h 4 0 rfl
  rw [qa_fill0] at GL
  exact ⟨by decide, by decide, by decide, by rw [i1]; exact vp_in_nI (by omega) (by omega), nm_r q1 ⟨by decide, by rw [i2]; exact vp_in_nI (by omega) (by omega), nm_r q2 ⟨5, GL⟩⟩⟩
theorem pr_strip {ly wl he nx : Nat} (C : hr_ce s t) (hl : ly ≤ 7) (e1 : s 251 = nI ly) (hh : he ≤ 1) (e2 : s 280 = nI he) (e3 : t 304 = nI he) (e4 : s 279 = nI nx) (e5 : t 298 = nI nx) (hn : nx ≤ 28) (e6 : s 281 = nI wl) (hw : wl ≤ 8) (hw1 : he ≤ wl) (g1 : he = 1 → t 306 = nI (wl - 1)) :
    ∃ (b : Nat) (t' : Nat → Int32), b < 256 ∧ (∀ k, k < 4 → t' (300 + k) = nI (b / 4 ^ (3 - k) % 4)) ∧ qa_ag (fun j => j < 300 ∨ 304 ≤ j) t t' ∧ (∀ post : SX → Prop, post (sa, dg, st, da, rn, cn, upd (upd (upd s 277 (nI b)) 278 4) 279 (upd (upd s 277 (nI b)) 278 4 279 + 1), sv, iv, c) → wpX_fetchStrip post (sa, dg, st, da, rn, cn, s, sv, iv, c)) ∧ (∀ post : SY → Prop, post (sb, upd (upd t' 298 (t' 298 + 1)) 299 0, tv, jv, e) → wpY_strip post (sb, t, tv, jv, e)) := by
  have e1' : t 251 = nI ly := (C 251 (by omega)).1.trans e1
  obtain ⟨cy, sy, hsy, ey⟩ := C 249 (by omega)
  obtain ⟨cx, sx, hsx, ex⟩ := C 250 (by omega)
  have ey' : t 249 = nI sy := cy.trans ey
  have ex' : t 250 = nI sx := cx.trans ex
  have v1 : s 251 + s 249 = nI (ly + sy) := by rw [e1, ey, nI_add]
  have v1' : t 251 + t 249 = nI (ly + sy) := by rw [e1', ey', nI_add]
  have w1 : s 250 / 4 + nI nx = nI (sx / 4 + nx) := by
    rw [ex, show nI sx / 4 = nI (sx / 4) from pk_div (d := 4) (by omega) (by omega) (by omega), nI_add]
  have w1' : t 250 / 4 + t 298 = nI (sx / 4 + nx) := by
    rw [ex', e5, show nI sx / 4 = nI (sx / 4) from pk_div (d := 4) (by omega) (by omega) (by omega), nI_add]
  have w2 : (160 : Int32) + ((s 250 / 4 + nI nx) - (s 250 / 4 + nI nx) / 4 * 4) = nI (160 + (sx / 4 + nx) % 4) := by
    rw [w1, show nI (sx / 4 + nx) - nI (sx / 4 + nx) / 4 * 4 = nI ((sx / 4 + nx) % 4) from pk_rem (d := 4) (by omega) (by omega) (by omega)]
    exact nI_add 160 _
  have w3 : (176 : Int32) + (nI nx - nI nx / 4 * 4) = nI (176 + nx % 4) := by
    rw [show nI nx - nI nx / 4 * 4 = nI (nx % 4) from pk_rem (d := 4) (by omega) (by omega) (by omega)]
    exact nI_add 176 _
  by_cases k : he = 1
  · subst k
    have ev : s 281 - 1 = nI (wl - 1) := by
      rw [e6]
      exact pk_sub (b := 1) (by omega)
    obtain ⟨cz, z, hz, ez⟩ := C (176 + nx % 4 + 4 * ((wl - 1) / 4 % 4)) (by omega)
    obtain ⟨cb, b, hb, eb⟩ := C (128 + 4 * (z % 8) + (wl - 1) % 4) (by omega)
    refine ⟨b, qa_fill t 300 4 (fun k => nI (b / 4 ^ (3 - k) % 4)), hb, fun k hk => qa_fillI hk, fun j hj => qa_fillO (by omega), ?_, ?_⟩
    · intro post h
      exact nm_r e4 (nm_e ⟨by decide, by decide, nm_e (br_t e2 (nm_r ev ⟨by decide, nm_r w3 (mx_s77 (by omega) (by omega) ez hz eb h)⟩))⟩)
    · intro post h
      refine br_t e3 (br_t e3 (br_t e3 ?_))
      rw [g1 rfl, e5]
      refine my_s105 (mp := 176) (by omega) (by omega) (by omega) ?_ hz (cb.trans eb) hb h
      rw [show 176 + 4 * ((wl - 1) / 4 % 4) + nx % 4 = 176 + nx % 4 + 4 * ((wl - 1) / 4 % 4) by omega, cz]
      exact ez
  · have k0 : he = 0 := by omega
    subst k0
    have n2 : ¬ s 280 = 1 := by rw [e2]; decide
    have n3 : ¬ t 304 = 1 := by rw [e3]; decide
    obtain ⟨cz, z, hz, ez⟩ := C (160 + (sx / 4 + nx) % 4 + 4 * ((ly + sy) / 4 % 4)) (by omega)
    obtain ⟨cb, b, hb, eb⟩ := C (128 + 4 * (z % 8) + (ly + sy) % 4) (by omega)
    refine ⟨b, qa_fill t 300 4 (fun k => nI (b / 4 ^ (3 - k) % 4)), hb, fun k hk => qa_fillI hk, fun j hj => qa_fillO (by omega), ?_, ?_⟩
    · intro post h
      exact nm_r e4 (nm_r v1 ⟨by decide, by decide, nm_r w2 (br_f n2 (mx_s77 (by omega) (by omega) ez hz eb h))⟩)
    · intro post h
      refine br_f n3 ?_
      rw [v1']
      refine br_f n3 ⟨by decide, br_f n3 ?_⟩
      rw [w1']
      refine my_s105 (mp := 160) (by omega) (by omega) (by omega) ?_ hz (cb.trans eb) hb h
      rw [show 160 + 4 * ((ly + sy) / 4 % 4) + (sx / 4 + nx) % 4 = 160 + (sx / 4 + nx) % 4 + 4 * ((ly + sy) / 4 % 4) by omega, cz]
      exact ez
end
end
section
/-! a pixel is drawn: both sides -/
section
variable {sa dg st da rn cn : Int32} {s sv iv c : Nat → Int32} {sb : Int32} {t tv jv e : Nat → Int32}
theorem pr_spx {ly tk i fe x : Nat} (hi : i < 2) (ht : tk ≤ 2) (hfe : fe ≤ 1) (hx : x < 12) (e2 : s 282 = nI tk) (e3 : t 278 = nI tk) (P : i < tk → hr_sp s t ly i fe) :
    ∃ v : Nat, v < 4 ∧ (∀ post : Int32 → Prop, post (nI v) → wpX_spritePixel post (sa, dg, st, da, rn, cn, s, sv, iv, c) (nI i) (nI x)) ∧
      (v ≠ 0 → ∃ xx lk : Nat, i < tk ∧ xx ≤ x ∧ x < xx + 4 ∧ lk < 256 ∧ s (287 + i) = nI xx ∧ t (281 + i) = nI xx ∧ s (293 + i) = nI lk ∧ t (287 + i) = nI lk ∧ t (289 + 4 * i + (x - xx)) = nI v) ∧
      (i < tk → ¬ t 247 &&& 4 = 0 → ∀ (post : SY → Prop) (x2 x3 : Int32) (m : Nat), (v = 0 → wY_draw_62 post (nI x) x2 sb t tv jv e m x3 (nI (i + 1))) → (v ≠ 0 → (x3 < 0 → wY_draw_62 post (nI x) x2 sb t tv jv e m (nI i) (nI (i + 1))) ∧ (¬ x3 < 0 → vp_in (281 + nI i) 512 ∧ vp_in (281 + x3) 512 ∧ (t (281 + x3).toNatClampNeg ≤ t (281 + nI i).toNatClampNeg → wY_draw_62 post (nI x) x2 sb t tv jv e m x3 (nI (i + 1))) ∧ (¬ t (281 + x3).toNatClampNeg ≤ t (281 + nI i).toNatClampNeg → wY_draw_62 post (nI x) x2 sb t tv jv e m (nI i) (nI (i + 1))))) → wY_draw_62 post (nI x) x2 sb t tv jv e (m + 1) x3 (nI i)) := by
  by_cases k : i < tk
  · obtain ⟨w, r, xx, h1, h2, h3, h4, g1, g2, g3, g4, g5, g6, g7, g8, g⟩ := P k
    have nl : ¬ s 282 ≤ nI i := by rw [e2]; exact nI_ge k (by omega)
    have nl' : ¬ t 278 ≤ nI i := by rw [e3]; exact nI_ge k (by omega)
    have c7 : s (287 + nI i).toNatClampNeg = nI xx := by
      show s (nI 287 + nI i).toNatClampNeg = _
      rw [qa_ic 287 i (by omega)]; exact g5
    have c1 : t (281 + nI i).toNatClampNeg = nI xx := by
      show t (nI 281 + nI i).toNatClampNeg = _
      rw [qa_ic 281 i (by omega)]; exact g6
    have c9 : s (289 + nI i).toNatClampNeg = nI fe := by
      show s (nI 289 + nI i).toNatClampNeg = _
      rw [qa_ic 289 i (by omega)]; exact g7
    have c5 : t (285 + nI i).toNatClampNeg = nI fe := by
      show t (nI 285 + nI i).toNatClampNeg = _
      rw [qa_ic 285 i (by omega)]; exact g8
    have G133 : ∀ (post : SY → Prop) (x2 x3 x5 : Int32) (m : Nat), wY_draw_62 post (nI x) x2 sb t tv jv e m x3 (nI (i + 1)) → wY_draw_133 post (wY_draw_62 post (nI x) x2 sb t tv jv e m) (nI x) x2 x3 (nI i) x5 sb t tv jv e := fun post x2 x3 x5 m h => br_t rfl (nm_r (nI_1 i) h)
    by_cases kf : fe = 0
    · subst kf
      refine ⟨0, by omega, ?_, fun z => absurd rfl z, ?_⟩
      · intro post h
        exact ⟨qa_ii 287 i 488 (by omega) (by omega), nm_e (br_f nl ⟨qa_ii 289 i 488 (by omega) (by omega), br_t c9 h⟩)⟩
      · intro _ on post x2 x3 m h0 _
        exact br_f nl' (br_f on ⟨qa_ii 281 i 512 (by omega) (by omega), nm_e ⟨qa_ii 285 i 512 (by omega) (by omega), br_f (by rw [c5]; decide) (G133 post x2 x3 _ m (h0 rfl))⟩⟩)
    · have kf1 : fe = 1 := by omega
      subst kf1
      obtain ⟨lk, b, l1, l2, q1, q2, q3, q4⟩ := g rfl
      by_cases k1 : x < xx
      · have neg : nI x - nI xx < 0 := pk_sneg (by omega) k1
        refine ⟨0, by omega, ?_, fun z => absurd rfl z, ?_⟩
        · intro post h
          exact ⟨qa_ii 287 i 488 (by omega) (by omega), nm_r (e' := nI x - nI xx) (by rw [c7]) (br_f nl ⟨qa_ii 289 i 488 (by omega) (by omega), br_f (by rw [c9]; decide) (br_t neg h)⟩)⟩
        · intro _ on post x2 x3 m h0 _
          exact br_f nl' (br_f on ⟨qa_ii 281 i 512 (by omega) (by omega), nm_r (e' := nI x - nI xx) (by rw [c1]) ⟨qa_ii 285 i 512 (by omega) (by omega), br_t c5 (br_t neg (G133 post x2 x3 _ m (h0 rfl)))⟩⟩)
      · have ed : nI x - nI xx = nI (x - xx) := pk_sub (by omega)
        have pos : ¬ nI (x - xx) < 0 := nI_pos (by omega)
        by_cases k4 : 4 ≤ x - xx
        · refine ⟨0, by omega, ?_, fun z => absurd rfl z, ?_⟩
          · intro post h
            exact ⟨qa_ii 287 i 488 (by omega) (by omega), nm_r (e' := nI (x - xx)) (by rw [c7, ed]) (br_f nl ⟨qa_ii 289 i 488 (by omega) (by omega), br_f (by rw [c9]; decide) (br_f pos (br_f (nI_ge (a := 3) (by omega) (by omega)) h))⟩)⟩
          · intro _ on post x2 x3 m h0 _
            exact br_f nl' (br_f on ⟨qa_ii 281 i 512 (by omega) (by omega), nm_r (e' := nI (x - xx)) (by rw [c1, ed]) ⟨qa_ii 285 i 512 (by omega) (by omega), br_t c5 (br_f pos (br_t (nI_le (a := 4) k4 (by omega)) (G133 post x2 x3 _ m (h0 rfl))))⟩⟩)
        · have hd : x - xx < 4 := by omega
          have cb : s (291 + nI i).toNatClampNeg = nI b := by
            show s (nI 291 + nI i).toNatClampNeg = _
            rw [qa_ic 291 i (by omega)]; exact q3
          have i9 : (289 : Int32) + 4 * nI i + nI (x - xx) = nI (289 + 4 * i + (x - xx)) := by
            show nI 289 + nI 4 * nI i + nI (x - xx) = _
            rw [qa_i4, nI_add]
          have c99 : t ((289 : Int32) + 4 * nI i + nI (x - xx)).toNatClampNeg = nI (b / 4 ^ (3 - (x - xx)) % 4) := by
            rw [i9, nI_clamp (by omega)]
            exact q4 _ hd
          refine ⟨b / 4 ^ (3 - (x - xx)) % 4, Nat.mod_lt _ (by omega), ?_, ?_, ?_⟩
          · intro post h
            refine ⟨qa_ii 287 i 488 (by omega) (by omega), nm_r (e' := nI (x - xx)) (by rw [c7, ed]) (br_f nl ⟨qa_ii 289 i 488 (by omega) (by omega), br_f (by rw [c9]; decide) (br_f pos (br_t (nI_le (b := 3) (by omega) (by omega)) ⟨qa_ii 291 i 488 (by omega) (by omega), ?_⟩))⟩)⟩
            rw [cb, qa_p6 l2 hd]
            exact h
          · intro _
            exact ⟨xx, lk, k, by omega, by omega, l1, g5, g6, q1, q2, q4 _ hd⟩
          · intro _ on post x2 x3 m h0 h1
            refine br_f nl' (br_f on ⟨qa_ii 281 i 512 (by omega) (by omega), nm_r (e' := nI (x - xx)) (by rw [c1, ed]) ⟨qa_ii 285 i 512 (by omega) (by omega), br_t c5 (br_f pos (br_f (nI_ge (b := 4) hd (by omega)) (br_f (by decide) ⟨by rw [i9]; exact vp_in_nI (by omega) (by omega), ?_⟩)))⟩⟩)
            rw [c99]
            by_cases kv : b / 4 ^ (3 - (x - xx)) % 4 = 0
            · exact br_t (by rw [kv]; rfl) (nm_r (nI_1 i) (h0 kv))
            · have hv4 : b / 4 ^ (3 - (x - xx)) % 4 < 4 := Nat.mod_lt _ (by omega)
              have hh := h1 kv
              refine br_f (nI_ne0 (by omega) (by omega)) ⟨fun z => nm_r (nI_1 i) (hh.1 z), fun z => ⟨(hh.2 z).1, (hh.2 z).2.1, fun z2 => nm_r (nI_1 i) ((hh.2 z).2.2.1 z2), fun z2 => nm_r (nI_1 i) ((hh.2 z).2.2.2 z2)⟩⟩
  · refine ⟨0, by omega, ?_, fun z => absurd rfl z, fun z => absurd z k⟩
    intro post h
    exact ⟨qa_ii 287 i 488 (by omega) (by omega), nm_e (br_t (by rw [e2]; exact nI_le (by omega) (by omega)) h)⟩
/-- which sprite is in front; the answers of both sides -/
theorem pr_front {ly tk f0 f1 x : Nat} (ht : tk ≤ 2) (hf0 : f0 ≤ 1) (hf1 : f1 ≤ 1) (hx : x < 12) (e2 : s 282 = nI tk) (e3 : t 278 = nI tk) (S : hr_ss s t ly tk f0 f1) (on : ¬ t 247 &&& 4 = 0) :
    ∃ r : Int32, (r = -1 ∨ ∃ i v xx lk : Nat, i < 2 ∧ v < 4 ∧ r = nI i ∧ xx ≤ x ∧ x < xx + 4 ∧ lk < 256 ∧ t (281 + i) = nI xx ∧ s (293 + i) = nI lk ∧ t (287 + i) = nI lk ∧ t (289 + 4 * i + (x - xx)) = nI v ∧ (∀ post : Int32 → Prop, post (nI v) → wpX_spritePixel post (sa, dg, st, da, rn, cn, s, sv, iv, c) (nI i) (nI x))) ∧
      (∀ post : Int32 → Prop, post r → wpX_frontPlace post (sa, dg, st, da, rn, cn, s, sv, iv, c) (nI x)) ∧
      (∀ (post : SY → Prop) (x2 : Int32), wY_draw_200 post (nI x) x2 r sb t tv jv e → ∃ n62, wY_draw_62 post (nI x) x2 sb t tv jv e n62 (-1) 0) := by
  obtain ⟨v0, hv0, X0, F0, Y0⟩ := pr_spx (sa := sa) (dg := dg) (st := st) (da := da) (rn := rn) (cn := cn) (sv := sv) (iv := iv) (c := c) (sb := sb) (tv := tv) (jv := jv) (e := e) (i := 0) (x := x) (by omega) ht hf0 hx e2 e3 (fun z => S.1 (by omega))
  obtain ⟨v1, hv1, X1, F1, Y1⟩ := pr_spx (sa := sa) (dg := dg) (st := st) (da := da) (rn := rn) (cn := cn) (sv := sv) (iv := iv) (c := c) (sb := sb) (tv := tv) (jv := jv) (e := e) (i := 1) (x := x) (by omega) ht hf1 hx e2 e3 (fun z => S.2 (by omega))
  -- the ends of both loops
  have XE : ∀ (post : Int32 → Prop) (r : Int32), post r → wX_frontPlace_4 post (nI x) sa dg st da rn cn s sv iv c 1 r (nI 2) := fun post r h => br_t (by decide) h
  have YE : ∀ (post : SY → Prop) (x2 r : Int32), wY_draw_200 post (nI x) x2 r sb t tv jv e → wY_draw_62 post (nI x) x2 sb t tv jv e 1 r (nI 2) := fun post x2 r h => br_t (by rw [e3]; exact nI_le ht (by omega)) h
  -- the second place with nothing to see
  have X1z : v1 = 0 → ∀ (post : Int32 → Prop) (r : Int32), post r → wX_frontPlace_4 post (nI x) sa dg st da rn cn s sv iv c 2 r (nI 1) := fun z post r h => br_f (by decide) (X1 _ (br_t (by rw [z]; rfl) (nm_r (nI_1 1) (XE post r h))))
  have Y1z : v1 = 0 → ∀ (post : SY → Prop) (x2 r : Int32), wY_draw_200 post (nI x) x2 r sb t tv jv e → wY_draw_62 post (nI x) x2 sb t tv jv e 2 r (nI 1) := by
    intro z post x2 r h
    by_cases k : 1 < tk
    · exact Y1 k on post x2 r 1 (fun _ => YE post x2 r h) (fun y => absurd z y)
    · exact br_t (by rw [e3]; exact nI_le (by omega) (by omega)) h
  by_cases z0 : v0 = 0
  · -- nothing at the first place
    have X0z : ∀ (post : Int32 → Prop), wX_frontPlace_4 post (nI x) sa dg st da rn cn s sv iv c 2 (-1) (nI 1) → wpX_frontPlace post (sa, dg, st, da, rn, cn, s, sv, iv, c) (nI x) := fun post h => ⟨3, br_f (by decide) (X0 _ (br_t (by rw [z0]; rfl) (nm_r (nI_1 0) h)))⟩
    have Y0z : ∀ (post : SY → Prop) (x2 : Int32), wY_draw_62 post (nI x) x2 sb t tv jv e 2 (-1) (nI 1) → (tk = 0 → wY_draw_200 post (nI x) x2 (-1) sb t tv jv e) → ∃ n62, wY_draw_62 post (nI x) x2 sb t tv jv e n62 (-1) 0 := by
      intro post x2 h h0
      by_cases k : 0 < tk
      · exact ⟨3, Y0 k on post x2 (-1) 2 (fun _ => h) (fun y => absurd z0 y)⟩
      · exact ⟨1, br_t (by rw [e3, show tk = 0 by omega]; decide) (h0 (by omega))⟩
    by_cases z1 : v1 = 0
    · exact ⟨-1, Or.inl rfl, fun post h => X0z post (X1z z1 post (-1) h), fun post x2 h => Y0z post x2 (Y1z z1 post x2 (-1) h) (fun _ => h)⟩
    · obtain ⟨xx, lk, k1, k2, k3, k4, k5, k6, k7, k8, k9⟩ := F1 z1
      refine ⟨nI 1, Or.inr ⟨1, v1, xx, lk, by omega, hv1, rfl, k2, k3, k4, k6, k7, k8, k9, X1⟩, ?_, ?_⟩
      · intro post h
        exact X0z post (br_f (by decide) (X1 _ (br_f (nI_ne0 (by omega) (by omega)) (br_t (by decide) (nm_r (nI_1 1) (XE post (nI 1) h))))))
      · intro post x2 h
        refine Y0z post x2 (Y1 k1 on post x2 (-1) 1 (fun y => absurd y z1) (fun _ => br_t (by decide) (YE post x2 (nI 1) h))) (fun y => absurd k1 (by omega))
  · obtain ⟨x0, lk0, k01, k02, k03, k04, k05, k06, k07, k08, k09⟩ := F0 z0
    have X0n : ∀ (post : Int32 → Prop), wX_frontPlace_4 post (nI x) sa dg st da rn cn s sv iv c 2 (nI 0) (nI 1) → wpX_frontPlace post (sa, dg, st, da, rn, cn, s, sv, iv, c) (nI x) := fun post h => ⟨3, br_f (by decide) (X0 _ (br_f (nI_ne0 (by omega) (by omega)) (br_t (by decide) (nm_r (nI_1 0) h))))⟩
    have Y0n : ∀ (post : SY → Prop) (x2 : Int32), wY_draw_62 post (nI x) x2 sb t tv jv e 2 (nI 0) (nI 1) → ∃ n62, wY_draw_62 post (nI x) x2 sb t tv jv e n62 (-1) 0 := fun post x2 h => ⟨3, Y0 k01 on post x2 (-1) 2 (fun y => absurd y z0) (fun _ => br_t (by decide) h)⟩
    by_cases z1 : v1 = 0
    · exact ⟨nI 0, Or.inr ⟨0, v0, x0, lk0, by omega, hv0, rfl, k02, k03, k04, k06, k07, k08, k09, X0⟩, fun post h => X0n post (X1z z1 post (nI 0) h), fun post x2 h => Y0n post x2 (Y1z z1 post x2 (nI 0) h)⟩
    · obtain ⟨x1, lk1, k11, k12, k13, k14, k15, k16, k17, k18, k19⟩ := F1 z1
      have s0 : s ((287 : Int32) + nI 0).toNatClampNeg = nI x0 := by
        show s (nI 287 + nI 0).toNatClampNeg = _
        rw [qa_ic 287 0 (by omega)]; exact k05
      have s1 : s ((287 : Int32) + nI 1).toNatClampNeg = nI x1 := by
        show s (nI 287 + nI 1).toNatClampNeg = _
        rw [qa_ic 287 1 (by omega)]; exact k15
      have t0 : t ((281 : Int32) + nI 0).toNatClampNeg = nI x0 := by
        show t (nI 281 + nI 0).toNatClampNeg = _
        rw [qa_ic 281 0 (by omega)]; exact k06
      have t1 : t ((281 : Int32) + nI 1).toNatClampNeg = nI x1 := by
        show t (nI 281 + nI 1).toNatClampNeg = _
        rw [qa_ic 281 1 (by omega)]; exact k16
      by_cases le : x0 ≤ x1
      · refine ⟨nI 0, Or.inr ⟨0, v0, x0, lk0, by omega, hv0, rfl, k02, k03, k04, k06, k07, k08, k09, X0⟩, ?_, ?_⟩
        · intro post h
          exact X0n post (br_f (by decide) (X1 _ (br_f (nI_ne0 (by omega) (by omega)) (br_f (by decide) ⟨qa_ii 287 1 488 (by omega) (by omega), qa_ii 287 0 488 (by omega) (by omega), br_t (by rw [s0, s1]; exact nI_le le (by omega)) (nm_r (nI_1 1) (XE post (nI 0) h))⟩))))
        · intro post x2 h
          exact Y0n post x2 (Y1 k11 on post x2 (nI 0) 1 (fun y => absurd y z1) (fun _ => br_f (by decide) ⟨qa_ii 281 1 512 (by omega) (by omega), qa_ii 281 0 512 (by omega) (by omega), br_t (by rw [t0, t1]; exact nI_le le (by omega)) (YE post x2 (nI 0) h)⟩))
      · refine ⟨nI 1, Or.inr ⟨1, v1, x1, lk1, by omega, hv1, rfl, k12, k13, k14, k16, k17, k18, k19, X1⟩, ?_, ?_⟩
        · intro post h
          exact X0n post (br_f (by decide) (X1 _ (br_f (nI_ne0 (by omega) (by omega)) (br_f (by decide) ⟨qa_ii 287 1 488 (by omega) (by omega), qa_ii 287 0 488 (by omega) (by omega), br_f (by rw [s0, s1]; exact nI_ge (by omega) (by omega)) (nm_r (nI_1 1) (XE post (nI 1) h))⟩))))
        · intro post x2 h
          exact Y0n post x2 (Y1 k11 on post x2 (nI 0) 1 (fun y => absurd y z1) (fun _ => br_f (by decide) ⟨qa_ii 281 1 512 (by omega) (by omega), qa_ii 281 0 512 (by omega) (by omega), br_f (by rw [t0, t1]; exact nI_ge (by omega) (by omega)) (YE post x2 (nI 1) h)⟩))
/-- the colour of the pixel -/
theorem pr_pix {ly tk f0 f1 x : Nat} (C : hr_ce s t) (ht : tk ≤ 2) (hf0 : f0 ≤ 1) (hf1 : f1 ≤ 1) (hx : x < 12) (e2 : s 282 = nI tk) (e3 : t 278 = nI tk) (S : hr_ss s t ly tk f0 f1) (bk : Int32) :
    ∃ col : Int32, (∀ post : SX → Prop, wX_drawPixel_78 post (nI x) col sa dg st da rn cn s sv iv c → wX_drawPixel_23 post (nI x) bk sa dg st da rn cn s sv iv c) ∧ (∀ post : SY → Prop, wY_draw_255 post (nI x) col sb t tv jv e → ∃ n62, wY_draw_62 post (nI x) bk sb t tv jv e n62 (-1) 0) := by
  have e247 := (C 247 (by omega)).1
  by_cases on : s 247 &&& 4 = 0
  · have on' : t 247 &&& 4 = 0 := by rw [e247]; exact on
    refine ⟨bk, ?_, ?_⟩
    · intro post h
      unfold wX_drawPixel_23
      exact br_t on (br_t rfl (br_t (by decide) h))
    · intro post h
      have g : wY_draw_200 post (nI x) bk (-1) sb t tv jv e := br_t (by decide) h
      by_cases k : t 278 ≤ 0
      · exact ⟨1, br_t k g⟩
      · exact ⟨1, br_f k (br_t on' g)⟩
  · have on' : ¬ t 247 &&& 4 = 0 := by rw [e247]; exact on
    obtain ⟨r, hr, hX, hY⟩ := pr_front (sa := sa) (dg := dg) (st := st) (da := da) (rn := rn) (cn := cn) (sv := sv) (iv := iv) (c := c) (sb := sb) (tv := tv) (jv := jv) (e := e) ht hf0 hf1 hx e2 e3 S on'
    have x23 : ∀ post : SX → Prop, wX_drawPixel_41 post (nI x) bk r sa dg st da rn cn s sv iv c → wX_drawPixel_23 post (nI x) bk sa dg st da rn cn s sv iv c := by
      intro post h
      unfold wX_drawPixel_23
      refine br_f on (br_f (by decide) ?_)
      exact hX _ h
    rcases hr with rfl | ⟨i, v, xx, lk, hi, hv, rfl, a1, a2, a3, a4, a5, a6, a7, a8⟩
    · exact ⟨bk, fun post h => x23 post (br_t (by decide) h), fun post h => hY post bk (br_t (by decide) h)⟩
    · have pi : ¬ nI i < 0 := nI_pos (by omega)
      have l1 : s ((293 : Int32) + nI i).toNatClampNeg = nI lk := by
        show s (nI 293 + nI i).toNatClampNeg = _
        rw [qa_ic 293 i (by omega)]; exact a5
      have l2 : t ((287 : Int32) + nI i).toNatClampNeg = nI lk := by
        show t (nI 287 + nI i).toNatClampNeg = _
        rw [qa_ic 287 i (by omega)]; exact a6
      have l3 : t ((281 : Int32) + nI i).toNatClampNeg = nI xx := by
        show t (nI 281 + nI i).toNatClampNeg = _
        rw [qa_ic 281 i (by omega)]; exact a4
      have l4 : ((289 : Int32) + 4 * nI i + nI x) - t ((281 : Int32) + nI i).toNatClampNeg = nI (289 + 4 * i + (x - xx)) := by
        rw [l3]
        show nI 289 + nI 4 * nI i + nI x - nI xx = _
        rw [qa_i4, nI_add, pk_sub (by omega), show 289 + 4 * i + x - xx = 289 + 4 * i + (x - xx) by omega]
      have x68 : ∀ post : SX → Prop, wX_drawPixel_78 post (nI x) (4 + nI v) sa dg st da rn cn s sv iv c → wX_drawPixel_68 post (nI x) (nI i) sa dg st da rn cn s sv iv c := by
        intro post h
        unfold wX_drawPixel_68
        exact a8 _ (nm_e h)
      have y226 : ∀ post : SY → Prop, wY_draw_255 post (nI x) (4 + nI v) sb t tv jv e → wY_draw_226 post (nI x) (nI i) sb t tv jv e := by
        intro post h
        refine ⟨qa_ii 281 i 512 (by omega) (by omega), by rw [l4]; exact vp_in_nI (by omega) (by omega), nm_r (e' := 4 + nI v) ?_ h⟩
        rw [l4, nI_clamp (by omega), a7]
      by_cases kb : bk = 0
      · exact ⟨4 + nI v, fun post h => x23 post (br_f pi (br_t kb (x68 post h))), fun post h => hY post bk (br_f pi (br_t kb (y226 post h)))⟩
      · by_cases kl : nI lk &&& 4 = 0
        · exact ⟨4 + nI v, fun post h => x23 post (br_f pi (br_f kb ⟨qa_ii 293 i 488 (by omega) (by omega), br_t (by rw [l1]; exact kl) (x68 post h)⟩)), fun post h => hY post bk (br_f pi (br_f kb ⟨qa_ii 287 i 512 (by omega) (by omega), br_t (by rw [l2]; exact kl) (y226 post h)⟩))⟩
        · exact ⟨bk, fun post h => x23 post (br_f pi (br_f kb ⟨qa_ii 293 i 488 (by omega) (by omega), br_f (by rw [l1]; exact kl) h⟩)), fun post h => hY post bk (br_f pi (br_f kb ⟨qa_ii 287 i 512 (by omega) (by omega), br_f (by rw [l2]; exact kl) h⟩))⟩
end
end
section
/-! one dot of drawing: both sides -/
section
variable {sa dg st da rn cn : Int32} {s sv iv c : Nat → Int32} {sb : Int32} {t tv jv e : Nat → Int32}
def hr_GX (i : Nat) : Prop := i < 274 ∨ (281 < i ∧ i < 283) ∨ 391 ≤ i
def hr_GY (i : Nat) : Prop := i < 277 ∨ i = 278 ∨ i = 308 ∨ (310 ≤ i ∧ i < 320) ∨ 416 ≤ i
theorem hr_deE {ly d wl f0 f1 q ee ef x dp pa le nx he : Nat} (h : hr_de s t ly d wl f0 f1 q ee x dp pa le nx he) (hl : ee ≤ ef) : hr_de s t ly d wl f0 f1 q ef x dp pa le nx he := by
  obtain ⟨a1, a2, a3, a4, a5, a6⟩ := h
  exact ⟨a1, a2, a3, a4, by omega, a6⟩
/-- what a dot leaves behind, on both sides -/
def hr_af (s' t' c' e' s t c e : Nat → Int32) (ly d tk : Nat) : Prop := ∃ wl f0 f1 x dp pa le nx he : Nat, hr_bs s' t' ly d 3 wl tk ∧ hr_ss s' t' ly tk f0 f1 ∧ f0 ≤ 1 ∧ f1 ≤ 1 ∧ hr_de s' t' ly d wl f0 f1 25 d x dp pa le nx he ∧ hr_cn c' e' ∧ qa_ag hr_C4 c c' ∧ qa_ag hr_C4 e e' ∧ qa_ag hr_GX s s' ∧ qa_ag hr_GY t t'
theorem pr_tail {ly d wl tk f0 f1 ee x dp le nx he : Nat} (C : hr_ce s t) (hl : ly ≤ 7) (hd : d ≤ 28) (ht : tk ≤ 2) (hf0 : f0 ≤ 1) (hf1 : f1 ≤ 1) (he_ : ee ≤ d) (hx : x < 12) (B : hr_bs s t ly d 3 wl tk) (S : hr_ss s t ly tk f0 f1) (D : hr_de s t ly d wl f0 f1 26 ee x dp 0 (le + 1) nx he) (N : hr_cn c e) :
    ∃ s' t' c' e' : Nat → Int32, hr_af s' t' c' e' s t c e ly d tk ∧ (∀ post : SX → Prop, post (sa, dg, st, da, rn, cn, s', sv, iv, c') → wX_drawingDot_82 post sa dg st da rn cn s sv iv c) ∧ (∀ post : SY → Prop, post (sb, t', tv, jv, e') → wY_dot_270 post sb t tv jv e) := by
  have D0 := D
  obtain ⟨a1, a2, a3, a4, a5, a6, a7, a8, a9, e1, e2, e3, e4, e5, e6, e7, e8, e9, e10, e11, e12, e13, g1, g2, g4⟩ := D
  obtain ⟨b, hb, eb, ef⟩ := g2 (by omega)
  have v1 : s 278 - 1 = nI le := by rw [e8]; exact nI_pred le
  have w1 : t 299 + 1 = nI (4 - le) := by rw [e9, nI_1, show 4 - (le + 1) + 1 = 4 - le by omega]
  by_cases kd : dp = 0
  · subst kd
    have C1 : hr_ce (upd s 278 (s 278 - 1)) (upd t 299 (t 299 + 1)) := hr_ceX (hr_ceY C (by omega)) (by omega)
    have S1 : hr_ss (upd s 278 (s 278 - 1)) (upd t 299 (t 299 + 1)) ly tk f0 f1 := hr_ssA S (qa_agU qa_ag0 (by unfold hr_SX; omega)) (qa_agU qa_ag0 (by unfold hr_SY; omega))
    obtain ⟨bk, hbX, hbY⟩ : ∃ bk : Int32, (∀ post : SX → Prop, wX_drawPixel_23 post (nI x) bk sa dg st da rn cn (upd s 278 (s 278 - 1)) sv iv c → wpX_drawPixel post (sa, dg, st, da, rn, cn, upd s 278 (s 278 - 1), sv, iv, c) (nI (b / 4 ^ le % 4))) ∧ (∀ post : SY → Prop, (∃ n62, wY_draw_62 post (nI x) bk sb (upd t 299 (t 299 + 1)) tv jv e n62 (-1) 0) → wpY_draw post (sb, t, tv, jv, e)) := by
      have e247 := (C 247 (by omega)).1
      by_cases k8 : s 247 &&& 8 = 0
      · refine ⟨0, ?_, ?_⟩
        · intro post h
          refine nm_r (e' := nI x) e1 ?_
          exact br_t k8 (br_t rfl h)
        · intro post h
          exact nm_r e2 (br_t (by rw [e247]; exact k8) (nm_e h))
      · refine ⟨nI (b / 4 ^ le % 4), ?_, ?_⟩
        · intro post h
          refine nm_r (e' := nI x) e1 ?_
          exact br_f k8 (br_f (by decide) h)
        · intro post h
          have i1 : (300 : Int32) + t 299 = nI (300 + (3 - le)) := by
            rw [e9, show 4 - (le + 1) = 3 - le by omega]
            exact nI_add 300 _
          have i2 : t ((300 : Int32) + t 299).toNatClampNeg = nI (b / 4 ^ le % 4) := by
            rw [i1, nI_clamp (by omega), ef (3 - le) (by omega), show 3 - (3 - le) = le by omega]
          refine nm_r e2 (br_f (by rw [e247]; exact k8) ⟨by rw [i1]; exact vp_in_nI (by omega) (by omega), ?_⟩)
          rw [i2]
          exact nm_e h
    obtain ⟨col, hcX, hcY⟩ := pr_pix (sa := sa) (dg := dg) (st := st) (da := da) (rn := rn) (cn := cn) (sv := sv) (iv := iv) (c := c) (sb := sb) (tv := tv) (jv := jv) (e := e) C1 ht hf0 hf1 hx (e2 := B.2.2.2.2.2.2.2.1) (e3 := B.2.2.2.2.2.2.2.2) S1 bk
    have i5 : ((295 : Int32) + 12 * s 251) + nI x = nI (295 + (12 * ly + x)) := by
      rw [B.1]
      show nI 295 + nI 12 * nI ly + nI x = _
      rw [pk_mul, nI_add, nI_add, show 295 + 12 * ly + x = 295 + (12 * ly + x) by omega]
    have i6 : ((320 : Int32) + 12 * t 251) + nI x = nI (320 + (12 * ly + x)) := by
      rw [(C 251 (by omega)).1, B.1]
      show nI 320 + nI 12 * nI ly + nI x = _
      rw [pk_mul, nI_add, nI_add, show 320 + 12 * ly + x = 320 + (12 * ly + x) by omega]
    have px : ((upd s 278 (s 278 - 1) 277) >>> ((2 * (upd s 278 (s 278 - 1) 278)) &&& 31)) &&& 3 = nI (b / 4 ^ le % 4) := by
      show (s 277 >>> ((2 * (s 278 - 1)) &&& 31)) &&& 3 = _
      rw [eb, v1]
      exact qa_p2 hb (by omega)
    have NX : upd (upd s 278 (s 278 - 1)) (295 + (12 * ly + x)) col 274 + 1 = nI (x + 1) := by
      rw [pk_un (by omega)]
      show s 274 + 1 = _
      rw [e1, nI_1]
    have NY : upd (upd t 299 (t 299 + 1)) (320 + (12 * ly + x)) col 277 + 1 = nI (x + 1) := by
      rw [pk_un (by omega)]
      show t 277 + 1 = _
      rw [e2, nI_1]
    have HN : hr_cn (upd c 6 (c 6 + 1)) (upd e 6 (e 6 + 1)) := by
      refine ⟨N.1, N.2.1, ?_⟩
      show c 6 + 1 = e 6 + 1
      rw [N.2.2]
    have WX : ∀ post : SX → Prop, post (sa, dg, st, da, rn, cn, upd (upd (upd s 278 (s 278 - 1)) (295 + (12 * ly + x)) col) 274 (upd (upd s 278 (s 278 - 1)) (295 + (12 * ly + x)) col 274 + 1), sv, iv, upd c 6 (c 6 + 1)) → wX_drawingDot_82 post sa dg st da rn cn s sv iv c := by
      intro post h
      refine nm_e (nm_r px (br_t ?_ ?_))
      · show s 275 ≤ 0
        rw [e4]; decide
      · refine hbX _ (hcX _ ⟨?_, nm_r (e' := upd (upd s 278 (s 278 - 1)) (295 + (12 * ly + x)) col) ?_ (nm_e (nm_e h))⟩)
        · show vp_in (((295 : Int32) + 12 * s 251) + nI x) 488
          rw [i5]; exact vp_in_nI (by omega) (by omega)
        · show upd (upd s 278 (s 278 - 1)) (((295 : Int32) + 12 * s 251) + nI x).toNatClampNeg col = _
          rw [i5, nI_clamp (by omega)]
    have WY : ∀ post : SY → Prop, ((upd (upd (upd t 299 (t 299 + 1)) (320 + (12 * ly + x)) col) 277 (upd (upd t 299 (t 299 + 1)) (320 + (12 * ly + x)) col 277 + 1) 277 = 12 → ∀ a, a = upd (upd (upd (upd t 299 (t 299 + 1)) (320 + (12 * ly + x)) col) 277 (upd (upd t 299 (t 299 + 1)) (320 + (12 * ly + x)) col 277 + 1)) 309 1 → post (sb, a, tv, jv, upd e 6 (e 6 + 1))) ∧ (¬ upd (upd (upd t 299 (t 299 + 1)) (320 + (12 * ly + x)) col) 277 (upd (upd t 299 (t 299 + 1)) (320 + (12 * ly + x)) col 277 + 1) 277 = 12 → post (sb, upd (upd (upd t 299 (t 299 + 1)) (320 + (12 * ly + x)) col) 277 (upd (upd t 299 (t 299 + 1)) (320 + (12 * ly + x)) col 277 + 1), tv, jv, upd e 6 (e 6 + 1)))) → wY_dot_270 post sb t tv jv e := by
      intro post h
      refine br_t (by rw [e5]; decide) (hbY _ (hcY _ ⟨?_, nm_r (e' := upd (upd t 299 (t 299 + 1)) (320 + (12 * ly + x)) col) ?_ (nm_e (nm_e h))⟩))
      · show vp_in (((320 : Int32) + 12 * t 251) + nI x) 512
        rw [i6]; exact vp_in_nI (by omega) (by omega)
      · show upd (upd t 299 (t 299 + 1)) (((320 : Int32) + 12 * t 251) + nI x).toNatClampNeg col = _
        rw [i6, nI_clamp (by omega)]
    by_cases kx : x = 11
    · subst kx
      refine ⟨_, upd (upd (upd (upd t 299 (t 299 + 1)) (320 + (12 * ly + 11)) col) 277 (upd (upd t 299 (t 299 + 1)) (320 + (12 * ly + 11)) col 277 + 1)) 309 1, _, upd e 6 (e 6 + 1), ⟨wl, f0, f1, 12, 0, 0, le, nx, he, ?_, ?_, hf0, hf1, hr_deE (hr_a7 D0 hl v1 NX w1 NY) he_, HN, qa_agU qa_ag0 (by unfold hr_C4; omega), qa_agU qa_ag0 (by unfold hr_C4; omega), ?_, ?_⟩, WX, fun post h => WY post (br_t NY (nm_e h))⟩
      · exact hr_bsA B (qa_agU (qa_agU (qa_agU qa_ag0 (by omega)) (by omega)) (by omega)) (qa_agU (qa_agU (qa_agU (qa_agU qa_ag0 (by omega)) (by omega)) (by omega)) (by omega))
      · exact hr_ssA S (qa_agU (qa_agU (qa_agU qa_ag0 (by unfold hr_SX; omega)) (by unfold hr_SX; omega)) (by unfold hr_SX; omega)) (qa_agU (qa_agU (qa_agU (qa_agU qa_ag0 (by unfold hr_SY; omega)) (by unfold hr_SY; omega)) (by unfold hr_SY; omega)) (by unfold hr_SY; omega))
      · exact qa_agU (qa_agU (qa_agU qa_ag0 (by unfold hr_GX; omega)) (by unfold hr_GX; omega)) (by unfold hr_GX; omega)
      · exact qa_agU (qa_agU (qa_agU (qa_agU qa_ag0 (by unfold hr_GY; omega)) (by unfold hr_GY; omega)) (by unfold hr_GY; omega)) (by unfold hr_GY; omega)
    · refine ⟨_, upd (upd (upd t 299 (t 299 + 1)) (320 + (12 * ly + x)) col) 277 (upd (upd t 299 (t 299 + 1)) (320 + (12 * ly + x)) col 277 + 1), _, upd e 6 (e 6 + 1), ⟨wl, f0, f1, x + 1, 0, 0, le, nx, he, ?_, ?_, hf0, hf1, hr_deE (hr_a6 D0 hl (by omega) v1 NX w1 NY) he_, HN, qa_agU qa_ag0 (by unfold hr_C4; omega), qa_agU qa_ag0 (by unfold hr_C4; omega), ?_, ?_⟩, WX, fun post h => WY post (br_f ?_ h)⟩
      · exact hr_bsA B (qa_agU (qa_agU (qa_agU qa_ag0 (by omega)) (by omega)) (by omega)) (qa_agU (qa_agU (qa_agU qa_ag0 (by omega)) (by omega)) (by omega))
      · exact hr_ssA S (qa_agU (qa_agU (qa_agU qa_ag0 (by unfold hr_SX; omega)) (by unfold hr_SX; omega)) (by unfold hr_SX; omega)) (qa_agU (qa_agU (qa_agU qa_ag0 (by unfold hr_SY; omega)) (by unfold hr_SY; omega)) (by unfold hr_SY; omega))
      · exact qa_agU (qa_agU (qa_agU qa_ag0 (by unfold hr_GX; omega)) (by unfold hr_GX; omega)) (by unfold hr_GX; omega)
      · exact qa_agU (qa_agU (qa_agU qa_ag0 (by unfold hr_GY; omega)) (by unfold hr_GY; omega)) (by unfold hr_GY; omega)
      · rw [pk_us, NY]
        exact qa_neN (b := 12) (by omega) (by omega) (by omega)
  · obtain ⟨dq, rfl⟩ : ∃ dq, dp = dq + 1 := ⟨dp - 1, by omega⟩
    have v2 : s 275 - 1 = nI dq := by rw [e4]; exact nI_pred dq
    have w2 : t 297 - 1 = nI dq := by rw [e5]; exact nI_pred dq
    refine ⟨upd (upd s 278 (s 278 - 1)) 275 (upd s 278 (s 278 - 1) 275 - 1), upd (upd t 297 (t 297 - 1)) 299 (upd t 297 (t 297 - 1) 299 + 1), c, e, ⟨wl, f0, f1, x, dq, 0, le, nx, he, ?_, ?_, hf0, hf1, hr_deE (hr_a5 D0 hl v1 v2 w2 w1) he_, N, qa_ag0, qa_ag0, ?_, ?_⟩, ?_, ?_⟩
    · exact hr_bsA B (qa_agU (qa_agU qa_ag0 (by omega)) (by omega)) (qa_agU (qa_agU qa_ag0 (by omega)) (by omega))
    · exact hr_ssA S (qa_agU (qa_agU qa_ag0 (by unfold hr_SX; omega)) (by unfold hr_SX; omega)) (qa_agU (qa_agU qa_ag0 (by unfold hr_SY; omega)) (by unfold hr_SY; omega))
    · exact qa_agU (qa_agU qa_ag0 (by unfold hr_GX; omega)) (by unfold hr_GX; omega)
    · exact qa_agU (qa_agU qa_ag0 (by unfold hr_GY; omega)) (by unfold hr_GY; omega)
    · intro post h
      refine nm_e (nm_e (br_f ?_ (nm_e h)))
      show ¬ s 275 ≤ 0
      rw [e4]; exact nI_nle (by omega) (by omega)
    · intro post h
      refine br_f ?_ (nm_e (nm_e h))
      rw [e5]; exact nI_nle (by omega) (by omega)
end
end
section
/-! which sprite is fetched; the dot as a whole: both sides -/
section
variable {sa dg st da rn cn : Int32} {s sv iv c : Nat → Int32} {sb : Int32} {t tv jv e : Nat → Int32}
theorem pr_pl1 {ly tk i fe x : Nat} (hi : i < 2) (ht : tk ≤ 2) (hfe : fe ≤ 1) (hx : x < 12) (e1 : s 274 = nI x) (e1' : t 277 = nI x) (e2 : s 282 = nI tk) (e3 : t 278 = nI tk) (on : ¬ t 247 &&& 4 = 0) (P : i < tk → hr_sp s t ly i fe) :
    (i < tk ∧ fe = 0 ∧ (∀ (post : Int32 → Prop) (m : Nat), post (nI i) → wX_placeToFetch_12 post sa dg st da rn cn s sv iv c (m + 1) (nI i)) ∧ (∀ (post : SY → Prop) (m : Nat) (t2 : Nat → Int32), (∀ Q : SY → Prop, Q (sb, t2, tv, jv, e) → wpY_fetch Q (sb, t, tv, jv, e) (nI i)) → post (sb, upd t2 307 1, tv, jv, e) → wY_dot_170 post sb t tv jv e (m + 1) (nI i))) ∨
    ((∀ (post : Int32 → Prop) (m : Nat), wX_placeToFetch_12 post sa dg st da rn cn s sv iv c m (nI (i + 1)) → wX_placeToFetch_12 post sa dg st da rn cn s sv iv c (m + 1) (nI i)) ∧ (i < tk → ∀ (post : SY → Prop) (m : Nat), wY_dot_170 post sb t tv jv e m (nI (i + 1)) → wY_dot_170 post sb t tv jv e (m + 1) (nI i)) ∧ (¬ i < tk → ∀ (post : SY → Prop) (m : Nat), wY_dot_254 post sb t tv jv e → wY_dot_170 post sb t tv jv e (m + 1) (nI i))) := by
  have n2 : ¬ 2 ≤ nI i := nI_ge (b := 2) hi (by omega)
  by_cases k : i < tk
  · obtain ⟨w, r, xx, h1, h2, h3, h4, g1, g2, g3, g4, g5, g6, g7, g8, g⟩ := P k
    have nl : ¬ s 282 ≤ nI i := by rw [e2]; exact nI_ge k (by omega)
    have nl' : ¬ t 278 ≤ nI i := by rw [e3]; exact nI_ge k (by omega)
    have c7 : s (287 + nI i).toNatClampNeg = nI xx := by
      show s (nI 287 + nI i).toNatClampNeg = _
      rw [qa_ic 287 i (by omega)]; exact g5
    have c1 : t (281 + nI i).toNatClampNeg = nI xx := by
      show t (nI 281 + nI i).toNatClampNeg = _
      rw [qa_ic 281 i (by omega)]; exact g6
    have c9 : s (289 + nI i).toNatClampNeg = nI fe := by
      show s (nI 289 + nI i).toNatClampNeg = _
      rw [qa_ic 289 i (by omega)]; exact g7
    have c5 : t (285 + nI i).toNatClampNeg = nI fe := by
      show t (nI 285 + nI i).toNatClampNeg = _
      rw [qa_ic 285 i (by omega)]; exact g8
    have v9 : vp_in (289 + nI i) 488 := qa_ii 289 i 488 (by omega) (by omega)
    have v7 : vp_in (287 + nI i) 488 := qa_ii 287 i 488 (by omega) (by omega)
    have v5 : vp_in (285 + nI i) 512 := qa_ii 285 i 512 (by omega) (by omega)
    have v1 : vp_in (281 + nI i) 512 := qa_ii 281 i 512 (by omega) (by omega)
    by_cases kf : fe = 0
    · subst kf
      have f5 : ¬ t (285 + nI i).toNatClampNeg = 1 := by rw [c5]; decide
      by_cases kx : xx = x
      · subst kx
        exact Or.inl ⟨k, rfl, fun post m h => br_f n2 (br_f nl ⟨v9, br_t c9 ⟨v7, br_t (c7.trans e1.symm) h⟩⟩), fun post m t2 hF h => br_f nl' (br_f on ⟨v5, br_f f5 ⟨v1, br_t (c1.trans e1'.symm) (hF _ (nm_e h))⟩⟩)⟩
      · have ne : ¬ nI xx = nI x := qa_neN kx (by omega) (by omega)
        exact Or.inr ⟨fun post m h => br_f n2 (br_f nl ⟨v9, br_t c9 ⟨v7, br_f (by rw [c7, e1]; exact ne) (nm_r (nI_1 i) h)⟩⟩), fun _ post m h => br_f nl' (br_f on ⟨v5, br_f f5 ⟨v1, br_f (by rw [c1, e1']; exact ne) (nm_r (nI_1 i) h)⟩⟩), fun z => absurd k z⟩
    · have kf1 : fe = 1 := by omega
      subst kf1
      exact Or.inr ⟨fun post m h => br_f n2 (br_f nl ⟨v9, br_f (by rw [c9]; decide) (nm_r (nI_1 i) h)⟩), fun _ post m h => br_f nl' (br_f on ⟨v5, br_t c5 (nm_r (nI_1 i) h)⟩), fun z => absurd k z⟩
  · have l : s 282 ≤ nI i := by rw [e2]; exact nI_le (by omega) (by omega)
    have l' : t 278 ≤ nI i := by rw [e3]; exact nI_le (by omega) (by omega)
    exact Or.inr ⟨fun post m h => br_f n2 (br_t l (nm_r (nI_1 i) h)), fun z => absurd z k, fun _ post m h => br_t l' h⟩
theorem pr_place {ly tk f0 f1 x : Nat} (C : hr_ce s t) (ht : tk ≤ 2) (hf0 : f0 ≤ 1) (hf1 : f1 ≤ 1) (hx : x < 12) (e1 : s 274 = nI x) (e1' : t 277 = nI x) (e2 : s 282 = nI tk) (e3 : t 278 = nI tk) (S : hr_ss s t ly tk f0 f1) :
    ((∀ post : Int32 → Prop, post (-1) → wpX_placeToFetch post (sa, dg, st, da, rn, cn, s, sv, iv, c)) ∧ (∀ post : SY → Prop, wY_dot_254 post sb t tv jv e → ∃ n170, wY_dot_170 post sb t tv jv e n170 0)) ∨
    (∃ i : Nat, i < 2 ∧ i < tk ∧ (i = 0 ∧ f0 = 0 ∨ i = 1 ∧ f1 = 0) ∧ (∀ post : Int32 → Prop, post (nI i) → wpX_placeToFetch post (sa, dg, st, da, rn, cn, s, sv, iv, c)) ∧ (∀ (post : SY → Prop) (t2 : Nat → Int32), (∀ Q : SY → Prop, Q (sb, t2, tv, jv, e) → wpY_fetch Q (sb, t, tv, jv, e) (nI i)) → post (sb, upd t2 307 1, tv, jv, e) → ∃ n170, wY_dot_170 post sb t tv jv e n170 0)) := by
  have e247 := (C 247 (by omega)).1
  by_cases on : s 247 &&& 4 = 0
  · refine Or.inl ⟨fun post h => ?_, fun post h => ?_⟩
    · unfold wpX_placeToFetch
      exact br_t on (br_t rfl h)
    · by_cases k : t 278 ≤ 0
      · exact ⟨1, br_t k h⟩
      · exact ⟨1, br_f k (br_t (by rw [e247]; exact on) h)⟩
  · have on' : ¬ t 247 &&& 4 = 0 := by rw [e247]; exact on
    have XW : ∀ post : Int32 → Prop, (∃ m, wX_placeToFetch_12 post sa dg st da rn cn s sv iv c m (nI 0)) → wpX_placeToFetch post (sa, dg, st, da, rn, cn, s, sv, iv, c) := by
      intro post h
      unfold wpX_placeToFetch
      exact br_f on (br_f (by decide) h)
    have XE : ∀ post : Int32 → Prop, post (-1) → wX_placeToFetch_12 post sa dg st da rn cn s sv iv c 1 (nI 2) := fun post h => br_t (by decide) h
    have YE : ∀ post : SY → Prop, wY_dot_254 post sb t tv jv e → wY_dot_170 post sb t tv jv e 1 (nI 2) := fun post h => br_t (by rw [e3]; exact nI_le ht (by omega)) h
    rcases pr_pl1 (sa := sa) (dg := dg) (st := st) (da := da) (rn := rn) (cn := cn) (sv := sv) (iv := iv) (c := c) (sb := sb) (tv := tv) (jv := jv) (e := e) (i := 0) (by omega) ht hf0 hx e1 e1' e2 e3 on' (fun z => S.1 (by omega)) with ⟨k1, k2, k3, k4⟩ | ⟨k1, k2, k3⟩
    · exact Or.inr ⟨0, by omega, k1, Or.inl ⟨rfl, k2⟩, fun post h => XW post ⟨1, k3 post 0 h⟩, fun post t2 hF h => ⟨1, k4 post 0 t2 hF h⟩⟩
    · rcases pr_pl1 (sa := sa) (dg := dg) (st := st) (da := da) (rn := rn) (cn := cn) (sv := sv) (iv := iv) (c := c) (sb := sb) (tv := tv) (jv := jv) (e := e) (i := 1) (by omega) ht hf1 hx e1 e1' e2 e3 on' (fun z => S.2 (by omega)) with ⟨j1, j2, j3, j4⟩ | ⟨j1, j2, j3⟩
      · exact Or.inr ⟨1, by omega, j1, Or.inr ⟨rfl, j2⟩, fun post h => XW post ⟨2, k1 post 1 (j3 post 0 h)⟩, fun post t2 hF h => ⟨2, k2 (by omega) post 1 (j4 post 0 t2 hF h)⟩⟩
      · refine Or.inl ⟨fun post h => XW post ⟨3, k1 post 2 (j1 post 1 (XE post h))⟩, fun post h => ?_⟩
        by_cases q0 : 0 < tk
        · by_cases q1 : 1 < tk
          · exact ⟨3, k2 q0 post 2 (j2 q1 post 1 (YE post h))⟩
          · exact ⟨3, k2 q0 post 2 (j3 q1 post 1 h)⟩
        · exact ⟨1, k3 q0 post 0 h⟩
theorem pr_dot {ly d wl tk f0 f1 ee x dp pa le nx he : Nat} (C : hr_ce s t) (hl : ly ≤ 7) (hd : d ≤ 28) (ht : tk ≤ 2) (hf0 : f0 ≤ 1) (hf1 : f1 ≤ 1) (he_ : ee + 1 ≤ d) (hx : x < 12) (B : hr_bs s t ly d 3 wl tk) (S : hr_ss s t ly tk f0 f1) (D : hr_de s t ly d wl f0 f1 26 ee x dp pa le nx he) (N : hr_cn c e) :
    ∃ s' t' c' e' : Nat → Int32, hr_af s' t' c' e' s t c e ly d tk ∧ (∀ post : SX → Prop, post (sa, dg, st, da, rn, cn, s', sv, iv, c') → wpX_drawingDot post (sa, dg, st, da, rn, cn, s, sv, iv, c)) ∧ (∀ post : SY → Prop, post (sb, t', tv, jv, e') → wpY_dot post (sb, t, tv, jv, e)) := by
  have D0 := D
  obtain ⟨a1, a2, a3, a4, a5, a6, a7, a8, a9, e1, e2, e3, e4, e5, e6, e7, e8, e9, e10, e11, e12, e13, g1, g2, g4⟩ := D
  have B0 := B
  obtain ⟨b1, b2, b3, b4, b5, b6, b7, b8, b9⟩ := B0
  have e247 := (C 247 (by omega)).1
  have e251 := (C 251 (by omega)).1
  have e254 := (C 254 (by omega)).1
  have e255 := (C 255 (by omega)).1
  by_cases kp : pa = 1
  · subst kp
    refine ⟨upd s 276 0, upd t 307 0, c, e, ⟨wl, f0, f1, x, dp, 0, le, nx, he, ?_, ?_, hf0, hf1, hr_deE (hr_a1 D0 hl) (by omega), N, qa_ag0, qa_ag0, ?_, ?_⟩, fun post h => br_t e6 (nm_e h), fun post h => br_t e7 (nm_e h)⟩
    · exact hr_bsA B (qa_agU qa_ag0 (by omega)) (qa_agU qa_ag0 (by omega))
    · exact hr_ssA S (qa_agU qa_ag0 (by unfold hr_SX; omega)) (qa_agU qa_ag0 (by unfold hr_SY; omega))
    · exact qa_agU qa_ag0 (by unfold hr_GX; omega)
    · exact qa_agU qa_ag0 (by unfold hr_GY; omega)
  · have kp0 : pa = 0 := by omega
    subst kp0
    have np : ¬ s 276 = 1 := by rw [e6]; decide
    have np' : ¬ t 307 = 1 := by rw [e7]; decide
    by_cases kw : (¬ s 247 &&& 2 = 0) ∧ (¬ s 251 < s 254) ∧ s 274 = s 255 ∧ s 280 = 0
    · obtain ⟨w1, w2, w3, w4⟩ := kw
      have hz : he = 0 := qa_eqN (b := 0) (e12.symm.trans w4) (by omega) (by omega)
      subst hz
      have u1 : s 281 + 1 = nI (wl + 1) := by rw [b6, nI_1]
      have u2 : t 305 + 1 = nI (wl + 1) := by rw [b7, nI_1]
      refine ⟨upd (upd (upd (upd (upd (upd s 280 1) 281 (upd s 280 1 281 + 1)) 278 0) 279 0) 275 0) 276 1, upd (upd (upd (upd (upd (upd (upd t 304 1) 306 (upd t 304 1 305)) 305 (upd (upd t 304 1) 306 (upd t 304 1 305) 305 + 1)) 298 0) 299 4) 297 0) 307 1, c, e, ⟨wl + 1, f0, f1, x, 0, 1, 0, 0, 1, hr_a2b B u1 u2, ?_, hf0, hf1, hr_deE (hr_a2 D0 hl u1 u2 b7) (by omega), N, qa_ag0, qa_ag0, ?_, ?_⟩, ?_, ?_⟩
      · exact hr_ssA S (qa_agU (qa_agU (qa_agU (qa_agU (qa_agU (qa_agU qa_ag0 (by unfold hr_SX; omega)) (by unfold hr_SX; omega)) (by unfold hr_SX; omega)) (by unfold hr_SX; omega)) (by unfold hr_SX; omega)) (by unfold hr_SX; omega)) (qa_agU (qa_agU (qa_agU (qa_agU (qa_agU (qa_agU (qa_agU qa_ag0 (by unfold hr_SY; omega)) (by unfold hr_SY; omega)) (by unfold hr_SY; omega)) (by unfold hr_SY; omega)) (by unfold hr_SY; omega)) (by unfold hr_SY; omega)) (by unfold hr_SY; omega))
      · exact qa_agU (qa_agU (qa_agU (qa_agU (qa_agU (qa_agU qa_ag0 (by unfold hr_GX; omega)) (by unfold hr_GX; omega)) (by unfold hr_GX; omega)) (by unfold hr_GX; omega)) (by unfold hr_GX; omega)) (by unfold hr_GX; omega)
      · exact qa_agU (qa_agU (qa_agU (qa_agU (qa_agU (qa_agU (qa_agU qa_ag0 (by unfold hr_GY; omega)) (by unfold hr_GY; omega)) (by unfold hr_GY; omega)) (by unfold hr_GY; omega)) (by unfold hr_GY; omega)) (by unfold hr_GY; omega)) (by unfold hr_GY; omega)
      · intro post h
        refine br_f np ?_
        unfold wpX_doesWindowBegin
        refine br_f w1 (br_f (by decide) (br_f w2 (br_t w3 (br_t w4 (br_f (by decide) ?_)))))
        unfold wpX_beginWindow
        exact nm_e (nm_e (nm_e (nm_e (nm_e (nm_e h)))))
      · intro post h
        exact br_f np' (br_f (by rw [e247]; exact w1) (br_f (by rw [e251, e254]; exact w2) (br_t (by rw [e2, e255, ← e1]; exact w3) (br_t e13 (br_f (by decide) (nm_e (nm_e (nm_e (nm_e (nm_e (nm_e (nm_e h)))))))))))) 
    · -- no window begins
      have XW : ∀ post : Int32 → Prop, post 0 → wpX_doesWindowBegin post (sa, dg, st, da, rn, cn, s, sv, iv, c) := by
        intro post h
        unfold wpX_doesWindowBegin
        exact ⟨fun _ => br_t rfl h, fun k1 => br_f (by decide) ⟨fun _ => h, fun k2 => ⟨fun k3 => ⟨fun k4 => absurd ⟨k1, k2, k3, k4⟩ kw, fun _ => h⟩, fun _ => h⟩⟩⟩
      have YW : ∀ post : SY → Prop, (∃ n170, wY_dot_170 post sb t tv jv e n170 0) → wpY_dot post (sb, t, tv, jv, e) := by
        intro post h
        have h8 : wY_dot_88 post sb t tv jv e := br_t rfl h
        refine br_f np' ⟨fun _ => h8, fun k1 => ⟨fun _ => h8, fun k2 => ⟨fun k3 => ⟨fun k4 => absurd ⟨?_, ?_, ?_, ?_⟩ kw, fun _ => h8⟩, fun _ => h8⟩⟩⟩
        · rw [← e247]; exact k1
        · rw [← e251, ← e254]; exact k2
        · rw [e1, ← e255, ← e2]; exact k3
        · rw [e12, ← e13]; exact k4
      rcases pr_place (sa := sa) (dg := dg) (st := st) (da := da) (rn := rn) (cn := cn) (sv := sv) (iv := iv) (c := c) (sb := sb) (tv := tv) (jv := jv) (e := e) C ht hf0 hf1 hx e1 e2 b8 b9 S with ⟨pX, pY⟩ | ⟨i, i1, i2, i3, pX, pY⟩
      · -- a pixel of the strip
        by_cases kl : le = 0
        · subst kl
          obtain ⟨b, t1, hb, hf, hag, sX, sY⟩ := pr_strip (sa := sa) (dg := dg) (st := st) (da := da) (rn := rn) (cn := cn) (sv := sv) (iv := iv) (c := c) (sb := sb) (tv := tv) (jv := jv) (e := e) C hl b1 a6 e12 e13 e10 e11 (by omega) b6 (by omega) a8 g1
          have D1 := hr_a4 (v3 := upd (upd s 277 (nI b)) 278 4 279 + 1) (w1 := t1 298 + 1) D0 hl hb rfl (by show s 279 + 1 = _; rw [e10, nI_1]) (by rw [hag 298 (by omega), e11, nI_1]) hf hag
          have C1 : hr_ce (upd (upd (upd s 277 (nI b)) 278 4) 279 (upd (upd s 277 (nI b)) 278 4 279 + 1)) (upd (upd t1 298 (t1 298 + 1)) 299 0) := hr_ceA C (qa_agU (qa_agU (qa_agU qa_ag0 (by omega)) (by omega)) (by omega)) (qa_agT (qa_agW hag (by omega)) (qa_agU (qa_agU qa_ag0 (by omega)) (by omega)))
          have B1 : hr_bs (upd (upd (upd s 277 (nI b)) 278 4) 279 (upd (upd s 277 (nI b)) 278 4 279 + 1)) (upd (upd t1 298 (t1 298 + 1)) 299 0) ly d 3 wl tk := hr_bsA B (qa_agU (qa_agU (qa_agU qa_ag0 (by omega)) (by omega)) (by omega)) (qa_agT (qa_agW hag (by omega)) (qa_agU (qa_agU qa_ag0 (by omega)) (by omega)))
          have S1 : hr_ss (upd (upd (upd s 277 (nI b)) 278 4) 279 (upd (upd s 277 (nI b)) 278 4 279 + 1)) (upd (upd t1 298 (t1 298 + 1)) 299 0) ly tk f0 f1 := hr_ssA S (qa_agU (qa_agU (qa_agU qa_ag0 (by unfold hr_SX; omega)) (by unfold hr_SX; omega)) (by unfold hr_SX; omega)) (qa_agT (qa_agW hag (by unfold hr_SY; omega)) (qa_agU (qa_agU qa_ag0 (by unfold hr_SY; omega)) (by unfold hr_SY; omega)))
          obtain ⟨s', t', c', e', ⟨wl', g0, g1', x', dp', pa', le', nx', he', q1, q2, q3, q4, q5, q6, q7, q8, q9, q10⟩, TX, TY⟩ := pr_tail (sa := sa) (dg := dg) (st := st) (da := da) (rn := rn) (cn := cn) (sv := sv) (iv := iv) (c := c) (sb := sb) (tv := tv) (jv := jv) (e := e) C1 hl hd ht hf0 hf1 he_ hx B1 S1 D1 N
          refine ⟨s', t', c', e', ⟨wl', g0, g1', x', dp', pa', le', nx', he', q1, q2, q3, q4, q5, q6, q7, q8, qa_agT (qa_agU (qa_agU (qa_agU qa_ag0 (by unfold hr_GX; omega)) (by unfold hr_GX; omega)) (by unfold hr_GX; omega)) q9, qa_agT (qa_agT (qa_agW hag (by unfold hr_GY; omega)) (qa_agU (qa_agU qa_ag0 (by unfold hr_GY; omega)) (by unfold hr_GY; omega))) q10⟩, ?_, ?_⟩
          · intro post h
            refine br_f np ?_
            refine XW _ (br_t rfl ?_)
            refine pX _ (br_t (by decide) (br_t e8 ?_))
            exact sX _ (TX post h)
          · intro post h
            exact YW post (pY post (br_t e9 (sY _ (TY post h))))
        · obtain ⟨lf, rfl⟩ : ∃ lf, le = lf + 1 := ⟨le - 1, by omega⟩
          obtain ⟨s', t', c', e', A, TX, TY⟩ := pr_tail (sa := sa) (dg := dg) (st := st) (da := da) (rn := rn) (cn := cn) (sv := sv) (iv := iv) (c := c) (sb := sb) (tv := tv) (jv := jv) (e := e) C hl hd ht hf0 hf1 (by omega) hx B S D0 N
          refine ⟨s', t', c', e', A, ?_, ?_⟩
          · intro post h
            refine br_f np ?_
            refine XW _ (br_t rfl ?_)
            refine pX _ (br_t (by decide) (br_f ?_ (TX post h)))
            rw [e8]; exact nI_ne0 (by omega) (by omega)
          · intro post h
            refine YW post (pY post (br_f ?_ (TY post h)))
            rw [e9]; exact qa_neN (b := 4) (by omega) (by omega) (by omega)
      · -- a sprite is fetched
        rcases i3 with ⟨rfl, rfl⟩ | ⟨rfl, rfl⟩
        · obtain ⟨b, lk, t1, hb, hlk, hf, hag, fX, fY⟩ := pr_fetch (sa := sa) (dg := dg) (st := st) (da := da) (rn := rn) (cn := cn) (sv := sv) (iv := iv) (c := c) (sb := sb) (tv := tv) (jv := jv) (e := e) C (by omega) (by omega) b1 (S.1 (by omega))
          refine ⟨upd (upd (upd (upd s (289 + 0) 1) (291 + 0) (nI b)) (293 + 0) (nI lk)) 276 1, upd (upd (upd t1 (287 + 0) (nI lk)) (285 + 0) 1) 307 1, c, e, ⟨wl, 1, f1, x, dp, 1, le, nx, he, ?_, ?_, by omega, by omega, hr_deE (hr_a3 D0 hl ?_ rfl ?_ rfl (by omega)) (by omega), N, qa_ag0, qa_ag0, ?_, ?_⟩, ?_, ?_⟩
          · exact hr_bsA B (qa_agU (qa_agU (qa_agU (qa_agU qa_ag0 (by omega)) (by omega)) (by omega)) (by omega)) (qa_agT (qa_agW hag (by omega)) (qa_agU (qa_agU (qa_agU qa_ag0 (by omega)) (by omega)) (by omega)))
          · exact hr_fs0 (f0 := 0) S (by omega) hb hlk rfl rfl rfl hf hag
          · exact qa_agU (qa_agU (qa_agU (qa_agU qa_ag0 (by omega)) (by omega)) (by omega)) (by omega)
          · exact qa_agT (qa_agW hag (by omega)) (qa_agU (qa_agU (qa_agU qa_ag0 (by omega)) (by omega)) (by omega))
          · exact qa_agU (qa_agU (qa_agU (qa_agU qa_ag0 (by unfold hr_GX; omega)) (by unfold hr_GX; omega)) (by unfold hr_GX; omega)) (by unfold hr_GX; omega)
          · exact qa_agT (qa_agW hag (by unfold hr_GY; omega)) (qa_agU (qa_agU (qa_agU qa_ag0 (by unfold hr_GY; omega)) (by unfold hr_GY; omega)) (by unfold hr_GY; omega))
          · intro post h
            refine br_f np ?_
            refine XW _ (br_t rfl ?_)
            refine pX _ (br_f (by decide) ?_)
            exact fX _ (nm_e h)
          · intro post h
            exact YW post (pY post (upd (upd t1 (287 + 0) (nI lk)) (285 + 0) 1) fY h)
        · obtain ⟨b, lk, t1, hb, hlk, hf, hag, fX, fY⟩ := pr_fetch (sa := sa) (dg := dg) (st := st) (da := da) (rn := rn) (cn := cn) (sv := sv) (iv := iv) (c := c) (sb := sb) (tv := tv) (jv := jv) (e := e) C (by omega) (by omega) b1 (S.2 (by omega))
          refine ⟨upd (upd (upd (upd s (289 + 1) 1) (291 + 1) (nI b)) (293 + 1) (nI lk)) 276 1, upd (upd (upd t1 (287 + 1) (nI lk)) (285 + 1) 1) 307 1, c, e, ⟨wl, f0, 1, x, dp, 1, le, nx, he, ?_, ?_, by omega, by omega, hr_deE (hr_a3 D0 hl ?_ rfl ?_ rfl (by omega)) (by omega), N, qa_ag0, qa_ag0, ?_, ?_⟩, ?_, ?_⟩
          · exact hr_bsA B (qa_agU (qa_agU (qa_agU (qa_agU qa_ag0 (by omega)) (by omega)) (by omega)) (by omega)) (qa_agT (qa_agW hag (by omega)) (qa_agU (qa_agU (qa_agU qa_ag0 (by omega)) (by omega)) (by omega)))
          · exact hr_fs1 (f1 := 0) S (by omega) hb hlk rfl rfl rfl hf hag
          · exact qa_agU (qa_agU (qa_agU (qa_agU qa_ag0 (by omega)) (by omega)) (by omega)) (by omega)
          · exact qa_agT (qa_agW hag (by omega)) (qa_agU (qa_agU (qa_agU qa_ag0 (by omega)) (by omega)) (by omega))
          · exact qa_agU (qa_agU (qa_agU (qa_agU qa_ag0 (by unfold hr_GX; omega)) (by unfold hr_GX; omega)) (by unfold hr_GX; omega)) (by unfold hr_GX; omega)
          · exact qa_agT (qa_agW hag (by unfold hr_GY; omega)) (qa_agU (qa_agU (qa_agU qa_ag0 (by unfold hr_GY; omega)) (by unfold hr_GY; omega)) (by unfold hr_GY; omega))
          · intro post h
            refine br_f np ?_
            refine XW _ (br_t rfl ?_)
            refine pX _ (br_f (by decide) ?_)
            exact fX _ (nm_e h)
          · intro post h
            exact YW post (pY post (upd (upd t1 (287 + 1) (nI lk)) (285 + 1) 1) fY h)
end
end
section
/-! a line begins, the picture is shown: both sides -/
section
variable {sa dg st da rn cn : Int32} {s sv iv c : Nat → Int32} {sb : Int32} {t tv jv e : Nat → Int32}
theorem mx_show {post : SX → Prop} (h : post (sa, dg, st, da, rn, cn, upd (qa_fill s 392 96 (fun i => s (295 + i))) 245 (qa_fill s 392 96 (fun i => s (295 + i)) 245 ||| 1), sv, iv, upd c 4 (c 4 + 1))) :
    ∀ d k, k + d = 96 → wX_showPicture_2 post sa dg st da rn cn (d + 1) (nI k) (qa_fill s 392 k (fun i => s (295 + i))) sv iv c := by
  intro d
  induction d with
  | zero =>
    intro k hk
    have z : k = 96 := by omega
    subst z
    exact br_t (nI_le (a := 96) (by omega) (by omega)) (nm_e (nm_e h))
  | succ d ih =>
    intro k hk
    refine br_f (nI_ge (b := 96) (by omega) (by omega)) ⟨qa_ii 295 k 488 (by omega) (by omega), qa_ii 392 k 488 (by omega) (by omega), nm_r (e' := qa_fill s 392 (k + 1) (fun i => s (295 + i))) ?_ (nm_r (nI_1 k) (ih (k + 1) (by omega)))⟩
    show upd (qa_fill s 392 k (fun i => s (295 + i))) (nI 392 + nI k).toNatClampNeg (qa_fill s 392 k (fun i => s (295 + i)) (nI 295 + nI k).toNatClampNeg) = _
    rw [qa_ic 392 k (by omega), qa_ic 295 k (by omega), qa_fillO (by omega)]
    exact qa_fillS _ _ _ _
theorem my_show {post : SY → Prop} (h : post (sb, upd (qa_fill t 416 96 (fun i => t (320 + i))) 245 (qa_fill t 416 96 (fun i => t (320 + i)) 245 ||| 1), tv, jv, upd e 4 (e 4 + 1))) :
    ∀ d k, k + d = 96 → wY_beginLine_63 post sb (d + 1) (nI k) (qa_fill t 416 k (fun i => t (320 + i))) tv jv e := by
  intro d
  induction d with
  | zero =>
    intro k hk
    have z : k = 96 := by omega
    subst z
    exact br_t (nI_le (a := 96) (by omega) (by omega)) (nm_e (nm_e h))
  | succ d ih =>
    intro k hk
    refine br_f (nI_ge (b := 96) (by omega) (by omega)) ⟨qa_ii 320 k 512 (by omega) (by omega), qa_ii 416 k 512 (by omega) (by omega), nm_r (e' := qa_fill t 416 (k + 1) (fun i => t (320 + i))) ?_ (nm_r (nI_1 k) (ih (k + 1) (by omega)))⟩
    show upd (qa_fill t 416 k (fun i => t (320 + i))) (nI 416 + nI k).toNatClampNeg (qa_fill t 416 k (fun i => t (320 + i)) (nI 320 + nI k).toNatClampNeg) = _
    rw [qa_ic 416 k (by omega), qa_ic 320 k (by omega), qa_fillO (by omega)]
    exact qa_fillS _ _ _ _
def hr_HX (i : Nat) : Prop := i ≠ 245 ∧ i ≠ 273 ∧ i ≠ 280 ∧ i ≠ 281 ∧ i ≠ 282 ∧ i < 392
def hr_HY (i : Nat) : Prop := i ≠ 245 ∧ i ≠ 278 ∧ i ≠ 304 ∧ i ≠ 305 ∧ i ≠ 309 ∧ i < 416
/-- the end of a line's begin: the picture is shown where it is due -/
theorem pr_b64 {ly : Nat} (C : hr_ce s t) (W : hr_sh s t) (N : hr_cn c e) (hl : ly ≤ 11) (e1 : s 251 = nI ly) (P : ly = 8 → hr_pic s t 96) :
    ∃ s' t' c' e' : Nat → Int32, hr_ce s' t' ∧ hr_sh s' t' ∧ hr_cn c' e' ∧ qa_ag hr_C4 c c' ∧ qa_ag hr_C4 e e' ∧ qa_ag (fun i => i ≠ 245 ∧ i < 392) s s' ∧ qa_ag (fun i => i ≠ 245 ∧ i < 416) t t' ∧ (∀ post : SX → Prop, post (sa, dg, st, da, rn, cn, s', sv, iv, c') → wX_beginLine_64 post sa dg st da rn cn s sv iv c) ∧ (∀ post : SY → Prop, post (sb, t', tv, jv, e') → wY_beginLine_47 post sb t tv jv e) := by
  have e1' : t 251 = nI ly := (C 251 (by omega)).1.trans e1
  by_cases k : ly = 8
  · subst k
    have pic := P rfl
    refine ⟨upd (qa_fill s 392 96 (fun i => s (295 + i))) 245 (qa_fill s 392 96 (fun i => s (295 + i)) 245 ||| 1), upd (qa_fill t 416 96 (fun i => t (320 + i))) 245 (qa_fill t 416 96 (fun i => t (320 + i)) 245 ||| 1), upd c 4 (c 4 + 1), upd e 4 (e 4 + 1), ?_, ?_, ?_, qa_agU qa_ag0 (by unfold hr_C4; omega), qa_agU qa_ag0 (by unfold hr_C4; omega), ?_, ?_, ?_, ?_⟩
    · refine hr_ceB (hr_ceA C (fun i hi => qa_fillO (by omega)) (fun i hi => qa_fillO (by omega))) ?_ ?_
      · rw [qa_fillO (by omega)]
        exact qa_Bor (C 245 (by omega)).2 qa_B1
      · rw [qa_fillO (by omega), qa_fillO (by omega), (C 245 (by omega)).1]
    · intro p hp
      rw [pk_un (by omega), pk_un (by omega), qa_fillI hp, qa_fillI hp]
      exact pic p hp
    · refine ⟨?_, N.2.1, N.2.2⟩
      show c 4 + 1 = e 4 + 1
      rw [N.1]
    · exact qa_agU (fun i hi => qa_fillO (by omega)) (by omega)
    · exact qa_agU (fun i hi => qa_fillO (by omega)) (by omega)
    · intro post h
      refine br_t e1 ?_
      unfold wpX_showPicture
      have g := mx_show (post := fun u => match u with | (a1, a2, a3, a4, a5, a6, a7, a8, a9, a10) => post (a1, a2, a3, a4, a5, a6, a7, a8, a9, a10)) h 96 0 rfl
      rw [qa_fill0] at g
      exact ⟨97, g⟩
    · intro post h
      refine br_t e1' ?_
      have g := my_show h 96 0 rfl
      rw [qa_fill0] at g
      exact ⟨97, g⟩
  · refine ⟨s, t, c, e, C, W, N, qa_ag0, qa_ag0, qa_ag0, qa_ag0, ?_, ?_⟩
    · intro post h
      exact br_f (by rw [e1]; exact qa_neN (b := 8) k (by omega) (by omega)) h
    · intro post h
      exact br_f (by rw [e1']; exact qa_neN (b := 8) k (by omega) (by omega)) h
theorem pr_bline {ly wl : Nat} (C : hr_ce s t) (W : hr_sh s t) (N : hr_cn c e) (hl : ly ≤ 11) (e1 : s 251 = nI ly) (P : ly = 8 → hr_pic s t 96) (w1 : s 281 = nI wl) (w2 : t 305 = nI wl) :
    ∃ s' t' c' e' : Nat → Int32, hr_ce s' t' ∧ hr_sh s' t' ∧ hr_cn c' e' ∧ qa_ag hr_C4 c c' ∧ qa_ag hr_C4 e e' ∧ qa_ag hr_HX s s' ∧ qa_ag hr_HY t t' ∧ s' 273 = nI (if ly < 8 then 2 else 1) ∧ s' 282 = nI 0 ∧ t' 278 = nI 0 ∧ s' 280 = 0 ∧ t' 304 = 0 ∧ t' 309 = 0 ∧ s' 281 = nI (if ly = 0 then 0 else wl) ∧ t' 305 = nI (if ly = 0 then 0 else wl) ∧ (∀ post : SX → Prop, post (sa, dg, st, da, rn, cn, s', sv, iv, c') → wpX_beginLine post (sa, dg, st, da, rn, cn, s, sv, iv, c)) ∧ (∀ post : SY → Prop, post (sb, t', tv, jv, e') → wpY_beginLine post (sb, t, tv, jv, e)) := by
  have e1' : t 251 = nI ly := (C 251 (by omega)).1.trans e1
  obtain ⟨md, hmd, hX⟩ : ∃ md : Int32, md = nI (if ly < 8 then 2 else 1) ∧ ∀ post : SX → Prop, wX_beginLine_25 post md 273 sa dg st da rn cn s sv iv c → wpX_beginLine post (sa, dg, st, da, rn, cn, s, sv, iv, c) := by
    by_cases k : ly < 8
    · rw [if_pos k]
      exact ⟨2, rfl, fun post h => br_f (by rw [e1]; exact nI_ge (b := 8) k (by omega)) h⟩
    · rw [if_neg k]
      exact ⟨1, rfl, fun post h => br_t (by rw [e1]; exact nI_le (a := 8) (by omega) (by omega)) h⟩
  have i3 : vp_in (273 : Int32) 488 := vp_in_nI (n := 273) (by omega) (by omega)
  have c3 : (273 : Int32).toNatClampNeg = 273 := nI_clamp (n := 273) (by omega)
  by_cases k0 : ly = 0
  · obtain ⟨s', t', c', e', h1, h2, h3, h4, h5, h6, h7, h8, h9⟩ := pr_b64 (sa := sa) (dg := dg) (st := st) (da := da) (rn := rn) (cn := cn) (sv := sv) (iv := iv) (c := c) (sb := sb) (tv := tv) (jv := jv) (e := e) (s := upd (upd (upd (upd s 273 md) 282 0) 280 0) 281 0) (t := upd (upd (upd (upd t 278 0) 304 0) 309 0) 305 0) (ly := ly) (hr_ceA C (qa_agU (qa_agU (qa_agU (qa_agU qa_ag0 (by omega)) (by omega)) (by omega)) (by omega)) (qa_agU (qa_agU (qa_agU (qa_agU qa_ag0 (by omega)) (by omega)) (by omega)) (by omega))) (hr_shA W (qa_agU (qa_agU (qa_agU (qa_agU qa_ag0 (by omega)) (by omega)) (by omega)) (by omega)) (qa_agU (qa_agU (qa_agU (qa_agU qa_ag0 (by omega)) (by omega)) (by omega)) (by omega))) N hl e1 (fun z => absurd z (by omega))
    refine ⟨s', t', c', e', h1, h2, h3, h4, h5, qa_agT (qa_agU (qa_agU (qa_agU (qa_agU qa_ag0 (by unfold hr_HX; omega)) (by unfold hr_HX; omega)) (by unfold hr_HX; omega)) (by unfold hr_HX; omega)) (qa_agW h6 (by unfold hr_HX; omega)), qa_agT (qa_agU (qa_agU (qa_agU (qa_agU qa_ag0 (by unfold hr_HY; omega)) (by unfold hr_HY; omega)) (by unfold hr_HY; omega)) (by unfold hr_HY; omega)) (qa_agW h7 (by unfold hr_HY; omega)), ?_, ?_, ?_, ?_, ?_, ?_, ?_, ?_, ?_, ?_⟩
    · rw [h6 273 (by omega)]; exact hmd
    · rw [h6 282 (by omega)]; rfl
    · rw [h7 278 (by omega)]; rfl
    · rw [h6 280 (by omega)]; rfl
    · rw [h7 304 (by omega)]; rfl
    · rw [h7 309 (by omega)]; rfl
    · rw [h6 281 (by omega), if_pos k0]; rfl
    · rw [h7 305 (by omega), if_pos k0]; rfl
    · intro post h
      refine hX post ⟨i3, nm_r (qa_up _ _ c3) (nm_e (nm_e (br_t ?_ (nm_e (h8 post h)))))⟩
      show s 251 = 0
      rw [e1, k0]; rfl
    · intro post h
      refine nm_e (nm_e (nm_e (br_t ?_ (nm_e (h9 post h)))))
      show t 251 = 0
      rw [e1', k0]; rfl
  · obtain ⟨s', t', c', e', h1, h2, h3, h4, h5, h6, h7, h8, h9⟩ := pr_b64 (sa := sa) (dg := dg) (st := st) (da := da) (rn := rn) (cn := cn) (sv := sv) (iv := iv) (c := c) (sb := sb) (tv := tv) (jv := jv) (e := e) (s := upd (upd (upd s 273 md) 282 0) 280 0) (t := upd (upd (upd t 278 0) 304 0) 309 0) (ly := ly) (hr_ceA C (qa_agU (qa_agU (qa_agU qa_ag0 (by omega)) (by omega)) (by omega)) (qa_agU (qa_agU (qa_agU qa_ag0 (by omega)) (by omega)) (by omega))) (hr_shA W (qa_agU (qa_agU (qa_agU qa_ag0 (by omega)) (by omega)) (by omega)) (qa_agU (qa_agU (qa_agU qa_ag0 (by omega)) (by omega)) (by omega))) N hl e1 (fun z => hr_picA (P z) (by omega) (qa_agU (qa_agU (qa_agU qa_ag0 (by unfold hr_QX; omega)) (by unfold hr_QX; omega)) (by unfold hr_QX; omega)) (qa_agU (qa_agU (qa_agU qa_ag0 (by unfold hr_QY; omega)) (by unfold hr_QY; omega)) (by unfold hr_QY; omega)))
    refine ⟨s', t', c', e', h1, h2, h3, h4, h5, qa_agT (qa_agU (qa_agU (qa_agU qa_ag0 (by unfold hr_HX; omega)) (by unfold hr_HX; omega)) (by unfold hr_HX; omega)) (qa_agW h6 (by unfold hr_HX; omega)), qa_agT (qa_agU (qa_agU (qa_agU qa_ag0 (by unfold hr_HY; omega)) (by unfold hr_HY; omega)) (by unfold hr_HY; omega)) (qa_agW h7 (by unfold hr_HY; omega)), ?_, ?_, ?_, ?_, ?_, ?_, ?_, ?_, ?_, ?_⟩
    · rw [h6 273 (by omega)]; exact hmd
    · rw [h6 282 (by omega)]; rfl
    · rw [h7 278 (by omega)]; rfl
    · rw [h6 280 (by omega)]; rfl
    · rw [h7 304 (by omega)]; rfl
    · rw [h7 309 (by omega)]; rfl
    · rw [h6 281 (by omega), if_neg k0]; exact w1
    · rw [h7 305 (by omega), if_neg k0]; exact w2
    · intro post h
      refine hX post ⟨i3, nm_r (qa_up _ _ c3) (nm_e (nm_e (br_f ?_ (h8 post h))))⟩
      show ¬ s 251 = 0
      rw [e1]; exact nI_ne0 (by omega) (by omega)
    · intro post h
      refine nm_e (nm_e (nm_e (br_f ?_ (h9 post h))))
      show ¬ t 251 = 0
      rw [e1']; exact nI_ne0 (by omega) (by omega)
end
end
section
/-! the video's turn: both sides -/
section
variable {sa dg st da rn cn : Int32} {s sv iv c : Nat → Int32} {sb : Int32} {t tv jv e : Nat → Int32}
def hr_JX (i : Nat) : Prop := i < 272 ∨ 391 ≤ i
def hr_JY (i : Nat) : Prop := i < 275 ∨ i = 308 ∨ (310 ≤ i ∧ i < 320) ∨ 416 ≤ i
theorem hr_afv {s' t' c' e' : Nat → Int32} {ly d tk : Nat} (A : hr_af s' t' c' e' s t c e ly d tk) (hl : ly ≤ 7) (h5 : 5 ≤ d) (hd : d ≤ 28) (ht : tk ≤ 2) (on : ¬ s 247 &&& 1 = 0) : hr_vs s' t' ∧ hr_cn c' e' ∧ qa_ag hr_C4 c c' ∧ qa_ag hr_C4 e e' ∧ qa_ag hr_JX s s' ∧ qa_ag hr_JY t t' := by
  obtain ⟨wl, f0, f1, x, dp, pa, le, nx, he, B, S, h0, h1, D, N, n1, n2, x1, y1⟩ := A
  refine ⟨⟨ly, d, 3, wl, tk, f0, f1, by omega, hd, ht, h0, h1, B, S, ?_, fun z => absurd rfl z, Or.inr (Or.inr (Or.inr (Or.inl ⟨h5, hl, rfl, x, dp, pa, le, nx, he, D⟩)))⟩, N, n1, n2, qa_agW x1 ?_, qa_agW y1 ?_⟩
  · rw [x1 247 (by unfold hr_GX; omega)]
    exact fun z => absurd z on
  · unfold hr_JX hr_GX
    omega
  · unfold hr_JY hr_GY
    omega
def hr_mc (s t : Nat → Int32) (ly q wl f0 f1 : Nat) : Prop :=
  (ly ≤ 7 ∧ q ≤ 4 ∧ s 273 = 2 ∧ s 274 = 0 ∧ wl ≤ ly ∧ t 309 = 0 ∧ s 280 = 0 ∧ t 304 = 0 ∧ hr_pic s t (12 * ly)) ∨
  (ly ≤ 7 ∧ 5 ≤ q ∧ s 273 = 3 ∧ t 276 = 3 ∧ ∃ x dp pa le nx he : Nat, hr_de s t ly (q + 1) wl f0 f1 26 q x dp pa le nx he) ∨
  (ly ≤ 7 ∧ 5 ≤ q ∧ s 273 = 0 ∧ s 274 = 0 ∧ wl ≤ ly + 1 ∧ t 309 = 1 ∧ hr_pic s t (12 * ly + 12)) ∨
  (8 ≤ ly ∧ s 273 = 1 ∧ s 274 = 0 ∧ wl ≤ ly + 1 ∧ hr_pic s t 96)
theorem pr_v81 {ly q wl tk f0 f1 : Nat} (C : hr_ce s t) (N : hr_cn c e) (hl : ly ≤ 11) (hq : q < 28) (ht : tk ≤ 2) (hf0 : f0 ≤ 1) (hf1 : f1 ≤ 1) (e1 : s 251 = nI ly) (e2 : s 272 = nI (q + 1)) (e3 : t 275 = nI q) (w1 : s 281 = nI wl) (w2 : t 305 = nI wl) (k1 : s 282 = nI tk) (k2 : t 278 = nI tk) (S : hr_ss s t ly tk f0 f1) (on : ¬ s 247 &&& 1 = 0) (hc : t 274 = cn) (hb : qa_b cn) (M : hr_mc s t ly q wl f0 f1) :
    ∃ s' t' c' e' : Nat → Int32, hr_ce s' t' ∧ hr_vs s' t' ∧ hr_cn c' e' ∧ qa_ag hr_C4 c c' ∧ qa_ag hr_C4 e e' ∧ qa_ag hr_JX s s' ∧ qa_ag hr_JY t t' ∧ (∀ post : SX → Prop, wX_videoTurn_191 post sa dg st da rn cn s' sv iv c' → wX_videoTurn_81 post (nI q) sa dg st da rn cn s sv iv c) ∧ (∀ post : SY → Prop, wY_videoTurn_197 post sb t' tv jv e' → wY_videoTurn_92 post sb t tv jv e) := by
  have e1' : t 251 = nI ly := (C 251 (by omega)).1.trans e1
  have e3' : t 275 = nI (q + 1) - 1 := e3.trans (nI_pred q).symm
  have offd : s 247 &&& 1 = 0 → q + 1 = 0 := fun z => absurd z on
  rcases M with ⟨m1, m2, m3, m4, m5, m6, m7, m8, m9⟩ | ⟨m1, m2, m3, m4, x, dp, pa, le, nx, he, D⟩ | ⟨m1, m2, m3, m4, m5, m6, m7⟩ | ⟨m1, m2, m3, m4, m5⟩
  · have l7 : t 251 ≤ 7 := by rw [e1']; exact nI_le (b := 7) m1 (by omega)
    by_cases q4 : q = 4
    · subst q4
      obtain ⟨dp, hdp, ed⟩ := pk_andE (s 250) (m := 3) 2 (by decide)
      have ed' : t 250 &&& 3 = nI dp := by rw [(C 250 (by omega)).1]; exact ed
      have D := hr_a8 (f0 := f0) (f1 := f1) (v := upd (upd s 273 3) 274 0 250 &&& 3) (w := upd (upd (upd (upd (upd t 276 3) 277 0) 307 0) 298 0) 299 4 250 &&& 3) m1 m5 m7 m8 m6 m9 (by omega) ed ed'
      have C2 : hr_ce (upd (upd (upd (upd (upd (upd s 273 3) 274 0) 275 (upd (upd s 273 3) 274 0 250 &&& 3)) 276 0) 278 0) 279 0) (upd (upd (upd (upd (upd (upd t 276 3) 277 0) 307 0) 298 0) 299 4) 297 (upd (upd (upd (upd (upd t 276 3) 277 0) 307 0) 298 0) 299 4 250 &&& 3)) := hr_ceA C (qa_agU (qa_agU (qa_agU (qa_agU (qa_agU (qa_agU qa_ag0 (by omega)) (by omega)) (by omega)) (by omega)) (by omega)) (by omega)) (qa_agU (qa_agU (qa_agU (qa_agU (qa_agU (qa_agU qa_ag0 (by omega)) (by omega)) (by omega)) (by omega)) (by omega)) (by omega))
      have B2 : hr_bs (upd (upd (upd (upd (upd (upd s 273 3) 274 0) 275 (upd (upd s 273 3) 274 0 250 &&& 3)) 276 0) 278 0) 279 0) (upd (upd (upd (upd (upd (upd t 276 3) 277 0) 307 0) 298 0) 299 4) 297 (upd (upd (upd (upd (upd t 276 3) 277 0) 307 0) 298 0) 299 4 250 &&& 3)) ly 5 3 wl tk := ⟨e1, e2, e3', rfl, rfl, w1, w2, k1, k2⟩
      have S2 : hr_ss (upd (upd (upd (upd (upd (upd s 273 3) 274 0) 275 (upd (upd s 273 3) 274 0 250 &&& 3)) 276 0) 278 0) 279 0) (upd (upd (upd (upd (upd (upd t 276 3) 277 0) 307 0) 298 0) 299 4) 297 (upd (upd (upd (upd (upd t 276 3) 277 0) 307 0) 298 0) 299 4 250 &&& 3)) ly tk f0 f1 := hr_ssA S (qa_agU (qa_agU (qa_agU (qa_agU (qa_agU (qa_agU qa_ag0 (by unfold hr_SX; omega)) (by unfold hr_SX; omega)) (by unfold hr_SX; omega)) (by unfold hr_SX; omega)) (by unfold hr_SX; omega)) (by unfold hr_SX; omega)) (qa_agU (qa_agU (qa_agU (qa_agU (qa_agU (qa_agU qa_ag0 (by unfold hr_SY; omega)) (by unfold hr_SY; omega)) (by unfold hr_SY; omega)) (by unfold hr_SY; omega)) (by unfold hr_SY; omega)) (by unfold hr_SY; omega))
      obtain ⟨s', t', c', e', A, hX, hY⟩ := pr_dot (sa := sa) (dg := dg) (st := st) (da := da) (rn := rn) (cn := cn) (sv := sv) (iv := iv) (c := c) (sb := sb) (tv := tv) (jv := jv) (e := e) C2 m1 (by omega) ht hf0 hf1 (by omega) (by omega) B2 S2 D N
      obtain ⟨v1, v2, v3, v4, v5, v6⟩ := hr_afv A m1 (by omega) (by omega) ht on
      refine ⟨s', t', c', e', hr_ceA C2 (qa_agW v5 (by unfold hr_JX; omega)) (qa_agW v6 (by unfold hr_JY; omega)), v1, v2, v3, v4, qa_agT (qa_agU (qa_agU (qa_agU (qa_agU (qa_agU (qa_agU qa_ag0 (by unfold hr_JX; omega)) (by unfold hr_JX; omega)) (by unfold hr_JX; omega)) (by unfold hr_JX; omega)) (by unfold hr_JX; omega)) (by unfold hr_JX; omega)) v5, qa_agT (qa_agU (qa_agU (qa_agU (qa_agU (qa_agU (qa_agU qa_ag0 (by unfold hr_JY; omega)) (by unfold hr_JY; omega)) (by unfold hr_JY; omega)) (by unfold hr_JY; omega)) (by unfold hr_JY; omega)) (by unfold hr_JY; omega)) v6, ?_, ?_⟩
      · intro post h
        refine br_t m3 (br_t (by decide) (br_t m3 ?_))
        unfold wpX_beginDrawing
        exact nm_e (nm_e (nm_e (nm_e (nm_e (nm_e (hX _ h))))))
      · intro post h
        refine br_t l7 (br_t (by rw [e3]; decide) (br_t e3 ?_))
        unfold wpY_beginPixels
        refine nm_e (nm_e (nm_e (nm_e (nm_e (nm_e (br_f ?_ (hY _ h)))))))
        show ¬ t 309 = 1
        rw [m6]; decide
    · have q3 : q < 4 := by omega
      obtain ⟨s', t', tk', g0, g1, h1, h2, h3, h4, h5, h6, h7, h8, hX, hY⟩ := pr_sprite (sa := sa) (dg := dg) (st := st) (da := da) (rn := rn) (cn := cn) (sv := sv) (iv := iv) (c := c) (sb := sb) (tv := tv) (jv := jv) (e := e) (n := q) (t := upd t 276 2) (hr_ceY C (by omega)) hl q3 ht e1 k1 k2 (hr_ssA S qa_ag0 (qa_agU qa_ag0 (by unfold hr_SY; omega))) hf0 hf1 hc hb
      have a1 : ∀ i, i < 282 ∨ 291 ≤ i → s' i = s i := h7
      have b1 : ∀ i, (i < 278 ∨ 287 ≤ i) ∧ i ≠ 276 → t' i = t i := fun i hi => (h8 i hi.1).trans (pk_un hi.2)
      refine ⟨s', t', c, e, ?_, ⟨ly, q + 1, 2, wl, tk', g0, g1, hl, by omega, h2, h3, h4, ⟨?_, ?_, ?_, ?_, ?_, ?_, ?_, h5, h6⟩, h1, ?_, ?_, Or.inr (Or.inr (Or.inl ⟨by omega, by omega, m1, rfl, m5, ?_, ?_, ?_, ?_⟩))⟩, N, qa_ag0, qa_ag0, ?_, ?_, ?_, ?_⟩
      · exact hr_ceA C (fun i hi => a1 i (by omega)) (fun i hi => b1 i (by omega))
      · rw [a1 251 (by omega)]; exact e1
      · rw [a1 272 (by omega)]; exact e2
      · rw [b1 275 (by omega)]; exact e3'
      · rw [a1 273 (by omega)]; exact m3
      · exact (h8 276 (by omega)).trans rfl
      · rw [a1 281 (by omega)]; exact w1
      · rw [b1 305 (by omega)]; exact w2
      · rw [a1 247 (by omega)]; exact offd
      · intro _
        rw [a1 274 (by omega)]; exact m4
      · rw [b1 309 (by omega)]; exact m6
      · rw [a1 280 (by omega)]; exact m7
      · rw [b1 304 (by omega)]; exact m8
      · exact hr_picA m9 (by omega) (fun i hi => a1 i (by unfold hr_QX at hi; omega)) (fun i hi => b1 i (by unfold hr_QY at hi; omega))
      · exact fun i hi => a1 i (by unfold hr_JX at hi; omega)
      · exact fun i hi => b1 i (by unfold hr_JY at hi; omega)
      · intro post h
        exact br_t m3 (br_f (nI_ge (b := 4) q3 (by omega)) (hX _ h))
      · intro post h
        refine br_t l7 (br_f (by rw [e3]; exact nI_ge (b := 4) q3 (by omega)) (nm_e ?_))
        rw [show upd t 276 2 275 = nI q from e3]
        exact hY _ h
  · have l7 : t 251 ≤ 7 := by rw [e1']; exact nI_le (b := 7) m1 (by omega)
    have n2 : ¬ s 273 = 2 := by rw [m3]; decide
    have g4 : 4 ≤ t 275 := by rw [e3]; exact nI_le (a := 4) (by omega) (by omega)
    have n4 : ¬ t 275 = 4 := by rw [e3]; exact qa_neN (b := 4) (by omega) (by omega) (by omega)
    have D0 := D
    obtain ⟨a1, a2, a3, a4, a5, a6, a7, a8, a9, d1, d2, d3, d4, d5, d6, d7, d8, d9, d10, d11, d12, d13, z1, z2, z4⟩ := D
    by_cases kx : x = 12
    · subst kx
      refine ⟨upd (upd s 273 0) 274 0, upd t 276 0, c, e, hr_ceA C (qa_agU (qa_agU qa_ag0 (by omega)) (by omega)) (qa_agU qa_ag0 (by omega)), ⟨ly, q + 1, 0, wl, tk, f0, f1, hl, by omega, ht, hf0, hf1, ⟨e1, e2, e3', rfl, rfl, w1, w2, k1, k2⟩, hr_ssA S (qa_agU (qa_agU qa_ag0 (by unfold hr_SX; omega)) (by unfold hr_SX; omega)) (qa_agU qa_ag0 (by unfold hr_SY; omega)), offd, fun _ => rfl, Or.inr (Or.inr (Or.inr (Or.inr ⟨by omega, m1, rfl, by omega, d3, hr_picA z4 (by omega) (qa_agU (qa_agU qa_ag0 (by unfold hr_QX; omega)) (by unfold hr_QX; omega)) (qa_agU qa_ag0 (by unfold hr_QY; omega))⟩)))⟩, N, qa_ag0, qa_ag0, qa_agU (qa_agU qa_ag0 (by unfold hr_JX; omega)) (by unfold hr_JX; omega), qa_agU qa_ag0 (by unfold hr_JY; omega), ?_, ?_⟩
      · intro post h
        exact br_f n2 (br_f n2 (br_t m3 (br_t (by rw [d1]; decide) (br_t m3 (nm_e (nm_e h))))))
      · intro post h
        exact br_t l7 (br_t g4 (br_f n4 (br_t d3 (nm_e h))))
    · obtain ⟨s', t', c', e', A, hX, hY⟩ := pr_dot (sa := sa) (dg := dg) (st := st) (da := da) (rn := rn) (cn := cn) (sv := sv) (iv := iv) (c := c) (sb := sb) (tv := tv) (jv := jv) (e := e) C m1 (by omega) ht hf0 hf1 (by omega) (by omega) ⟨e1, e2, e3', m3, m4, w1, w2, k1, k2⟩ S D0 N
      obtain ⟨v1, v2, v3, v4, v5, v6⟩ := hr_afv A m1 (by omega) (by omega) ht on
      refine ⟨s', t', c', e', hr_ceA C (qa_agW v5 (by unfold hr_JX; omega)) (qa_agW v6 (by unfold hr_JY; omega)), v1, v2, v3, v4, v5, v6, ?_, ?_⟩
      · intro post h
        exact br_f n2 (br_f n2 (br_t m3 (br_f (by rw [d1]; exact nI_ge (b := 12) (by omega) (by omega)) (hX _ h))))
      · intro post h
        refine br_t l7 (br_t g4 (br_f n4 (br_f ?_ (hY _ h))))
        rw [d3, if_neg kx]; decide
  · have l7 : t 251 ≤ 7 := by rw [e1']; exact nI_le (b := 7) m1 (by omega)
    have n2 : ¬ s 273 = 2 := by rw [m3]; decide
    have n3 : ¬ s 273 = 3 := by rw [m3]; decide
    have g4 : 4 ≤ t 275 := by rw [e3]; exact nI_le (a := 4) (by omega) (by omega)
    have n4 : ¬ t 275 = 4 := by rw [e3]; exact qa_neN (b := 4) (by omega) (by omega) (by omega)
    refine ⟨s, upd t 276 0, c, e, hr_ceY C (by omega), ⟨ly, q + 1, 0, wl, tk, f0, f1, hl, by omega, ht, hf0, hf1, ⟨e1, e2, e3', m3, rfl, w1, w2, k1, k2⟩, hr_ssA S qa_ag0 (qa_agU qa_ag0 (by unfold hr_SY; omega)), offd, fun _ => m4, Or.inr (Or.inr (Or.inr (Or.inr ⟨by omega, m1, rfl, m5, m6, hr_picA m7 (by omega) qa_ag0 (qa_agU qa_ag0 (by unfold hr_QY; omega))⟩)))⟩, N, qa_ag0, qa_ag0, qa_ag0, qa_agU qa_ag0 (by unfold hr_JY; omega), ?_, ?_⟩
    · intro post h
      exact br_f n2 (br_f n2 (br_f n3 (br_f n3 h)))
    · intro post h
      exact br_t l7 (br_t g4 (br_f n4 (br_t m6 (nm_e h))))
  · have n2 : ¬ s 273 = 2 := by rw [m2]; decide
    have n3 : ¬ s 273 = 3 := by rw [m2]; decide
    refine ⟨s, upd t 276 1, c, e, hr_ceY C (by omega), ⟨ly, q + 1, 1, wl, tk, f0, f1, hl, by omega, ht, hf0, hf1, ⟨e1, e2, e3', m2, rfl, w1, w2, k1, k2⟩, hr_ssA S qa_ag0 (qa_agU qa_ag0 (by unfold hr_SY; omega)), offd, fun _ => m3, Or.inr (Or.inl ⟨by omega, m1, rfl, m4, hr_picA m5 (by omega) qa_ag0 (qa_agU qa_ag0 (by unfold hr_QY; omega))⟩)⟩, N, qa_ag0, qa_ag0, qa_ag0, qa_agU qa_ag0 (by unfold hr_JY; omega), ?_, ?_⟩
    · intro post h
      exact br_f n2 (br_f n2 (br_f n3 (br_f n3 h)))
    · intro post h
      exact br_f (by rw [e1']; exact nI_ge (a := 7) (by omega) (by omega)) (nm_e h)
end
end
section
/-! the video's turn from its begin to its end, and a whole cycle -/
section
variable {sa dg st da rn cn : Int32} {s sv iv c : Nat → Int32} {sb : Int32} {t tv jv e : Nat → Int32}
def hr_KX (i : Nat) : Prop := (i ≠ 245 ∧ i ≠ 251 ∧ i < 272) ∨ i = 391
def hr_KY (i : Nat) : Prop := (i ≠ 245 ∧ i ≠ 251 ∧ i < 275) ∨ i = 308 ∨ (310 ≤ i ∧ i < 320)
/-- what stands ahead of the dot itself -/
def hr_pre (s t : Nat → Int32) (ly q wl tk f0 f1 : Nat) : Prop := hr_ce s t ∧ hr_sh s t ∧ ly ≤ 11 ∧ q < 28 ∧ tk ≤ 2 ∧ f0 ≤ 1 ∧ f1 ≤ 1 ∧ s 251 = nI ly ∧ s 272 = nI (q + 1) ∧ t 275 = nI q ∧ s 281 = nI wl ∧ t 305 = nI wl ∧ s 282 = nI tk ∧ t 278 = nI tk ∧ hr_ss s t ly tk f0 f1 ∧ hr_mc s t ly q wl f0 f1
theorem pr_nl {ly wl : Nat} (C : hr_ce s t) (W : hr_sh s t) (N : hr_cn c e) (hl : ly ≤ 11) (e1 : s 251 = nI ly) (e2 : s 272 = 0) (e3 : t 275 = 0) (w1 : s 281 = nI wl) (w2 : t 305 = nI wl) (z : s 274 = 0) (hw : ly ≠ 0 → wl ≤ ly) (P1 : ly ≤ 7 → hr_pic s t (12 * ly)) (P2 : 8 ≤ ly → hr_pic s t 96) :
    ∃ (s' t' c' e' : Nat → Int32) (wl' : Nat), hr_pre s' t' ly 0 wl' 0 0 0 ∧ hr_cn c' e' ∧ qa_ag hr_C4 c c' ∧ qa_ag hr_C4 e e' ∧ qa_ag hr_KX s s' ∧ qa_ag hr_KY t t' ∧ (∀ post : SX → Prop, wX_videoTurn_81 post (nI 0) sa dg st da rn cn s' sv iv c' → wX_videoTurn_52 post sa dg st da rn cn s sv iv c) ∧ (∀ post : SY → Prop, wY_videoTurn_92 post sb t' tv jv e' → wY_videoTurn_77 post sb t tv jv e) := by
  have C1 : hr_ce (upd s 272 (s 272 + 1)) t := hr_ceX C (by omega)
  have W1 : hr_sh (upd s 272 (s 272 + 1)) t := hr_shA W (qa_agU qa_ag0 (by omega)) qa_ag0
  obtain ⟨s', t', c', e', h1, h2, h3, h4, h5, h6, h7, h8, h9, h10, h11, h12, h13, h14, h15, hX, hY⟩ := pr_bline (sa := sa) (dg := dg) (st := st) (da := da) (rn := rn) (cn := cn) (sv := sv) (iv := iv) (c := c) (sb := sb) (tv := tv) (jv := jv) (e := e) C1 W1 N hl e1 (fun k => hr_picA (P2 (by omega)) (by omega) (qa_agU qa_ag0 (by unfold hr_QX; omega)) qa_ag0) w1 w2
  have E272 : s' 272 = nI (0 + 1) := by
    rw [h6 272 (by unfold hr_HX; omega), pk_us, e2]
    rfl
  have E274 : s' 274 = 0 := (h6 274 (by unfold hr_HX; omega)).trans z
  refine ⟨s', t', c', e', if ly = 0 then 0 else wl, ⟨h1, h2, hl, by omega, by omega, by omega, by omega, ?_, E272, ?_, h14, h15, h9, h10, ⟨fun k => absurd k (by omega), fun k => absurd k (by omega)⟩, ?_⟩, h3, h4, h5, ?_, ?_, ?_, ?_⟩
  · exact (h6 251 (by unfold hr_HX; omega)).trans e1
  · exact (h7 275 (by unfold hr_HY; omega)).trans e3
  · by_cases k : ly < 8
    · refine Or.inl ⟨by omega, by omega, ?_, E274, ?_, h13, h11, h12, hr_picA (P1 (by omega)) (by omega) ?_ ?_⟩
      · rw [h8, if_pos k]; rfl
      · by_cases k0 : ly = 0
        · rw [if_pos k0]; omega
        · rw [if_neg k0]; exact hw k0
      · exact qa_agT (qa_agU qa_ag0 (by unfold hr_QX; omega)) (qa_agW h6 (by unfold hr_QX hr_HX; omega))
      · exact qa_agW h7 (by unfold hr_QY hr_HY; omega)
    · refine Or.inr (Or.inr (Or.inr ⟨by omega, ?_, E274, ?_, hr_picA (P2 (by omega)) (by omega) ?_ ?_⟩))
      · rw [h8, if_neg k]; rfl
      · have := hw (by omega)
        rw [if_neg (by omega)]
        omega
      · exact qa_agT (qa_agU qa_ag0 (by unfold hr_QX; omega)) (qa_agW h6 (by unfold hr_QX hr_HX; omega))
      · exact qa_agW h7 (by unfold hr_QY hr_HY; omega)
  · exact qa_agT (qa_agU qa_ag0 (by unfold hr_KX; omega)) (qa_agW h6 (by unfold hr_KX hr_HX; omega))
  · exact qa_agW h7 (by unfold hr_KY hr_HY; omega)
  · intro post h
    exact nm_r e2 (nm_e (br_t rfl (hX _ h)))
  · intro post h
    exact br_t e3 (hY _ h)
theorem pr_adv (H : hr_Hw s t) (N : hr_cn c e) (on : ¬ s 247 &&& 1 = 0) : ∃ (s' t' c' e' : Nat → Int32) (ly q wl tk f0 f1 : Nat), hr_pre s' t' ly q wl tk f0 f1 ∧ hr_cn c' e' ∧ qa_ag hr_C4 c c' ∧ qa_ag hr_C4 e e' ∧ qa_ag hr_KX s s' ∧ qa_ag hr_KY t t' ∧ (∀ post : SX → Prop, wX_videoTurn_81 post (nI q) sa dg st da rn cn s' sv iv c' → wpX_videoTurn post (sa, dg, st, da, rn, cn, s, sv, iv, c)) ∧ (∀ post : SY → Prop, wY_videoTurn_92 post sb t' tv jv e' → wpY_videoTurn post (sb, t, tv, jv, e)) := by
  obtain ⟨C, T, P, L, K, W, V⟩ := H
  obtain ⟨ly, d, m, wl, tk, f0, f1, b1, b2, b3, b4, b5, B, S, o, z, Q⟩ := V
  obtain ⟨e1, e2, e3, e4, e5, e6, e7, e8, e9⟩ := B
  have e1' : t 251 = nI ly := (C 251 (by omega)).1.trans e1
  have on' : t 247 &&& 1 = 1 := (qa_on (C 247 (by omega)).1).mp on
  have e3' : t 275 + 1 = nI d := by
    rw [e3]
    exact Int32.sub_add_cancel _ _
  have X1 : ∀ post : SX → Prop, ¬ s 272 = 28 → wX_videoTurn_52 post sa dg st da rn cn s sv iv c → wpX_videoTurn post (sa, dg, st, da, rn, cn, s, sv, iv, c) := by
    intro post k h
    unfold wpX_videoTurn
    exact br_f on (br_f (by decide) (br_f k h))
  have Y1 : ∀ post : SY → Prop, d ≠ 28 → wY_videoTurn_77 post sb (upd t 275 (t 275 + 1)) tv jv e → wpY_videoTurn post (sb, t, tv, jv, e) := by
    intro post k h
    unfold wpY_videoTurn
    refine br_t on' (br_f (by decide) (nm_e (br_f ?_ h)))
    show ¬ t 275 + 1 = 28
    rw [e3']
    exact qa_neN (b := 28) k (by omega) (by omega)
  by_cases k0 : d = 0
  · subst k0
    have Q0 : ly = 0 ∧ wl = 0 ∧ m = 0 := by
      rcases Q with h | h | h | h | h
      · exact ⟨h.2.2.1, h.2.2.2.1, h.2.1⟩
      · exact absurd h.1 (by omega)
      · exact absurd h.1 (by omega)
      · exact absurd h.1 (by omega)
      · exact absurd h.1 (by omega)
    obtain ⟨rfl, rfl, rfl⟩ := Q0
    obtain ⟨s', t', c', e', wl', h1, h2, h3, h4, h5, h6, hX, hY⟩ := pr_nl (sa := sa) (dg := dg) (st := st) (da := da) (rn := rn) (cn := cn) (sv := sv) (iv := iv) (c := c) (sb := sb) (tv := tv) (jv := jv) (e := e) (t := upd t 275 (t 275 + 1)) (hr_ceY C (by omega)) (hr_shA W qa_ag0 (qa_agU qa_ag0 (by omega))) N (by omega) e1 e2 e3' e6 e7 (z (by omega)) (fun k => absurd rfl k) (fun _ p hp => absurd hp (by omega)) (fun k => absurd k (by omega))
    exact ⟨s', t', c', e', 0, 0, wl', 0, 0, 0, h1, h2, h3, h4, h5, qa_agT (qa_agU qa_ag0 (by unfold hr_KY; omega)) h6, fun post h => X1 post (by rw [e2]; decide) (hX post h), fun post h => Y1 post (by omega) (hY post h)⟩
  by_cases k28 : d = 28
  · subst k28
    have Q8 : m ≠ 3 ∧ wl ≤ ly + 1 ∧ ((8 ≤ ly ∧ hr_pic s t 96) ∨ (ly ≤ 7 ∧ hr_pic s t (12 * ly + 12))) := by
      rcases Q with h | h | h | h | h
      · exact absurd h.1 (by omega)
      · exact ⟨by omega, h.2.2.2.1, Or.inl ⟨h.2.1, h.2.2.2.2⟩⟩
      · exact absurd h.2.1 (by omega)
      · obtain ⟨h1, h2, h3, x, dp, pa, le, nx, he, D⟩ := h
        exact absurd D.2.2.2.2.2.2.2.2.1 (by omega)
      · exact ⟨by omega, h.2.2.2.1, Or.inr ⟨h.2.1, h.2.2.2.2.2⟩⟩
    obtain ⟨q1, q2, q3⟩ := Q8
    have i251 : vp_in (251 : Int32) 512 := vp_in_nI (n := 251) (by omega) (by omega)
    have c251 : (251 : Int32).toNatClampNeg = 251 := nI_clamp (n := 251) (by omega)
    have vX : (upd s 272 0 251 + 1) - (upd s 272 0 251 + 1) / 12 * 12 = nI ((ly + 1) % 12) := by
      show (s 251 + 1) - (s 251 + 1) / 12 * 12 = _
      rw [e1, nI_1]
      exact pk_rem (d := 12) (by omega) (by omega) (by omega)
    obtain ⟨v, hv, hY1⟩ : ∃ v : Int32, v = nI ((ly + 1) % 12) ∧ ∀ post : SY → Prop, wY_videoTurn_77 post sb (upd (upd (upd t 275 (t 275 + 1)) 275 0) 251 v) tv jv e → wpY_videoTurn post (sb, t, tv, jv, e) := by
      by_cases k : ly = 11
      · refine ⟨0, by rw [k]; rfl, ?_⟩
        intro post h
        unfold wpY_videoTurn
        exact br_t on' (br_f (by decide) (nm_e (br_t e3' (nm_e (br_t (e1'.trans (by rw [k]; rfl)) ⟨i251, nm_r (qa_up _ _ c251) h⟩)))))
      · refine ⟨t 251 + 1, by rw [e1', nI_1, show (ly + 1) % 12 = ly + 1 by omega], ?_⟩
        intro post h
        unfold wpY_videoTurn
        refine br_t on' (br_f (by decide) (nm_e (br_t e3' (nm_e (br_f ?_ ⟨i251, nm_r (qa_up _ _ c251) h⟩)))))
        show ¬ t 251 = 11
        rw [e1']
        exact qa_neN (b := 11) k (by omega) (by omega)
    have Cb : hr_ce (upd (upd s 272 0) 251 ((upd s 272 0 251 + 1) - (upd s 272 0 251 + 1) / 12 * 12)) (upd (upd (upd t 275 (t 275 + 1)) 275 0) 251 v) := hr_ceB (hr_ceX (hr_ceY (hr_ceY C (by omega)) (by omega)) (by omega)) (by rw [vX]; exact qa_Bn (by omega)) (by rw [vX]; exact hv)
    obtain ⟨s', t', c', e', wl', h1, h2, h3, h4, h5, h6, hX, hY⟩ := pr_nl (sa := sa) (dg := dg) (st := st) (da := da) (rn := rn) (cn := cn) (sv := sv) (iv := iv) (c := c) (sb := sb) (tv := tv) (jv := jv) (e := e) Cb (hr_shA W (qa_agU (qa_agU qa_ag0 (by omega)) (by omega)) (qa_agU (qa_agU (qa_agU qa_ag0 (by omega)) (by omega)) (by omega))) N (ly := (ly + 1) % 12) (by omega) vX rfl rfl e6 e7 (z q1) (by omega) (by
      intro k
      rcases q3 with ⟨a, b⟩ | ⟨a, b⟩
      · intro p hp
        exact absurd hp (by omega)
      · exact hr_picL (hr_picA b (by omega) (qa_agU (qa_agU qa_ag0 (by unfold hr_QX; omega)) (by unfold hr_QX; omega)) (qa_agU (qa_agU (qa_agU qa_ag0 (by unfold hr_QY; omega)) (by unfold hr_QY; omega)) (by unfold hr_QY; omega))) (by omega)) (by
      intro k
      rcases q3 with ⟨a, b⟩ | ⟨a, b⟩
      · exact hr_picA b (by omega) (qa_agU (qa_agU qa_ag0 (by unfold hr_QX; omega)) (by unfold hr_QX; omega)) (qa_agU (qa_agU (qa_agU qa_ag0 (by unfold hr_QY; omega)) (by unfold hr_QY; omega)) (by unfold hr_QY; omega))
      · have : 12 * ly + 12 = 96 := by omega
        rw [this] at b
        exact hr_picA b (by omega) (qa_agU (qa_agU qa_ag0 (by unfold hr_QX; omega)) (by unfold hr_QX; omega)) (qa_agU (qa_agU (qa_agU qa_ag0 (by unfold hr_QY; omega)) (by unfold hr_QY; omega)) (by unfold hr_QY; omega)))
    refine ⟨s', t', c', e', (ly + 1) % 12, 0, wl', 0, 0, 0, h1, h2, h3, h4, qa_agT (qa_agU (qa_agU qa_ag0 (by unfold hr_KX; omega)) (by unfold hr_KX; omega)) h5, qa_agT (qa_agU (qa_agU (qa_agU qa_ag0 (by unfold hr_KY; omega)) (by unfold hr_KY; omega)) (by unfold hr_KY; omega)) h6, ?_, fun post h => hY1 post (hY post h)⟩
    intro post h
    unfold wpX_videoTurn
    exact br_f on (br_f (by decide) (br_t e2 (nm_e ⟨by decide, nm_e (hX post h)⟩)))
  · have n0 : ¬ nI d = 0 := nI_ne0 (by omega) (by omega)
    have U2 : s 272 + 1 = nI (d + 1) := by rw [e2, nI_1]
    refine ⟨upd s 272 (s 272 + 1), upd t 275 (t 275 + 1), c, e, ly, d, wl, tk, f0, f1, ⟨hr_ceX (hr_ceY C (by omega)) (by omega), hr_shA W (qa_agU qa_ag0 (by omega)) (qa_agU qa_ag0 (by omega)), b1, by omega, b3, b4, b5, e1, U2, e3', e6, e7, e8, e9, hr_ssA S (qa_agU qa_ag0 (by unfold hr_SX; omega)) (qa_agU qa_ag0 (by unfold hr_SY; omega)), ?_⟩, N, qa_ag0, qa_ag0, qa_agU qa_ag0 (by unfold hr_KX; omega), qa_agU qa_ag0 (by unfold hr_KY; omega), ?_, ?_⟩
    · rcases Q with h | h | h | h | h
      · exact absurd h.1 k0
      · obtain ⟨h1, h2, rfl, h4, h5⟩ := h
        exact Or.inr (Or.inr (Or.inr ⟨h2, e4, z (by omega), h4, hr_picA h5 (by omega) (qa_agU qa_ag0 (by unfold hr_QX; omega)) (qa_agU qa_ag0 (by unfold hr_QY; omega))⟩))
      · obtain ⟨h1, h2, h3, rfl, h5, h6, h7, h8, h9⟩ := h
        exact Or.inl ⟨h3, h2, e4, z (by omega), h5, h6, h7, h8, hr_picA h9 (by omega) (qa_agU qa_ag0 (by unfold hr_QX; omega)) (qa_agU qa_ag0 (by unfold hr_QY; omega))⟩
      · obtain ⟨h1, h2, rfl, x, dp, pa, le, nx, he, D⟩ := h
        refine Or.inr (Or.inl ⟨h2, h1, e4, e5, x, dp, pa, le, nx, he, ?_⟩)
        obtain ⟨a1, a2, a3, a4, a5, a6, a7, a8, a9, d1, d2, d3, d4, d5, d6, d7, d8, d9, d10, d11, d12, d13, g1, g2, g4⟩ := D
        exact ⟨a1, a2, a3, a4, a5, a6, a7, a8, by omega, d1, d2, d3, d4, d5, d6, d7, d8, d9, d10, d11, d12, d13, g1, hr_stX (hr_stY g2 (by omega)) (by omega), hr_picX (hr_picY g4 (by omega) (by omega)) (by omega) (by omega)⟩
      · obtain ⟨h1, h2, rfl, h4, h5, h6⟩ := h
        exact Or.inr (Or.inr (Or.inl ⟨h2, h1, e4, z (by omega), h4, h5, hr_picA h6 (by omega) (qa_agU qa_ag0 (by unfold hr_QX; omega)) (qa_agU qa_ag0 (by unfold hr_QY; omega))⟩))
    · intro post h
      exact X1 post (by rw [e2]; exact qa_neN (b := 28) k28 (by omega) (by omega)) (nm_r e2 (nm_e (br_f n0 h)))
    · intro post h
      refine Y1 post k28 (br_f ?_ h)
      show ¬ t 275 + 1 = 0
      rw [e3']
      exact n0
theorem pr_video (H : hr_Hw s t) (N : hr_cn c e) (hc : t 274 = cn) (hb : qa_b cn) : ∃ s' t' c' e' : Nat → Int32, hr_Hw s' t' ∧ qa_ag hr_FX s s' ∧ qa_ag hr_FY t t' ∧ t' 269 = t 269 ∧ t' 274 = cn ∧ hr_cn c' e' ∧ qa_ag hr_C4 c c' ∧ qa_ag hr_C4 e e' ∧ (∀ post : SX → Prop, post (sa, dg, st, da, rn, cn, s', sv, iv, c') → wpX_videoTurn post (sa, dg, st, da, rn, cn, s, sv, iv, c)) ∧ (∀ post : SY → Prop, post (sb, t', tv, jv, e') → wpY_videoTurn post (sb, t, tv, jv, e)) := by
  by_cases on : s 247 &&& 1 = 0
  · refine ⟨s, t, c, e, H, qa_ag0, qa_ag0, rfl, hc, N, qa_ag0, qa_ag0, ?_, ?_⟩
    · intro post h
      unfold wpX_videoTurn
      exact br_t on (br_t rfl h)
    · intro post h
      unfold wpY_videoTurn
      exact br_f (fun z => absurd on ((qa_on (H.1 247 (by omega)).1).mpr z)) (br_t rfl h)
  · obtain ⟨s2, t2, c2, e2, ly, q, wl, tk, f0, f1, ⟨C2, W2, p1, p2, p3, p4, p5, p6, p7, p8, p9, p10, p11, p12, p13, p14⟩, n1, n2, n3, x2, y2, hX2, hY2⟩ := pr_adv (sa := sa) (dg := dg) (st := st) (da := da) (rn := rn) (cn := cn) (sv := sv) (iv := iv) (c := c) (sb := sb) (tv := tv) (jv := jv) (e := e) H N on
    have on2 : ¬ s2 247 &&& 1 = 0 := by rw [x2 247 (by unfold hr_KX; omega)]; exact on
    obtain ⟨s3, t3, c3, e3, C3, V3, n4, n5, n6, x3, y3, hX3, hY3⟩ := pr_v81 (sa := sa) (dg := dg) (st := st) (da := da) (rn := rn) (cn := cn) (sv := sv) (iv := iv) (c := c2) (sb := sb) (tv := tv) (jv := jv) (e := e2) C2 n1 p1 p2 p3 p4 p5 p6 p7 p8 p9 p10 p11 p12 p13 on2 ((y2 274 (by unfold hr_KY; omega)).trans hc) hb p14
    have L3 : hr_ln s3 t3 := hr_lnA H.2.2.2.1 ((x3 271 (by unfold hr_JX; omega)).trans (x2 271 (by unfold hr_KX; omega))) ((y3 308 (by unfold hr_JY; omega)).trans (y2 308 (by unfold hr_KY; omega)))
    have m3 : t3 276 = s3 273 := by
      obtain ⟨ly, d, m, wl, tk, f0, f1, _, _, _, _, _, B, _⟩ := V3
      exact B.2.2.2.2.1.trans B.2.2.2.1.symm
    obtain ⟨s4, t4, C4, L4, x4, y4, hX4, hY4⟩ := pr_look (sa := sa) (dg := dg) (st := st) (da := da) (rn := rn) (cn := cn) (sv := sv) (iv := iv) (c := c3) (sb := sb) (tv := tv) (jv := jv) (e := e3) C3 L3 m3
    have W4 : hr_sh s4 t4 := hr_shA (hr_shA W2 (qa_agW x3 (by unfold hr_JX; omega)) (qa_agW y3 (by unfold hr_JY; omega))) (qa_agW x4 (by omega)) (qa_agW y4 (by omega))
    have V4 : hr_vs s4 t4 := hr_vsA V3 (qa_agW x4 (by unfold hr_PX; omega)) (qa_agW y4 (by unfold hr_PY; omega))
    refine ⟨s4, t4, c3, e3, hr_HwV H C4 L4 W4 V4 ?_ ?_, ?_, ?_, ?_, ?_, n4, qa_agT n2 n5, qa_agT n3 n6, ?_, ?_⟩
    · exact qa_agT (qa_agT (qa_agW x2 (by unfold hr_KX; omega)) (qa_agW x3 (by unfold hr_JX; omega))) (qa_agW x4 (by omega))
    · exact qa_agT (qa_agT (qa_agW y2 (by unfold hr_KY; omega)) (qa_agW y3 (by unfold hr_JY; omega))) (qa_agW y4 (by omega))
    · exact qa_agT (qa_agT (qa_agW x2 (by unfold hr_KX hr_FX; omega)) (qa_agW x3 (by unfold hr_JX hr_FX; omega))) (qa_agW x4 (by unfold hr_FX; omega))
    · exact qa_agT (qa_agT (qa_agW y2 (by unfold hr_KY hr_FY; omega)) (qa_agW y3 (by unfold hr_JY hr_FY; omega))) (qa_agW y4 (by unfold hr_FY; omega))
    · exact (y4 269 (by omega)).trans ((y3 269 (by unfold hr_JY; omega)).trans (y2 269 (by unfold hr_KY; omega)))
    · exact (y4 274 (by omega)).trans ((y3 274 (by unfold hr_JY; omega)).trans ((y2 274 (by unfold hr_KY; omega)).trans hc))
    · intro post h
      refine hX2 post (hX3 post ?_)
      unfold wX_videoTurn_191
      exact hX4 _ h
    · intro post h
      refine hY2 post (hY3 post ?_)
      unfold wY_videoTurn_197
      exact hY4 _ h
end
end
section
/-! cells as the processor reads them -/
section
variable {sa dg st da rn cn : Int32} {s sv iv c : Nat → Int32} {sb : Int32} {t tv jv e : Nat → Int32}
theorem qa_or3 (a z m : Int32) : (a ||| m) ||| z = (a ||| z) ||| m := by rw [Int32.or_assoc, Int32.or_comm m z, ← Int32.or_assoc]
theorem pr_cell {n m : Nat} (C : hr_ce s t) (T : hr_tm s t) (K : hr_ky s t) (hn : n < 256) (hm : m < 4) (m1 : s 273 = nI m) (m2 : t 276 = nI m) :
    ∃ r : Int32, qa_B r ∧ (∀ post : Int32 → Prop, post r → wpX_reading post (sa, dg, st, da, rn, cn, s, sv, iv, c) (nI n)) ∧ (∀ post : Int32 → Prop, post r → wpY_cell post (sb, t, tv, jv, e) (nI n)) := by
  have p0 : ¬ nI n < 0 := nI_pos (by omega)
  have p255 : nI n ≤ 255 := nI_le (b := 255) (by omega) (by omega)
  by_cases k0 : n = 240
  · subst k0
    refine ⟨ml_pd (s 240) (s 391), ml_pdB_ _ (C 240 (by omega)).2, fun post h => br_t rfl (mx_pad h), fun post h => br_f p0 (br_t p255 (br_t rfl (my_pad (by rw [K.1]; exact K.2) ?_)))⟩
    rw [(C 240 (by omega)).1, K.1]
    exact h
  have n0 : ¬ nI n = 240 := qa_neN (b := 240) k0 (by omega) (by omega)
  by_cases k1 : n = 241
  · subst k1
    obtain ⟨dv, hd, ed⟩ := T.2.1
    have ev : s 266 / 4 = nI (dv / 4) := by
      rw [ed]
      exact pk_div (d := 4) (by omega) (by omega) (by omega)
    refine ⟨s 266 / 4, ⟨dv / 4, by omega, ev⟩, fun post h => br_f n0 (br_t rfl ⟨by decide, h⟩), fun post h => br_f p0 (br_t p255 (br_f n0 (br_t rfl ⟨by decide, ?_⟩)))⟩
    rw [T.1]
    exact h
  have n1 : ¬ nI n = 241 := qa_neN (b := 241) k1 (by omega) (by omega)
  by_cases k8 : n = 248
  · subst k8
    have b8 := (C 248 (by omega)).2
    have bm : qa_B (s 273) := ⟨m, by omega, m1⟩
    have mm : t 276 = s 273 := m2.trans m1.symm
    have e8 := (C 248 (by omega)).1
    have e247 := (C 247 (by omega)).1
    have z0 : (t 248 ||| t 276) ||| 0 = (s 248 ||| 0) ||| s 273 := by rw [e8, mm]; exact qa_or3 _ _ _
    have z4 : (t 248 ||| t 276) ||| 4 = (s 248 ||| 4) ||| s 273 := by rw [e8, mm]; exact qa_or3 _ _ _
    by_cases on : s 247 &&& 1 = 0
    · refine ⟨(s 248 ||| 0) ||| s 273, qa_Bor (qa_Bor b8 qa_B0) bm, ?_, ?_⟩
      · intro post h
        refine br_f n0 (br_f n1 (br_t rfl ?_))
        unfold wpX_isOn
        exact br_t on (br_t rfl h)
      · intro post h
        refine br_f p0 (br_t p255 (br_f n0 (br_f n1 (br_t rfl ?_))))
        unfold wpY_isOn
        refine br_f (fun z => absurd on ((qa_on e247).mpr z)) (br_t rfl ?_)
        rw [z0]
        exact h
    · have on' := (qa_on e247).mp on
      by_cases eq : s 251 = s 252
      · refine ⟨(s 248 ||| 4) ||| s 273, qa_Bor (qa_Bor b8 ⟨4, by decide, rfl⟩) bm, ?_, ?_⟩
        · intro post h
          refine br_f n0 (br_f n1 (br_t rfl ?_))
          unfold wpX_isOn
          exact br_f on (br_f (by decide) (br_t eq h))
        · intro post h
          refine br_f p0 (br_t p255 (br_f n0 (br_f n1 (br_t rfl ?_))))
          unfold wpY_isOn
          refine br_t on' (br_f (by decide) (br_t (by rw [(C 251 (by omega)).1, (C 252 (by omega)).1]; exact eq) ?_))
          rw [z4]
          exact h
      · refine ⟨(s 248 ||| 0) ||| s 273, qa_Bor (qa_Bor b8 qa_B0) bm, ?_, ?_⟩
        · intro post h
          refine br_f n0 (br_f n1 (br_t rfl ?_))
          unfold wpX_isOn
          exact br_f on (br_f (by decide) (br_f eq h))
        · intro post h
          refine br_f p0 (br_t p255 (br_f n0 (br_f n1 (br_t rfl ?_))))
          unfold wpY_isOn
          refine br_t on' (br_f (by decide) (br_f (by rw [(C 251 (by omega)).1, (C 252 (by omega)).1]; exact eq) ?_))
          rw [z0]
          exact h
  have n8 : ¬ nI n = 248 := qa_neN (b := 248) k8 (by omega) (by omega)
  refine ⟨s n, (C n hn).2, fun post h => br_f n0 (br_f n1 (br_f n8 ⟨vp_in_nI (by omega) (by omega), ?_⟩)), fun post h => br_f p0 (br_t p255 (br_f n0 (br_f n1 (br_f n8 ⟨vp_in_nI (by omega) (by omega), ?_⟩))))⟩
  · rw [nI_clamp (by omega)]
    exact h
  · rw [nI_clamp (by omega), (C n hn).1]
    exact h
theorem hr_mode (V : hr_vs s t) : ∃ m : Nat, m < 4 ∧ s 273 = nI m ∧ t 276 = nI m := by
  obtain ⟨ly, d, m, wl, tk, f0, f1, _, _, _, _, _, B, _, _, _, Q⟩ := V
  refine ⟨m, ?_, B.2.2.2.1, B.2.2.2.2.1⟩
  rcases Q with h | h | h | h | h <;> omega
/-- a read of the processor: the answers of both sides -/
theorem pr_read {n : Nat} (H : hr_Hw s t) (hc : t 274 = cn) (hb : qa_b cn) (hn : n < 256) :
    ∃ r : Int32, qa_B r ∧ (∀ post : Int32 → Prop, post r → wpX_read post (sa, dg, st, da, rn, cn, s, sv, iv, c) (nI n)) ∧ ∃ q : Int32, (∀ post : Int32 → Prop, post q → wpY_isShut post (sb, t, tv, jv, e) (nI n)) ∧ ((q = 0 ∧ ∀ post : Int32 → Prop, post r → wpY_cell post (sb, t, tv, jv, e) (nI n)) ∨ (¬ q = 0 ∧ r = 255)) := by
  obtain ⟨m, hm, m1, m2⟩ := hr_mode H.2.2.2.2.2.2
  obtain ⟨q, q01, _, qX, qY⟩ := pr_shut (sa := sa) (dg := dg) (st := st) (da := da) (rn := rn) (cn := cn) (sv := sv) (iv := iv) (c := c) (sb := sb) (tv := tv) (jv := jv) (e := e) hn hm m1 m2 hc hb
  obtain ⟨r, rB, rX, rY⟩ := pr_cell (sa := sa) (dg := dg) (st := st) (da := da) (rn := rn) (cn := cn) (sv := sv) (iv := iv) (c := c) (sb := sb) (tv := tv) (jv := jv) (e := e) H.1 H.2.1 H.2.2.2.2.1 hn hm m1 m2
  rcases q01 with z | z
  · refine ⟨r, rB, ?_, q, qY, Or.inl ⟨z, rY⟩⟩
    intro post h
    unfold wpX_read
    refine qX _ (br_t z ?_)
    exact rX _ h
  · have nz : ¬ q = 0 := by rw [z]; decide
    refine ⟨255, qa_B255, ?_, q, qY, Or.inr ⟨nz, rfl⟩⟩
    intro post h
    unfold wpX_read
    exact qX _ (br_f nz h)
end
end
section
/-! cells and registers as the processor writes them -/
section
variable {sa dg st da rn cn : Int32} {s sv iv c : Nat → Int32} {sb : Int32} {t tv jv e : Nat → Int32}
/-- keys are noticed -/
theorem pr_keysN (C : hr_ce s t) (K : hr_ky s t) (p : Int32) : ∃ s' t' : Nat → Int32, hr_ce s' t' ∧ qa_ag (fun i => i ≠ 245) s s' ∧ qa_ag (fun i => i ≠ 245) t t' ∧ (∀ post : SX → Prop, post (sa, dg, st, da, rn, cn, s', sv, iv, c) → wpX_noticeKeys post (sa, dg, st, da, rn, cn, s, sv, iv, c) p) ∧ (∀ post : SY → Prop, post (sb, t', tv, jv, e) → wpY_fall post (sb, t, tv, jv, e) p) := by
  have ep : ml_pd (t 240) (t 310) = ml_pd (s 240) (s 391) := by rw [(C 240 (by omega)).1, K.1]
  have hk : qa_B (t 310) := by rw [K.1]; exact K.2
  by_cases k : (p &&& (ml_pd (s 240) (s 391) ^^^ (-1))) &&& 15 = 0
  · refine ⟨s, t, C, qa_ag0, qa_ag0, ?_, ?_⟩
    · intro post h
      unfold wpX_noticeKeys
      exact mx_pad (br_t k h)
    · intro post h
      unfold wpY_fall
      refine my_pad hk ?_
      rw [ep]
      exact br_t k h
  · refine ⟨upd s 245 (s 245 ||| 16), upd t 245 (t 245 ||| 16), hr_ceB C (qa_Bor (C 245 (by omega)).2 ⟨16, by decide, rfl⟩) (by rw [(C 245 (by omega)).1]), qa_agU qa_ag0 (by omega), qa_agU qa_ag0 (by omega), ?_, ?_⟩
    · intro post h
      unfold wpX_noticeKeys
      exact mx_pad (br_f k (nm_e h))
    · intro post h
      unfold wpY_fall
      refine my_pad hk ?_
      rw [ep]
      exact br_f k (nm_e h)
/-- behind the write of a register: no turn of the video -/
theorem pr_after (C : hr_ce s t) (T : hr_tm s t) (K : hr_ky s t) (L : hr_ln s t) (hm : t 276 = s 273) (b p x5 : Int32) (hon : (x5 = 1 ∧ t 247 &&& 1 = 1) ∨ (x5 = 0 ∧ ¬ t 247 &&& 1 = 1)) :
    ∃ s2 s3 s4 t4 : Nat → Int32, hr_ce s4 t4 ∧ hr_tm s4 t4 ∧ hr_ln s4 t4 ∧ qa_ag (fun i => i ≠ 242 ∧ i ≠ 245 ∧ i ≠ 267 ∧ i ≠ 271) s s4 ∧ qa_ag (fun i => i ≠ 242 ∧ i ≠ 245 ∧ i ≠ 268 ∧ i ≠ 308) t t4 ∧ (∀ post : SX → Prop, post (sa, dg, st, da, rn, cn, s2, sv, iv, c) → wpX_noticeSignal post (sa, dg, st, da, rn, cn, s, sv, iv, c) b) ∧ (∀ post : SX → Prop, post (sa, dg, st, da, rn, cn, s3, sv, iv, c) → wpX_noticeKeys post (sa, dg, st, da, rn, cn, s2, sv, iv, c) p) ∧ (∀ post : SX → Prop, post (sa, dg, st, da, rn, cn, s4, sv, iv, c) → wpX_lookAtLine post (sa, dg, st, da, rn, cn, s3, sv, iv, c)) ∧ (∀ post : SY → Prop, post (sb, t4, tv, jv, e) → wY_store_258 post b p x5 sb t tv jv e) := by
  obtain ⟨s2, t2, C2, T2, x2, y2, hX2, hY2⟩ := pr_notice (sa := sa) (dg := dg) (st := st) (da := da) (rn := rn) (cn := cn) (sv := sv) (iv := iv) (c := c) (sb := sb) (tv := tv) (jv := jv) (e := e) C T b
  have K2 : hr_ky s2 t2 := hr_kyA K (x2 391 (by omega)) (y2 310 (by omega))
  obtain ⟨s3, t3, C3, x3, y3, hX3, hY3⟩ := pr_keysN (sa := sa) (dg := dg) (st := st) (da := da) (rn := rn) (cn := cn) (sv := sv) (iv := iv) (c := c) (sb := sb) (tv := tv) (jv := jv) (e := e) C2 K2 p
  have L3 : hr_ln s3 t3 := hr_lnA L ((x3 271 (by omega)).trans (x2 271 (by omega))) ((y3 308 (by omega)).trans (y2 308 (by omega)))
  have m3 : t3 276 = s3 273 := by rw [y3 276 (by omega), y2 276 (by omega), x3 273 (by omega), x2 273 (by omega)]; exact hm
  obtain ⟨s4, t4, C4, L4, x4, y4, hX4, hY4⟩ := pr_look (sa := sa) (dg := dg) (st := st) (da := da) (rn := rn) (cn := cn) (sv := sv) (iv := iv) (c := c) (sb := sb) (tv := tv) (jv := jv) (e := e) C3 L3 m3
  refine ⟨s2, s3, s4, t4, C4, hr_tmA (hr_tmA T2 (qa_agW x3 (by omega)) (qa_agW y3 (by omega))) (qa_agW x4 (by omega)) (qa_agW y4 (by omega)), L4, qa_agT (qa_agT (qa_agW x2 (by omega)) (qa_agW x3 (by omega))) (qa_agW x4 (by omega)), qa_agT (qa_agT (qa_agW y2 (by omega)) (qa_agW y3 (by omega))) (qa_agW y4 (by omega)), hX2, hX3, hX4, ?_⟩
  intro post h
  have G273 : wY_store_273 post p x5 sb t2 tv jv e := by
    unfold wY_store_273
    refine hY3 _ ?_
    have G292 : wY_store_292 post sb t3 tv jv e := by
      unfold wY_store_292
      exact hY4 _ h
    have e247 : t3 247 = t 247 := (y3 247 (by omega)).trans (y2 247 (by omega))
    unfold wpY_isOn
    rcases hon with ⟨k1, k2⟩ | ⟨k1, k2⟩
    · exact br_t (by rw [e247]; exact k2) (br_t k1 G292)
    · exact br_f (by rw [e247]; exact k2) (br_t k1 G292)
  rcases hY2 with ⟨k, rfl⟩ | ⟨k, k2, rfl⟩ | ⟨k, k2, k3⟩
  · exact br_t k G273
  · exact br_f k (my_signal (br_f k2 G273))
  · refine br_f k (my_signal (br_t k2 ?_))
    exact k3 _ G273
def ml_on (l : Int32) : Int32 := if l &&& 1 = 1 then 1 else 0
theorem ml_on1 {l : Int32} (h : l &&& 1 = 1) : ml_on l = 1 := if_pos h
theorem ml_on0 {l : Int32} (h : ¬ l &&& 1 = 1) : ml_on l = 0 := if_neg h
theorem ml_onC (l : Int32) : (ml_on l = 1 ∧ l &&& 1 = 1) ∨ (ml_on l = 0 ∧ ¬ l &&& 1 = 1) := by
  by_cases h : l &&& 1 = 1
  · exact Or.inl ⟨if_pos h, h⟩
  · exact Or.inr ⟨if_neg h, h⟩
def hr_WX (i : Nat) : Prop := i = 247 ∨ i = 251 ∨ (256 ≤ i ∧ i < 266) ∨ 271 ≤ i
def hr_WY (i : Nat) : Prop := i = 247 ∨ i = 251 ∨ (256 ≤ i ∧ i < 267) ∨ i = 269 ∨ 274 ≤ i
/-- what a register's write leaves, ahead of what is noticed -/
def hr_rg (s1 t1 s t : Nat → Int32) : Prop := hr_ce s1 t1 ∧ hr_tm s1 t1 ∧ hr_cp s1 t1 ∧ qa_ag hr_WX s s1 ∧ qa_ag hr_WY t t1
theorem pr_rg240 {v : Int32} (C : hr_ce s t) (T : hr_tm s t) (P : hr_cp s t) (hk : qa_B (t 310)) (hv : qa_B v) (hr : t 269 = rn) (hrb : qa_b rn) : ∃ s1 t1 : Nat → Int32, hr_rg s1 t1 s t ∧ (∀ post : SX → Prop, post (sa, dg, st, da, rn, cn, s1, sv, iv, c) → wpX_writeRegister post (sa, dg, st, da, rn, cn, s, sv, iv, c) (nI 240) v) ∧ (∀ post : SY → Prop, wY_store_258 post (ml_sg (t 244) (t 267)) (ml_pd (t 240) (t 310)) (ml_on (t 247)) sb t1 tv jv e → wpY_store post (sb, t, tv, jv, e) (nI 240) v) := by
  refine ⟨upd s 240 v, upd t 240 v, ⟨hr_ceB C hv rfl, hr_tmA T (qa_agU qa_ag0 (by omega)) (qa_agU qa_ag0 (by omega)), hr_cpA P (qa_agU qa_ag0 (by omega)) (qa_agU qa_ag0 (by omega)), qa_agU qa_ag0 (by unfold hr_WX; omega), qa_agU qa_ag0 (by unfold hr_WY; omega)⟩, fun post h => br_t (by decide) ⟨vp_in_nI (n := 240) (by omega) (by omega), nm_r (qa_up _ _ (nI_clamp (n := 240) (by omega))) h⟩, ?_⟩
  intro post h
  refine br_t (by decide) (my_signal (my_pad hk ?_))
  unfold wpY_isOn
  rcases ml_onC (t 247) with ⟨k1, k2⟩ | ⟨k1, k2⟩
  · rw [k1] at h
    exact br_t k2 (br_t (by decide) ⟨vp_in_nI (n := 240) (by omega) (by omega), nm_r (qa_up _ _ (nI_clamp (n := 240) (by omega))) h⟩)
  · rw [k1] at h
    exact br_f k2 (br_t (by decide) ⟨vp_in_nI (n := 240) (by omega) (by omega), nm_r (qa_up _ _ (nI_clamp (n := 240) (by omega))) h⟩)
theorem pr_rg244 {v : Int32} (C : hr_ce s t) (T : hr_tm s t) (P : hr_cp s t) (hk : qa_B (t 310)) (hv : qa_B v) (hr : t 269 = rn) (hrb : qa_b rn) : ∃ s1 t1 : Nat → Int32, hr_rg s1 t1 s t ∧ (∀ post : SX → Prop, post (sa, dg, st, da, rn, cn, s1, sv, iv, c) → wpX_writeRegister post (sa, dg, st, da, rn, cn, s, sv, iv, c) (nI 244) v) ∧ (∀ post : SY → Prop, wY_store_258 post (ml_sg (t 244) (t 267)) (ml_pd (t 240) (t 310)) (ml_on (t 247)) sb t1 tv jv e → wpY_store post (sb, t, tv, jv, e) (nI 244) v) := by
  refine ⟨upd s 244 v, upd t 244 v, ⟨hr_ceB C hv rfl, hr_tmA T (qa_agU qa_ag0 (by omega)) (qa_agU qa_ag0 (by omega)), hr_cpA P (qa_agU qa_ag0 (by omega)) (qa_agU qa_ag0 (by omega)), qa_agU qa_ag0 (by unfold hr_WX; omega), qa_agU qa_ag0 (by unfold hr_WY; omega)⟩, fun post h => br_f (by decide) (br_f (by decide) (br_f (by decide) (br_f (by decide) (br_f (by decide) (br_t rfl ⟨vp_in_nI (n := 244) (by omega) (by omega), nm_r (qa_up _ _ (nI_clamp (n := 244) (by omega))) h⟩))))), ?_⟩
  intro post h
  refine br_t (by decide) (my_signal (my_pad hk ?_))
  unfold wpY_isOn
  rcases ml_onC (t 247) with ⟨k1, k2⟩ | ⟨k1, k2⟩
  · rw [k1] at h
    exact br_t k2 (br_f (by decide) (br_f (by decide) (br_f (by decide) (br_f (by decide) (br_f (by decide) (br_t rfl ⟨vp_in_nI (n := 244) (by omega) (by omega), nm_r (qa_up _ _ (nI_clamp (n := 244) (by omega))) h⟩))))))
  · rw [k1] at h
    exact br_f k2 (br_f (by decide) (br_f (by decide) (br_f (by decide) (br_f (by decide) (br_f (by decide) (br_t rfl ⟨vp_in_nI (n := 244) (by omega) (by omega), nm_r (qa_up _ _ (nI_clamp (n := 244) (by omega))) h⟩))))))
theorem pr_rg246 {v : Int32} (C : hr_ce s t) (T : hr_tm s t) (P : hr_cp s t) (hk : qa_B (t 310)) (hv : qa_B v) (hr : t 269 = rn) (hrb : qa_b rn) : ∃ s1 t1 : Nat → Int32, hr_rg s1 t1 s t ∧ (∀ post : SX → Prop, post (sa, dg, st, da, rn, cn, s1, sv, iv, c) → wpX_writeRegister post (sa, dg, st, da, rn, cn, s, sv, iv, c) (nI 246) v) ∧ (∀ post : SY → Prop, wY_store_258 post (ml_sg (t 244) (t 267)) (ml_pd (t 240) (t 310)) (ml_on (t 247)) sb t1 tv jv e → wpY_store post (sb, t, tv, jv, e) (nI 246) v) := by
  refine ⟨upd s 246 v, upd t 246 v, ⟨hr_ceB C hv rfl, hr_tmA T (qa_agU qa_ag0 (by omega)) (qa_agU qa_ag0 (by omega)), hr_cpA P (qa_agU qa_ag0 (by omega)) (qa_agU qa_ag0 (by omega)), qa_agU qa_ag0 (by unfold hr_WX; omega), qa_agU qa_ag0 (by unfold hr_WY; omega)⟩, fun post h => br_f (by decide) (br_f (by decide) (br_f (by decide) (br_f (by decide) (br_f (by decide) (br_f (by decide) (br_f (by decide) (br_t rfl ⟨vp_in_nI (n := 246) (by omega) (by omega), nm_r (qa_up _ _ (nI_clamp (n := 246) (by omega))) h⟩))))))), ?_⟩
  intro post h
  refine br_t (by decide) (my_signal (my_pad hk ?_))
  unfold wpY_isOn
  rcases ml_onC (t 247) with ⟨k1, k2⟩ | ⟨k1, k2⟩
  · rw [k1] at h
    exact br_t k2 (br_f (by decide) (br_f (by decide) (br_f (by decide) (br_f (by decide) (br_f (by decide) (br_f (by decide) (br_f (by decide) (br_t rfl ⟨vp_in_nI (n := 246) (by omega) (by omega), nm_r (qa_up _ _ (nI_clamp (n := 246) (by omega))) h⟩))))))))
  · rw [k1] at h
    exact br_f k2 (br_f (by decide) (br_f (by decide) (br_f (by decide) (br_f (by decide) (br_f (by decide) (br_f (by decide) (br_f (by decide) (br_t rfl ⟨vp_in_nI (n := 246) (by omega) (by omega), nm_r (qa_up _ _ (nI_clamp (n := 246) (by omega))) h⟩))))))))
theorem pr_rg249 {v : Int32} (C : hr_ce s t) (T : hr_tm s t) (P : hr_cp s t) (hk : qa_B (t 310)) (hv : qa_B v) (hr : t 269 = rn) (hrb : qa_b rn) : ∃ s1 t1 : Nat → Int32, hr_rg s1 t1 s t ∧ (∀ post : SX → Prop, post (sa, dg, st, da, rn, cn, s1, sv, iv, c) → wpX_writeRegister post (sa, dg, st, da, rn, cn, s, sv, iv, c) (nI 249) v) ∧ (∀ post : SY → Prop, wY_store_258 post (ml_sg (t 244) (t 267)) (ml_pd (t 240) (t 310)) (ml_on (t 247)) sb t1 tv jv e → wpY_store post (sb, t, tv, jv, e) (nI 249) v) := by
  refine ⟨upd s 249 v, upd t 249 v, ⟨hr_ceB C hv rfl, hr_tmA T (qa_agU qa_ag0 (by omega)) (qa_agU qa_ag0 (by omega)), hr_cpA P (qa_agU qa_ag0 (by omega)) (qa_agU qa_ag0 (by omega)), qa_agU qa_ag0 (by unfold hr_WX; omega), qa_agU qa_ag0 (by unfold hr_WY; omega)⟩, fun post h => br_f (by decide) (br_f (by decide) (br_f (by decide) (br_f (by decide) (br_f (by decide) (br_f (by decide) (br_f (by decide) (br_f (by decide) (br_f (by decide) (br_f (by decide) (br_t rfl ⟨vp_in_nI (n := 249) (by omega) (by omega), nm_r (qa_up _ _ (nI_clamp (n := 249) (by omega))) h⟩)))))))))), ?_⟩
  intro post h
  refine br_t (by decide) (my_signal (my_pad hk ?_))
  unfold wpY_isOn
  rcases ml_onC (t 247) with ⟨k1, k2⟩ | ⟨k1, k2⟩
  · rw [k1] at h
    exact br_t k2 (br_f (by decide) (br_f (by decide) (br_f (by decide) (br_f (by decide) (br_f (by decide) (br_f (by decide) (br_f (by decide) (br_f (by decide) (br_f (by decide) (br_f (by decide) (br_t rfl ⟨vp_in_nI (n := 249) (by omega) (by omega), nm_r (qa_up _ _ (nI_clamp (n := 249) (by omega))) h⟩)))))))))))
  · rw [k1] at h
    exact br_f k2 (br_f (by decide) (br_f (by decide) (br_f (by decide) (br_f (by decide) (br_f (by decide) (br_f (by decide) (br_f (by decide) (br_f (by decide) (br_f (by decide) (br_f (by decide) (br_t rfl ⟨vp_in_nI (n := 249) (by omega) (by omega), nm_r (qa_up _ _ (nI_clamp (n := 249) (by omega))) h⟩)))))))))))
theorem pr_rg250 {v : Int32} (C : hr_ce s t) (T : hr_tm s t) (P : hr_cp s t) (hk : qa_B (t 310)) (hv : qa_B v) (hr : t 269 = rn) (hrb : qa_b rn) : ∃ s1 t1 : Nat → Int32, hr_rg s1 t1 s t ∧ (∀ post : SX → Prop, post (sa, dg, st, da, rn, cn, s1, sv, iv, c) → wpX_writeRegister post (sa, dg, st, da, rn, cn, s, sv, iv, c) (nI 250) v) ∧ (∀ post : SY → Prop, wY_store_258 post (ml_sg (t 244) (t 267)) (ml_pd (t 240) (t 310)) (ml_on (t 247)) sb t1 tv jv e → wpY_store post (sb, t, tv, jv, e) (nI 250) v) := by
  refine ⟨upd s 250 v, upd t 250 v, ⟨hr_ceB C hv rfl, hr_tmA T (qa_agU qa_ag0 (by omega)) (qa_agU qa_ag0 (by omega)), hr_cpA P (qa_agU qa_ag0 (by omega)) (qa_agU qa_ag0 (by omega)), qa_agU qa_ag0 (by unfold hr_WX; omega), qa_agU qa_ag0 (by unfold hr_WY; omega)⟩, fun post h => br_f (by decide) (br_f (by decide) (br_f (by decide) (br_f (by decide) (br_f (by decide) (br_f (by decide) (br_f (by decide) (br_f (by decide) (br_f (by decide) (br_f (by decide) (br_f (by decide) (br_t rfl ⟨vp_in_nI (n := 250) (by omega) (by omega), nm_r (qa_up _ _ (nI_clamp (n := 250) (by omega))) h⟩))))))))))), ?_⟩
  intro post h
  refine br_t (by decide) (my_signal (my_pad hk ?_))
  unfold wpY_isOn
  rcases ml_onC (t 247) with ⟨k1, k2⟩ | ⟨k1, k2⟩
  · rw [k1] at h
    exact br_t k2 (br_f (by decide) (br_f (by decide) (br_f (by decide) (br_f (by decide) (br_f (by decide) (br_f (by decide) (br_f (by decide) (br_f (by decide) (br_f (by decide) (br_f (by decide) (br_f (by decide) (br_t rfl ⟨vp_in_nI (n := 250) (by omega) (by omega), nm_r (qa_up _ _ (nI_clamp (n := 250) (by omega))) h⟩))))))))))))
  · rw [k1] at h
    exact br_f k2 (br_f (by decide) (br_f (by decide) (br_f (by decide) (br_f (by decide) (br_f (by decide) (br_f (by decide) (br_f (by decide) (br_f (by decide) (br_f (by decide) (br_f (by decide) (br_f (by decide) (br_t rfl ⟨vp_in_nI (n := 250) (by omega) (by omega), nm_r (qa_up _ _ (nI_clamp (n := 250) (by omega))) h⟩))))))))))))
theorem pr_rg252 {v : Int32} (C : hr_ce s t) (T : hr_tm s t) (P : hr_cp s t) (hk : qa_B (t 310)) (hv : qa_B v) (hr : t 269 = rn) (hrb : qa_b rn) : ∃ s1 t1 : Nat → Int32, hr_rg s1 t1 s t ∧ (∀ post : SX → Prop, post (sa, dg, st, da, rn, cn, s1, sv, iv, c) → wpX_writeRegister post (sa, dg, st, da, rn, cn, s, sv, iv, c) (nI 252) v) ∧ (∀ post : SY → Prop, wY_store_258 post (ml_sg (t 244) (t 267)) (ml_pd (t 240) (t 310)) (ml_on (t 247)) sb t1 tv jv e → wpY_store post (sb, t, tv, jv, e) (nI 252) v) := by
  refine ⟨upd s 252 v, upd t 252 v, ⟨hr_ceB C hv rfl, hr_tmA T (qa_agU qa_ag0 (by omega)) (qa_agU qa_ag0 (by omega)), hr_cpA P (qa_agU qa_ag0 (by omega)) (qa_agU qa_ag0 (by omega)), qa_agU qa_ag0 (by unfold hr_WX; omega), qa_agU qa_ag0 (by unfold hr_WY; omega)⟩, fun post h => br_f (by decide) (br_f (by decide) (br_f (by decide) (br_f (by decide) (br_f (by decide) (br_f (by decide) (br_f (by decide) (br_f (by decide) (br_f (by decide) (br_f (by decide) (br_f (by decide) (br_f (by decide) (br_f (by decide) (br_t rfl ⟨vp_in_nI (n := 252) (by omega) (by omega), nm_r (qa_up _ _ (nI_clamp (n := 252) (by omega))) h⟩))))))))))))), ?_⟩
  intro post h
  refine br_t (by decide) (my_signal (my_pad hk ?_))
  unfold wpY_isOn
  rcases ml_onC (t 247) with ⟨k1, k2⟩ | ⟨k1, k2⟩
  · rw [k1] at h
    exact br_t k2 (br_f (by decide) (br_f (by decide) (br_f (by decide) (br_f (by decide) (br_f (by decide) (br_f (by decide) (br_f (by decide) (br_f (by decide) (br_f (by decide) (br_f (by decide) (br_f (by decide) (br_f (by decide) (br_f (by decide) (br_t rfl ⟨vp_in_nI (n := 252) (by omega) (by omega), nm_r (qa_up _ _ (nI_clamp (n := 252) (by omega))) h⟩))))))))))))))
  · rw [k1] at h
    exact br_f k2 (br_f (by decide) (br_f (by decide) (br_f (by decide) (br_f (by decide) (br_f (by decide) (br_f (by decide) (br_f (by decide) (br_f (by decide) (br_f (by decide) (br_f (by decide) (br_f (by decide) (br_f (by decide) (br_f (by decide) (br_t rfl ⟨vp_in_nI (n := 252) (by omega) (by omega), nm_r (qa_up _ _ (nI_clamp (n := 252) (by omega))) h⟩))))))))))))))
theorem pr_rg254 {v : Int32} (C : hr_ce s t) (T : hr_tm s t) (P : hr_cp s t) (hk : qa_B (t 310)) (hv : qa_B v) (hr : t 269 = rn) (hrb : qa_b rn) : ∃ s1 t1 : Nat → Int32, hr_rg s1 t1 s t ∧ (∀ post : SX → Prop, post (sa, dg, st, da, rn, cn, s1, sv, iv, c) → wpX_writeRegister post (sa, dg, st, da, rn, cn, s, sv, iv, c) (nI 254) v) ∧ (∀ post : SY → Prop, wY_store_258 post (ml_sg (t 244) (t 267)) (ml_pd (t 240) (t 310)) (ml_on (t 247)) sb t1 tv jv e → wpY_store post (sb, t, tv, jv, e) (nI 254) v) := by
  refine ⟨upd s 254 v, upd t 254 v, ⟨hr_ceB C hv rfl, hr_tmA T (qa_agU qa_ag0 (by omega)) (qa_agU qa_ag0 (by omega)), hr_cpA P (qa_agU qa_ag0 (by omega)) (qa_agU qa_ag0 (by omega)), qa_agU qa_ag0 (by unfold hr_WX; omega), qa_agU qa_ag0 (by unfold hr_WY; omega)⟩, fun post h => br_f (by decide) (br_t (by decide) ⟨vp_in_nI (n := 254) (by omega) (by omega), nm_r (qa_up _ _ (nI_clamp (n := 254) (by omega))) h⟩), ?_⟩
  intro post h
  refine br_t (by decide) (my_signal (my_pad hk ?_))
  unfold wpY_isOn
  rcases ml_onC (t 247) with ⟨k1, k2⟩ | ⟨k1, k2⟩
  · rw [k1] at h
    exact br_t k2 (br_f (by decide) (br_t (by decide) ⟨vp_in_nI (n := 254) (by omega) (by omega), nm_r (qa_up _ _ (nI_clamp (n := 254) (by omega))) h⟩))
  · rw [k1] at h
    exact br_f k2 (br_f (by decide) (br_t (by decide) ⟨vp_in_nI (n := 254) (by omega) (by omega), nm_r (qa_up _ _ (nI_clamp (n := 254) (by omega))) h⟩))
theorem pr_rg255 {v : Int32} (C : hr_ce s t) (T : hr_tm s t) (P : hr_cp s t) (hk : qa_B (t 310)) (hv : qa_B v) (hr : t 269 = rn) (hrb : qa_b rn) : ∃ s1 t1 : Nat → Int32, hr_rg s1 t1 s t ∧ (∀ post : SX → Prop, post (sa, dg, st, da, rn, cn, s1, sv, iv, c) → wpX_writeRegister post (sa, dg, st, da, rn, cn, s, sv, iv, c) (nI 255) v) ∧ (∀ post : SY → Prop, wY_store_258 post (ml_sg (t 244) (t 267)) (ml_pd (t 240) (t 310)) (ml_on (t 247)) sb t1 tv jv e → wpY_store post (sb, t, tv, jv, e) (nI 255) v) := by
  refine ⟨upd s 255 v, upd t 255 v, ⟨hr_ceB C hv rfl, hr_tmA T (qa_agU qa_ag0 (by omega)) (qa_agU qa_ag0 (by omega)), hr_cpA P (qa_agU qa_ag0 (by omega)) (qa_agU qa_ag0 (by omega)), qa_agU qa_ag0 (by unfold hr_WX; omega), qa_agU qa_ag0 (by unfold hr_WY; omega)⟩, fun post h => br_f (by decide) (br_t (by decide) ⟨vp_in_nI (n := 255) (by omega) (by omega), nm_r (qa_up _ _ (nI_clamp (n := 255) (by omega))) h⟩), ?_⟩
  intro post h
  refine br_t (by decide) (my_signal (my_pad hk ?_))
  unfold wpY_isOn
  rcases ml_onC (t 247) with ⟨k1, k2⟩ | ⟨k1, k2⟩
  · rw [k1] at h
    exact br_t k2 (br_f (by decide) (br_t (by decide) ⟨vp_in_nI (n := 255) (by omega) (by omega), nm_r (qa_up _ _ (nI_clamp (n := 255) (by omega))) h⟩))
  · rw [k1] at h
    exact br_f k2 (br_f (by decide) (br_t (by decide) ⟨vp_in_nI (n := 255) (by omega) (by omega), nm_r (qa_up _ _ (nI_clamp (n := 255) (by omega))) h⟩))
theorem pr_rg241 {v : Int32} (C : hr_ce s t) (T : hr_tm s t) (P : hr_cp s t) (hk : qa_B (t 310)) (hv : qa_B v) (hr : t 269 = rn) (hrb : qa_b rn) : ∃ s1 t1 : Nat → Int32, hr_rg s1 t1 s t ∧ (∀ post : SX → Prop, post (sa, dg, st, da, rn, cn, s1, sv, iv, c) → wpX_writeRegister post (sa, dg, st, da, rn, cn, s, sv, iv, c) (nI 241) v) ∧ (∀ post : SY → Prop, wY_store_258 post (ml_sg (t 244) (t 267)) (ml_pd (t 240) (t 310)) (ml_on (t 247)) sb t1 tv jv e → wpY_store post (sb, t, tv, jv, e) (nI 241) v) := by
  refine ⟨upd s 266 0, upd t 267 0, ⟨hr_ceX (hr_ceY C (by omega)) (by omega), ⟨rfl, ⟨0, by omega, rfl⟩, T.2.2.1, T.2.2.2⟩, hr_cpA P (qa_agU qa_ag0 (by omega)) (qa_agU qa_ag0 (by omega)), qa_agU qa_ag0 (by unfold hr_WX; omega), qa_agU qa_ag0 (by unfold hr_WY; omega)⟩, fun post h => br_f (by decide) (br_f (by decide) (br_t rfl (nm_e h))), ?_⟩
  intro post h
  refine br_t (by decide) (my_signal (my_pad hk ?_))
  unfold wpY_isOn
  rcases ml_onC (t 247) with ⟨k1, k2⟩ | ⟨k1, k2⟩
  · rw [k1] at h
    exact br_t k2 (br_f (by decide) (br_f (by decide) (br_t rfl (nm_e h))))
  · rw [k1] at h
    exact br_f k2 (br_f (by decide) (br_f (by decide) (br_t rfl (nm_e h))))
theorem pr_rg242 {v : Int32} (C : hr_ce s t) (T : hr_tm s t) (P : hr_cp s t) (hk : qa_B (t 310)) (hv : qa_B v) (hr : t 269 = rn) (hrb : qa_b rn) : ∃ s1 t1 : Nat → Int32, hr_rg s1 t1 s t ∧ (∀ post : SX → Prop, post (sa, dg, st, da, rn, cn, s1, sv, iv, c) → wpX_writeRegister post (sa, dg, st, da, rn, cn, s, sv, iv, c) (nI 242) v) ∧ (∀ post : SY → Prop, wY_store_258 post (ml_sg (t 244) (t 267)) (ml_pd (t 240) (t 310)) (ml_on (t 247)) sb t1 tv jv e → wpY_store post (sb, t, tv, jv, e) (nI 242) v) := by
  rcases hrb with z | z
  · refine ⟨upd (upd s 242 v) 267 0, upd (upd t 242 v) 268 0, ⟨hr_ceX (hr_ceY (hr_ceB C hv rfl) (by omega)) (by omega), ⟨T.1, T.2.1, rfl, Or.inl rfl⟩, hr_cpA P (qa_agU (qa_agU qa_ag0 (by omega)) (by omega)) (qa_agU (qa_agU qa_ag0 (by omega)) (by omega)), qa_agU (qa_agU qa_ag0 (by unfold hr_WX; omega)) (by unfold hr_WX; omega), qa_agU (qa_agU qa_ag0 (by unfold hr_WY; omega)) (by unfold hr_WY; omega)⟩, fun post h => br_f (by decide) (br_f (by decide) (br_f (by decide) (br_t rfl (br_t z (nm_e (nm_e h)))))), ?_⟩
    intro post h
    refine br_t (by decide) (my_signal (my_pad hk ?_))
    unfold wpY_isOn
    rcases ml_onC (t 247) with ⟨k1, k2⟩ | ⟨k1, k2⟩
    · rw [k1] at h
      exact br_t k2 (br_f (by decide) (br_f (by decide) (br_f (by decide) (br_t rfl (br_t (hr.trans z) (nm_e (nm_e h)))))))
    · rw [k1] at h
      exact br_f k2 (br_f (by decide) (br_f (by decide) (br_f (by decide) (br_t rfl (br_t (hr.trans z) (nm_e (nm_e h)))))))
  · refine ⟨s, t, ⟨C, T, P, qa_ag0, qa_ag0⟩, fun post h => br_f (by decide) (br_f (by decide) (br_f (by decide) (br_t rfl (br_f (by rw [z]; decide) h)))), ?_⟩
    intro post h
    refine br_t (by decide) (my_signal (my_pad hk ?_))
    unfold wpY_isOn
    rcases ml_onC (t 247) with ⟨k1, k2⟩ | ⟨k1, k2⟩
    · rw [k1] at h
      exact br_t k2 (br_f (by decide) (br_f (by decide) (br_f (by decide) (br_t rfl (br_f (by rw [hr, z]; decide) h)))))
    · rw [k1] at h
      exact br_f k2 (br_f (by decide) (br_f (by decide) (br_f (by decide) (br_t rfl (br_f (by rw [hr, z]; decide) h)))))
theorem pr_rg243 {v : Int32} (C : hr_ce s t) (T : hr_tm s t) (P : hr_cp s t) (hk : qa_B (t 310)) (hv : qa_B v) (hr : t 269 = rn) (hrb : qa_b rn) : ∃ s1 t1 : Nat → Int32, hr_rg s1 t1 s t ∧ (∀ post : SX → Prop, post (sa, dg, st, da, rn, cn, s1, sv, iv, c) → wpX_writeRegister post (sa, dg, st, da, rn, cn, s, sv, iv, c) (nI 243) v) ∧ (∀ post : SY → Prop, wY_store_258 post (ml_sg (t 244) (t 267)) (ml_pd (t 240) (t 310)) (ml_on (t 247)) sb t1 tv jv e → wpY_store post (sb, t, tv, jv, e) (nI 243) v) := by
  rcases hrb with z | z
  · refine ⟨upd s 243 v, upd t 243 v, ⟨hr_ceB C hv rfl, hr_tmA T (qa_agU qa_ag0 (by omega)) (qa_agU qa_ag0 (by omega)), hr_cpA P (qa_agU qa_ag0 (by omega)) (qa_agU qa_ag0 (by omega)), qa_agU qa_ag0 (by unfold hr_WX; omega), qa_agU qa_ag0 (by unfold hr_WY; omega)⟩, fun post h => br_f (by decide) (br_f (by decide) (br_f (by decide) (br_f (by decide) (br_t rfl (nm_e (br_t z h)))))), ?_⟩
    intro post h
    refine br_t (by decide) (my_signal (my_pad hk ?_))
    unfold wpY_isOn
    rcases ml_onC (t 247) with ⟨k1, k2⟩ | ⟨k1, k2⟩
    · rw [k1] at h
      exact br_t k2 (br_f (by decide) (br_f (by decide) (br_f (by decide) (br_f (by decide) (br_t rfl (nm_e (br_f (fun y => absurd ((hr.symm.trans y).symm.trans z) (by decide)) h)))))))
    · rw [k1] at h
      exact br_f k2 (br_f (by decide) (br_f (by decide) (br_f (by decide) (br_f (by decide) (br_t rfl (nm_e (br_f (fun y => absurd ((hr.symm.trans y).symm.trans z) (by decide)) h)))))))
  · refine ⟨upd (upd s 243 v) 242 v, upd (upd t 243 v) 242 v, ⟨hr_ceB (hr_ceB C hv rfl) hv rfl, hr_tmA T (qa_agU (qa_agU qa_ag0 (by omega)) (by omega)) (qa_agU (qa_agU qa_ag0 (by omega)) (by omega)), hr_cpA P (qa_agU (qa_agU qa_ag0 (by omega)) (by omega)) (qa_agU (qa_agU qa_ag0 (by omega)) (by omega)), qa_agU (qa_agU qa_ag0 (by unfold hr_WX; omega)) (by unfold hr_WX; omega), qa_agU (qa_agU qa_ag0 (by unfold hr_WY; omega)) (by unfold hr_WY; omega)⟩, fun post h => br_f (by decide) (br_f (by decide) (br_f (by decide) (br_f (by decide) (br_t rfl (nm_e (br_f (by rw [z]; decide) (nm_e h))))))), ?_⟩
    intro post h
    refine br_t (by decide) (my_signal (my_pad hk ?_))
    unfold wpY_isOn
    rcases ml_onC (t 247) with ⟨k1, k2⟩ | ⟨k1, k2⟩
    · rw [k1] at h
      exact br_t k2 (br_f (by decide) (br_f (by decide) (br_f (by decide) (br_f (by decide) (br_t rfl (nm_e (br_t (hr.trans z) (nm_e h))))))))
    · rw [k1] at h
      exact br_f k2 (br_f (by decide) (br_f (by decide) (br_f (by decide) (br_f (by decide) (br_t rfl (nm_e (br_t (hr.trans z) (nm_e h))))))))
theorem pr_rg245 {v : Int32} (C : hr_ce s t) (T : hr_tm s t) (P : hr_cp s t) (hk : qa_B (t 310)) (hv : qa_B v) (hr : t 269 = rn) (hrb : qa_b rn) : ∃ s1 t1 : Nat → Int32, hr_rg s1 t1 s t ∧ (∀ post : SX → Prop, post (sa, dg, st, da, rn, cn, s1, sv, iv, c) → wpX_writeRegister post (sa, dg, st, da, rn, cn, s, sv, iv, c) (nI 245) v) ∧ (∀ post : SY → Prop, wY_store_258 post (ml_sg (t 244) (t 267)) (ml_pd (t 240) (t 310)) (ml_on (t 247)) sb t1 tv jv e → wpY_store post (sb, t, tv, jv, e) (nI 245) v) := by
  refine ⟨upd s 245 (v &&& 31), upd t 245 (v &&& 31), ⟨hr_ceB C (qa_Band hv _) rfl, hr_tmA T (qa_agU qa_ag0 (by omega)) (qa_agU qa_ag0 (by omega)), hr_cpA P (qa_agU qa_ag0 (by omega)) (qa_agU qa_ag0 (by omega)), qa_agU qa_ag0 (by unfold hr_WX; omega), qa_agU qa_ag0 (by unfold hr_WY; omega)⟩, fun post h => br_f (by decide) (br_f (by decide) (br_f (by decide) (br_f (by decide) (br_f (by decide) (br_f (by decide) (br_t rfl (nm_e h))))))), ?_⟩
  intro post h
  refine br_t (by decide) (my_signal (my_pad hk ?_))
  unfold wpY_isOn
  rcases ml_onC (t 247) with ⟨k1, k2⟩ | ⟨k1, k2⟩
  · rw [k1] at h
    exact br_t k2 (br_f (by decide) (br_f (by decide) (br_f (by decide) (br_f (by decide) (br_f (by decide) (br_f (by decide) (br_t rfl (nm_e h))))))))
  · rw [k1] at h
    exact br_f k2 (br_f (by decide) (br_f (by decide) (br_f (by decide) (br_f (by decide) (br_f (by decide) (br_f (by decide) (br_t rfl (nm_e h))))))))
theorem pr_rg248 {v : Int32} (C : hr_ce s t) (T : hr_tm s t) (P : hr_cp s t) (hk : qa_B (t 310)) (hv : qa_B v) (hr : t 269 = rn) (hrb : qa_b rn) : ∃ s1 t1 : Nat → Int32, hr_rg s1 t1 s t ∧ (∀ post : SX → Prop, post (sa, dg, st, da, rn, cn, s1, sv, iv, c) → wpX_writeRegister post (sa, dg, st, da, rn, cn, s, sv, iv, c) (nI 248) v) ∧ (∀ post : SY → Prop, wY_store_258 post (ml_sg (t 244) (t 267)) (ml_pd (t 240) (t 310)) (ml_on (t 247)) sb t1 tv jv e → wpY_store post (sb, t, tv, jv, e) (nI 248) v) := by
  refine ⟨upd s 248 (v &&& 120), upd t 248 (v &&& 120), ⟨hr_ceB C (qa_Band hv _) rfl, hr_tmA T (qa_agU qa_ag0 (by omega)) (qa_agU qa_ag0 (by omega)), hr_cpA P (qa_agU qa_ag0 (by omega)) (qa_agU qa_ag0 (by omega)), qa_agU qa_ag0 (by unfold hr_WX; omega), qa_agU qa_ag0 (by unfold hr_WY; omega)⟩, fun post h => br_f (by decide) (br_f (by decide) (br_f (by decide) (br_f (by decide) (br_f (by decide) (br_f (by decide) (br_f (by decide) (br_f (by decide) (br_f (by decide) (br_t rfl (nm_e h)))))))))), ?_⟩
  intro post h
  refine br_t (by decide) (my_signal (my_pad hk ?_))
  unfold wpY_isOn
  rcases ml_onC (t 247) with ⟨k1, k2⟩ | ⟨k1, k2⟩
  · rw [k1] at h
    exact br_t k2 (br_f (by decide) (br_f (by decide) (br_f (by decide) (br_f (by decide) (br_f (by decide) (br_f (by decide) (br_f (by decide) (br_f (by decide) (br_f (by decide) (br_t rfl (nm_e h)))))))))))
  · rw [k1] at h
    exact br_f k2 (br_f (by decide) (br_f (by decide) (br_f (by decide) (br_f (by decide) (br_f (by decide) (br_f (by decide) (br_f (by decide) (br_f (by decide) (br_f (by decide) (br_t rfl (nm_e h)))))))))))
theorem pr_rg251 {v : Int32} (C : hr_ce s t) (T : hr_tm s t) (P : hr_cp s t) (hk : qa_B (t 310)) (hv : qa_B v) (hr : t 269 = rn) (hrb : qa_b rn) : ∃ s1 t1 : Nat → Int32, hr_rg s1 t1 s t ∧ (∀ post : SX → Prop, post (sa, dg, st, da, rn, cn, s1, sv, iv, c) → wpX_writeRegister post (sa, dg, st, da, rn, cn, s, sv, iv, c) (nI 251) v) ∧ (∀ post : SY → Prop, wY_store_258 post (ml_sg (t 244) (t 267)) (ml_pd (t 240) (t 310)) (ml_on (t 247)) sb t1 tv jv e → wpY_store post (sb, t, tv, jv, e) (nI 251) v) := by
  refine ⟨s, t, ⟨C, T, P, qa_ag0, qa_ag0⟩, fun post h => br_f (by decide) (br_f (by decide) (br_f (by decide) (br_f (by decide) (br_f (by decide) (br_f (by decide) (br_f (by decide) (br_f (by decide) (br_f (by decide) (br_f (by decide) (br_f (by decide) (br_f (by decide) (br_t rfl h)))))))))))), ?_⟩
  intro post h
  refine br_t (by decide) (my_signal (my_pad hk ?_))
  unfold wpY_isOn
  rcases ml_onC (t 247) with ⟨k1, k2⟩ | ⟨k1, k2⟩
  · rw [k1] at h
    exact br_t k2 (br_f (by decide) (br_f (by decide) (br_f (by decide) (br_f (by decide) (br_f (by decide) (br_f (by decide) (br_f (by decide) (br_f (by decide) (br_f (by decide) (br_f (by decide) (br_f (by decide) (br_f (by decide) (br_t rfl h)))))))))))))
  · rw [k1] at h
    exact br_f k2 (br_f (by decide) (br_f (by decide) (br_f (by decide) (br_f (by decide) (br_f (by decide) (br_f (by decide) (br_f (by decide) (br_f (by decide) (br_f (by decide) (br_f (by decide) (br_f (by decide) (br_f (by decide) (br_t rfl h)))))))))))))
theorem pr_rg253 {v : Int32} (C : hr_ce s t) (T : hr_tm s t) (P : hr_cp s t) (hk : qa_B (t 310)) (hv : qa_B v) (hr : t 269 = rn) (hrb : qa_b rn) : ∃ s1 t1 : Nat → Int32, hr_rg s1 t1 s t ∧ (∀ post : SX → Prop, post (sa, dg, st, da, rn, cn, s1, sv, iv, c) → wpX_writeRegister post (sa, dg, st, da, rn, cn, s, sv, iv, c) (nI 253) v) ∧ (∀ post : SY → Prop, wY_store_258 post (ml_sg (t 244) (t 267)) (ml_pd (t 240) (t 310)) (ml_on (t 247)) sb t1 tv jv e → wpY_store post (sb, t, tv, jv, e) (nI 253) v) := by
  have P253 : hr_cp (upd (upd s 253 v) 268 2) (upd (upd (upd t 253 v) 272 (v &&& 15)) 273 2) := by
    obtain ⟨dl, pg, nx, h1, h2, h3, e1, e2, e3, e4, e5, e6, e7⟩ := P
    exact ⟨2, pg, nx, by omega, h2, h3, rfl, rfl, e3, e4, e5, e6, rfl⟩
  refine ⟨upd (upd s 253 v) 268 2, upd (upd (upd t 253 v) 272 (v &&& 15)) 273 2, ⟨hr_ceX (hr_ceY (hr_ceY (hr_ceB C hv rfl) (by omega)) (by omega)) (by omega), hr_tmA T (qa_agU (qa_agU qa_ag0 (by omega)) (by omega)) (qa_agU (qa_agU (qa_agU qa_ag0 (by omega)) (by omega)) (by omega)), P253, qa_agU (qa_agU qa_ag0 (by unfold hr_WX; omega)) (by unfold hr_WX; omega), qa_agU (qa_agU (qa_agU qa_ag0 (by unfold hr_WY; omega)) (by unfold hr_WY; omega)) (by unfold hr_WY; omega)⟩, fun post h => br_f (by decide) (br_f (by decide) (br_f (by decide) (br_f (by decide) (br_f (by decide) (br_f (by decide) (br_f (by decide) (br_f (by decide) (br_f (by decide) (br_f (by decide) (br_f (by decide) (br_f (by decide) (br_f (by decide) (br_f (by decide) (br_t rfl (nm_e (nm_e h)))))))))))))))), ?_⟩
  intro post h
  refine br_t (by decide) (my_signal (my_pad hk ?_))
  unfold wpY_isOn
  rcases ml_onC (t 247) with ⟨k1, k2⟩ | ⟨k1, k2⟩
  · rw [k1] at h
    exact br_t k2 (br_f (by decide) (br_f (by decide) (br_f (by decide) (br_f (by decide) (br_f (by decide) (br_f (by decide) (br_f (by decide) (br_f (by decide) (br_f (by decide) (br_f (by decide) (br_f (by decide) (br_f (by decide) (br_f (by decide) (br_f (by decide) (br_t rfl (nm_e (nm_e (nm_e h))))))))))))))))))
  · rw [k1] at h
    exact br_f k2 (br_f (by decide) (br_f (by decide) (br_f (by decide) (br_f (by decide) (br_f (by decide) (br_f (by decide) (br_f (by decide) (br_f (by decide) (br_f (by decide) (br_f (by decide) (br_f (by decide) (br_f (by decide) (br_f (by decide) (br_f (by decide) (br_t rfl (nm_e (nm_e (nm_e h))))))))))))))))))
end
end
section
/-! a write of the processor: both sides -/
section
variable {sa dg st da rn cn : Int32} {s sv iv c : Nat → Int32} {sb : Int32} {t tv jv e : Nat → Int32}
theorem mx_rest {post : SX → Prop} (h : post (sa, dg, st, da, rn, cn, upd (qa_fill s 272 23 (fun _ => 0)) 251 0, sv, iv, c)) :
    ∀ d k, k + d = 23 → wX_restVideo_4 post sa dg st da rn cn (d + 1) (nI (272 + k)) (qa_fill s 272 k (fun _ => 0)) sv iv c := by
  intro d
  induction d with
  | zero =>
    intro k hk
    have z : k = 23 := by omega
    subst z
    exact br_t (nI_le (a := 295) (by omega) (by omega)) (nm_e h)
  | succ d ih =>
    intro k hk
    refine br_f (nI_ge (b := 295) (by omega) (by omega)) ⟨vp_in_nI (by omega) (by omega), nm_r (e' := qa_fill s 272 (k + 1) (fun _ => 0)) ?_ (nm_r (nI_1 _) (ih (k + 1) (by omega)))⟩
    rw [nI_clamp (by omega)]
    exact qa_fillS s 272 k (fun _ => 0)
theorem mx_restV {post : SX → Prop} (h : post (sa, dg, st, da, rn, cn, upd (qa_fill s 272 23 (fun _ => 0)) 251 0, sv, iv, c)) : wpX_restVideo post (sa, dg, st, da, rn, cn, s, sv, iv, c) := by
  have g := mx_rest h 23 0 rfl
  rw [qa_fill0] at g
  exact ⟨24, g⟩
theorem qa_pp : ∀ p, p < 256 → (nI p &&& (nI p ^^^ (-1))) &&& 15 = 0 := by decide +kernel
theorem qa_x1 {a v : Int32} (ha : qa_B a) (hv : qa_B v) : ((a ^^^ v) &&& 1 = 0) ↔ (a &&& 1 = v &&& 1) := by
  obtain ⟨x, hx, rfl⟩ := ha
  obtain ⟨y, hy, rfl⟩ := hv
  have hxy : x ^^^ y < 256 := Nat.xor_lt_two_pow (n := 8) hx hy
  rw [nx_xor, pk_andN (by omega) 1 (by decide), pk_andN (by omega) 1 (by decide), pk_andN (by omega) 1 (by decide)]
  have q := Nat.xor_mod_two_eq_one (a := x) (b := y)
  generalize x ^^^ y = w at hxy q
  show nI (w % 2 ^ 1) = nI 0 ↔ _
  rw [nI_eq (by omega) (by omega), nI_eq (by omega) (by omega)]
  omega
theorem hr_HwW {n : Nat} {v : Int32} (H : hr_Hw s t) (hn : n < 240) (hv : qa_B v) : hr_Hw (upd s n v) (upd t n v) := by
  obtain ⟨h1, h2, h3, h4, h5, h6, h7⟩ := H
  exact ⟨hr_ceB h1 hv rfl, hr_tmA h2 (qa_agU qa_ag0 (by omega)) (qa_agU qa_ag0 (by omega)), hr_cpA h3 (qa_agU qa_ag0 (by omega)) (qa_agU qa_ag0 (by omega)), hr_lnA h4 (pk_un (by omega)) (pk_un (by omega)), hr_kyA h5 (pk_un (by omega)) (pk_un (by omega)), hr_shA h6 (qa_agU qa_ag0 (by omega)) (qa_agU qa_ag0 (by omega)), hr_vsA h7 (qa_agU qa_ag0 (by unfold hr_PX; omega)) (qa_agU qa_ag0 (by unfold hr_PY; omega))⟩
/-- what is owed of a write, once the register's part is known -/
theorem pr_wfin {n : Nat} {v : Int32} {s1 t1 : Nat → Int32} (H : hr_Hw s t) (hc : t 274 = cn) (hb : qa_b cn) (hn : n < 256) (h240 : 240 ≤ n) (C1 : hr_ce s1 t1) (T1 : hr_tm s1 t1) (P1 : hr_cp s1 t1) (V1 : hr_vs s1 t1) (x1 : qa_ag (fun i => (256 ≤ i ∧ i < 266) ∨ i = 271 ∨ 391 ≤ i) s s1) (y1 : qa_ag (fun i => (256 ≤ i ∧ i < 267) ∨ i = 269 ∨ i = 274 ∨ i = 308 ∨ i = 310 ∨ 416 ≤ i) t t1) (o1 : t1 247 &&& 1 = t 247 &&& 1)
    (X1 : ∀ post : SX → Prop, post (sa, dg, st, da, rn, cn, s1, sv, iv, c) → wpX_writeRegister post (sa, dg, st, da, rn, cn, s, sv, iv, c) (nI n) v) (Y1 : ∀ post : SY → Prop, wY_store_258 post (ml_sg (t 244) (t 267)) (ml_pd (t 240) (t 310)) (ml_on (t 247)) sb t1 tv jv e → wpY_store post (sb, t, tv, jv, e) (nI n) v) :
    ∃ s' t' : Nat → Int32, hr_Hw s' t' ∧ qa_ag hr_FX s s' ∧ qa_ag hr_FY t t' ∧ t' 269 = t 269 ∧ t' 274 = t 274 ∧ (∀ post : SX → Prop, post (sa, dg, st, da, rn, cn, s', sv, iv, c) → wpX_write post (sa, dg, st, da, rn, cn, s, sv, iv, c) (nI n) v) ∧ (∀ post : SY → Prop, post (sb, t', tv, jv, e) → wpY_store post (sb, t, tv, jv, e) (nI n) v) := by
  obtain ⟨C, T, P, L, K, W, V⟩ := H
  obtain ⟨m, hm, m1, m2⟩ := hr_mode V
  obtain ⟨m', hm', m1', m2'⟩ := hr_mode V1
  obtain ⟨q, _, q0, qX, qY⟩ := pr_shut (sa := sa) (dg := dg) (st := st) (da := da) (rn := rn) (cn := cn) (sv := sv) (iv := iv) (c := c) (sb := sb) (tv := tv) (jv := jv) (e := e) hn hm m1 m2 hc hb
  have eb : ml_sg (t 244) (t 267) = ml_sg (s 244) (s 266) := by rw [(C 244 (by omega)).1, T.1]
  have ep : ml_pd (t 240) (t 310) = ml_pd (s 240) (s 391) := by rw [(C 240 (by omega)).1, K.1]
  have K1 : hr_ky s1 t1 := hr_kyA K (x1 391 (by omega)) (y1 310 (by omega))
  have L1 : hr_ln s1 t1 := hr_lnA L (x1 271 (by omega)) (y1 308 (by omega))
  obtain ⟨s2, s3, s4, t4, C4, T4, L4, x4, y4, hX2, hX3, hX4, hY⟩ := pr_after (sa := sa) (dg := dg) (st := st) (da := da) (rn := rn) (cn := cn) (sv := sv) (iv := iv) (c := c) (sb := sb) (tv := tv) (jv := jv) (e := e) C1 T1 K1 L1 (m2'.trans m1'.symm) (ml_sg (s 244) (s 266)) (ml_pd (s 240) (s 391)) (ml_on (t 247)) (by rw [o1]; exact ml_onC _)
  refine ⟨s4, t4, ⟨C4, T4, hr_cpA P1 (qa_agW x4 (by omega)) (qa_agW y4 (by omega)), L4, hr_kyA K1 (x4 391 (by omega)) (y4 310 (by omega)), hr_shA (hr_shA W (qa_agW x1 (by omega)) (qa_agW y1 (by omega))) (qa_agW x4 (by omega)) (qa_agW y4 (by omega)), hr_vsA V1 (qa_agW x4 (by unfold hr_PX; omega)) (qa_agW y4 (by unfold hr_PY; omega))⟩, qa_agT (qa_agW x1 (by unfold hr_FX; omega)) (qa_agW x4 (by unfold hr_FX; omega)), qa_agT (qa_agW y1 (by unfold hr_FY; omega)) (qa_agW y4 (by unfold hr_FY; omega)), (y4 269 (by omega)).trans (y1 269 (by omega)), (y4 274 (by omega)).trans (y1 274 (by omega)), ?_, ?_⟩
  · intro post h
    unfold wpX_write
    refine qX _ (br_t (q0 h240) (br_t (nI_le (a := 240) h240 (by omega)) ?_))
    refine mx_signal ?_
    refine mx_pad ?_
    refine X1 _ ?_
    refine hX2 _ ?_
    refine hX3 _ ?_
    exact hX4 _ h
  · intro post h
    refine Y1 post ?_
    rw [eb, ep]
    exact hY post h
theorem pr_w247a {v : Int32} (H : hr_Hw s t) (hc : t 274 = cn) (hb : qa_b cn) (hv : qa_B v) (tg : (s 247 ^^^ v) &&& 1 = 0) :
    ∃ s' t' : Nat → Int32, hr_Hw s' t' ∧ qa_ag hr_FX s s' ∧ qa_ag hr_FY t t' ∧ t' 269 = t 269 ∧ t' 274 = t 274 ∧ (∀ post : SX → Prop, post (sa, dg, st, da, rn, cn, s', sv, iv, c) → wpX_write post (sa, dg, st, da, rn, cn, s, sv, iv, c) (nI 247) v) ∧ (∀ post : SY → Prop, post (sb, t', tv, jv, e) → wpY_store post (sb, t, tv, jv, e) (nI 247) v) := by
  obtain ⟨C, T, P, L, K, W, V⟩ := H
  have hk : qa_B (t 310) := by rw [K.1]; exact K.2
  have o := (qa_x1 (C 247 (by omega)).2 hv).mp tg
  have V1 : hr_vs (upd s 247 v) (upd t 247 v) := by
    obtain ⟨ly, d, m, wl, tk, f0, f1, b1, b2, b3, b4, b5, B, S, oo, z, Q⟩ := V
    refine ⟨ly, d, m, wl, tk, f0, f1, b1, b2, b3, b4, b5, hr_bsA B (qa_agU qa_ag0 (by omega)) (qa_agU qa_ag0 (by omega)), hr_ssA S (qa_agU qa_ag0 (by unfold hr_SX; omega)) (qa_agU qa_ag0 (by unfold hr_SY; omega)), ?_, z, ?_⟩
    · show v &&& 1 = 0 → d = 0
      rw [← o]
      exact oo
    · rcases Q with h | h | h | h | h
      · exact Or.inl h
      · exact Or.inr (Or.inl ⟨h.1, h.2.1, h.2.2.1, h.2.2.2.1, hr_picA h.2.2.2.2 (by omega) (qa_agU qa_ag0 (by unfold hr_QX; omega)) (qa_agU qa_ag0 (by unfold hr_QY; omega))⟩)
      · obtain ⟨h1, h2, h3, h4, h5, h6, h7, h8, h9⟩ := h
        exact Or.inr (Or.inr (Or.inl ⟨h1, h2, h3, h4, h5, h6, h7, h8, hr_picA h9 (by omega) (qa_agU qa_ag0 (by unfold hr_QX; omega)) (qa_agU qa_ag0 (by unfold hr_QY; omega))⟩))
      · obtain ⟨h1, h2, h3, x, dp, pa, le, nx, he, a1, a2, a3, a4, a5, a6, a7, a8, a9, d1, d2, d3, d4, d5, d6, d7, d8, d9, d10, d11, d12, d13, g1, g2, g4⟩ := h
        exact Or.inr (Or.inr (Or.inr (Or.inl ⟨h1, h2, h3, x, dp, pa, le, nx, he, a1, a2, a3, a4, a5, a6, a7, a8, a9, d1, d2, d3, d4, d5, d6, d7, d8, d9, d10, d11, d12, d13, g1, hr_stX (hr_stY g2 (by omega)) (by omega), hr_picA g4 (by omega) (qa_agU qa_ag0 (by unfold hr_QX; omega)) (qa_agU qa_ag0 (by unfold hr_QY; omega))⟩)))
      · obtain ⟨h1, h2, h3, h4, h5, h6⟩ := h
        exact Or.inr (Or.inr (Or.inr (Or.inr ⟨h1, h2, h3, h4, h5, hr_picA h6 (by omega) (qa_agU qa_ag0 (by unfold hr_QX; omega)) (qa_agU qa_ag0 (by unfold hr_QY; omega))⟩)))
  refine pr_wfin (s1 := upd s 247 v) (t1 := upd t 247 v) ⟨C, T, P, L, K, W, V⟩ hc hb (by omega) (by omega) (hr_ceB C hv rfl) (hr_tmA T (qa_agU qa_ag0 (by omega)) (qa_agU qa_ag0 (by omega))) (hr_cpA P (qa_agU qa_ag0 (by omega)) (qa_agU qa_ag0 (by omega))) V1 (qa_agU qa_ag0 (by omega)) (qa_agU qa_ag0 (by omega)) ?_ ?_ ?_
  · show v &&& 1 = t 247 &&& 1
    rw [(C 247 (by omega)).1]
    exact o.symm
  · intro post h
    exact br_f (by decide) (br_f (by decide) (br_f (by decide) (br_f (by decide) (br_f (by decide) (br_f (by decide) (br_f (by decide) (br_f (by decide) (br_t rfl (br_t tg (nm_e h))))))))))
  · intro post h
    refine br_t (by decide) (my_signal (my_pad hk ?_))
    unfold wpY_isOn
    rcases ml_onC (t 247) with ⟨k1, k2⟩ | ⟨k1, k2⟩
    · rw [k1] at h
      exact br_t k2 (br_f (by decide) (br_f (by decide) (br_f (by decide) (br_f (by decide) (br_f (by decide) (br_f (by decide) (br_f (by decide) (br_f (by decide) (br_t rfl ⟨vp_in_nI (n := 247) (by omega) (by omega), nm_r (qa_up _ _ (nI_clamp (n := 247) (by omega))) h⟩)))))))))
    · rw [k1] at h
      exact br_f k2 (br_f (by decide) (br_f (by decide) (br_f (by decide) (br_f (by decide) (br_f (by decide) (br_f (by decide) (br_f (by decide) (br_f (by decide) (br_t rfl ⟨vp_in_nI (n := 247) (by omega) (by omega), nm_r (qa_up _ _ (nI_clamp (n := 247) (by omega))) h⟩)))))))))
theorem pr_w247b {v : Int32} (H : hr_Hw s t) (hc : t 274 = cn) (hb : qa_b cn) (hv : qa_B v) (tg : ¬ (s 247 ^^^ v) &&& 1 = 0) :
    ∃ s' t' : Nat → Int32, hr_Hw s' t' ∧ qa_ag hr_FX s s' ∧ qa_ag hr_FY t t' ∧ t' 269 = t 269 ∧ t' 274 = t 274 ∧ (∀ post : SX → Prop, post (sa, dg, st, da, rn, cn, s', sv, iv, c) → wpX_write post (sa, dg, st, da, rn, cn, s, sv, iv, c) (nI 247) v) ∧ (∀ post : SY → Prop, post (sb, t', tv, jv, e) → wpY_store post (sb, t, tv, jv, e) (nI 247) v) := by
  obtain ⟨C, T, P, L, K, W, V⟩ := H
  obtain ⟨m, hm, m1, m2⟩ := hr_mode V
  obtain ⟨q, _, q0, qX, qY⟩ := pr_shut (sa := sa) (dg := dg) (st := st) (da := da) (rn := rn) (cn := cn) (sv := sv) (iv := iv) (c := c) (sb := sb) (tv := tv) (jv := jv) (e := e) (n := 247) (by omega) hm m1 m2 hc hb
  have hk : qa_B (t 310) := by rw [K.1]; exact K.2
  have o : ¬ s 247 &&& 1 = v &&& 1 := fun z => tg ((qa_x1 (C 247 (by omega)).2 hv).mpr z)
  have sx : ∀ i, i ≠ 247 → i ≠ 251 → (i < 272 ∨ 295 ≤ i) → (upd (upd (qa_fill s 272 23 (fun _ => 0)) 251 0) 247 v) i = s i := by
    intro i h1 h2 h3
    rw [pk_un h1, pk_un h2, qa_fillO (by omega)]
  have sz : ∀ i, 272 ≤ i → i < 295 → (upd (upd (qa_fill s 272 23 (fun _ => 0)) 251 0) 247 v) i = 0 := by
    intro i h1 h2
    rw [pk_un (by omega), pk_un (by omega), show i = 272 + (i - 272) by omega, qa_fillI (by omega)]
  have ty : ∀ i, i ≠ 247 → i ≠ 275 → i ≠ 251 → i ≠ 276 → i ≠ 278 → i ≠ 305 → (upd (upd (upd (upd (upd (upd t 247 v) 275 (-1)) 251 0) 276 0) 278 0) 305 0) i = t i := by
    intro i h1 h2 h3 h4 h5 h6
    rw [pk_un h6, pk_un h5, pk_un h4, pk_un h3, pk_un h2, pk_un h1]
  have C3 : hr_ce (upd (upd (qa_fill s 272 23 (fun _ => 0)) 251 0) 247 v) (upd (upd (upd (upd (upd (upd t 247 v) 275 (-1)) 251 0) 276 0) 278 0) 305 0) := by
    intro i hi
    by_cases k1 : i = 247
    · subst k1
      exact ⟨rfl, hv⟩
    by_cases k2 : i = 251
    · subst k2
      exact ⟨rfl, qa_B0⟩
    rw [sx i k1 k2 (by omega), ty i k1 (by omega) k2 (by omega) (by omega) (by omega)]
    exact C i hi
  have T3 : hr_tm (upd (upd (qa_fill s 272 23 (fun _ => 0)) 251 0) 247 v) (upd (upd (upd (upd (upd (upd t 247 v) 275 (-1)) 251 0) 276 0) 278 0) 305 0) := hr_tmA T (fun i hi => sx i (by omega) (by omega) (by omega)) (fun i hi => ty i (by omega) (by omega) (by omega) (by omega) (by omega) (by omega))
  have P3 : hr_cp (upd (upd (qa_fill s 272 23 (fun _ => 0)) 251 0) 247 v) (upd (upd (upd (upd (upd (upd t 247 v) 275 (-1)) 251 0) 276 0) 278 0) 305 0) := hr_cpA P (fun i hi => sx i (by omega) (by omega) (by omega)) (fun i hi => ty i (by omega) (by omega) (by omega) (by omega) (by omega) (by omega))
  have L3 : hr_ln (upd (upd (qa_fill s 272 23 (fun _ => 0)) 251 0) 247 v) (upd (upd (upd (upd (upd (upd t 247 v) 275 (-1)) 251 0) 276 0) 278 0) 305 0) := hr_lnA L (sx 271 (by omega) (by omega) (by omega)) (ty 308 (by omega) (by omega) (by omega) (by omega) (by omega) (by omega))
  have K3 : hr_ky (upd (upd (qa_fill s 272 23 (fun _ => 0)) 251 0) 247 v) (upd (upd (upd (upd (upd (upd t 247 v) 275 (-1)) 251 0) 276 0) 278 0) 305 0) := hr_kyA K (sx 391 (by omega) (by omega) (by omega)) (ty 310 (by omega) (by omega) (by omega) (by omega) (by omega) (by omega))
  have W3 : hr_sh (upd (upd (qa_fill s 272 23 (fun _ => 0)) 251 0) 247 v) (upd (upd (upd (upd (upd (upd t 247 v) 275 (-1)) 251 0) 276 0) 278 0) 305 0) := hr_shA W (fun i hi => sx i (by omega) (by omega) (by omega)) (fun i hi => ty i (by omega) (by omega) (by omega) (by omega) (by omega) (by omega))
  have V3 : hr_vs (upd (upd (qa_fill s 272 23 (fun _ => 0)) 251 0) 247 v) (upd (upd (upd (upd (upd (upd t 247 v) 275 (-1)) 251 0) 276 0) 278 0) 305 0) := by
    refine ⟨0, 0, 0, 0, 0, 0, 0, by omega, by omega, by omega, by omega, by omega, ⟨rfl, sz 272 (by omega) (by omega), rfl, sz 273 (by omega) (by omega), rfl, sz 281 (by omega) (by omega), rfl, sz 282 (by omega) (by omega), rfl⟩, ⟨fun z => absurd z (by omega), fun z => absurd z (by omega)⟩, fun _ => rfl, fun _ => sz 274 (by omega) (by omega), Or.inl ⟨rfl, rfl, rfl, rfl, rfl⟩⟩
  obtain ⟨s4, t4, C4, L4, x4, y4, hX4, hY4⟩ := pr_look (sa := sa) (dg := dg) (st := st) (da := da) (rn := rn) (cn := cn) (sv := sv) (iv := iv) (c := c) (sb := sb) (tv := tv) (jv := jv) (e := e) C3 L3 (show (upd (upd (upd (upd (upd (upd t 247 v) 275 (-1)) 251 0) 276 0) 278 0) 305 0) 276 = (upd (upd (qa_fill s 272 23 (fun _ => 0)) 251 0) 247 v) 273 from (sz 273 (by omega) (by omega)).symm)
  have bB : qa_B (ml_pd (s 240) (s 391)) := ml_pdB_ _ (C 240 (by omega)).2
  obtain ⟨pb, hpb, epb⟩ := bB
  have ppz : (ml_pd (s 240) (s 391) &&& (ml_pd (s 240) (s 391) ^^^ (-1))) &&& 15 = 0 := by rw [epb]; exact qa_pp pb hpb
  have eb : ml_sg (t 244) (t 267) = ml_sg (s 244) (s 266) := by rw [(C 244 (by omega)).1, T.1]
  have ep : ml_pd (t 240) (t 310) = ml_pd (s 240) (s 391) := by rw [(C 240 (by omega)).1, K.1]
  refine ⟨s4, t4, ⟨C4, hr_tmA T3 (qa_agW x4 (by omega)) (qa_agW y4 (by omega)), hr_cpA P3 (qa_agW x4 (by omega)) (qa_agW y4 (by omega)), L4, hr_kyA K3 (x4 391 (by omega)) (y4 310 (by omega)), hr_shA W3 (qa_agW x4 (by omega)) (qa_agW y4 (by omega)), hr_vsA V3 (qa_agW x4 (by unfold hr_PX; omega)) (qa_agW y4 (by unfold hr_PY; omega))⟩, ?_, ?_, ?_, ?_, ?_, ?_⟩
  · exact fun i hi => (x4 i (by unfold hr_FX at hi; omega)).trans (by unfold hr_FX at hi; exact sx i (by omega) (by omega) (by omega))
  · exact fun i hi => (y4 i (by unfold hr_FY at hi; omega)).trans (by unfold hr_FY at hi; exact ty i (by omega) (by omega) (by omega) (by omega) (by omega) (by omega))
  · exact (y4 269 (by omega)).trans (ty 269 (by omega) (by omega) (by omega) (by omega) (by omega) (by omega))
  · exact (y4 274 (by omega)).trans (ty 274 (by omega) (by omega) (by omega) (by omega) (by omega) (by omega))
  · intro post h
    unfold wpX_write
    refine qX _ (br_t (q0 (by omega)) (br_t (by decide) ?_))
    refine mx_signal ?_
    refine mx_pad ?_
    refine br_f (by decide) (br_f (by decide) (br_f (by decide) (br_f (by decide) (br_f (by decide) (br_f (by decide) (br_f (by decide) (br_f (by decide) (br_t rfl (br_f tg ?_)))))))))
    refine mx_restV ?_
    · refine nm_e ?_
      have hn : ∀ Q : SX → Prop, Q (sa, dg, st, da, rn, cn, (upd (upd (qa_fill s 272 23 (fun _ => 0)) 251 0) 247 v), sv, iv, c) → wpX_noticeSignal Q (sa, dg, st, da, rn, cn, (upd (upd (qa_fill s 272 23 (fun _ => 0)) 251 0) 247 v), sv, iv, c) (ml_sg (s 244) (s 266)) := by
        intro Q hQ
        by_cases k : ml_sg (s 244) (s 266) = 0
        · exact br_t k hQ
        · refine br_f k (mx_signal (br_f ?_ hQ))
          rw [sx 244 (by omega) (by omega) (by omega), sx 266 (by omega) (by omega) (by omega)]
          exact k
      refine hn _ ?_
      have hk2 : ∀ Q : SX → Prop, Q (sa, dg, st, da, rn, cn, (upd (upd (qa_fill s 272 23 (fun _ => 0)) 251 0) 247 v), sv, iv, c) → wpX_noticeKeys Q (sa, dg, st, da, rn, cn, (upd (upd (qa_fill s 272 23 (fun _ => 0)) 251 0) 247 v), sv, iv, c) (ml_pd (s 240) (s 391)) := by
        intro Q hQ
        unfold wpX_noticeKeys
        refine mx_pad ?_
        rw [sx 240 (by omega) (by omega) (by omega), sx 391 (by omega) (by omega) (by omega)]
        exact br_t ppz hQ
      refine hk2 _ ?_
      exact hX4 _ h
  · intro post h
    have G292 : wY_store_292 post sb (upd (upd (upd (upd (upd (upd t 247 v) 275 (-1)) 251 0) 276 0) 278 0) 305 0) tv jv e := by
      unfold wY_store_292
      exact hY4 _ h
    have e310 : qa_B (upd t 247 v 310) := hk
    have G273 : wY_store_273 post (ml_pd (t 240) (t 310)) (ml_on (t 247)) sb (upd t 247 v) tv jv e := by
      unfold wY_store_273
      unfold wpY_fall
      refine my_pad e310 ?_
      refine br_t (show (ml_pd (t 240) (t 310) &&& (ml_pd (t 240) (t 310) ^^^ (-1))) &&& 15 = 0 by rw [ep]; exact ppz) ?_
      unfold wpY_isOn
      have tv_ : wpY_turnVideo (fun u => match u with | (a1, a2, a3, a4, a5) => wY_store_292 post a1 a2 a3 a4 a5) (sb, upd t 247 v, tv, jv, e) := nm_e (nm_e (nm_e (nm_e (nm_e G292))))
      have e7 := (C 247 (by omega)).1
      refine ⟨fun z => br_f ?_ tv_, fun z => br_f ?_ tv_⟩
      · intro w
        apply o
        have : t 247 &&& 1 = 1 := by
          rcases ml_onC (t 247) with ⟨k1, k2⟩ | ⟨k1, k2⟩
          · exact k2
          · exact absurd (k1.symm.trans w) (by decide)
        rw [← e7, this]
        exact z.symm
      · intro w
        apply o
        have n1 : ¬ t 247 &&& 1 = 1 := by
          rcases ml_onC (t 247) with ⟨k1, k2⟩ | ⟨k1, k2⟩
          · exact absurd (k1.symm.trans w) (by decide)
          · exact k2
        rw [← e7, (qa_and1 (t 247)).resolve_right n1]
        exact ((qa_and1 v).resolve_right z).symm
    have G258 : wY_store_258 post (ml_sg (t 244) (t 267)) (ml_pd (t 240) (t 310)) (ml_on (t 247)) sb (upd t 247 v) tv jv e := by
      by_cases k : ml_sg (t 244) (t 267) = 0
      · exact br_t k G273
      · exact br_f k (my_signal (br_f k G273))
    refine br_t (by decide) (my_signal (my_pad hk ?_))
    unfold wpY_isOn
    rcases ml_onC (t 247) with ⟨k1, k2⟩ | ⟨k1, k2⟩
    · rw [k1] at G258
      exact br_t k2 (br_f (by decide) (br_f (by decide) (br_f (by decide) (br_f (by decide) (br_f (by decide) (br_f (by decide) (br_f (by decide) (br_f (by decide) (br_t rfl ⟨vp_in_nI (n := 247) (by omega) (by omega), nm_r (qa_up _ _ (nI_clamp (n := 247) (by omega))) G258⟩)))))))))
    · rw [k1] at G258
      exact br_f k2 (br_f (by decide) (br_f (by decide) (br_f (by decide) (br_f (by decide) (br_f (by decide) (br_f (by decide) (br_f (by decide) (br_f (by decide) (br_t rfl ⟨vp_in_nI (n := 247) (by omega) (by omega), nm_r (qa_up _ _ (nI_clamp (n := 247) (by omega))) G258⟩)))))))))
theorem pr_write {n : Nat} {v : Int32} (H : hr_Hw s t) (hc : t 274 = cn) (hb : qa_b cn) (hr : t 269 = rn) (hrb : qa_b rn) (hn : n < 256) (hv : qa_B v) :
    ∃ s' t' : Nat → Int32, hr_Hw s' t' ∧ qa_ag hr_FX s s' ∧ qa_ag hr_FY t t' ∧ t' 269 = t 269 ∧ t' 274 = t 274 ∧ (∀ post : SX → Prop, post (sa, dg, st, da, rn, cn, s', sv, iv, c) → wpX_write post (sa, dg, st, da, rn, cn, s, sv, iv, c) (nI n) v) ∧ (∀ post : SY → Prop, post (sb, t', tv, jv, e) → wpY_store post (sb, t, tv, jv, e) (nI n) v) := by
  by_cases k240 : n < 240
  · obtain ⟨m, hm, m1, m2⟩ := hr_mode H.2.2.2.2.2.2
    obtain ⟨q, q01, _, qX, qY⟩ := pr_shut (sa := sa) (dg := dg) (st := st) (da := da) (rn := rn) (cn := cn) (sv := sv) (iv := iv) (c := c) (sb := sb) (tv := tv) (jv := jv) (e := e) hn hm m1 m2 hc hb
    have nl : ¬ (240 : Int32) ≤ nI n := nI_ge (b := 240) k240 (by omega)
    rcases q01 with z | z
    · refine ⟨upd s n v, upd t n v, hr_HwW H k240 hv, qa_agU qa_ag0 (by unfold hr_FX; omega), qa_agU qa_ag0 (by unfold hr_FY; omega), pk_un (by omega), pk_un (by omega), ?_, ?_⟩
      · intro post h
        unfold wpX_write
        exact qX _ (br_t z (br_f nl ⟨vp_in_nI (by omega) (by omega), nm_r (qa_up _ _ (nI_clamp (by omega))) h⟩))
      · intro post h
        refine br_f nl ?_
        exact qY _ (br_t z ⟨vp_in_nI (by omega) (by omega), nm_r (qa_up _ _ (nI_clamp (by omega))) h⟩)
    · have nz : ¬ q = 0 := by rw [z]; decide
      refine ⟨s, t, H, qa_ag0, qa_ag0, rfl, rfl, ?_, ?_⟩
      · intro post h
        unfold wpX_write
        exact qX _ (br_f nz h)
      · intro post h
        refine br_f nl ?_
        exact qY _ (br_f nz h)
  · by_cases k247 : n = 247
    · subst k247
      by_cases tg : (s 247 ^^^ v) &&& 1 = 0
      · exact pr_w247a H hc hb hv tg
      · exact pr_w247b H hc hb hv tg
    · have hk : qa_B (t 310) := by rw [H.2.2.2.2.1.1]; exact H.2.2.2.2.1.2
      have R : ∃ s1 t1 : Nat → Int32, hr_rg s1 t1 s t ∧ (∀ post : SX → Prop, post (sa, dg, st, da, rn, cn, s1, sv, iv, c) → wpX_writeRegister post (sa, dg, st, da, rn, cn, s, sv, iv, c) (nI n) v) ∧ (∀ post : SY → Prop, wY_store_258 post (ml_sg (t 244) (t 267)) (ml_pd (t 240) (t 310)) (ml_on (t 247)) sb t1 tv jv e → wpY_store post (sb, t, tv, jv, e) (nI n) v) := by
        have nn : n = 240 ∨ n = 241 ∨ n = 242 ∨ n = 243 ∨ n = 244 ∨ n = 245 ∨ n = 246 ∨ n = 248 ∨ n = 249 ∨ n = 250 ∨ n = 251 ∨ n = 252 ∨ n = 253 ∨ n = 254 ∨ n = 255 := by omega
        rcases nn with rfl | rfl | rfl | rfl | rfl | rfl | rfl | rfl | rfl | rfl | rfl | rfl | rfl | rfl | rfl
        · exact pr_rg240 H.1 H.2.1 H.2.2.1 hk hv hr hrb
        · exact pr_rg241 H.1 H.2.1 H.2.2.1 hk hv hr hrb
        · exact pr_rg242 H.1 H.2.1 H.2.2.1 hk hv hr hrb
        · exact pr_rg243 H.1 H.2.1 H.2.2.1 hk hv hr hrb
        · exact pr_rg244 H.1 H.2.1 H.2.2.1 hk hv hr hrb
        · exact pr_rg245 H.1 H.2.1 H.2.2.1 hk hv hr hrb
        · exact pr_rg246 H.1 H.2.1 H.2.2.1 hk hv hr hrb
        · exact pr_rg248 H.1 H.2.1 H.2.2.1 hk hv hr hrb
        · exact pr_rg249 H.1 H.2.1 H.2.2.1 hk hv hr hrb
        · exact pr_rg250 H.1 H.2.1 H.2.2.1 hk hv hr hrb
        · exact pr_rg251 H.1 H.2.1 H.2.2.1 hk hv hr hrb
        · exact pr_rg252 H.1 H.2.1 H.2.2.1 hk hv hr hrb
        · exact pr_rg253 H.1 H.2.1 H.2.2.1 hk hv hr hrb
        · exact pr_rg254 H.1 H.2.1 H.2.2.1 hk hv hr hrb
        · exact pr_rg255 H.1 H.2.1 H.2.2.1 hk hv hr hrb
      obtain ⟨s1, t1, ⟨C1, T1, P1, x1, y1⟩, X1, Y1⟩ := R
      exact pr_wfin H hc hb hn (by omega) C1 T1 P1 (hr_vsA H.2.2.2.2.2.2 (qa_agW x1 (by unfold hr_PX hr_WX; omega)) (qa_agW y1 (by unfold hr_PY hr_WY; omega))) (qa_agW x1 (by unfold hr_WX; omega)) (qa_agW y1 (by unfold hr_WY; omega)) (by rw [y1 247 (by unfold hr_WY; omega)]) X1 Y1
end
end
section
/-! a whole cycle: both sides -/
def ru_K (J : Int32 → Int32 → Int32 → Int32 → Int32 → Int32 → Int32 → (Nat → Int32) → (Nat → Int32) → (Nat → Int32) → (Nat → Int32) → Prop) (x2 : Int32) (u : SX) : Prop := match u with
  | (a1, a2, a3, a4, a5, a6, a7, a8, a9, a10) => ∀ y, y = x2 + 1 → ((a3 = 0 → wpX_endThis (fun u => match u with | (b1, b2, b3, b4, b5, b6, b7, b8, b9, b10) => J y b1 b2 b3 b4 b5 b6 b7 b8 b9 b10) (a1, a2, a3, a4, a5, a6, a7, a8, a9, a10)) ∧ (¬ a3 = 0 → J y a1 a2 a3 a4 a5 a6 a7 a8 a9 a10))
def ru_L (post : Int32 → SX → Prop) (x1 : Int32) (m : Nat) (x2 : Int32) (u : SX) : Prop := match u with
  | (a1, a2, a3, a4, a5, a6, a7, a8, a9, a10) => wX_run_15 post x1 m x2 a1 a2 a3 a4 a5 a6 a7 a8 a9 a10
def ru_A (post : Int32 → SX → Prop) (J : Int32 → Int32 → Int32 → Int32 → Int32 → Int32 → Int32 → (Nat → Int32) → (Nat → Int32) → (Nat → Int32) → (Nat → Int32) → Prop) (x1 x2 : Int32) (u : SX) : Prop := match u with
  | (a1, a2, a3, a4, a5, a6, a7, a8, a9, a10) => wX_run_52 post J x1 x2 a1 a2 a3 a4 a5 a6 a7 a8 a9 a10
/-- X goes from u, within a turn of its loop at p, to the head of its loop at p + k + 1 with u' -/
def ru_52 (x1 : Int32) (p k : Nat) (u u' : SX) : Prop := ∀ (post : Int32 → SX → Prop) (m : Nat), ru_L post x1 m (nI (p + k + 1)) u' → ru_A post (wX_run_15 post x1 (m + k)) x1 (nI p) u
def hr_E3 (i : Nat) : Prop := 1 ≤ i ∧ i < 4
/-- what a cycle gives -/
def cy_R (s t c e s3 t3 c3 e3 : Nat → Int32) (rn' cn' : Int32) : Prop := hr_Hw s3 t3 ∧ qa_ag hr_FX s s3 ∧ qa_ag hr_FY t t3 ∧ t3 269 = rn' ∧ qa_b rn' ∧ t3 274 = cn' ∧ qa_b cn' ∧ hr_cn c3 e3 ∧ qa_ag hr_C4 c c3 ∧ qa_ag hr_E3 e e3 ∧ e3 0 = e 0 + 1
section
variable {sa dg st da rn cn : Int32} {s sv iv c : Nat → Int32} {sb : Int32} {t tv jv e : Nat → Int32}
theorem pr_cyc (H : hr_Hw s t) (N : hr_cn c e) : ∃ (s3 t3 c3 e3 : Nat → Int32) (rn' cn' : Int32), cy_R s t c e s3 t3 c3 e3 rn' cn' ∧ (∀ (post : Int32 → SX → Prop) (J : Int32 → Int32 → Int32 → Int32 → Int32 → Int32 → Int32 → (Nat → Int32) → (Nat → Int32) → (Nat → Int32) → (Nat → Int32) → Prop) (x1 x2 : Int32), wpX_processorTurn (ru_K J x2) (sa, dg, st, da, rn', cn', s3, sv, iv, c3) → wX_run_52 post J x1 x2 sa dg st da rn cn s sv iv c) ∧ (∀ post : SY → Prop, post (sb, t3, tv, jv, e3) → wpY_cycle post (sb, t, tv, jv, e)) := by
  have N0 : hr_cn c (upd e 0 (e 0 + 1)) := N
  obtain ⟨s1, t1, rn', H1, x1, y1, r1, r2, hX1, hY1⟩ := pr_timer (sa := sa) (dg := dg) (st := st) (da := da) (rn := rn) (cn := cn) (sv := sv) (iv := iv) (c := c) (sb := sb) (tv := tv) (jv := jv) (e := upd e 0 (e 0 + 1)) H
  obtain ⟨s2, t2, cn', c2, e2, H2, x2, y2, r3, q1, q2, n1, n2, n3, hX2, hY2⟩ := pr_copying (sa := sa) (dg := dg) (st := st) (da := da) (rn := rn') (cn := cn) (sv := sv) (iv := iv) (c := c) (sb := sb) (tv := tv) (jv := jv) (e := upd e 0 (e 0 + 1)) H1 N0
  obtain ⟨s3, t3, c3, e3, H3, x3, y3, r4, q3, n4, n5, n6, hX3, hY3⟩ := pr_video (sa := sa) (dg := dg) (st := st) (da := da) (rn := rn') (cn := cn') (sv := sv) (iv := iv) (c := c2) (sb := sb) (tv := tv) (jv := jv) (e := e2) H2 n1 q1 q2
  refine ⟨s3, t3, c3, e3, rn', cn', ⟨H3, qa_agT (qa_agT x1 x2) x3, qa_agT (qa_agT y1 y2) y3, r4.trans (r3.trans r1), r2, q3, q2, n4, qa_agT n2 n5, ?_, ?_⟩, ?_, ?_⟩
  · intro i hi
    unfold hr_E3 at hi
    rw [n6 i (by unfold hr_C4; omega), n3 i (by unfold hr_C4; omega), pk_un (by omega)]
  · rw [n6 0 (by unfold hr_C4; omega), n3 0 (by unfold hr_C4; omega), pk_us]
  · intro post J x1 x2 h
    unfold wX_run_52
    refine hX1 _ ?_
    refine hX2 _ ?_
    refine hX3 _ ?_
    exact h
  · intro post h
    refine nm_e ?_
    refine hY1 _ ?_
    refine hY2 _ ?_
    exact hY3 _ h
/-- a cycle, and a read in it; st2: X's steps as the read finds them -/
theorem pr_rdc {n : Nat} (st2 : Int32) (H : hr_Hw s t) (N : hr_cn c e) (hn : n < 256) : ∃ (s3 t3 c3 e3 : Nat → Int32) (rn' cn' r : Int32), cy_R s t c e s3 t3 c3 e3 rn' cn' ∧ qa_B r ∧ (∀ post : Int32 → Prop, post r → wpX_read post (sa, dg, st2, da, rn', cn', s3, sv, iv, c3) (nI n)) ∧ (∀ (post : Int32 → SX → Prop) (J : Int32 → Int32 → Int32 → Int32 → Int32 → Int32 → Int32 → (Nat → Int32) → (Nat → Int32) → (Nat → Int32) → (Nat → Int32) → Prop) (x1 x2 : Int32), wpX_processorTurn (ru_K J x2) (sa, dg, st, da, rn', cn', s3, sv, iv, c3) → wX_run_52 post J x1 x2 sa dg st da rn cn s sv iv c) ∧ (∀ post : Int32 → SY → Prop, post r (sb, t3, tv, jv, e3) → wpY_read post (sb, t, tv, jv, e) (nI n)) := by
  obtain ⟨s3, t3, c3, e3, rn', cn', R, hX, hY⟩ := pr_cyc (sa := sa) (dg := dg) (st := st) (da := da) (rn := rn) (cn := cn) (sv := sv) (iv := iv) (c := c) (sb := sb) (tv := tv) (jv := jv) (e := e) H N
  obtain ⟨H3, x3, y3, r1, r2, q1, q2, n1, n2, n3, n4⟩ := R
  obtain ⟨r, rB, rX, q, qY, rY⟩ := pr_read (sa := sa) (dg := dg) (st := st2) (da := da) (rn := rn') (cn := cn') (sv := sv) (iv := iv) (c := c3) (sb := sb) (tv := tv) (jv := jv) (e := e3) (n := n) H3 q1 q2 hn
  refine ⟨s3, t3, c3, e3, rn', cn', r, ⟨H3, x3, y3, r1, r2, q1, q2, n1, n2, n3, n4⟩, rB, rX, hX, ?_⟩
  intro post h
  unfold wpY_read
  refine hY _ ?_
  refine qY _ ?_
  rcases rY with ⟨z, g⟩ | ⟨z, g⟩
  · refine br_t z ?_
    exact g _ h
  · refine br_f z ?_
    rw [g] at h
    exact h
/-- the last cycle of what X does -/
theorem ru_last {x1 : Int32} {p : Nat} {dg4 da4 dg5 st5 da5 rn' cn' rn5 cn5 : Int32} {s3 c3 s4 s5 c5 : Nat → Int32} (hX : ∀ (post : Int32 → SX → Prop) (J : Int32 → Int32 → Int32 → Int32 → Int32 → Int32 → Int32 → (Nat → Int32) → (Nat → Int32) → (Nat → Int32) → (Nat → Int32) → Prop) (x1 x2 : Int32), wpX_processorTurn (ru_K J x2) (sa, dg, st, da, rn', cn', s3, sv, iv, c3) → wX_run_52 post J x1 x2 sa dg st da rn cn s sv iv c) (hP : ∀ Q : SX → Prop, Q (sa, dg4, 0, da4, rn', cn', s4, sv, iv, c3) → wpX_processorTurn Q (sa, dg, st, da, rn', cn', s3, sv, iv, c3)) (hE : ∀ Q : SX → Prop, Q (sa, dg5, st5, da5, rn5, cn5, s5, sv, iv, c5) → wpX_endThis Q (sa, dg4, 0, da4, rn', cn', s4, sv, iv, c3)) : ru_52 x1 p 0 (sa, dg, st, da, rn, cn, s, sv, iv, c) (sa, dg5, st5, da5, rn5, cn5, s5, sv, iv, c5) := by
  intro post m h
  refine hX post _ x1 _ (hP _ ?_)
  refine nm_r (nI_1 p) (br_t rfl ?_)
  exact hE _ h
/-- a cycle of what X does, and more behind it -/
theorem ru_cons {x1 : Int32} {p k : Nat} {dg4 st4 da4 rn' cn' : Int32} {s3 c3 s4 : Nat → Int32} {u' : SX} (hp : p + 1 < 2010) (hX : ∀ (post : Int32 → SX → Prop) (J : Int32 → Int32 → Int32 → Int32 → Int32 → Int32 → Int32 → (Nat → Int32) → (Nat → Int32) → (Nat → Int32) → (Nat → Int32) → Prop) (x1 x2 : Int32), wpX_processorTurn (ru_K J x2) (sa, dg, st, da, rn', cn', s3, sv, iv, c3) → wX_run_52 post J x1 x2 sa dg st da rn cn s sv iv c) (hP : ∀ Q : SX → Prop, Q (sa, dg4, st4, da4, rn', cn', s4, sv, iv, c3) → wpX_processorTurn Q (sa, dg, st, da, rn', cn', s3, sv, iv, c3)) (h4 : ¬ st4 = 0) (hR : ru_52 x1 (p + 1) k (sa, dg4, st4, da4, rn', cn', s4, sv, iv, c3) u') : ru_52 x1 p (k + 1) (sa, dg, st, da, rn, cn, s, sv, iv, c) u' := by
  intro post m h
  refine hX post _ x1 _ (hP _ ?_)
  refine nm_r (nI_1 p) (br_f h4 ?_)
  have h' : ru_L post x1 m (nI (p + 1 + k + 1)) u' := by
    rw [show p + 1 + k + 1 = p + (k + 1) + 1 by omega]
    exact h
  refine br_f (nI_ge (b := 2010) (by omega) (by omega)) (br_f h4 ?_)
  exact hR post m h'
end
end
section
/-! what the processor does in one cycle: both sides -/
def hr_cm (l z : Int32) (s t : Nat → Int32) : Prop := t 256 = s 256 ∧ t 257 = s 257 ∧ t 258 = s 258 ∧ t 259 = s 259 ∧ t 260 = s 260 ∧ t 261 = s 261 ∧ t 262 = s 262 ∧ t 263 = s 263 ∧ qa_B (s 256) ∧ qa_B (s 257) ∧ qa_B (s 258) ∧ qa_B (s 259) ∧ qa_B (s 260) ∧ qa_b (s 261) ∧ qa_b (s 262) ∧ qa_b (s 263) ∧ s 264 = l ∧ t 264 = z ∧ s 265 = 0 ∧ t 265 = 0 ∧ t 266 = 0
theorem hr_cmA {l z : Int32} {s t s' t' : Nat → Int32} (h : hr_cm l z s t) (hx : qa_ag hr_FX s s') (hy : qa_ag hr_FY t t') : hr_cm l z s' t' := by
  unfold hr_cm
  rw [hx 256 (by unfold hr_FX; omega), hx 257 (by unfold hr_FX; omega), hx 258 (by unfold hr_FX; omega), hx 259 (by unfold hr_FX; omega), hx 260 (by unfold hr_FX; omega), hx 261 (by unfold hr_FX; omega), hx 262 (by unfold hr_FX; omega), hx 263 (by unfold hr_FX; omega), hx 264 (by unfold hr_FX; omega), hx 265 (by unfold hr_FX; omega)]
  rw [hy 256 (by unfold hr_FY; omega), hy 257 (by unfold hr_FY; omega), hy 258 (by unfold hr_FY; omega), hy 259 (by unfold hr_FY; omega), hy 260 (by unfold hr_FY; omega), hy 261 (by unfold hr_FY; omega), hy 262 (by unfold hr_FY; omega), hy 263 (by unfold hr_FY; omega), hy 264 (by unfold hr_FY; omega), hy 265 (by unfold hr_FY; omega), hy 266 (by unfold hr_FY; omega)]
  exact h
def hr_RG (i : Nat) : Prop := i = 256 ∨ i = 257 ∨ i = 258 ∨ i = 261 ∨ i = 262 ∨ i = 263
def hr_ct (c e c' e' : Nat → Int32) (k : Nat) : Prop := qa_ag hr_C4 c c' ∧ qa_ag hr_E3 e e' ∧ e' 0 = e 0 + nI k ∧ hr_cn c' e'
theorem hr_ctT {c e c1 e1 c2 e2 : Nat → Int32} {j k : Nat} (h : hr_ct c e c1 e1 j) (g : hr_ct c1 e1 c2 e2 k) : hr_ct c e c2 e2 (j + k) := by
  refine ⟨qa_agT h.1 g.1, qa_agT h.2.1 g.2.1, ?_, g.2.2.2⟩
  rw [g.2.2.1, h.2.2.1, Int32.add_assoc, nI_add]
/-- X goes through a cycle, from u to u4 -/
def st_X (u u4 : SX) : Prop := ∃ u3 : SX, (∀ (post : Int32 → SX → Prop) (J : Int32 → Int32 → Int32 → Int32 → Int32 → Int32 → Int32 → (Nat → Int32) → (Nat → Int32) → (Nat → Int32) → (Nat → Int32) → Prop) (x1 x2 : Int32), wpX_processorTurn (ru_K J x2) u3 → ru_A post J x1 x2 u) ∧ (∀ Q : SX → Prop, Q u4 → wpX_processorTurn Q u3)
theorem st_last {x1 : Int32} {p : Nat} {u u5 : SX} {a1 a2 a4 a5 a6 : Int32} {a7 a8 a9 a10 : Nat → Int32} (h : st_X u (a1, a2, 0, a4, a5, a6, a7, a8, a9, a10)) (hE : ∀ Q : SX → Prop, Q u5 → wpX_endThis Q (a1, a2, 0, a4, a5, a6, a7, a8, a9, a10)) : ru_52 x1 p 0 u u5 := by
  obtain ⟨u3, hX, hP⟩ := h
  intro post m h
  refine hX post _ x1 _ (hP _ ?_)
  refine nm_r (nI_1 p) (br_t rfl ?_)
  exact hE _ h
theorem st_cons {x1 : Int32} {p k : Nat} {u u' : SX} {a1 a2 a3 a4 a5 a6 : Int32} {a7 a8 a9 a10 : Nat → Int32} (hp : p + 1 < 2010) (h : st_X u (a1, a2, a3, a4, a5, a6, a7, a8, a9, a10)) (h4 : ¬ a3 = 0) (hR : ru_52 x1 (p + 1) k (a1, a2, a3, a4, a5, a6, a7, a8, a9, a10) u') : ru_52 x1 p (k + 1) u u' := by
  obtain ⟨u3, hX, hP⟩ := h
  intro post m h
  refine hX post _ x1 _ (hP _ ?_)
  refine nm_r (nI_1 p) (br_f h4 ?_)
  have h' : ru_L post x1 m (nI (p + 1 + k + 1)) u' := by
    rw [show p + 1 + k + 1 = p + (k + 1) + 1 by omega]
    exact h
  refine br_f (nI_ge (b := 2010) (by omega) (by omega)) (br_f h4 ?_)
  exact hR post m h'
section
variable {sa dg st da rn cn : Int32} {s sv iv c : Nat → Int32} {sb : Int32} {t tv jv e : Nat → Int32}
theorem hr_cmB {l z : Int32} {k : Nat} {v w : Int32} (h : hr_cm l z s t) (hk : 256 ≤ k ∧ k < 261) (hv : qa_B v) (ew : w = v) : hr_cm l z (upd s k v) (upd t k w) := by
  have kk : k = 256 ∨ k = 257 ∨ k = 258 ∨ k = 259 ∨ k = 260 := by omega
  obtain ⟨m1, m2, m3, m4, m5, m6, m7, m8, B1, B2, B3, B4, B5, b1, b2, b3, g1, g2, g3, g4, g5⟩ := h
  rcases kk with rfl | rfl | rfl | rfl | rfl
  · exact ⟨ew, m2, m3, m4, m5, m6, m7, m8, hv, B2, B3, B4, B5, b1, b2, b3, g1, g2, g3, g4, g5⟩
  · exact ⟨m1, ew, m3, m4, m5, m6, m7, m8, B1, hv, B3, B4, B5, b1, b2, b3, g1, g2, g3, g4, g5⟩
  · exact ⟨m1, m2, ew, m4, m5, m6, m7, m8, B1, B2, hv, B4, B5, b1, b2, b3, g1, g2, g3, g4, g5⟩
  · exact ⟨m1, m2, m3, ew, m5, m6, m7, m8, B1, B2, B3, hv, B5, b1, b2, b3, g1, g2, g3, g4, g5⟩
  · exact ⟨m1, m2, m3, m4, ew, m6, m7, m8, B1, B2, B3, B4, hv, b1, b2, b3, g1, g2, g3, g4, g5⟩
theorem mi_ct {c e c3 e3 s3 t3 : Nat → Int32} {rn' cn' : Int32} (R : cy_R s t c e s3 t3 c3 e3 rn' cn') : hr_ct c e c3 e3 1 := by
  obtain ⟨H3, x3, y3, r1, r2, q1, q2, n1, n2, n3, n4⟩ := R
  exact ⟨n2, n3, n4, n1⟩
/-- a cycle in which nothing is done -/
theorem mp_nop {l z st' : Int32} (h1 : st &&& 15 = 3) (h2 : st >>> ((4 : Int32) &&& 31) = st') (H : hr_Hw s t) (M : hr_cm l z s t) (N : hr_cn c e) : ∃ (s4 t4 c4 e4 : Nat → Int32) (rn' cn' : Int32), hr_Hw s4 t4 ∧ hr_cm l z s4 t4 ∧ hr_ct c e c4 e4 1 ∧ qa_ag hr_RG s s4 ∧ st_X (sa, dg, st, da, rn, cn, s, sv, iv, c) (sa, dg, st', da, rn', cn', s4, sv, iv, c4) ∧ (∀ post : SY → Prop, post (sb, t4, tv, jv, e4) → wpY_cycle post (sb, t, tv, jv, e)) := by
  obtain ⟨s3, t3, c3, e3, rn', cn', R, hX, hY⟩ := pr_cyc (sa := sa) (dg := dg) (st := st) (da := da) (rn := rn) (cn := cn) (sv := sv) (iv := iv) (c := c) (sb := sb) (tv := tv) (jv := jv) (e := e) H N
  refine ⟨s3, t3, c3, e3, rn', cn', R.1, hr_cmA M R.2.1 R.2.2.1, mi_ct R, qa_agW R.2.1 (by unfold hr_RG hr_FX; omega), ⟨_, hX, ?_⟩, hY⟩
  intro Q h
  exact nm_r h1 (nm_r h2 (br_f (by decide) (br_f (by decide) (br_f (by decide) (br_f (by decide) (br_t rfl h))))))
/-- the next byte is read -/
theorem mp_next {l z st' : Int32} (h1 : st &&& 15 = 2) (h2 : st >>> ((4 : Int32) &&& 31) = st') (H : hr_Hw s t) (M : hr_cm l z s t) (N : hr_cn c e) : ∃ (s4 t4 c4 e4 : Nat → Int32) (rn' cn' r : Int32), hr_Hw s4 t4 ∧ hr_cm l z s4 t4 ∧ hr_ct c e c4 e4 1 ∧ qa_ag hr_RG s s4 ∧ qa_B r ∧ st_X (sa, dg, st, da, rn, cn, s, sv, iv, c) (sa, dg, st', r, rn', cn', s4, sv, iv, c4) ∧ (∀ post : Int32 → SY → Prop, post r (sb, t4, tv, jv, e4) → wpY_next post (sb, t, tv, jv, e)) := by
  have M0 := M
  obtain ⟨m1, m2, m3, m4, m5, m6, m7, m8, B1, B2, B3, B4, ⟨n, hn, B5⟩, b1, b2, b3, g1, g2, g3, g4, g5⟩ := M
  obtain ⟨s3, t3, c3, e3, rn', cn', r, R, rB, rX, hX, hY⟩ := pr_rdc (sa := sa) (dg := dg) (st := st) (da := da) (rn := rn) (cn := cn) (sv := sv) (iv := iv) (c := c) (sb := sb) (tv := tv) (jv := jv) (e := e) (n := n) st' H N hn
  have M3 : hr_cm l z s3 t3 := hr_cmA M0 R.2.1 R.2.2.1
  have p3 : s3 260 = nI n := (R.2.1 260 (by unfold hr_FX; omega)).trans B5
  have z3 : t3 266 = 0 := (R.2.2.1 266 (by unfold hr_FY; omega)).trans g5
  refine ⟨upd s3 260 ((s3 260 + 1) &&& 255), upd (upd t3 260 ((t3 260 + 1) &&& 255)) 266 0, c3, e3, rn', cn', r, hr_HwX (hr_HwY (hr_HwY R.1 (by omega)) (by omega)) (by omega) (by omega), ?_, mi_ct R, qa_agU (qa_agW R.2.1 (by unfold hr_RG hr_FX; omega)) (by unfold hr_RG; omega), rB, ⟨_, hX, ?_⟩, ?_⟩
  · have q := hr_cmB (k := 260) (w := (t3 260 + 1) &&& 255) M3 (by omega) (qa_Bm (s3 260 + 1)) (by rw [M3.2.2.2.2.1])
    refine hr_cmA q qa_ag0 ?_
    intro i hi
    by_cases k : i = 266
    · subst k
      exact z3.symm
    · exact pk_un k
  · intro Q h
    refine nm_r h1 (nm_r h2 (br_f (by decide) (br_f (by decide) (br_f (by decide) (br_t rfl ?_)))))
    rw [p3]
    exact rX _ (nm_r (by rw [p3]) h)
  · intro post h
    unfold wpY_next
    dsimp only
    rw [m5, B5]
    refine hY _ ?_
    exact br_t z3 (nm_e (nm_e h))
/-- a byte is pulled -/
theorem mp_pull {l z st' : Int32} (h1 : st &&& 15 = 4) (h2 : st >>> ((4 : Int32) &&& 31) = st') (H : hr_Hw s t) (M : hr_cm l z s t) (N : hr_cn c e) : ∃ (s4 t4 c4 e4 : Nat → Int32) (rn' cn' r : Int32), hr_Hw s4 t4 ∧ hr_cm l z s4 t4 ∧ hr_ct c e c4 e4 1 ∧ qa_ag hr_RG s s4 ∧ qa_B r ∧ st_X (sa, dg, st, da, rn, cn, s, sv, iv, c) (sa, dg, st', r, rn', cn', s4, sv, iv, c4) ∧ (∀ post : Int32 → SY → Prop, post r (sb, t4, tv, jv, e4) → wpY_pull post (sb, t, tv, jv, e)) := by
  have M0 := M
  obtain ⟨m1, m2, m3, m4, m5, m6, m7, m8, B1, B2, B3, ⟨n, hn, B4⟩, B5, b1, b2, b3, g1, g2, g3, g4, g5⟩ := M
  obtain ⟨s3, t3, c3, e3, rn', cn', r, R, rB, rX, hX, hY⟩ := pr_rdc (sa := sa) (dg := dg) (st := st) (da := da) (rn := rn) (cn := cn) (sv := sv) (iv := iv) (c := c) (sb := sb) (tv := tv) (jv := jv) (e := e) (n := n) st' H N hn
  have M3 : hr_cm l z s3 t3 := hr_cmA M0 R.2.1 R.2.2.1
  have p3 : s3 259 = nI n := (R.2.1 259 (by unfold hr_FX; omega)).trans B4
  refine ⟨upd s3 259 ((s3 259 + 1) &&& 255), upd t3 259 ((t3 259 + 1) &&& 255), c3, e3, rn', cn', r, hr_HwX (hr_HwY R.1 (by omega)) (by omega) (by omega), ?_, mi_ct R, qa_agU (qa_agW R.2.1 (by unfold hr_RG hr_FX; omega)) (by unfold hr_RG; omega), rB, ⟨_, hX, ?_⟩, ?_⟩
  · exact hr_cmB M3 (by omega) (qa_Bm (s3 259 + 1)) (by rw [M3.2.2.2.1])
  · intro Q h
    refine nm_r h1 (nm_r h2 (br_f (by decide) (br_f (by decide) (br_f (by decide) (br_f (by decide) (br_f (by decide) (br_t rfl ?_)))))))
    rw [p3]
    exact rX _ (nm_r (by rw [p3]) h)
  · intro post h
    unfold wpY_pull
    dsimp only
    rw [m4, B4]
    refine hY _ ?_
    exact nm_e h
/-- the cell at P is read -/
theorem mp_rdp {l z st' : Int32} (h1 : st &&& 15 = 6) (h2 : st >>> ((4 : Int32) &&& 31) = st') (H : hr_Hw s t) (M : hr_cm l z s t) (N : hr_cn c e) : ∃ (s4 t4 c4 e4 : Nat → Int32) (rn' cn' r : Int32), hr_Hw s4 t4 ∧ hr_cm l z s4 t4 ∧ hr_ct c e c4 e4 1 ∧ qa_ag hr_RG s s4 ∧ qa_B r ∧ st_X (sa, dg, st, da, rn, cn, s, sv, iv, c) (sa, dg, st', r, rn', cn', s4, sv, iv, c4) ∧ (∀ post : Int32 → SY → Prop, post r (sb, t4, tv, jv, e4) → wpY_read post (sb, t, tv, jv, e) (t 258)) := by
  have M0 := M
  obtain ⟨m1, m2, m3, m4, m5, m6, m7, m8, B1, B2, ⟨n, hn, B3⟩, B4, B5, b1, b2, b3, g1, g2, g3, g4, g5⟩ := M
  obtain ⟨s3, t3, c3, e3, rn', cn', r, R, rB, rX, hX, hY⟩ := pr_rdc (sa := sa) (dg := dg) (st := st) (da := da) (rn := rn) (cn := cn) (sv := sv) (iv := iv) (c := c) (sb := sb) (tv := tv) (jv := jv) (e := e) (n := n) st' H N hn
  have p3 : s3 258 = nI n := (R.2.1 258 (by unfold hr_FX; omega)).trans B3
  refine ⟨s3, t3, c3, e3, rn', cn', r, R.1, hr_cmA M0 R.2.1 R.2.2.1, mi_ct R, qa_agW R.2.1 (by unfold hr_RG hr_FX; omega), rB, ⟨_, hX, ?_⟩, ?_⟩
  · intro Q h
    refine nm_r h1 (nm_r h2 (br_f (by decide) (br_f (by decide) (br_f (by decide) (br_f (by decide) (br_f (by decide) (br_f (by decide) (br_f (by decide) (br_t rfl ?_)))))))))
    rw [p3]
    exact rX _ h
  · intro post h
    rw [m3, B3]
    exact hY _ h
/-- the cell at the byte that was read is read -/
theorem mp_rdn {l z st' : Int32} (hd : qa_B da) (h1 : st &&& 15 = 8) (h2 : st >>> ((4 : Int32) &&& 31) = st') (H : hr_Hw s t) (M : hr_cm l z s t) (N : hr_cn c e) : ∃ (s4 t4 c4 e4 : Nat → Int32) (rn' cn' r : Int32), hr_Hw s4 t4 ∧ hr_cm l z s4 t4 ∧ hr_ct c e c4 e4 1 ∧ qa_ag hr_RG s s4 ∧ qa_B r ∧ st_X (sa, dg, st, da, rn, cn, s, sv, iv, c) (sa, dg, st', r, rn', cn', s4, sv, iv, c4) ∧ (∀ post : Int32 → SY → Prop, post r (sb, t4, tv, jv, e4) → wpY_read post (sb, t, tv, jv, e) da) := by
  obtain ⟨n, hn, rfl⟩ := hd
  obtain ⟨s3, t3, c3, e3, rn', cn', r, R, rB, rX, hX, hY⟩ := pr_rdc (sa := sa) (dg := dg) (st := st) (da := nI n) (rn := rn) (cn := cn) (sv := sv) (iv := iv) (c := c) (sb := sb) (tv := tv) (jv := jv) (e := e) (n := n) st' H N hn
  refine ⟨s3, t3, c3, e3, rn', cn', r, R.1, hr_cmA M R.2.1 R.2.2.1, mi_ct R, qa_agW R.2.1 (by unfold hr_RG hr_FX; omega), rB, ⟨_, hX, ?_⟩, hY⟩
  intro Q h
  refine nm_r h1 (nm_r h2 (br_f (by decide) (br_f (by decide) (br_f (by decide) (br_f (by decide) (br_f (by decide) (br_f (by decide) (br_f (by decide) (br_f (by decide) (br_f (by decide) (br_t rfl ?_)))))))))))
  exact rX _ h
/-- a cycle of Y and a write in it, from states whose registers may differ for a while -/
theorem pr_wrc {n : Nat} {v st2 : Int32} (gX : (Nat → Int32) → (Nat → Int32)) (hg : ∀ a : Nat → Int32, qa_ag (fun i => i < 256 ∨ 266 ≤ i) a (gX a)) (H : hr_Hw s t) (N : hr_cn c e) (hn : n < 256) (hv : qa_B v) : ∃ (s3 s4 t4 c4 e4 : Nat → Int32) (rn' cn' : Int32), hr_Hw s4 t4 ∧ qa_ag hr_FX s s3 ∧ qa_ag hr_FX (gX s3) s4 ∧ qa_ag hr_FY t t4 ∧ hr_ct c e c4 e4 1 ∧ (∀ (post : Int32 → SX → Prop) (J : Int32 → Int32 → Int32 → Int32 → Int32 → Int32 → Int32 → (Nat → Int32) → (Nat → Int32) → (Nat → Int32) → (Nat → Int32) → Prop) (x1 x2 : Int32), wpX_processorTurn (ru_K J x2) (sa, dg, st, da, rn', cn', s3, sv, iv, c4) → wX_run_52 post J x1 x2 sa dg st da rn cn s sv iv c) ∧ (∀ post : SX → Prop, post (sa, dg, st2, da, rn', cn', s4, sv, iv, c4) → wpX_write post (sa, dg, st2, da, rn', cn', gX s3, sv, iv, c4) (nI n) v) ∧ (∀ post : SY → Prop, post (sb, t4, tv, jv, e4) → wpY_write post (sb, t, tv, jv, e) (nI n) v) := by
  obtain ⟨s3, t3, c3, e3, rn', cn', R, hX, hY⟩ := pr_cyc (sa := sa) (dg := dg) (st := st) (da := da) (rn := rn) (cn := cn) (sv := sv) (iv := iv) (c := c) (sb := sb) (tv := tv) (jv := jv) (e := e) H N
  have ct := mi_ct R
  obtain ⟨H3, x3, y3, r1, r2, q1, q2, n1, n2, n3, n4⟩ := R
  have H3' : hr_Hw (gX s3) t3 := hr_HwA H3 (hg s3) qa_ag0
  obtain ⟨s4, t4, H4, x4, y4, _, _, wX, wY⟩ := pr_write (sa := sa) (dg := dg)  (da := da) (rn := rn') (cn := cn') (sv := sv) (iv := iv) (c := c3) (sb := sb) (tv := tv) (jv := jv) (e := e3) (st := st2) (n := n) (v := v) H3' q1 q2 r1 r2 hn hv
  refine ⟨s3, s4, t4, c3, e3, rn', cn', H4, x3, x4, qa_agT y3 y4, ct, hX, wX, ?_⟩
  intro post h
  unfold wpY_write
  refine hY _ ?_
  exact wY _ h
end
end
section
/-! writes of the processor in a cycle: both sides -/
section
variable {sa dg st da rn cn : Int32} {s sv iv c : Nat → Int32} {sb : Int32} {t tv jv e : Nat → Int32}
theorem qa_agI {s : Nat → Int32} : qa_ag (fun i => i < 256 ∨ 266 ≤ i) s (id s) := fun _ _ => rfl
/-- a register is pushed -/
theorem mp_pusha {l z st' : Int32} (hd : dg = 6) (h1 : st &&& 15 = 5) (h2 : st >>> ((4 : Int32) &&& 31) = st') (H : hr_Hw s t) (M : hr_cm l z s t) (N : hr_cn c e) : ∃ (s4 t4 c4 e4 : Nat → Int32) (rn' cn' : Int32), hr_Hw s4 t4 ∧ hr_cm l z s4 t4 ∧ hr_ct c e c4 e4 1 ∧ st_X (sa, dg, st, da, rn, cn, s, sv, iv, c) (sa, dg, st', da, rn', cn', s4, sv, iv, c4) ∧ (∀ post : SY → Prop, post (sb, t4, tv, jv, e4) → wpY_push post (sb, t, tv, jv, e) (t 256)) := by
  have M0 := M
  obtain ⟨m1, m2, m3, m4, m5, m6, m7, m8, B1, B2, B3, B4, B5, b1, b2, b3, g1, g2, g3, g4, g5⟩ := M
  obtain ⟨n, hn, en⟩ := qa_Bm (s 259 - 1)
  have hv : qa_B (s 256) := B1
  obtain ⟨s3, s4, t4, c4, e4, rn', cn', H4, x3, x4, y4, ct, hX, wX, wY⟩ := pr_wrc (sa := sa) (dg := dg) (st := st) (da := da) (rn := rn) (cn := cn) (sv := sv) (iv := iv) (c := c) (sb := sb) (tv := tv) (jv := jv) (e := e) (t := upd t 259 ((t 259 - 1) &&& 255)) (st2 := st') (n := n) (v := s 256) (fun a => upd a 259 ((a 259 - 1) &&& 255)) (fun a => qa_agU qa_ag0 (by omega)) (hr_HwY H (by omega)) N hn hv
  have q3 : s3 259 = s 259 := x3 259 (by unfold hr_FX; omega)
  have qv : s3 256 = s 256 := x3 256 (by unfold hr_FX; omega)
  refine ⟨s4, t4, c4, e4, rn', cn', H4, ?_, ct, ⟨_, hX, ?_⟩, ?_⟩
  · refine hr_cmA (hr_cmB (k := 259) (v := (s 259 - 1) &&& 255) (w := (t 259 - 1) &&& 255) M0 (by omega) (qa_Bm _) (by rw [m4])) ?_ y4
    refine qa_agT ?_ x4
    rw [← q3]
    exact qa_agB x3
  · intro Q h
    refine nm_r h1 (nm_r h2 (br_f (by decide) (br_f (by decide) (br_f (by decide) (br_f (by decide) (br_f (by decide) (br_f (by decide) (br_t rfl (nm_e (br_t hd ?_))))))))))
    unfold wX_processorTurn_216
    have ea : upd s3 259 ((s3 259 - 1) &&& 255) 259 = nI n := by rw [pk_us, q3, en]
    have ev : upd s3 259 ((s3 259 - 1) &&& 255) 256 = s 256 := qv
    rw [ea, ev]
    exact wX _ h
  · intro post h
    refine nm_e ?_
    have ea : upd t 259 ((t 259 - 1) &&& 255) 259 = nI n := by rw [pk_us, m4, en]
    rw [ea, m1]
    exact wY _ h
/-- a register is pushed -/
theorem mp_pushp {l z st' : Int32} (hd : ¬ dg = 6) (h1 : st &&& 15 = 5) (h2 : st >>> ((4 : Int32) &&& 31) = st') (H : hr_Hw s t) (M : hr_cm l z s t) (N : hr_cn c e) : ∃ (s4 t4 c4 e4 : Nat → Int32) (rn' cn' : Int32), hr_Hw s4 t4 ∧ hr_cm l z s4 t4 ∧ hr_ct c e c4 e4 1 ∧ st_X (sa, dg, st, da, rn, cn, s, sv, iv, c) (sa, dg, st', da, rn', cn', s4, sv, iv, c4) ∧ (∀ post : SY → Prop, post (sb, t4, tv, jv, e4) → wpY_push post (sb, t, tv, jv, e) (t 260)) := by
  have M0 := M
  obtain ⟨m1, m2, m3, m4, m5, m6, m7, m8, B1, B2, B3, B4, B5, b1, b2, b3, g1, g2, g3, g4, g5⟩ := M
  obtain ⟨n, hn, en⟩ := qa_Bm (s 259 - 1)
  have hv : qa_B (s 260) := B5
  obtain ⟨s3, s4, t4, c4, e4, rn', cn', H4, x3, x4, y4, ct, hX, wX, wY⟩ := pr_wrc (sa := sa) (dg := dg) (st := st) (da := da) (rn := rn) (cn := cn) (sv := sv) (iv := iv) (c := c) (sb := sb) (tv := tv) (jv := jv) (e := e) (t := upd t 259 ((t 259 - 1) &&& 255)) (st2 := st') (n := n) (v := s 260) (fun a => upd a 259 ((a 259 - 1) &&& 255)) (fun a => qa_agU qa_ag0 (by omega)) (hr_HwY H (by omega)) N hn hv
  have q3 : s3 259 = s 259 := x3 259 (by unfold hr_FX; omega)
  have qv : s3 260 = s 260 := x3 260 (by unfold hr_FX; omega)
  refine ⟨s4, t4, c4, e4, rn', cn', H4, ?_, ct, ⟨_, hX, ?_⟩, ?_⟩
  · refine hr_cmA (hr_cmB (k := 259) (v := (s 259 - 1) &&& 255) (w := (t 259 - 1) &&& 255) M0 (by omega) (qa_Bm _) (by rw [m4])) ?_ y4
    refine qa_agT ?_ x4
    rw [← q3]
    exact qa_agB x3
  · intro Q h
    refine nm_r h1 (nm_r h2 (br_f (by decide) (br_f (by decide) (br_f (by decide) (br_f (by decide) (br_f (by decide) (br_f (by decide) (br_t rfl (nm_e (br_f hd ?_))))))))))
    unfold wX_processorTurn_216
    have ea : upd s3 259 ((s3 259 - 1) &&& 255) 259 = nI n := by rw [pk_us, q3, en]
    have ev : upd s3 259 ((s3 259 - 1) &&& 255) 260 = s 260 := qv
    rw [ea, ev]
    exact wX _ h
  · intro post h
    refine nm_e ?_
    have ea : upd t 259 ((t 259 - 1) &&& 255) 259 = nI n := by rw [pk_us, m4, en]
    rw [ea, m5]
    exact wY _ h
/-- A is written at the byte that was read -/
theorem mp_wrn {l z st' : Int32} (hd : qa_B da) (h1 : st &&& 15 = 9) (h2 : st >>> ((4 : Int32) &&& 31) = st') (H : hr_Hw s t) (M : hr_cm l z s t) (N : hr_cn c e) : ∃ (s4 t4 c4 e4 : Nat → Int32) (rn' cn' : Int32), hr_Hw s4 t4 ∧ hr_cm l z s4 t4 ∧ hr_ct c e c4 e4 1 ∧ st_X (sa, dg, st, da, rn, cn, s, sv, iv, c) (sa, dg, st', da, rn', cn', s4, sv, iv, c4) ∧ (∀ post : SY → Prop, post (sb, t4, tv, jv, e4) → wpY_write post (sb, t, tv, jv, e) da (t 256)) := by
  obtain ⟨n, hn, rfl⟩ := hd
  have M0 := M
  obtain ⟨m1, m2, m3, m4, m5, m6, m7, m8, B1, B2, B3, B4, B5, b1, b2, b3, g1, g2, g3, g4, g5⟩ := M
  obtain ⟨s3, s4, t4, c4, e4, rn', cn', H4, x3, x4, y4, ct, hX, wX, wY⟩ := pr_wrc (sa := sa) (dg := dg) (st := st) (da := nI n) (rn := rn) (cn := cn) (sv := sv) (iv := iv) (c := c) (sb := sb) (tv := tv) (jv := jv) (e := e) (st2 := st') (n := n) (v := s 256) id (fun a => qa_agI) H N hn B1
  have qv : s3 256 = s 256 := x3 256 (by unfold hr_FX; omega)
  refine ⟨s4, t4, c4, e4, rn', cn', H4, hr_cmA M0 (qa_agT x3 x4) y4, ct, ⟨_, hX, ?_⟩, ?_⟩
  · intro Q h
    refine nm_r h1 (nm_r h2 (br_f (by decide) (br_f (by decide) (br_f (by decide) (br_f (by decide) (br_f (by decide) (br_f (by decide) (br_f (by decide) (br_f (by decide) (br_f (by decide) (br_f (by decide) (br_t rfl ?_))))))))))))
    rw [qv]
    exact wX _ h
  · intro post h
    rw [m1]
    exact wY _ h
/-- the cell at P is written -/
theorem mp_wrp0 {l z st' : Int32} (hv : qa_B da) (hd : (dg - 16) / 4 = 0) (h1 : st &&& 15 = 7) (h2 : st >>> ((4 : Int32) &&& 31) = st') (H : hr_Hw s t) (M : hr_cm l z s t) (N : hr_cn c e) : ∃ (s4 t4 c4 e4 : Nat → Int32) (rn' cn' : Int32), hr_Hw s4 t4 ∧ hr_cm l z s4 t4 ∧ hr_ct c e c4 e4 1 ∧ st_X (sa, dg, st, da, rn, cn, s, sv, iv, c) (sa, dg, st', da, rn', cn', s4, sv, iv, c4) ∧ (∀ post : SY → Prop, post (sb, t4, tv, jv, e4) → wpY_write post (sb, t, tv, jv, e) (t 258) da) := by
  have M0 := M
  obtain ⟨m1, m2, m3, m4, m5, m6, m7, m8, B1, B2, ⟨n, hn, en⟩, B4, B5, b1, b2, b3, g1, g2, g3, g4, g5⟩ := M
  obtain ⟨s3, s4, t4, c4, e4, rn', cn', H4, x3, x4, y4, ct, hX, wX, wY⟩ := pr_wrc (sa := sa) (dg := dg) (st := st) (da := da) (rn := rn) (cn := cn) (sv := sv) (iv := iv) (c := c) (sb := sb) (tv := tv) (jv := jv) (e := e) (st2 := st') (n := n) (v := da) id (fun a => qa_agI) H N hn hv
  have q3 : s3 258 = nI n := (x3 258 (by unfold hr_FX; omega)).trans en
  have qv : s3 256 = s 256 := x3 256 (by unfold hr_FX; omega)
  refine ⟨s4, t4, c4, e4, rn', cn', H4, hr_cmA M0 (qa_agT x3 x4) y4, ct, ⟨_, hX, ?_⟩, ?_⟩
  · intro Q h
    refine nm_r h1 (nm_r h2 (br_f (by decide) (br_f (by decide) (br_f (by decide) (br_f (by decide) (br_f (by decide) (br_f (by decide) (br_f (by decide) (br_f (by decide) (br_t rfl ?_))))))))))
    refine ⟨by decide, nm_r hd (br_f (by decide) ?_)⟩
    unfold wpX_isChange
    refine br_t (by decide) (br_t rfl ?_)
    unfold wX_writeAtP_50
    rw [q3]
    exact wX _ h
  · intro post h
    rw [m3, en]
    exact wY _ h
/-- the cell at P is written -/
theorem mp_wrp2 {l z st' : Int32} (hd : (dg - 16) / 4 = 2) (h1 : st &&& 15 = 7) (h2 : st >>> ((4 : Int32) &&& 31) = st') (H : hr_Hw s t) (M : hr_cm l z s t) (N : hr_cn c e) : ∃ (s4 t4 c4 e4 : Nat → Int32) (rn' cn' : Int32), hr_Hw s4 t4 ∧ hr_cm l z s4 t4 ∧ hr_ct c e c4 e4 1 ∧ st_X (sa, dg, st, da, rn, cn, s, sv, iv, c) (sa, dg, st', da, rn', cn', s4, sv, iv, c4) ∧ (∀ post : SY → Prop, post (sb, t4, tv, jv, e4) → wpY_write post (sb, t, tv, jv, e) (t 258) (t 256)) := by
  have M0 := M
  obtain ⟨m1, m2, m3, m4, m5, m6, m7, m8, B1, B2, ⟨n, hn, en⟩, B4, B5, b1, b2, b3, g1, g2, g3, g4, g5⟩ := M
  obtain ⟨s3, s4, t4, c4, e4, rn', cn', H4, x3, x4, y4, ct, hX, wX, wY⟩ := pr_wrc (sa := sa) (dg := dg) (st := st) (da := da) (rn := rn) (cn := cn) (sv := sv) (iv := iv) (c := c) (sb := sb) (tv := tv) (jv := jv) (e := e) (st2 := st') (n := n) (v := s 256) id (fun a => qa_agI) H N hn B1
  have q3 : s3 258 = nI n := (x3 258 (by unfold hr_FX; omega)).trans en
  have qv : s3 256 = s 256 := x3 256 (by unfold hr_FX; omega)
  refine ⟨s4, t4, c4, e4, rn', cn', H4, hr_cmA M0 (qa_agT x3 x4) y4, ct, ⟨_, hX, ?_⟩, ?_⟩
  · intro Q h
    refine nm_r h1 (nm_r h2 (br_f (by decide) (br_f (by decide) (br_f (by decide) (br_f (by decide) (br_f (by decide) (br_f (by decide) (br_f (by decide) (br_f (by decide) (br_t rfl ?_))))))))))
    refine ⟨by decide, nm_r hd (br_t rfl (nm_e ?_))⟩
    unfold wX_writeAtP_50
    rw [q3, qv]
    exact wX _ h
  · intro post h
    rw [m3, en, m1]
    exact wY _ h
theorem qa_rr : ∀ b, b < 256 → ∀ k, k < 2 → ((nI b >>> ((1 : Int32) &&& 31)) ||| (nI k <<< ((7 : Int32) &&& 31))) &&& 255 = (nI b >>> ((1 : Int32) &&& 31)) ||| (nI k <<< ((7 : Int32) &&& 31)) := by decide +kernel
theorem qa_rrI {b k : Int32} (hb : qa_B b) (hk : qa_b k) : ((b >>> ((1 : Int32) &&& 31)) ||| (k <<< ((7 : Int32) &&& 31))) &&& 255 = (b >>> ((1 : Int32) &&& 31)) ||| (k <<< ((7 : Int32) &&& 31)) := by
  obtain ⟨n, hn, rfl⟩ := hb
  rcases hk with rfl | rfl
  · exact qa_rr n hn 0 (by omega)
  · exact qa_rr n hn 1 (by omega)
theorem qa_rrB {b k : Int32} (hb : qa_B b) (hk : qa_b k) : qa_B ((b >>> ((1 : Int32) &&& 31)) ||| (k <<< ((7 : Int32) &&& 31))) := by
  rw [← qa_rrI hb hk]
  exact qa_Bm _
theorem qa_decI {b : Int32} (hb : qa_B b) : (b - 1) &&& 255 = (b + 255) &&& 255 := by
  obtain ⟨n, hn, rfl⟩ := hb
  exact qa_dec n hn
theorem qa_b1 (x : Int32) : qa_b (x &&& 1) := qa_and1 x
/-- what INC, DEC and ROR make of a byte: the value, Z, K -/
def ml_ch (k : Nat) (x kf : Int32) : Int32 := if k = 8 then (x + 1) &&& 255 else if k = 9 then (x - 1) &&& 255 else (x >>> ((1 : Int32) &&& 31)) ||| (kf <<< ((7 : Int32) &&& 31))
def ml_zf (v : Int32) : Int32 := if v = 0 then 1 else 0
theorem ml_zfb (v : Int32) : qa_b (ml_zf v) := by
  unfold ml_zf
  by_cases k : v = 0
  · rw [if_pos k]; exact Or.inr rfl
  · rw [if_neg k]; exact Or.inl rfl
def ml_kf (k : Nat) (x kf : Int32) : Int32 := if k = 10 then x &&& 1 else kf
def ml_cx (k : Nat) (x : Int32) (s : Nat → Int32) : Nat → Int32 := if k = 10 then upd (upd s 262 (x &&& 1)) 261 (ml_zf (ml_ch k x (s 262))) else upd s 261 (ml_zf (ml_ch k x (s 262)))
theorem mx_ch63 {post : Int32 → SX → Prop} {x : Int32} (h : post x (sa, dg, st, da, rn, cn, upd s 261 (ml_zf x), sv, iv, c)) : wX_changed_63 post x sa dg st da rn cn s sv iv c := by
  unfold ml_zf at h
  exact ⟨fun k => nm_e (by rwa [if_pos k] at h), fun k => nm_e (by rwa [if_neg k] at h)⟩
theorem mx_changed {post : Int32 → SX → Prop} {k : Nat} {x : Int32} (hk : k = 8 ∨ k = 9 ∨ k = 10) (h : post (ml_ch k x (s 262)) (sa, dg, st, da, rn, cn, ml_cx k x s, sv, iv, c)) : wpX_changed post (sa, dg, st, da, rn, cn, s, sv, iv, c) (nI k) x := by
  rcases hk with rfl | rfl | rfl
  · exact br_t rfl (nm_e (mx_ch63 h))
  · exact br_f (by decide) (br_t rfl (nm_e (mx_ch63 h)))
  · exact br_f (by decide) (br_f (by decide) (nm_e (nm_e (mx_ch63 h))))
theorem ml_chB {k : Nat} {x kf : Int32} (hk : k = 8 ∨ k = 9 ∨ k = 10) (hx : qa_B x) (hf : qa_b kf) : qa_B (ml_ch k x kf) := by
  rcases hk with rfl | rfl | rfl
  · exact qa_Bm _
  · exact qa_Bm _
  · exact qa_rrB hx hf
theorem ml_kfb {k : Nat} {x kf : Int32} (hf : qa_b kf) : qa_b (ml_kf k x kf) := by
  unfold ml_kf
  by_cases q : k = 10
  · rw [if_pos q]; exact qa_b1 x
  · rw [if_neg q]; exact hf
/-- the registers behind INC, DEC, ROR -/
theorem hr_cmC {l z : Int32} {k : Nat} {x : Int32} (M : hr_cm l z s t) (hk : k = 8 ∨ k = 9 ∨ k = 10) : hr_cm l z (ml_cx k x s) (upd (upd t 261 (ml_zf (ml_ch k x (s 262)))) 262 (ml_kf k x (s 262))) := by
  obtain ⟨m1, m2, m3, m4, m5, m6, m7, m8, B1, B2, B3, B4, B5, b1, b2, b3, g1, g2, g3, g4, g5⟩ := M
  rcases hk with rfl | rfl | rfl
  · exact ⟨m1, m2, m3, m4, m5, rfl, rfl, m8, B1, B2, B3, B4, B5, ml_zfb _, b2, b3, g1, g2, g3, g4, g5⟩
  · exact ⟨m1, m2, m3, m4, m5, rfl, rfl, m8, B1, B2, B3, B4, B5, ml_zfb _, b2, b3, g1, g2, g3, g4, g5⟩
  · exact ⟨m1, m2, m3, m4, m5, rfl, rfl, m8, B1, B2, B3, B4, B5, ml_zfb _, qa_b1 x, b3, g1, g2, g3, g4, g5⟩
theorem ml_cxA {k : Nat} {x : Int32} (a : Nat → Int32) : qa_ag (fun i => i < 256 ∨ 266 ≤ i) a (ml_cx k x a) := by
  unfold ml_cx
  by_cases q : k = 10
  · rw [if_pos q]; exact qa_agU (qa_agU qa_ag0 (by omega)) (by omega)
  · rw [if_neg q]; exact qa_agU qa_ag0 (by omega)
theorem ml_cxF {k : Nat} {x : Int32} {a b : Nat → Int32} (h : qa_ag hr_FX a b) : qa_ag hr_FX (ml_cx k x a) (ml_cx k x b) := by
  have e2 : b 262 = a 262 := h 262 (by unfold hr_FX; omega)
  unfold ml_cx
  rw [e2]
  by_cases q : k = 10
  · rw [if_pos q, if_pos q]; exact qa_agB (qa_agB h)
  · rw [if_neg q, if_neg q]; exact qa_agB h
/-- the cell at P is changed -/
theorem mp_wrc {l z st' : Int32} {k : Nat} (hk : k = 8 ∨ k = 9 ∨ k = 10) (hv : qa_B da) (hd : (dg - 16) / 4 = nI k) (h1 : st &&& 15 = 7) (h2 : st >>> ((4 : Int32) &&& 31) = st') (H : hr_Hw s t) (M : hr_cm l z s t) (N : hr_cn c e) : ∃ (s4 t4 c4 e4 : Nat → Int32) (rn' cn' : Int32), hr_Hw s4 t4 ∧ hr_cm l z s4 t4 ∧ hr_ct c e c4 e4 1 ∧ st_X (sa, dg, st, da, rn, cn, s, sv, iv, c) (sa, dg, st', da, rn', cn', s4, sv, iv, c4) ∧ (∀ post : SY → Prop, post (sb, t4, tv, jv, e4) → wpY_write post (sb, upd (upd t 261 (ml_zf (ml_ch k da (s 262)))) 262 (ml_kf k da (s 262)), tv, jv, e) (t 258) (ml_ch k da (s 262))) := by
  have M0 := M
  obtain ⟨m1, m2, m3, m4, m5, m6, m7, m8, B1, B2, ⟨n, hn, en⟩, B4, B5, b1, b2, b3, g1, g2, g3, g4, g5⟩ := M
  obtain ⟨s3, s4, t4, c4, e4, rn', cn', H4, x3, x4, y4, ct, hX, wX, wY⟩ := pr_wrc (sa := sa) (dg := dg) (st := st) (da := da) (rn := rn) (cn := cn) (sv := sv) (iv := iv) (c := c) (sb := sb) (tv := tv) (jv := jv) (e := e) (t := upd (upd t 261 (ml_zf (ml_ch k da (s 262)))) 262 (ml_kf k da (s 262))) (st2 := st') (n := n) (v := ml_ch k da (s 262)) (ml_cx k da) (fun a => ml_cxA a) (hr_HwY (hr_HwY H (by omega)) (by omega)) N hn (ml_chB hk hv b2)
  have M3 := hr_cmC (x := da) M0 hk
  refine ⟨s4, t4, c4, e4, rn', cn', H4, hr_cmA M3 (qa_agT (ml_cxF x3) x4) y4, ct, ⟨_, hX, ?_⟩, ?_⟩
  · intro Q h
    have e2 : s3 262 = s 262 := x3 262 (by unfold hr_FX; omega)
    have q3 : ml_cx k da s3 258 = nI n := by
      have a1 : ml_cx k da s 258 = s 258 := by rcases hk with rfl | rfl | rfl <;> rfl
      rw [ml_cxF x3 258 (by unfold hr_FX; omega), a1]
      exact en
    refine nm_r h1 (nm_r h2 (br_f (by decide) (br_f (by decide) (br_f (by decide) (br_f (by decide) (br_f (by decide) (br_f (by decide) (br_f (by decide) (br_f (by decide) (br_t rfl ?_))))))))))
    refine ⟨by decide, nm_r hd (br_f ?_ ?_)⟩
    · rcases hk with rfl | rfl | rfl <;> decide
    · have ic : wpX_isChange (fun r => r = 1) (sa, dg, st', da, rn', cn', s3, sv, iv, c4) (nI k) := by
        rcases hk with rfl | rfl | rfl
        · exact br_f (by decide) (br_f (by decide) rfl)
        · exact br_f (by decide) (br_f (by decide) rfl)
        · exact br_f (by decide) (br_f (by decide) rfl)
      unfold wpX_isChange
      have k8 : ¬ nI k < 8 := by rcases hk with rfl | rfl | rfl <;> decide
      have k10 : ¬ 10 < nI k := by rcases hk with rfl | rfl | rfl <;> decide
      refine br_f k8 (br_f k10 (br_f (by decide) ?_))
      refine mx_changed hk ?_
      show wX_writeAtP_50 _ _ _ _ _ _ _ _ _ _ _ _
      unfold wX_writeAtP_50
      rw [q3, e2]
      exact wX _ h
  · intro post h
    rw [m3, en]
    exact wY _ h
end
end
section
/-! how an instruction ends: both sides -/
def op_R (x1 : Int32) (p : Nat) (stp : Int32) (u u' : SX) (k : Nat) : Prop := (stp = 0 ∧ k = 0 ∧ ∀ Q : SX → Prop, Q u' → wpX_endThis Q u) ∨ (¬ stp = 0 ∧ ∃ j, k = j + 1 ∧ ru_52 x1 (p + 1) j u u')
def op_D (s' t' c' e' c e : Nat → Int32) (k : Nat) : Prop := hr_Rl s' t' ∧ hr_cn c' e' ∧ c' 0 = c 0 ∧ c' 1 = c 1 + 1 ∧ c' 2 = c 2 ∧ c' 3 = c 3 ∧ e' 0 = e 0 + nI k ∧ e' 1 = e 1 ∧ e' 2 = e 2 ∧ e' 3 = e 3
theorem op_Dof {s' t' c e c4 e4 : Nat → Int32} {k : Nat} (R : hr_Rl s' t') (ct : hr_ct c e c4 e4 k) : op_D s' t' (upd c4 1 (c4 1 + 1)) e4 c e k := by
  obtain ⟨a, b, h, n⟩ := ct
  refine ⟨R, n, a 0 (by unfold hr_C4; omega), ?_, a 2 (by unfold hr_C4; omega), a 3 (by unfold hr_C4; omega), h, b 1 (by unfold hr_E3; omega), b 2 (by unfold hr_E3; omega), b 3 (by unfold hr_E3; omega)⟩
  rw [pk_us, a 1 (by unfold hr_C4; omega)]
theorem hr_ct0 {c e : Nat → Int32} (n : hr_cn c e) : hr_ct c e c e 0 := by
  refine ⟨qa_ag0, qa_ag0, ?_, n⟩
  show e 0 = e 0 + 0
  exact (Int32.add_zero _).symm
def op_S (o : Nat) (stp : Int32) (u : SX) : Prop := (16 ≤ o ∧ ∀ post : Int32 → Prop, post stp → wpX_stepsWithR post u) ∨ (o < 16 ∧ ∀ post : Int32 → Prop, post stp → wpX_plainSteps post u)
def op_Y (o : Nat) (v v6 : SY) : Prop := (o < 16 ∧ ∀ Q : SY → Prop, Q v6 → wpY_simple Q v (nI o)) ∨ (16 ≤ o ∧ o < 28 ∧ ∀ Q : SY → Prop, Q v6 → wpY_move Q v ((nI o - 16) / 4) (nI o &&& 3)) ∨ (28 ≤ o ∧ ∀ Q : SY → Prop, Q v6 → wpY_reckon Q v ((nI o - 16) / 4) (nI o &&& 3))
def op_T (o : Nat) (z : Int32) : Prop := ∀ (x1 l sa da rn cn sb : Int32) (p : Nat) (s sv iv c t tv jv e : Nat → Int32), p + 5 < 2010 → qa_b l → hr_Hw s t → hr_cm l z s t → hr_cn c e →
  ∃ (stp : Int32) (k : Nat) (s' t' c' e' t6 : Nat → Int32) (da' rn' cn' : Int32), op_S o stp (sa, nI o, 0, da, rn, cn, s, sv, iv, c) ∧ op_R x1 p stp (sa, nI o, stp, da, rn, cn, s, sv, iv, c) (sa, nI o, 0, da', rn', cn', s', sv, iv, c') k ∧ op_D s' t' c' e' c e k ∧ k ≤ 3 ∧ op_Y o (sb, t, tv, jv, e) (sb, t6, tv, jv, e') ∧ (∀ post : SY → Prop, post (sb, t', tv, jv, e') → wY_instruction_105 post l (nI o) sb t6 tv jv e')
section
variable {sa dg st da rn cn : Int32} {s sv iv c : Nat → Int32} {sb : Int32} {t tv jv e : Nat → Int32}
/-- an end that leaves IME alone: E is what X does there -/
theorem en_gen {l o : Int32} (E : (Nat → Int32) → (Nat → Int32)) (hA : ∀ a : Nat → Int32, qa_ag (fun i => i < 256 ∨ 266 ≤ i) a (E a)) (hE1 : ∀ i, (256 ≤ i ∧ i < 263) ∨ i = 265 → E (upd (upd s 264 0) 263 1) i = E s i) (hE2 : E (upd (upd s 264 0) 263 1) 263 = 1) (hE3 : E (upd (upd s 264 0) 263 1) 264 = 0)
    (o1 : ¬ o = 1) (o2 : ¬ o = 2) (o64 : ¬ o = 64) (o65 : ¬ o = 65) (hl : s 264 = l) (hlb : qa_b l) (H : hr_Hw s t) (M : hr_cm l 0 (E s) t)
    (hX0 : ∀ Q : SX → Prop, Q (sa, o, 0, da, rn, cn, E s, sv, iv, upd c 1 (c 1 + 1)) → wX_endInstruction_40 Q sa o 0 da rn cn s sv iv (upd c 1 (c 1 + 1)))
    (hX1 : ∀ Q : SX → Prop, Q (sa, o, 0, da, rn, cn, E (upd (upd s 264 0) 263 1), sv, iv, upd c 1 (c 1 + 1)) → wX_endInstruction_40 Q sa o 0 da rn cn (upd (upd s 264 0) 263 1) sv iv (upd c 1 (c 1 + 1))) :
    ∃ s' t' : Nat → Int32, hr_Rl s' t' ∧ (∀ Q : SX → Prop, Q (sa, o, 0, da, rn, cn, s', sv, iv, upd c 1 (c 1 + 1)) → wpX_endThis Q (sa, o, 0, da, rn, cn, s, sv, iv, c)) ∧ (∀ post : SY → Prop, post (sb, t', tv, jv, e) → wY_instruction_105 post l o sb t tv jv e) := by
  obtain ⟨m1, m2, m3, m4, m5, m6, m7, m8, B1, B2, B3, B4, B5, b1, b2, b3, g1, g2, g3, g4, g5⟩ := M
  rcases hlb with rfl | rfl
  · refine ⟨E s, t, ⟨hr_HwA H (hA s) qa_ag0, m1, m2, m3, m4, m5, m6, m7, m8, g2.trans g1.symm, B1, B2, B3, B4, B5, b1, b2, b3, Or.inl g1, Or.inl ⟨g3, g4, g5⟩⟩, ?_, ?_⟩
    · intro Q h
      refine br_f o65 (br_f o64 ?_)
      refine nm_e (br_f (by rw [hl]; decide) ?_)
      exact hX0 _ h
    · intro post h
      exact br_t rfl (br_f o1 h)
  · have u : ∀ i, (256 ≤ i ∧ i < 263) ∨ i = 265 → E (upd (upd s 264 0) 263 1) i = E s i := hE1
    refine ⟨E (upd (upd s 264 0) 263 1), upd t 263 1, ⟨hr_HwA H (qa_agT (qa_agU (qa_agU qa_ag0 (by omega)) (by omega)) (hA _)) (qa_agU qa_ag0 (by omega)), ?_, ?_, ?_, ?_, ?_, ?_, ?_, ?_, ?_, ?_, ?_, ?_, ?_, ?_, ?_, ?_, ?_, ?_, ?_⟩, ?_, ?_⟩
    · rw [u 256 (by omega)]; exact m1
    · rw [u 257 (by omega)]; exact m2
    · rw [u 258 (by omega)]; exact m3
    · rw [u 259 (by omega)]; exact m4
    · rw [u 260 (by omega)]; exact m5
    · rw [u 261 (by omega)]; exact m6
    · rw [u 262 (by omega)]; exact m7
    · rw [hE2]; rfl
    · rw [hE3]; exact g2
    · rw [u 256 (by omega)]; exact B1
    · rw [u 257 (by omega)]; exact B2
    · rw [u 258 (by omega)]; exact B3
    · rw [u 259 (by omega)]; exact B4
    · rw [u 260 (by omega)]; exact B5
    · rw [u 261 (by omega)]; exact b1
    · rw [u 262 (by omega)]; exact b2
    · rw [hE2]; exact Or.inr rfl
    · rw [hE3]; exact Or.inl rfl
    · refine Or.inl ⟨?_, g4, g5⟩
      rw [u 265 (by omega)]; exact g3
    · intro Q h
      refine br_f o65 (br_f o64 ?_)
      refine nm_e (br_t hl (nm_e (nm_e ?_)))
      exact hX1 _ h
    · intro post h
      exact br_f (by decide) (br_f o2 (nm_e (br_f o1 h)))
/-! calculation -/
def ml_ce (k : Nat) (cf v : Int32) (s : Nat → Int32) : Nat → Int32 := if k = 7 then upd (upd s 262 cf) 261 (ml_zf v) else upd (upd (upd s 262 cf) 261 (ml_zf v)) 256 v
def ml_cy (k : Nat) (cf v : Int32) (t : Nat → Int32) : Nat → Int32 := if k = 7 then upd (upd t 261 (ml_zf v)) 262 cf else upd (upd (upd t 261 (ml_zf v)) 262 cf) 256 v
def ml_ck (k : Nat) : Prop := k = 3 ∨ k = 4 ∨ k = 5 ∨ k = 6 ∨ k = 7 ∨ k = 11
theorem mx_c119 {post : SX → Prop} {k : Nat} {x4 cf : Int32} (hk : k < 12) (h : post (sa, dg, st, da, rn, cn, ml_ce k cf (x4 &&& 255) s, sv, iv, c)) : wX_calculate_119 post (nI k) x4 cf 262 sa dg st da rn cn s sv iv c := by
  have i2 : vp_in (262 : Int32) 488 := vp_in_nI (n := 262) (by omega) (by omega)
  have c2 : (262 : Int32).toNatClampNeg = 262 := nI_clamp (n := 262) (by omega)
  have i1 : vp_in (261 : Int32) 488 := vp_in_nI (n := 261) (by omega) (by omega)
  have c1 : (261 : Int32).toNatClampNeg = 261 := nI_clamp (n := 261) (by omega)
  have g : ∀ z : Int32, z = ml_zf (x4 &&& 255) → wX_calculate_145 post (nI k) (x4 &&& 255) z 261 sa dg st da rn cn (upd s 262 cf) sv iv c := by
    intro z hz
    refine ⟨i1, nm_r (qa_up _ _ c1) ?_⟩
    rw [hz]
    unfold ml_ce at h
    by_cases q : k = 7
    · rw [if_pos q] at h
      exact br_t (by rw [q]; rfl) h
    · rw [if_neg q] at h
      exact br_f (qa_neN (b := 7) q (by omega) (by omega)) (nm_e h)
  refine ⟨i2, nm_r (qa_up _ _ c2) (nm_e ⟨fun q => g 1 ?_, fun q => g 0 ?_⟩)⟩
  · unfold ml_zf; rw [if_pos q]
  · unfold ml_zf; rw [if_neg q]
theorem mx_c94 {post : SX → Prop} {k : Nat} {x4 cf : Int32} (hk : k < 12) (hc : (cf = 1 ∧ (x4 < 0 ∨ (¬ x4 < 0 ∧ ¬ x4 ≤ 255))) ∨ (cf = 0 ∧ ¬ x4 < 0 ∧ x4 ≤ 255)) (h : post (sa, dg, st, da, rn, cn, ml_ce k cf (x4 &&& 255) s, sv, iv, c)) : wX_calculate_94 post (nI k) x4 sa dg st da rn cn s sv iv c := by
  rcases hc with ⟨rfl, q | ⟨q1, q2⟩⟩ | ⟨rfl, q1, q2⟩
  · exact br_t q (mx_c119 hk h)
  · exact br_f q1 (br_f q2 (mx_c119 hk h))
  · exact br_f q1 (br_t q2 (mx_c119 hk h))
/-- X's and Y's reckoning: one carry, one value -/
theorem pr_calc {k : Nat} {a x kf : Int32} (hk : ml_ck k) (ha : qa_B a) (hx : qa_B x) (hf : qa_b kf) (e1 : s 256 = a) (e2 : s 262 = kf) : ∃ cf v : Int32, qa_b cf ∧ qa_B v ∧ (∀ (s0 : Nat → Int32) (post : SX → Prop), s0 256 = a → s0 262 = kf → post (sa, dg, st, da, rn, cn, ml_ce k cf v s0, sv, iv, c) → wpX_calculate post (sa, dg, st, da, rn, cn, s0, sv, iv, c) (nI k) x) ∧
    (∀ (t0 : Nat → Int32) (x2 : Int32) (f : Nat → Int32) (post : SY → Prop), post (sb, ml_cy k cf v t0, tv, jv, f) → ((nI k < 3 → ∀ x5, x5 = (a + x) + kf → ∀ x6, x6 = x5 >>> ((8 : Int32) &&& 31) → wY_reckon_199 post (nI k) x2 x5 x6 sb t0 tv jv f) ∧ (¬ nI k < 3 → ((10 < nI k → ∀ x5, x5 = (a + x) + kf → ∀ x6, x6 = x5 >>> ((8 : Int32) &&& 31) → wY_reckon_199 post (nI k) x2 x5 x6 sb t0 tv jv f) ∧ (¬ 10 < nI k → ((nI k = 3 → ∀ x5, x5 = a + x → ∀ x6, x6 = x5 >>> ((8 : Int32) &&& 31) → wY_reckon_199 post (nI k) x2 x5 x6 sb t0 tv jv f) ∧ (¬ nI k = 3 → ((nI k = 4 → wY_reckon_92 post (nI k) x2 a x sb t0 tv jv f) ∧ (¬ nI k = 4 → ((nI k = 5 → ∀ x5, x5 = a &&& x → wY_reckon_199 post (nI k) x2 x5 0 sb t0 tv jv f) ∧ (¬ nI k = 5 → ((nI k = 6 → ∀ x5, x5 = a ^^^ x → wY_reckon_199 post (nI k) x2 x5 0 sb t0 tv jv f) ∧ (¬ nI k = 6 → (nI k = 7 → wY_reckon_92 post (nI k) x2 a x sb t0 tv jv f)))))))))))))) := by
  have Y199 : ∀ (t0 : Nat → Int32) (x2 x5 x6 v : Int32) (f : Nat → Int32) (post : SY → Prop), x5 &&& 255 = v → post (sb, ml_cy k x6 v t0, tv, jv, f) → wY_reckon_199 post (nI k) x2 x5 x6 sb t0 tv jv f := by
    intro t0 x2 x5 x6 v f post hv h
    have i1 : vp_in (261 : Int32) 512 := vp_in_nI (n := 261) (by omega) (by omega)
    have c1 : (261 : Int32).toNatClampNeg = 261 := nI_clamp (n := 261) (by omega)
    have g257 : ∀ tt : Nat → Int32, (k = 7 → post (sb, tt, tv, jv, f)) → (k ≠ 7 → post (sb, upd tt 256 v, tv, jv, f)) → wY_reckon_257 post (nI k) v sb tt tv jv f := by
      intro tt h7 h8
      by_cases q : k = 7
      · exact br_t (by rw [q]; rfl) (h7 q)
      · refine br_f (qa_neN (b := 7) q ?_ (by omega)) (nm_e (h8 q))
        rcases hk with h | h | h | h | h | h <;> omega
    have g224 : ∀ z : Int32, z = ml_zf v → wY_reckon_224 post (nI k) x2 v x6 z 261 sb t0 tv jv f := by
      intro z hz
      refine ⟨i1, nm_r (qa_up _ _ c1) (nm_e ?_)⟩
      rw [hz]
      unfold ml_cy at h
      have g := g257 (upd (upd t0 261 (ml_zf v)) 262 x6) (fun q => by rwa [if_pos q] at h) (fun q => by rwa [if_neg q] at h)
      rcases hk with rfl | rfl | rfl | rfl | rfl | rfl
      · exact br_t (by decide) g
      · exact br_t (by decide) g
      · exact br_t (by decide) g
      · exact br_t (by decide) g
      · exact br_t (by decide) g
      · exact br_f (by decide) (br_t (by decide) g)
    refine nm_r hv ⟨fun q => g224 1 ?_, fun q => g224 0 ?_⟩
    · unfold ml_zf; rw [if_pos q]
    · unfold ml_zf; rw [if_neg q]
  obtain ⟨m, hm, rfl⟩ := ha
  obtain ⟨n, hn, rfl⟩ := hx
  obtain ⟨q, hq, rfl⟩ : ∃ q : Nat, q < 2 ∧ kf = nI q := by
    rcases hf with h | h
    · exact ⟨0, by omega, h⟩
    · exact ⟨1, by omega, h⟩
  have S : ∀ w : Nat, w < 512 → ∃ cf : Int32, qa_b cf ∧ cf = nI w >>> ((8 : Int32) &&& 31) ∧ ((cf = 1 ∧ (nI w < 0 ∨ (¬ nI w < 0 ∧ ¬ nI w ≤ 255))) ∨ (cf = 0 ∧ ¬ nI w < 0 ∧ nI w ≤ 255)) := by
    intro w hw
    have p : ¬ nI w < 0 := nI_pos (by omega)
    by_cases d : 255 < w
    · have z : (255 : Int32) < nI w := nI_lt (a := 255) d (by omega)
      have z2 : ¬ nI w ≤ 255 := nI_ge (a := 255) d (by omega)
      exact ⟨1, Or.inr rfl, by rw [qa_c8 hw, if_pos z], Or.inl ⟨rfl, Or.inr ⟨p, z2⟩⟩⟩
    · have z : ¬ (255 : Int32) < nI w := nI_nlt (a := 255) (by omega) (by omega)
      have z2 : nI w ≤ 255 := nI_le (b := 255) (by omega) (by omega)
      exact ⟨0, Or.inl rfl, by rw [qa_c8 hw, if_neg z], Or.inr ⟨rfl, p, z2⟩⟩
  have D : ∃ cf : Int32, qa_b cf ∧ ((cf = 1 ∧ (nI m - nI n < 0 ∨ (¬ nI m - nI n < 0 ∧ ¬ nI m - nI n ≤ 255))) ∨ (cf = 0 ∧ ¬ nI m - nI n < 0 ∧ nI m - nI n ≤ 255)) ∧ ((nI n ≤ nI m ∧ cf = 0) ∨ (¬ nI n ≤ nI m ∧ cf = 1)) := by
    by_cases d : n ≤ m
    · have es : nI m - nI n = nI (m - n) := pk_sub d
      rw [es]
      exact ⟨0, Or.inl rfl, Or.inr ⟨rfl, nI_pos (by omega), nI_le (b := 255) (by omega) (by omega)⟩, Or.inl ⟨nI_le d (by omega), rfl⟩⟩
    · exact ⟨1, Or.inr rfl, Or.inl ⟨rfl, Or.inl (pk_sneg (by omega) (by omega))⟩, Or.inr ⟨nI_ge (by omega) (by omega), rfl⟩⟩
  have Y92 : ∀ (cf : Int32) (t0 : Nat → Int32) (x2 : Int32) (f : Nat → Int32) (post : SY → Prop), ((nI n ≤ nI m ∧ cf = 0) ∨ (¬ nI n ≤ nI m ∧ cf = 1)) → post (sb, ml_cy k cf ((nI m - nI n) &&& 255) t0, tv, jv, f) → wY_reckon_92 post (nI k) x2 (nI m) (nI n) sb t0 tv jv f := by
    intro cf t0 x2 f post hc h
    have ev : ((nI m - nI n) &&& 255) &&& 255 = (nI m - nI n) &&& 255 := by
      obtain ⟨w, hw, ew⟩ := qa_Bm (nI m - nI n)
      rw [ew]
      exact qa_and255 hw
    rcases hc with ⟨c1, rfl⟩ | ⟨c1, rfl⟩
    · exact nm_e (br_t c1 (Y199 t0 x2 _ 0 _ f post ev h))
    · exact nm_e (br_f c1 (Y199 t0 x2 _ 1 _ f post ev h))
  have Bits : ∀ w : Int32, qa_B w → w &&& 255 = w ∧ ((0 : Int32) = 1 ∧ (w < 0 ∨ (¬ w < 0 ∧ ¬ w ≤ 255)) ∨ ((0 : Int32) = 0 ∧ ¬ w < 0 ∧ w ≤ 255)) := by
    intro w hw
    obtain ⟨y, hy, rfl⟩ := hw
    exact ⟨qa_and255 hy, Or.inr ⟨rfl, nI_pos (by omega), nI_le (b := 255) (by omega) (by omega)⟩⟩
  rcases hk with rfl | rfl | rfl | rfl | rfl | rfl
  · obtain ⟨cf, c1, c2, c3⟩ := S (m + n) (by omega)
    rw [← nI_add] at c2 c3
    refine ⟨cf, (nI m + nI n) &&& 255, c1, qa_Bm _, ?_, ?_⟩
    · intro s0 post h1 h2 h
      exact nm_r h1 (br_f (by decide) (br_f (by decide) (br_t rfl (nm_e (mx_c94 (by omega) c3 h)))))
    · intro t0 x2 f post h
      exact br_f (by decide) (br_f (by decide) (br_t rfl (nm_e (nm_r c2.symm (Y199 t0 x2 _ _ _ f post rfl h)))))
  · obtain ⟨cf, c1, c2, c3⟩ := D
    refine ⟨cf, (nI m - nI n) &&& 255, c1, qa_Bm _, ?_, ?_⟩
    · intro s0 post h1 h2 h
      refine nm_r h1 (br_f (by decide) (br_f (by decide) (br_f (by decide) (br_t rfl (nm_e (mx_c94 (by omega) c2 h))))))
    · intro t0 x2 f post h
      exact br_f (by decide) (br_f (by decide) (br_f (by decide) (br_t rfl (Y92 cf t0 x2 f post c3 h))))
  · have b := Bits (nI m &&& nI n) (qa_Band ⟨m, hm, rfl⟩ _)
    refine ⟨0, (nI m &&& nI n) &&& 255, Or.inl rfl, qa_Bm _, ?_, ?_⟩
    · intro s0 post h1 h2 h
      exact nm_r h1 (br_f (by decide) (br_f (by decide) (br_f (by decide) (br_f (by decide) (br_t rfl (nm_e (mx_c94 (by omega) b.2 h)))))))
    · intro t0 x2 f post h
      exact br_f (by decide) (br_f (by decide) (br_f (by decide) (br_f (by decide) (br_t rfl (nm_e (Y199 t0 x2 _ _ _ f post rfl h))))))
  · have b := Bits (nI m ^^^ nI n) (qa_Bxor ⟨m, hm, rfl⟩ ⟨n, hn, rfl⟩)
    refine ⟨0, (nI m ^^^ nI n) &&& 255, Or.inl rfl, qa_Bm _, ?_, ?_⟩
    · intro s0 post h1 h2 h
      exact nm_r h1 (br_f (by decide) (br_f (by decide) (br_f (by decide) (br_f (by decide) (br_f (by decide) (br_t rfl (nm_e (mx_c94 (by omega) b.2 h))))))))
    · intro t0 x2 f post h
      exact br_f (by decide) (br_f (by decide) (br_f (by decide) (br_f (by decide) (br_f (by decide) (br_t rfl (nm_e (Y199 t0 x2 _ _ _ f post rfl h)))))))
  · obtain ⟨cf, c1, c2, c3⟩ := D
    refine ⟨cf, (nI m - nI n) &&& 255, c1, qa_Bm _, ?_, ?_⟩
    · intro s0 post h1 h2 h
      refine nm_r h1 (br_f (by decide) (br_f (by decide) (br_f (by decide) (br_f (by decide) (br_f (by decide) (br_f (by decide) (br_t rfl (nm_e (mx_c94 (by omega) c2 h)))))))))
    · intro t0 x2 f post h
      exact br_f (by decide) (br_f (by decide) (br_f (by decide) (br_f (by decide) (br_f (by decide) (br_f (by decide) (fun _ => Y92 cf t0 x2 f post c3 h))))))
  · obtain ⟨cf, c1, c2, c3⟩ := S (m + n + q) (by omega)
    rw [← nI_add, ← nI_add] at c2 c3
    refine ⟨cf, ((nI m + nI n) + nI q) &&& 255, c1, qa_Bm _, ?_, ?_⟩
    · intro s0 post h1 h2 h
      refine nm_r h1 (br_f (by decide) (br_t (by decide) (nm_r (e' := (nI m + nI n) + nI q) (by rw [h2]) (mx_c94 (by omega) c3 h))))
    · intro t0 x2 f post h
      exact br_f (by decide) (br_t (by decide) (nm_e (nm_r c2.symm (Y199 t0 x2 _ _ _ f post rfl h))))
end
end
section
/-! the plain instructions: both sides -/
theorem hr_cml {l z : Int32} {s t : Nat → Int32} (M : hr_cm l z s t) : s 264 = l := M.2.2.2.2.2.2.2.2.2.2.2.2.2.2.2.2.1
theorem op_0 : op_T 0 0 := by
  intro x1 l sa da rn cn sb p s sv iv c t tv jv e hp hlb H M N
  obtain ⟨s', t', R, hE, hY⟩ := en_gen (sa := sa) (da := da) (rn := rn) (cn := cn) (sv := sv) (iv := iv) (c := c) (sb := sb) (tv := tv) (jv := jv) (e := e) (s := s) (t := t) (l := l) (o := nI 0) (fun a => a) (fun a => qa_ag0) (qa_agU (qa_agU qa_ag0 (by omega)) (by omega)) rfl rfl (by decide) (by decide) (by decide) (by decide) (hr_cml M) hlb (H) (M)
    (fun Q h => by
        exact br_f (by decide) (br_t (by decide) h))
    (fun Q h => by
        exact br_f (by decide) (br_t (by decide) h))
  refine ⟨0, 0, s', t', _, e, t, da, rn, cn, ?_, Or.inl ⟨rfl, rfl, hE⟩, op_Dof R (hr_ct0 N), by omega, ?_, hY⟩
  · exact Or.inr ⟨by omega, fun post h => br_t (by decide) h⟩
  · exact Or.inl ⟨by omega, fun Q h => br_f (by decide) (br_t (by decide) (br_t (by decide) h))⟩
theorem op_4 : op_T 4 0 := by
  intro x1 l sa da rn cn sb p s sv iv c t tv jv e hp hlb H M N
  obtain ⟨s1, t1, c1, e1, rn1, cn1, r1, H1, M1, ct1, f1, B1, X1, Y1⟩ := mp_pull (sa := sa) (dg := nI 4) (da := da) (rn := rn) (cn := cn) (sv := sv) (iv := iv) (sb := sb) (tv := tv) (jv := jv) (st := 52) (st' := 3)  (by decide) (by decide) H M N
  obtain ⟨s2, t2, c2, e2, rn2, cn2, H2, M2, ct2, f2, X2, Y2⟩ := mp_nop (sa := sa) (dg := nI 4) (da := r1) (rn := rn1) (cn := cn1) (sv := sv) (iv := iv) (sb := sb) (tv := tv) (jv := jv) (st := 3) (st' := 0)  (by decide) (by decide) H1 M1 ct1.2.2.2
  obtain ⟨s', t', R, hE, hY⟩ := en_gen (sa := sa) (da := r1) (rn := rn2) (cn := cn2) (sv := sv) (iv := iv) (c := c2) (sb := sb) (tv := tv) (jv := jv) (e := e2) (s := s2) (t := upd t2 260 r1) (l := l) (o := nI 4) (fun a => upd a 260 r1) (fun a => qa_agU qa_ag0 (by omega)) (qa_agB (qa_agU (qa_agU qa_ag0 (by omega)) (by omega))) rfl rfl (by decide) (by decide) (by decide) (by decide) (hr_cml M2) hlb (hr_HwY H2 (by omega)) (hr_cmB M2 (by omega) B1 rfl)
    (fun Q h => by
        exact br_f (by decide) (br_f (by decide) (br_f (by decide) (br_f (by decide) (br_f (by decide) (br_f (by decide) (br_t rfl (nm_e h))))))))
    (fun Q h => by
        exact br_f (by decide) (br_f (by decide) (br_f (by decide) (br_f (by decide) (br_f (by decide) (br_f (by decide) (br_t rfl (nm_e h))))))))
  refine ⟨52, 2, s', t', _, e2, upd t2 260 r1, r1, rn2, cn2, ?_, Or.inr ⟨by decide, 1, rfl, st_cons (by omega) X1 (by decide) (st_last X2 hE)⟩, op_Dof R (hr_ctT ct1 ct2), by omega, ?_, hY⟩
  · exact Or.inr ⟨by omega, fun post h => br_f (by decide) (br_f (by decide) (br_t rfl h))⟩
  · refine Or.inl ⟨by omega, fun Q h => br_f (by decide) (br_t (by decide) (br_f (by decide) (br_f (by decide) (br_f (by decide) (br_f (by decide) (br_t rfl ?_))))))⟩
    unfold wY_simple_104
    refine Y1 _ ?_
    refine Y2 _ ?_
    exact nm_e (br_f (by decide) h)
theorem op_6 : op_T 6 0 := by
  intro x1 l sa da rn cn sb p s sv iv c t tv jv e hp hlb H M N
  obtain ⟨s1, t1, c1, e1, rn1, cn1, H1, M1, ct1, f1, X1, Y1⟩ := mp_nop (sa := sa) (dg := nI 6) (da := da) (rn := rn) (cn := cn) (sv := sv) (iv := iv) (sb := sb) (tv := tv) (jv := jv) (st := 83) (st' := 5)  (by decide) (by decide) H M N
  obtain ⟨s2, t2, c2, e2, rn2, cn2, H2, M2, ct2, X2, Y2⟩ := mp_pusha (sa := sa) (dg := nI 6) (da := da) (rn := rn1) (cn := cn1) (sv := sv) (iv := iv) (sb := sb) (tv := tv) (jv := jv) (st := 5) (st' := 0) (hd := rfl) (by decide) (by decide) H1 M1 ct1.2.2.2
  obtain ⟨s', t', R, hE, hY⟩ := en_gen (sa := sa) (da := da) (rn := rn2) (cn := cn2) (sv := sv) (iv := iv) (c := c2) (sb := sb) (tv := tv) (jv := jv) (e := e2) (s := s2) (t := t2) (l := l) (o := nI 6) (fun a => a) (fun a => qa_ag0) (qa_agU (qa_agU qa_ag0 (by omega)) (by omega)) rfl rfl (by decide) (by decide) (by decide) (by decide) (hr_cml M2) hlb (H2) (M2)
    (fun Q h => by
        exact br_f (by decide) (br_f (by decide) (br_f (by decide) (br_f (by decide) (br_f (by decide) (br_f (by decide) (br_f (by decide) (br_f (by decide) (br_t rfl h)))))))))
    (fun Q h => by
        exact br_f (by decide) (br_f (by decide) (br_f (by decide) (br_f (by decide) (br_f (by decide) (br_f (by decide) (br_f (by decide) (br_f (by decide) (br_t rfl h)))))))))
  refine ⟨83, 2, s', t', _, e2, t2, da, rn2, cn2, ?_, Or.inr ⟨by decide, 1, rfl, st_cons (by omega) X1 (by decide) (st_last X2 hE)⟩, op_Dof R (hr_ctT ct1 ct2), by omega, ?_, hY⟩
  · exact Or.inr ⟨by omega, fun post h => br_f (by decide) (br_f (by decide) (br_f (by decide) (br_f (by decide) (br_t rfl h))))⟩
  · refine Or.inl ⟨by omega, fun Q h => br_f (by decide) (br_t (by decide) (br_f (by decide) (br_f (by decide) (br_f (by decide) (br_f (by decide) (br_f (by decide) (br_f (by decide) (br_t rfl ?_))))))))⟩
    refine Y1 _ ?_
    exact Y2 _ h
theorem op_7 : op_T 7 0 := by
  intro x1 l sa da rn cn sb p s sv iv c t tv jv e hp hlb H M N
  obtain ⟨s1, t1, c1, e1, rn1, cn1, r1, H1, M1, ct1, f1, B1, X1, Y1⟩ := mp_pull (sa := sa) (dg := nI 7) (da := da) (rn := rn) (cn := cn) (sv := sv) (iv := iv) (sb := sb) (tv := tv) (jv := jv) (st := 4) (st' := 0)  (by decide) (by decide) H M N
  obtain ⟨s', t', R, hE, hY⟩ := en_gen (sa := sa) (da := r1) (rn := rn1) (cn := cn1) (sv := sv) (iv := iv) (c := c1) (sb := sb) (tv := tv) (jv := jv) (e := e1) (s := s1) (t := upd t1 256 r1) (l := l) (o := nI 7) (fun a => upd a 256 r1) (fun a => qa_agU qa_ag0 (by omega)) (qa_agB (qa_agU (qa_agU qa_ag0 (by omega)) (by omega))) rfl rfl (by decide) (by decide) (by decide) (by decide) (hr_cml M1) hlb (hr_HwY H1 (by omega)) (hr_cmB M1 (by omega) B1 rfl)
    (fun Q h => by
        exact br_f (by decide) (br_f (by decide) (br_f (by decide) (br_f (by decide) (br_f (by decide) (br_f (by decide) (br_f (by decide) (br_f (by decide) (br_f (by decide) (br_t rfl (nm_e h)))))))))))
    (fun Q h => by
        exact br_f (by decide) (br_f (by decide) (br_f (by decide) (br_f (by decide) (br_f (by decide) (br_f (by decide) (br_f (by decide) (br_f (by decide) (br_f (by decide) (br_t rfl (nm_e h)))))))))))
  refine ⟨4, 1, s', t', _, e1, upd t1 256 r1, r1, rn1, cn1, ?_, Or.inr ⟨by decide, 0, rfl, st_last X1 hE⟩, op_Dof R ct1, by omega, ?_, hY⟩
  · exact Or.inr ⟨by omega, fun post h => br_f (by decide) (br_f (by decide) (br_f (by decide) (br_f (by decide) (br_f (by decide) (br_t rfl h)))))⟩
  · refine Or.inl ⟨by omega, fun Q h => br_f (by decide) (br_t (by decide) (br_f (by decide) (br_f (by decide) (br_f (by decide) (br_f (by decide) (br_f (by decide) (br_f (by decide) (br_f (by decide) (br_t rfl ?_)))))))))⟩
    exact Y1 _ (nm_e h)
theorem op_8 : op_T 8 0 := by
  intro x1 l sa da rn cn sb p s sv iv c t tv jv e hp hlb H M N
  obtain ⟨s1, t1, c1, e1, rn1, cn1, r1, H1, M1, ct1, f1, B1, X1, Y1⟩ := mp_next (sa := sa) (dg := nI 8) (da := da) (rn := rn) (cn := cn) (sv := sv) (iv := iv) (sb := sb) (tv := tv) (jv := jv) (st := 50) (st' := 3)  (by decide) (by decide) H M N
  obtain ⟨s2, t2, c2, e2, rn2, cn2, H2, M2, ct2, f2, X2, Y2⟩ := mp_nop (sa := sa) (dg := nI 8) (da := r1) (rn := rn1) (cn := cn1) (sv := sv) (iv := iv) (sb := sb) (tv := tv) (jv := jv) (st := 3) (st' := 0)  (by decide) (by decide) H1 M1 ct1.2.2.2
  obtain ⟨s', t', R, hE, hY⟩ := en_gen (sa := sa) (da := r1) (rn := rn2) (cn := cn2) (sv := sv) (iv := iv) (c := c2) (sb := sb) (tv := tv) (jv := jv) (e := e2) (s := s2) (t := upd t2 260 r1) (l := l) (o := nI 8) (fun a => upd a 260 r1) (fun a => qa_agU qa_ag0 (by omega)) (qa_agB (qa_agU (qa_agU qa_ag0 (by omega)) (by omega))) rfl rfl (by decide) (by decide) (by decide) (by decide) (hr_cml M2) hlb (hr_HwY H2 (by omega)) (hr_cmB M2 (by omega) B1 rfl)
    (fun Q h => by
        refine br_f (by decide) (br_f (by decide) (br_f (by decide) (br_f (by decide) (br_f (by decide) (br_f (by decide) (br_f (by decide) (br_f (by decide) (br_f (by decide) (br_f (by decide) (br_t rfl ?_))))))))))
        unfold wX_endPlain_165 wpX_doesJump
        exact br_t (by decide) (br_f (by decide) (nm_e h)))
    (fun Q h => by
        refine br_f (by decide) (br_f (by decide) (br_f (by decide) (br_f (by decide) (br_f (by decide) (br_f (by decide) (br_f (by decide) (br_f (by decide) (br_f (by decide) (br_f (by decide) (br_t rfl ?_))))))))))
        unfold wX_endPlain_165 wpX_doesJump
        exact br_t (by decide) (br_f (by decide) (nm_e h)))
  refine ⟨50, 2, s', t', _, e2, upd t2 260 r1, r1, rn2, cn2, ?_, Or.inr ⟨by decide, 1, rfl, st_cons (by omega) X1 (by decide) (st_last X2 hE)⟩, op_Dof R (hr_ctT ct1 ct2), by omega, ?_, hY⟩
  · refine Or.inr ⟨by omega, fun post h => br_f (by decide) (br_f (by decide) (br_f (by decide) (br_f (by decide) (br_f (by decide) (br_f (by decide) (br_t rfl ?_))))))⟩
    unfold wX_plainSteps_76 wpX_doesJump
    exact br_t (by decide) (br_f (by decide) h)
  · refine Or.inl ⟨by omega, fun Q h => br_t rfl ?_⟩
    unfold wY_simple_12
    refine Y1 _ ?_
    refine br_f (by decide) (br_f (by decide) (br_f (by decide) (br_f (by decide) (br_f (by decide) (br_f (by decide) (br_f (by decide) (br_f (by decide) (br_t rfl ?_))))))))
    unfold wpY_go
    refine Y2 _ ?_
    exact nm_e h
theorem op_9 : op_T 9 0 := by
  intro x1 l sa da rn cn sb p s sv iv c t tv jv e hp hlb H M N
  by_cases kc : s 261 = 1
  · obtain ⟨s1, t1, c1, e1, rn1, cn1, r1, H1, M1, ct1, f1, B1, X1, Y1⟩ := mp_next (sa := sa) (dg := nI 9) (da := da) (rn := rn) (cn := cn) (sv := sv) (iv := iv) (sb := sb) (tv := tv) (jv := jv) (st := 50) (st' := 3)  (by decide) (by decide) H M N
    obtain ⟨s2, t2, c2, e2, rn2, cn2, H2, M2, ct2, f2, X2, Y2⟩ := mp_nop (sa := sa) (dg := nI 9) (da := r1) (rn := rn1) (cn := cn1) (sv := sv) (iv := iv) (sb := sb) (tv := tv) (jv := jv) (st := 3) (st' := 0)  (by decide) (by decide) H1 M1 ct1.2.2.2
    have kE : s2 261 = s 261 := ((f2 261 (by unfold hr_RG; omega)).trans (f1 261 (by unfold hr_RG; omega)))
    have kY : t1 261 = s 261 := (M1.2.2.2.2.2.1).trans (f1 261 (by unfold hr_RG; omega))
    obtain ⟨s', t', R, hE, hY⟩ := en_gen (sa := sa) (da := r1) (rn := rn2) (cn := cn2) (sv := sv) (iv := iv) (c := c2) (sb := sb) (tv := tv) (jv := jv) (e := e2) (s := s2) (t := upd t2 260 r1) (l := l) (o := nI 9) (fun a => upd a 260 r1) (fun a => qa_agU qa_ag0 (by omega)) (qa_agB (qa_agU (qa_agU qa_ag0 (by omega)) (by omega))) rfl rfl (by decide) (by decide) (by decide) (by decide) (hr_cml M2) hlb (hr_HwY H2 (by omega)) (hr_cmB M2 (by omega) B1 rfl)
      (fun Q h => by
          refine br_f (by decide) (br_f (by decide) (br_f (by decide) (br_f (by decide) (br_f (by decide) (br_f (by decide) (br_f (by decide) (br_f (by decide) (br_f (by decide) (br_f (by decide) (br_f (by decide) (br_t rfl ?_)))))))))))
          unfold wX_endPlain_165 wpX_doesJump
          exact br_f (by decide) (br_f (by decide) (br_t rfl (br_t (show s2 261 = 1 by rw [kE]; exact kc) (br_f (by decide) (nm_e h))))))
      (fun Q h => by
          refine br_f (by decide) (br_f (by decide) (br_f (by decide) (br_f (by decide) (br_f (by decide) (br_f (by decide) (br_f (by decide) (br_f (by decide) (br_f (by decide) (br_f (by decide) (br_f (by decide) (br_t rfl ?_)))))))))))
          unfold wX_endPlain_165 wpX_doesJump
          exact br_f (by decide) (br_f (by decide) (br_t rfl (br_t (show s2 261 = 1 by rw [kE]; exact kc) (br_f (by decide) (nm_e h))))))
    refine ⟨50, 2, s', t', _, e2, upd t2 260 r1, r1, rn2, cn2, ?_, Or.inr ⟨by decide, 1, rfl, st_cons (by omega) X1 (by decide) (st_last X2 hE)⟩, op_Dof R (hr_ctT ct1 ct2), by omega, ?_, hY⟩
    · refine Or.inr ⟨by omega, fun post h => br_f (by decide) (br_f (by decide) (br_f (by decide) (br_f (by decide) (br_f (by decide) (br_f (by decide) (br_f (by decide) (br_t rfl ?_)))))))⟩
      unfold wX_plainSteps_76 wpX_doesJump
      exact br_f (by decide) (br_f (by decide) (br_t rfl (br_t kc (br_f (by decide) h))))
    · refine Or.inl ⟨by omega, fun Q h => br_f (by decide) (br_f (by decide) ?_)⟩
      unfold wY_simple_12
      refine Y1 _ ?_
      refine br_f (by decide) (br_f (by decide) (br_f (by decide) (br_f (by decide) (br_f (by decide) (br_f (by decide) (br_f (by decide) (br_f (by decide) (br_f (by decide) (br_t rfl (br_t (show t1 261 = 1 by rw [kY]; exact kc) ?_))))))))))
      unfold wpY_go
      refine Y2 _ ?_
      exact nm_e h
  · obtain ⟨s1, t1, c1, e1, rn1, cn1, r1, H1, M1, ct1, f1, B1, X1, Y1⟩ := mp_next (sa := sa) (dg := nI 9) (da := da) (rn := rn) (cn := cn) (sv := sv) (iv := iv) (sb := sb) (tv := tv) (jv := jv) (st := 2) (st' := 0)  (by decide) (by decide) H M N
    have kE : s1 261 = s 261 := ((f1 261 (by unfold hr_RG; omega)))
    have kY : t1 261 = s 261 := (M1.2.2.2.2.2.1).trans (f1 261 (by unfold hr_RG; omega))
    obtain ⟨s', t', R, hE, hY⟩ := en_gen (sa := sa) (da := r1) (rn := rn1) (cn := cn1) (sv := sv) (iv := iv) (c := c1) (sb := sb) (tv := tv) (jv := jv) (e := e1) (s := s1) (t := t1) (l := l) (o := nI 9) (fun a => a) (fun a => qa_ag0) (qa_agU (qa_agU qa_ag0 (by omega)) (by omega)) rfl rfl (by decide) (by decide) (by decide) (by decide) (hr_cml M1) hlb (H1) (M1)
      (fun Q h => by
          refine br_f (by decide) (br_f (by decide) (br_f (by decide) (br_f (by decide) (br_f (by decide) (br_f (by decide) (br_f (by decide) (br_f (by decide) (br_f (by decide) (br_f (by decide) (br_f (by decide) (br_t rfl ?_)))))))))))
          unfold wX_endPlain_165 wpX_doesJump
          exact br_f (by decide) (br_f (by decide) (br_t rfl (br_f (show ¬ s1 261 = 1 by rw [kE]; exact kc) (br_t rfl h)))))
      (fun Q h => by
          refine br_f (by decide) (br_f (by decide) (br_f (by decide) (br_f (by decide) (br_f (by decide) (br_f (by decide) (br_f (by decide) (br_f (by decide) (br_f (by decide) (br_f (by decide) (br_f (by decide) (br_t rfl ?_)))))))))))
          unfold wX_endPlain_165 wpX_doesJump
          exact br_f (by decide) (br_f (by decide) (br_t rfl (br_f (show ¬ s1 261 = 1 by rw [kE]; exact kc) (br_t rfl h)))))
    refine ⟨2, 1, s', t', _, e1, t1, r1, rn1, cn1, ?_, Or.inr ⟨by decide, 0, rfl, st_last X1 hE⟩, op_Dof R ct1, by omega, ?_, hY⟩
    · refine Or.inr ⟨by omega, fun post h => br_f (by decide) (br_f (by decide) (br_f (by decide) (br_f (by decide) (br_f (by decide) (br_f (by decide) (br_f (by decide) (br_t rfl ?_)))))))⟩
      unfold wX_plainSteps_76 wpX_doesJump
      exact br_f (by decide) (br_f (by decide) (br_t rfl (br_f kc (br_t rfl h))))
    · refine Or.inl ⟨by omega, fun Q h => br_f (by decide) (br_f (by decide) ?_)⟩
      unfold wY_simple_12
      refine Y1 _ ?_
      refine br_f (by decide) (br_f (by decide) (br_f (by decide) (br_f (by decide) (br_f (by decide) (br_f (by decide) (br_f (by decide) (br_f (by decide) (br_f (by decide) (br_t rfl (br_f (show ¬ t1 261 = 1 by rw [kY]; exact kc) ?_))))))))))
      exact h
theorem op_10 : op_T 10 0 := by
  intro x1 l sa da rn cn sb p s sv iv c t tv jv e hp hlb H M N
  by_cases kc : s 261 = 0
  · obtain ⟨s1, t1, c1, e1, rn1, cn1, r1, H1, M1, ct1, f1, B1, X1, Y1⟩ := mp_next (sa := sa) (dg := nI 10) (da := da) (rn := rn) (cn := cn) (sv := sv) (iv := iv) (sb := sb) (tv := tv) (jv := jv) (st := 50) (st' := 3)  (by decide) (by decide) H M N
    obtain ⟨s2, t2, c2, e2, rn2, cn2, H2, M2, ct2, f2, X2, Y2⟩ := mp_nop (sa := sa) (dg := nI 10) (da := r1) (rn := rn1) (cn := cn1) (sv := sv) (iv := iv) (sb := sb) (tv := tv) (jv := jv) (st := 3) (st' := 0)  (by decide) (by decide) H1 M1 ct1.2.2.2
    have kE : s2 261 = s 261 := ((f2 261 (by unfold hr_RG; omega)).trans (f1 261 (by unfold hr_RG; omega)))
    have kY : t1 261 = s 261 := (M1.2.2.2.2.2.1).trans (f1 261 (by unfold hr_RG; omega))
    obtain ⟨s', t', R, hE, hY⟩ := en_gen (sa := sa) (da := r1) (rn := rn2) (cn := cn2) (sv := sv) (iv := iv) (c := c2) (sb := sb) (tv := tv) (jv := jv) (e := e2) (s := s2) (t := upd t2 260 r1) (l := l) (o := nI 10) (fun a => upd a 260 r1) (fun a => qa_agU qa_ag0 (by omega)) (qa_agB (qa_agU (qa_agU qa_ag0 (by omega)) (by omega))) rfl rfl (by decide) (by decide) (by decide) (by decide) (hr_cml M2) hlb (hr_HwY H2 (by omega)) (hr_cmB M2 (by omega) B1 rfl)
      (fun Q h => by
          refine br_f (by decide) (br_f (by decide) (br_f (by decide) (br_f (by decide) (br_f (by decide) (br_f (by decide) (br_f (by decide) (br_f (by decide) (br_f (by decide) (br_f (by decide) (br_f (by decide) (br_f (by decide) (br_t rfl ?_))))))))))))
          unfold wX_endPlain_165 wpX_doesJump
          exact br_f (by decide) (br_f (by decide) (br_f (by decide) (br_t rfl (br_t (show s2 261 = 0 by rw [kE]; exact kc) (br_f (by decide) (nm_e h)))))))
      (fun Q h => by
          refine br_f (by decide) (br_f (by decide) (br_f (by decide) (br_f (by decide) (br_f (by decide) (br_f (by decide) (br_f (by decide) (br_f (by decide) (br_f (by decide) (br_f (by decide) (br_f (by decide) (br_f (by decide) (br_t rfl ?_))))))))))))
          unfold wX_endPlain_165 wpX_doesJump
          exact br_f (by decide) (br_f (by decide) (br_f (by decide) (br_t rfl (br_t (show s2 261 = 0 by rw [kE]; exact kc) (br_f (by decide) (nm_e h)))))))
    refine ⟨50, 2, s', t', _, e2, upd t2 260 r1, r1, rn2, cn2, ?_, Or.inr ⟨by decide, 1, rfl, st_cons (by omega) X1 (by decide) (st_last X2 hE)⟩, op_Dof R (hr_ctT ct1 ct2), by omega, ?_, hY⟩
    · refine Or.inr ⟨by omega, fun post h => br_f (by decide) (br_f (by decide) (br_f (by decide) (br_f (by decide) (br_f (by decide) (br_f (by decide) (br_f (by decide) (br_f (by decide) (br_t rfl ?_))))))))⟩
      unfold wX_plainSteps_76 wpX_doesJump
      exact br_f (by decide) (br_f (by decide) (br_f (by decide) (br_t rfl (br_t kc (br_f (by decide) h)))))
    · refine Or.inl ⟨by omega, fun Q h => br_f (by decide) (br_f (by decide) ?_)⟩
      unfold wY_simple_12
      refine Y1 _ ?_
      refine br_f (by decide) (br_f (by decide) (br_f (by decide) (br_f (by decide) (br_f (by decide) (br_f (by decide) (br_f (by decide) (br_f (by decide) (br_f (by decide) (br_f (by decide) (br_t rfl (br_t (show t1 261 = 0 by rw [kY]; exact kc) ?_)))))))))))
      unfold wpY_go
      refine Y2 _ ?_
      exact nm_e h
  · obtain ⟨s1, t1, c1, e1, rn1, cn1, r1, H1, M1, ct1, f1, B1, X1, Y1⟩ := mp_next (sa := sa) (dg := nI 10) (da := da) (rn := rn) (cn := cn) (sv := sv) (iv := iv) (sb := sb) (tv := tv) (jv := jv) (st := 2) (st' := 0)  (by decide) (by decide) H M N
    have kE : s1 261 = s 261 := ((f1 261 (by unfold hr_RG; omega)))
    have kY : t1 261 = s 261 := (M1.2.2.2.2.2.1).trans (f1 261 (by unfold hr_RG; omega))
    obtain ⟨s', t', R, hE, hY⟩ := en_gen (sa := sa) (da := r1) (rn := rn1) (cn := cn1) (sv := sv) (iv := iv) (c := c1) (sb := sb) (tv := tv) (jv := jv) (e := e1) (s := s1) (t := t1) (l := l) (o := nI 10) (fun a => a) (fun a => qa_ag0) (qa_agU (qa_agU qa_ag0 (by omega)) (by omega)) rfl rfl (by decide) (by decide) (by decide) (by decide) (hr_cml M1) hlb (H1) (M1)
      (fun Q h => by
          refine br_f (by decide) (br_f (by decide) (br_f (by decide) (br_f (by decide) (br_f (by decide) (br_f (by decide) (br_f (by decide) (br_f (by decide) (br_f (by decide) (br_f (by decide) (br_f (by decide) (br_f (by decide) (br_t rfl ?_))))))))))))
          unfold wX_endPlain_165 wpX_doesJump
          exact br_f (by decide) (br_f (by decide) (br_f (by decide) (br_t rfl (br_f (show ¬ s1 261 = 0 by rw [kE]; exact kc) (br_t rfl h))))))
      (fun Q h => by
          refine br_f (by decide) (br_f (by decide) (br_f (by decide) (br_f (by decide) (br_f (by decide) (br_f (by decide) (br_f (by decide) (br_f (by decide) (br_f (by decide) (br_f (by decide) (br_f (by decide) (br_f (by decide) (br_t rfl ?_))))))))))))
          unfold wX_endPlain_165 wpX_doesJump
          exact br_f (by decide) (br_f (by decide) (br_f (by decide) (br_t rfl (br_f (show ¬ s1 261 = 0 by rw [kE]; exact kc) (br_t rfl h))))))
    refine ⟨2, 1, s', t', _, e1, t1, r1, rn1, cn1, ?_, Or.inr ⟨by decide, 0, rfl, st_last X1 hE⟩, op_Dof R ct1, by omega, ?_, hY⟩
    · refine Or.inr ⟨by omega, fun post h => br_f (by decide) (br_f (by decide) (br_f (by decide) (br_f (by decide) (br_f (by decide) (br_f (by decide) (br_f (by decide) (br_f (by decide) (br_t rfl ?_))))))))⟩
      unfold wX_plainSteps_76 wpX_doesJump
      exact br_f (by decide) (br_f (by decide) (br_f (by decide) (br_t rfl (br_f kc (br_t rfl h)))))
    · refine Or.inl ⟨by omega, fun Q h => br_f (by decide) (br_f (by decide) ?_)⟩
      unfold wY_simple_12
      refine Y1 _ ?_
      refine br_f (by decide) (br_f (by decide) (br_f (by decide) (br_f (by decide) (br_f (by decide) (br_f (by decide) (br_f (by decide) (br_f (by decide) (br_f (by decide) (br_f (by decide) (br_t rfl (br_f (show ¬ t1 261 = 0 by rw [kY]; exact kc) ?_)))))))))))
      exact h
theorem op_11 : op_T 11 0 := by
  intro x1 l sa da rn cn sb p s sv iv c t tv jv e hp hlb H M N
  by_cases kc : s 262 = 1
  · obtain ⟨s1, t1, c1, e1, rn1, cn1, r1, H1, M1, ct1, f1, B1, X1, Y1⟩ := mp_next (sa := sa) (dg := nI 11) (da := da) (rn := rn) (cn := cn) (sv := sv) (iv := iv) (sb := sb) (tv := tv) (jv := jv) (st := 50) (st' := 3)  (by decide) (by decide) H M N
    obtain ⟨s2, t2, c2, e2, rn2, cn2, H2, M2, ct2, f2, X2, Y2⟩ := mp_nop (sa := sa) (dg := nI 11) (da := r1) (rn := rn1) (cn := cn1) (sv := sv) (iv := iv) (sb := sb) (tv := tv) (jv := jv) (st := 3) (st' := 0)  (by decide) (by decide) H1 M1 ct1.2.2.2
    have kE : s2 262 = s 262 := ((f2 262 (by unfold hr_RG; omega)).trans (f1 262 (by unfold hr_RG; omega)))
    have kY : t1 262 = s 262 := (M1.2.2.2.2.2.2.1).trans (f1 262 (by unfold hr_RG; omega))
    obtain ⟨s', t', R, hE, hY⟩ := en_gen (sa := sa) (da := r1) (rn := rn2) (cn := cn2) (sv := sv) (iv := iv) (c := c2) (sb := sb) (tv := tv) (jv := jv) (e := e2) (s := s2) (t := upd t2 260 r1) (l := l) (o := nI 11) (fun a => upd a 260 r1) (fun a => qa_agU qa_ag0 (by omega)) (qa_agB (qa_agU (qa_agU qa_ag0 (by omega)) (by omega))) rfl rfl (by decide) (by decide) (by decide) (by decide) (hr_cml M2) hlb (hr_HwY H2 (by omega)) (hr_cmB M2 (by omega) B1 rfl)
      (fun Q h => by
          refine br_f (by decide) (br_f (by decide) (br_f (by decide) (br_f (by decide) (br_f (by decide) (br_f (by decide) (br_f (by decide) (br_f (by decide) (br_f (by decide) (br_f (by decide) (br_f (by decide) (br_f (by decide) (br_f (by decide) (br_t rfl ?_)))))))))))))
          unfold wX_endPlain_165 wpX_doesJump
          exact br_f (by decide) (br_f (by decide) (br_f (by decide) (br_f (by decide) (br_t rfl (br_t (show s2 262 = 1 by rw [kE]; exact kc) (br_f (by decide) (nm_e h))))))))
      (fun Q h => by
          refine br_f (by decide) (br_f (by decide) (br_f (by decide) (br_f (by decide) (br_f (by decide) (br_f (by decide) (br_f (by decide) (br_f (by decide) (br_f (by decide) (br_f (by decide) (br_f (by decide) (br_f (by decide) (br_f (by decide) (br_t rfl ?_)))))))))))))
          unfold wX_endPlain_165 wpX_doesJump
          exact br_f (by decide) (br_f (by decide) (br_f (by decide) (br_f (by decide) (br_t rfl (br_t (show s2 262 = 1 by rw [kE]; exact kc) (br_f (by decide) (nm_e h))))))))
    refine ⟨50, 2, s', t', _, e2, upd t2 260 r1, r1, rn2, cn2, ?_, Or.inr ⟨by decide, 1, rfl, st_cons (by omega) X1 (by decide) (st_last X2 hE)⟩, op_Dof R (hr_ctT ct1 ct2), by omega, ?_, hY⟩
    · refine Or.inr ⟨by omega, fun post h => br_f (by decide) (br_f (by decide) (br_f (by decide) (br_f (by decide) (br_f (by decide) (br_f (by decide) (br_f (by decide) (br_f (by decide) (br_f (by decide) (br_t rfl ?_)))))))))⟩
      unfold wX_plainSteps_76 wpX_doesJump
      exact br_f (by decide) (br_f (by decide) (br_f (by decide) (br_f (by decide) (br_t rfl (br_t kc (br_f (by decide) h))))))
    · refine Or.inl ⟨by omega, fun Q h => br_f (by decide) (br_f (by decide) ?_)⟩
      unfold wY_simple_12
      refine Y1 _ ?_
      refine br_f (by decide) (br_f (by decide) (br_f (by decide) (br_f (by decide) (br_f (by decide) (br_f (by decide) (br_f (by decide) (br_f (by decide) (br_f (by decide) (br_f (by decide) (br_f (by decide) (br_t rfl (br_t (show t1 262 = 1 by rw [kY]; exact kc) ?_))))))))))))
      unfold wpY_go
      refine Y2 _ ?_
      exact nm_e h
  · obtain ⟨s1, t1, c1, e1, rn1, cn1, r1, H1, M1, ct1, f1, B1, X1, Y1⟩ := mp_next (sa := sa) (dg := nI 11) (da := da) (rn := rn) (cn := cn) (sv := sv) (iv := iv) (sb := sb) (tv := tv) (jv := jv) (st := 2) (st' := 0)  (by decide) (by decide) H M N
    have kE : s1 262 = s 262 := ((f1 262 (by unfold hr_RG; omega)))
    have kY : t1 262 = s 262 := (M1.2.2.2.2.2.2.1).trans (f1 262 (by unfold hr_RG; omega))
    obtain ⟨s', t', R, hE, hY⟩ := en_gen (sa := sa) (da := r1) (rn := rn1) (cn := cn1) (sv := sv) (iv := iv) (c := c1) (sb := sb) (tv := tv) (jv := jv) (e := e1) (s := s1) (t := t1) (l := l) (o := nI 11) (fun a => a) (fun a => qa_ag0) (qa_agU (qa_agU qa_ag0 (by omega)) (by omega)) rfl rfl (by decide) (by decide) (by decide) (by decide) (hr_cml M1) hlb (H1) (M1)
      (fun Q h => by
          refine br_f (by decide) (br_f (by decide) (br_f (by decide) (br_f (by decide) (br_f (by decide) (br_f (by decide) (br_f (by decide) (br_f (by decide) (br_f (by decide) (br_f (by decide) (br_f (by decide) (br_f (by decide) (br_f (by decide) (br_t rfl ?_)))))))))))))
          unfold wX_endPlain_165 wpX_doesJump
          exact br_f (by decide) (br_f (by decide) (br_f (by decide) (br_f (by decide) (br_t rfl (br_f (show ¬ s1 262 = 1 by rw [kE]; exact kc) (br_t rfl h)))))))
      (fun Q h => by
          refine br_f (by decide) (br_f (by decide) (br_f (by decide) (br_f (by decide) (br_f (by decide) (br_f (by decide) (br_f (by decide) (br_f (by decide) (br_f (by decide) (br_f (by decide) (br_f (by decide) (br_f (by decide) (br_f (by decide) (br_t rfl ?_)))))))))))))
          unfold wX_endPlain_165 wpX_doesJump
          exact br_f (by decide) (br_f (by decide) (br_f (by decide) (br_f (by decide) (br_t rfl (br_f (show ¬ s1 262 = 1 by rw [kE]; exact kc) (br_t rfl h)))))))
    refine ⟨2, 1, s', t', _, e1, t1, r1, rn1, cn1, ?_, Or.inr ⟨by decide, 0, rfl, st_last X1 hE⟩, op_Dof R ct1, by omega, ?_, hY⟩
    · refine Or.inr ⟨by omega, fun post h => br_f (by decide) (br_f (by decide) (br_f (by decide) (br_f (by decide) (br_f (by decide) (br_f (by decide) (br_f (by decide) (br_f (by decide) (br_f (by decide) (br_t rfl ?_)))))))))⟩
      unfold wX_plainSteps_76 wpX_doesJump
      exact br_f (by decide) (br_f (by decide) (br_f (by decide) (br_f (by decide) (br_t rfl (br_f kc (br_t rfl h))))))
    · refine Or.inl ⟨by omega, fun Q h => br_f (by decide) (br_f (by decide) ?_)⟩
      unfold wY_simple_12
      refine Y1 _ ?_
      refine br_f (by decide) (br_f (by decide) (br_f (by decide) (br_f (by decide) (br_f (by decide) (br_f (by decide) (br_f (by decide) (br_f (by decide) (br_f (by decide) (br_f (by decide) (br_f (by decide) (br_t rfl (br_f (show ¬ t1 262 = 1 by rw [kY]; exact kc) ?_))))))))))))
      exact h
theorem op_12 : op_T 12 0 := by
  intro x1 l sa da rn cn sb p s sv iv c t tv jv e hp hlb H M N
  obtain ⟨s1, t1, c1, e1, rn1, cn1, r1, H1, M1, ct1, f1, B1, X1, Y1⟩ := mp_next (sa := sa) (dg := nI 12) (da := da) (rn := rn) (cn := cn) (sv := sv) (iv := iv) (sb := sb) (tv := tv) (jv := jv) (st := 1330) (st' := 83)  (by decide) (by decide) H M N
  obtain ⟨s2, t2, c2, e2, rn2, cn2, H2, M2, ct2, f2, X2, Y2⟩ := mp_nop (sa := sa) (dg := nI 12) (da := r1) (rn := rn1) (cn := cn1) (sv := sv) (iv := iv) (sb := sb) (tv := tv) (jv := jv) (st := 83) (st' := 5)  (by decide) (by decide) H1 M1 ct1.2.2.2
  obtain ⟨s3, t3, c3, e3, rn3, cn3, H3, M3, ct3, X3, Y3⟩ := mp_pushp (sa := sa) (dg := nI 12) (da := r1) (rn := rn2) (cn := cn2) (sv := sv) (iv := iv) (sb := sb) (tv := tv) (jv := jv) (st := 5) (st' := 0) (hd := by decide) (by decide) (by decide) H2 M2 ct2.2.2.2
  obtain ⟨s', t', R, hE, hY⟩ := en_gen (sa := sa) (da := r1) (rn := rn3) (cn := cn3) (sv := sv) (iv := iv) (c := c3) (sb := sb) (tv := tv) (jv := jv) (e := e3) (s := s3) (t := upd t3 260 r1) (l := l) (o := nI 12) (fun a => upd a 260 r1) (fun a => qa_agU qa_ag0 (by omega)) (qa_agB (qa_agU (qa_agU qa_ag0 (by omega)) (by omega))) rfl rfl (by decide) (by decide) (by decide) (by decide) (hr_cml M3) hlb (hr_HwY H3 (by omega)) (hr_cmB M3 (by omega) B1 rfl)
    (fun Q h => by
        exact br_f (by decide) (br_f (by decide) (br_f (by decide) (br_f (by decide) (br_f (by decide) (br_f (by decide) (br_f (by decide) (br_f (by decide) (br_f (by decide) (br_f (by decide) (br_f (by decide) (br_f (by decide) (br_f (by decide) (br_f (by decide) (br_t rfl (nm_e h))))))))))))))))
    (fun Q h => by
        exact br_f (by decide) (br_f (by decide) (br_f (by decide) (br_f (by decide) (br_f (by decide) (br_f (by decide) (br_f (by decide) (br_f (by decide) (br_f (by decide) (br_f (by decide) (br_f (by decide) (br_f (by decide) (br_f (by decide) (br_f (by decide) (br_t rfl (nm_e h))))))))))))))))
  refine ⟨1330, 3, s', t', _, e3, upd t3 260 r1, r1, rn3, cn3, ?_, Or.inr ⟨by decide, 2, rfl, st_cons (by omega) X1 (by decide) (st_cons (by omega) X2 (by decide) (st_last X3 hE))⟩, op_Dof R (hr_ctT (hr_ctT ct1 ct2) ct3), by omega, ?_, hY⟩
  · exact Or.inr ⟨by omega, fun post h => br_f (by decide) (br_f (by decide) (br_f (by decide) (br_f (by decide) (br_f (by decide) (br_f (by decide) (br_f (by decide) (br_f (by decide) (br_f (by decide) (br_f (by decide) (br_t rfl h))))))))))⟩
  · refine Or.inl ⟨by omega, fun Q h => br_f (by decide) (br_f (by decide) ?_)⟩
    unfold wY_simple_12
    refine Y1 _ ?_
    refine br_f (by decide) (br_f (by decide) (br_f (by decide) (br_f (by decide) (br_f (by decide) (br_f (by decide) (br_f (by decide) (br_f (by decide) (br_f (by decide) (br_f (by decide) (br_f (by decide) (br_f (by decide) (br_t rfl ?_))))))))))))
    refine Y2 _ ?_
    refine Y3 _ ?_
    exact nm_e h
theorem op_13 : op_T 13 0 := by
  intro x1 l sa da rn cn sb p s sv iv c t tv jv e hp hlb H M N
  obtain ⟨s1, t1, c1, e1, rn1, cn1, r1, H1, M1, ct1, f1, B1, X1, Y1⟩ := mp_next (sa := sa) (dg := nI 13) (da := da) (rn := rn) (cn := cn) (sv := sv) (iv := iv) (sb := sb) (tv := tv) (jv := jv) (st := 130) (st' := 8)  (by decide) (by decide) H M N
  obtain ⟨s2, t2, c2, e2, rn2, cn2, r2, H2, M2, ct2, f2, B2, X2, Y2⟩ := mp_rdn (sa := sa) (dg := nI 13) (da := r1) (rn := rn1) (cn := cn1) (sv := sv) (iv := iv) (sb := sb) (tv := tv) (jv := jv) (st := 8) (st' := 0) B1 (by decide) (by decide) H1 M1 ct1.2.2.2
  obtain ⟨s', t', R, hE, hY⟩ := en_gen (sa := sa) (da := r2) (rn := rn2) (cn := cn2) (sv := sv) (iv := iv) (c := c2) (sb := sb) (tv := tv) (jv := jv) (e := e2) (s := s2) (t := upd t2 256 r2) (l := l) (o := nI 13) (fun a => upd a 256 r2) (fun a => qa_agU qa_ag0 (by omega)) (qa_agB (qa_agU (qa_agU qa_ag0 (by omega)) (by omega))) rfl rfl (by decide) (by decide) (by decide) (by decide) (hr_cml M2) hlb (hr_HwY H2 (by omega)) (hr_cmB M2 (by omega) B2 rfl)
    (fun Q h => by
        exact br_f (by decide) (br_f (by decide) (br_f (by decide) (br_f (by decide) (br_f (by decide) (br_f (by decide) (br_f (by decide) (br_f (by decide) (br_f (by decide) (br_f (by decide) (br_f (by decide) (br_f (by decide) (br_f (by decide) (br_f (by decide) (br_f (by decide) (br_t rfl (nm_e h)))))))))))))))))
    (fun Q h => by
        exact br_f (by decide) (br_f (by decide) (br_f (by decide) (br_f (by decide) (br_f (by decide) (br_f (by decide) (br_f (by decide) (br_f (by decide) (br_f (by decide) (br_f (by decide) (br_f (by decide) (br_f (by decide) (br_f (by decide) (br_f (by decide) (br_f (by decide) (br_t rfl (nm_e h)))))))))))))))))
  refine ⟨130, 2, s', t', _, e2, upd t2 256 r2, r2, rn2, cn2, ?_, Or.inr ⟨by decide, 1, rfl, st_cons (by omega) X1 (by decide) (st_last X2 hE)⟩, op_Dof R (hr_ctT ct1 ct2), by omega, ?_, hY⟩
  · exact Or.inr ⟨by omega, fun post h => br_f (by decide) (br_f (by decide) (br_f (by decide) (br_f (by decide) (br_f (by decide) (br_f (by decide) (br_f (by decide) (br_f (by decide) (br_f (by decide) (br_f (by decide) (br_f (by decide) (br_t rfl h)))))))))))⟩
  · refine Or.inl ⟨by omega, fun Q h => br_f (by decide) (br_f (by decide) ?_)⟩
    unfold wY_simple_12
    refine Y1 _ ?_
    refine br_f (by decide) (br_f (by decide) (br_f (by decide) (br_f (by decide) (br_f (by decide) (br_f (by decide) (br_f (by decide) (br_f (by decide) (br_f (by decide) (br_f (by decide) (br_f (by decide) (br_f (by decide) (br_f (by decide) (br_t rfl ?_)))))))))))))
    refine Y2 _ ?_
    exact nm_e h
theorem op_14 : op_T 14 0 := by
  intro x1 l sa da rn cn sb p s sv iv c t tv jv e hp hlb H M N
  obtain ⟨s1, t1, c1, e1, rn1, cn1, r1, H1, M1, ct1, f1, B1, X1, Y1⟩ := mp_next (sa := sa) (dg := nI 14) (da := da) (rn := rn) (cn := cn) (sv := sv) (iv := iv) (sb := sb) (tv := tv) (jv := jv) (st := 146) (st' := 9)  (by decide) (by decide) H M N
  obtain ⟨s2, t2, c2, e2, rn2, cn2, H2, M2, ct2, X2, Y2⟩ := mp_wrn (sa := sa) (dg := nI 14) (da := r1) (rn := rn1) (cn := cn1) (sv := sv) (iv := iv) (sb := sb) (tv := tv) (jv := jv) (st := 9) (st' := 0) B1 (by decide) (by decide) H1 M1 ct1.2.2.2
  obtain ⟨s', t', R, hE, hY⟩ := en_gen (sa := sa) (da := r1) (rn := rn2) (cn := cn2) (sv := sv) (iv := iv) (c := c2) (sb := sb) (tv := tv) (jv := jv) (e := e2) (s := s2) (t := t2) (l := l) (o := nI 14) (fun a => a) (fun a => qa_ag0) (qa_agU (qa_agU qa_ag0 (by omega)) (by omega)) rfl rfl (by decide) (by decide) (by decide) (by decide) (hr_cml M2) hlb (H2) (M2)
    (fun Q h => by
        exact br_f (by decide) (br_f (by decide) (br_f (by decide) (br_f (by decide) (br_f (by decide) (br_f (by decide) (br_f (by decide) (br_f (by decide) (br_f (by decide) (br_f (by decide) (br_f (by decide) (br_f (by decide) (br_f (by decide) (br_f (by decide) (br_f (by decide) (br_f (by decide) (br_t rfl h)))))))))))))))))
    (fun Q h => by
        exact br_f (by decide) (br_f (by decide) (br_f (by decide) (br_f (by decide) (br_f (by decide) (br_f (by decide) (br_f (by decide) (br_f (by decide) (br_f (by decide) (br_f (by decide) (br_f (by decide) (br_f (by decide) (br_f (by decide) (br_f (by decide) (br_f (by decide) (br_f (by decide) (br_t rfl h)))))))))))))))))
  refine ⟨146, 2, s', t', _, e2, t2, r1, rn2, cn2, ?_, Or.inr ⟨by decide, 1, rfl, st_cons (by omega) X1 (by decide) (st_last X2 hE)⟩, op_Dof R (hr_ctT ct1 ct2), by omega, ?_, hY⟩
  · exact Or.inr ⟨by omega, fun post h => br_f (by decide) (br_f (by decide) (br_f (by decide) (br_f (by decide) (br_f (by decide) (br_f (by decide) (br_f (by decide) (br_f (by decide) (br_f (by decide) (br_f (by decide) (br_f (by decide) (br_f (by decide) (br_t rfl h))))))))))))⟩
  · refine Or.inl ⟨by omega, fun Q h => br_f (by decide) (br_f (by decide) ?_)⟩
    unfold wY_simple_12
    refine Y1 _ ?_
    refine br_f (by decide) (br_f (by decide) (br_f (by decide) (br_f (by decide) (br_f (by decide) (br_f (by decide) (br_f (by decide) (br_f (by decide) (br_f (by decide) (br_f (by decide) (br_f (by decide) (br_f (by decide) (br_f (by decide) (br_f (by decide) (br_t rfl ?_))))))))))))))
    exact Y2 _ h
theorem op_15 : op_T 15 0 := by
  intro x1 l sa da rn cn sb p s sv iv c t tv jv e hp hlb H M N
  obtain ⟨s1, t1, c1, e1, rn1, cn1, r1, H1, M1, ct1, f1, B1, X1, Y1⟩ := mp_next (sa := sa) (dg := nI 15) (da := da) (rn := rn) (cn := cn) (sv := sv) (iv := iv) (sb := sb) (tv := tv) (jv := jv) (st := 2) (st' := 0)  (by decide) (by decide) H M N
  obtain ⟨s', t', R, hE, hY⟩ := en_gen (sa := sa) (da := r1) (rn := rn1) (cn := cn1) (sv := sv) (iv := iv) (c := c1) (sb := sb) (tv := tv) (jv := jv) (e := e1) (s := s1) (t := upd t1 259 r1) (l := l) (o := nI 15) (fun a => upd a 259 r1) (fun a => qa_agU qa_ag0 (by omega)) (qa_agB (qa_agU (qa_agU qa_ag0 (by omega)) (by omega))) rfl rfl (by decide) (by decide) (by decide) (by decide) (hr_cml M1) hlb (hr_HwY H1 (by omega)) (hr_cmB M1 (by omega) B1 rfl)
    (fun Q h => by
        exact br_f (by decide) (br_f (by decide) (br_f (by decide) (br_f (by decide) (br_f (by decide) (br_f (by decide) (br_f (by decide) (br_f (by decide) (br_f (by decide) (br_f (by decide) (br_f (by decide) (br_f (by decide) (br_f (by decide) (br_f (by decide) (br_f (by decide) (br_f (by decide) (br_f (by decide) (br_t rfl (nm_e h)))))))))))))))))))
    (fun Q h => by
        exact br_f (by decide) (br_f (by decide) (br_f (by decide) (br_f (by decide) (br_f (by decide) (br_f (by decide) (br_f (by decide) (br_f (by decide) (br_f (by decide) (br_f (by decide) (br_f (by decide) (br_f (by decide) (br_f (by decide) (br_f (by decide) (br_f (by decide) (br_f (by decide) (br_f (by decide) (br_t rfl (nm_e h)))))))))))))))))))
  refine ⟨2, 1, s', t', _, e1, upd t1 259 r1, r1, rn1, cn1, ?_, Or.inr ⟨by decide, 0, rfl, st_last X1 hE⟩, op_Dof R ct1, by omega, ?_, hY⟩
  · exact Or.inr ⟨by omega, fun post h => br_f (by decide) (br_f (by decide) (br_f (by decide) (br_f (by decide) (br_f (by decide) (br_f (by decide) (br_f (by decide) (br_f (by decide) (br_f (by decide) (br_f (by decide) (br_f (by decide) (br_f (by decide) (br_f (by decide) (br_t rfl h)))))))))))))⟩
  · refine Or.inl ⟨by omega, fun Q h => br_f (by decide) (br_f (by decide) ?_)⟩
    unfold wY_simple_12
    refine Y1 _ ?_
    exact br_f (by decide) (br_f (by decide) (br_f (by decide) (br_f (by decide) (br_f (by decide) (br_f (by decide) (br_f (by decide) (br_f (by decide) (br_f (by decide) (br_f (by decide) (br_f (by decide) (br_f (by decide) (br_f (by decide) (br_f (by decide) (br_f (by decide) (br_t rfl (nm_e h))))))))))))))))
end
section
/-! the instructions with r: both sides -/
section
variable {sa dg st da rn cn : Int32} {s sv iv c : Nat → Int32} {sb : Int32} {t tv jv e : Nat → Int32}
theorem ml_ceA {k : Nat} {cf v : Int32} (a : Nat → Int32) : qa_ag (fun i => i < 256 ∨ 266 ≤ i) a (ml_ce k cf v a) := by
  unfold ml_ce
  by_cases q : k = 7
  · rw [if_pos q]; exact qa_agU (qa_agU qa_ag0 (by omega)) (by omega)
  · rw [if_neg q]; exact qa_agU (qa_agU (qa_agU qa_ag0 (by omega)) (by omega)) (by omega)
theorem ml_ceB {P : Nat → Prop} {k : Nat} {cf v : Int32} {a b : Nat → Int32} (h : qa_ag P a b) : qa_ag P (ml_ce k cf v a) (ml_ce k cf v b) := by
  unfold ml_ce
  by_cases q : k = 7
  · rw [if_pos q, if_pos q]; exact qa_agB (qa_agB h)
  · rw [if_neg q, if_neg q]; exact qa_agB (qa_agB (qa_agB h))
theorem hr_cmE {l z : Int32} {k : Nat} {cf v : Int32} (M : hr_cm l z s t) (hc : qa_b cf) (hv : qa_B v) : hr_cm l z (ml_ce k cf v s) (ml_cy k cf v t) := by
  obtain ⟨m1, m2, m3, m4, m5, m6, m7, m8, B1, B2, B3, B4, B5, b1, b2, b3, g1, g2, g3, g4, g5⟩ := M
  unfold ml_ce ml_cy
  by_cases q : k = 7
  · rw [if_pos q, if_pos q]
    exact ⟨m1, m2, m3, m4, m5, rfl, rfl, m8, B1, B2, B3, B4, B5, ml_zfb _, hc, b3, g1, g2, g3, g4, g5⟩
  · rw [if_neg q, if_neg q]
    exact ⟨rfl, m2, m3, m4, m5, rfl, rfl, m8, hv, B2, B3, B4, B5, ml_zfb _, hc, b3, g1, g2, g3, g4, g5⟩
theorem ml_cyH {k : Nat} {cf v : Int32} (H : hr_Hw s t) : hr_Hw s (ml_cy k cf v t) := by
  unfold ml_cy
  by_cases q : k = 7
  · rw [if_pos q]; exact hr_HwY (hr_HwY H (by omega)) (by omega)
  · rw [if_neg q]; exact hr_HwY (hr_HwY (hr_HwY H (by omega)) (by omega)) (by omega)
theorem my_199c {Q : SY → Prop} {k : Nat} {x2 x5 x6 v : Int32} (hk : k = 8 ∨ k = 9 ∨ k = 10) (hv : x5 &&& 255 = v) (h : wpY_set (fun u => match u with | (a1, a2, a3, a4, a5) => Q (a1, a2, a3, a4, a5)) (sb, upd (upd t 261 (ml_zf v)) 262 x6, tv, jv, e) x2 v) : wY_reckon_199 Q (nI k) x2 x5 x6 sb t tv jv e := by
  have i1 : vp_in (261 : Int32) 512 := vp_in_nI (n := 261) (by omega) (by omega)
  have c1 : (261 : Int32).toNatClampNeg = 261 := nI_clamp (n := 261) (by omega)
  have k7 : ¬ nI k ≤ 7 := by rcases hk with rfl | rfl | rfl <;> decide
  have k11 : ¬ 11 ≤ nI k := by rcases hk with rfl | rfl | rfl <;> decide
  have g224 : ∀ z : Int32, z = ml_zf v → wY_reckon_224 Q (nI k) x2 v x6 z 261 sb t tv jv e := by
    intro z hz
    refine ⟨i1, nm_r (qa_up _ _ c1) (nm_e (br_f k7 (br_f k11 ?_)))⟩
    rw [hz]
    exact h
  refine nm_r hv ⟨fun q => g224 1 ?_, fun q => g224 0 ?_⟩
  · unfold ml_zf; rw [if_pos q]
  · unfold ml_zf; rw [if_neg q]
end
theorem op_16 : op_T 16 0 := by
  intro x1 l sa da rn cn sb p s sv iv c t tv jv e hp hlb H M N
  obtain ⟨s1, t1, c1, e1, rn1, cn1, r1, H1, M1, ct1, f1, B1, X1, Y1⟩ := mp_next (sa := sa) (dg := nI 16) (da := da) (rn := rn) (cn := cn) (sv := sv) (iv := iv) (sb := sb) (tv := tv) (jv := jv) (st := 2) (st' := 0)  (by decide) (by decide) H M N
  obtain ⟨s', t', R, hE, hY⟩ := en_gen (sa := sa) (da := r1) (rn := rn1) (cn := cn1) (sv := sv) (iv := iv) (c := c1) (sb := sb) (tv := tv) (jv := jv) (e := e1) (s := s1) (t := upd t1 256 r1) (l := l) (o := nI 16) (fun a => upd a 256 r1) (fun a => qa_agU qa_ag0 (by omega)) (qa_agB (qa_agU (qa_agU qa_ag0 (by omega)) (by omega))) rfl rfl (by decide) (by decide) (by decide) (by decide) (hr_cml M1) hlb (hr_HwY H1 (by omega)) (hr_cmB M1 (by omega) B1 rfl)
    (fun Q h => by
        refine br_t (by decide) ⟨by decide, nm_r (e' := nI 0) (by decide) ⟨by decide, nm_r (e' := nI 0) (by decide) (br_f (by decide) ⟨qa_ii 256 0 488 (by omega) (by omega), ?_⟩)⟩⟩
        rw [show ((256 : Int32) + nI 0).toNatClampNeg = 256 by decide]
        refine br_f (by decide) (br_t rfl ?_)
        exact br_f (by decide) (br_t rfl ⟨qa_ii 256 0 488 (by omega) (by omega), nm_r (qa_up _ _ (qa_ic 256 0 (by omega))) h⟩))
    (fun Q h => by
        refine br_t (by decide) ⟨by decide, nm_r (e' := nI 0) (by decide) ⟨by decide, nm_r (e' := nI 0) (by decide) (br_f (by decide) ⟨qa_ii 256 0 488 (by omega) (by omega), ?_⟩)⟩⟩
        rw [show ((256 : Int32) + nI 0).toNatClampNeg = 256 by decide]
        refine br_f (by decide) (br_t rfl ?_)
        exact br_f (by decide) (br_t rfl ⟨qa_ii 256 0 488 (by omega) (by omega), nm_r (qa_up _ _ (qa_ic 256 0 (by omega))) h⟩))
  refine ⟨2, 1, s', t', _, e1, upd t1 256 r1, r1, rn1, cn1, ?_, Or.inr ⟨by decide, 0, rfl, st_last X1 hE⟩, op_Dof R ct1, by omega, ?_, hY⟩
  · exact Or.inl ⟨by omega, fun post h => ⟨by decide, nm_r (e' := nI 0) (by decide) ⟨by decide, br_f (by decide) (br_t rfl h)⟩⟩⟩
  · refine Or.inr (Or.inl ⟨by omega, by omega, fun Q h => ?_⟩)
    rw [show (nI 16 - 16) / 4 = nI 0 by decide, show nI 16 &&& 3 = nI 0 by decide]
    refine br_t rfl ?_
    refine Y1 _ ?_
    exact br_f (by decide) ⟨qa_ii 256 0 512 (by omega) (by omega), nm_r (qa_up _ _ (qa_ic 256 0 (by omega))) h⟩
theorem op_17 : op_T 17 0 := by
  intro x1 l sa da rn cn sb p s sv iv c t tv jv e hp hlb H M N
  obtain ⟨s1, t1, c1, e1, rn1, cn1, r1, H1, M1, ct1, f1, B1, X1, Y1⟩ := mp_next (sa := sa) (dg := nI 17) (da := da) (rn := rn) (cn := cn) (sv := sv) (iv := iv) (sb := sb) (tv := tv) (jv := jv) (st := 2) (st' := 0)  (by decide) (by decide) H M N
  obtain ⟨s', t', R, hE, hY⟩ := en_gen (sa := sa) (da := r1) (rn := rn1) (cn := cn1) (sv := sv) (iv := iv) (c := c1) (sb := sb) (tv := tv) (jv := jv) (e := e1) (s := s1) (t := upd t1 257 r1) (l := l) (o := nI 17) (fun a => upd a 257 r1) (fun a => qa_agU qa_ag0 (by omega)) (qa_agB (qa_agU (qa_agU qa_ag0 (by omega)) (by omega))) rfl rfl (by decide) (by decide) (by decide) (by decide) (hr_cml M1) hlb (hr_HwY H1 (by omega)) (hr_cmB M1 (by omega) B1 rfl)
    (fun Q h => by
        refine br_t (by decide) ⟨by decide, nm_r (e' := nI 0) (by decide) ⟨by decide, nm_r (e' := nI 1) (by decide) (br_f (by decide) ⟨qa_ii 256 1 488 (by omega) (by omega), ?_⟩)⟩⟩
        rw [show ((256 : Int32) + nI 1).toNatClampNeg = 257 by decide]
        refine br_f (by decide) (br_t rfl ?_)
        exact br_f (by decide) (br_t rfl ⟨qa_ii 256 1 488 (by omega) (by omega), nm_r (qa_up _ _ (qa_ic 256 1 (by omega))) h⟩))
    (fun Q h => by
        refine br_t (by decide) ⟨by decide, nm_r (e' := nI 0) (by decide) ⟨by decide, nm_r (e' := nI 1) (by decide) (br_f (by decide) ⟨qa_ii 256 1 488 (by omega) (by omega), ?_⟩)⟩⟩
        rw [show ((256 : Int32) + nI 1).toNatClampNeg = 257 by decide]
        refine br_f (by decide) (br_t rfl ?_)
        exact br_f (by decide) (br_t rfl ⟨qa_ii 256 1 488 (by omega) (by omega), nm_r (qa_up _ _ (qa_ic 256 1 (by omega))) h⟩))
  refine ⟨2, 1, s', t', _, e1, upd t1 257 r1, r1, rn1, cn1, ?_, Or.inr ⟨by decide, 0, rfl, st_last X1 hE⟩, op_Dof R ct1, by omega, ?_, hY⟩
  · exact Or.inl ⟨by omega, fun post h => ⟨by decide, nm_r (e' := nI 0) (by decide) ⟨by decide, br_f (by decide) (br_t rfl h)⟩⟩⟩
  · refine Or.inr (Or.inl ⟨by omega, by omega, fun Q h => ?_⟩)
    rw [show (nI 17 - 16) / 4 = nI 0 by decide, show nI 17 &&& 3 = nI 1 by decide]
    refine br_t rfl ?_
    refine Y1 _ ?_
    exact br_f (by decide) ⟨qa_ii 256 1 512 (by omega) (by omega), nm_r (qa_up _ _ (qa_ic 256 1 (by omega))) h⟩
theorem op_18 : op_T 18 0 := by
  intro x1 l sa da rn cn sb p s sv iv c t tv jv e hp hlb H M N
  obtain ⟨s1, t1, c1, e1, rn1, cn1, r1, H1, M1, ct1, f1, B1, X1, Y1⟩ := mp_next (sa := sa) (dg := nI 18) (da := da) (rn := rn) (cn := cn) (sv := sv) (iv := iv) (sb := sb) (tv := tv) (jv := jv) (st := 2) (st' := 0)  (by decide) (by decide) H M N
  obtain ⟨s', t', R, hE, hY⟩ := en_gen (sa := sa) (da := r1) (rn := rn1) (cn := cn1) (sv := sv) (iv := iv) (c := c1) (sb := sb) (tv := tv) (jv := jv) (e := e1) (s := s1) (t := upd t1 258 r1) (l := l) (o := nI 18) (fun a => upd a 258 r1) (fun a => qa_agU qa_ag0 (by omega)) (qa_agB (qa_agU (qa_agU qa_ag0 (by omega)) (by omega))) rfl rfl (by decide) (by decide) (by decide) (by decide) (hr_cml M1) hlb (hr_HwY H1 (by omega)) (hr_cmB M1 (by omega) B1 rfl)
    (fun Q h => by
        refine br_t (by decide) ⟨by decide, nm_r (e' := nI 0) (by decide) ⟨by decide, nm_r (e' := nI 2) (by decide) (br_f (by decide) ⟨qa_ii 256 2 488 (by omega) (by omega), ?_⟩)⟩⟩
        rw [show ((256 : Int32) + nI 2).toNatClampNeg = 258 by decide]
        refine br_f (by decide) (br_t rfl ?_)
        exact br_f (by decide) (br_t rfl ⟨qa_ii 256 2 488 (by omega) (by omega), nm_r (qa_up _ _ (qa_ic 256 2 (by omega))) h⟩))
    (fun Q h => by
        refine br_t (by decide) ⟨by decide, nm_r (e' := nI 0) (by decide) ⟨by decide, nm_r (e' := nI 2) (by decide) (br_f (by decide) ⟨qa_ii 256 2 488 (by omega) (by omega), ?_⟩)⟩⟩
        rw [show ((256 : Int32) + nI 2).toNatClampNeg = 258 by decide]
        refine br_f (by decide) (br_t rfl ?_)
        exact br_f (by decide) (br_t rfl ⟨qa_ii 256 2 488 (by omega) (by omega), nm_r (qa_up _ _ (qa_ic 256 2 (by omega))) h⟩))
  refine ⟨2, 1, s', t', _, e1, upd t1 258 r1, r1, rn1, cn1, ?_, Or.inr ⟨by decide, 0, rfl, st_last X1 hE⟩, op_Dof R ct1, by omega, ?_, hY⟩
  · exact Or.inl ⟨by omega, fun post h => ⟨by decide, nm_r (e' := nI 0) (by decide) ⟨by decide, br_f (by decide) (br_t rfl h)⟩⟩⟩
  · refine Or.inr (Or.inl ⟨by omega, by omega, fun Q h => ?_⟩)
    rw [show (nI 18 - 16) / 4 = nI 0 by decide, show nI 18 &&& 3 = nI 2 by decide]
    refine br_t rfl ?_
    refine Y1 _ ?_
    exact br_f (by decide) ⟨qa_ii 256 2 512 (by omega) (by omega), nm_r (qa_up _ _ (qa_ic 256 2 (by omega))) h⟩
theorem op_19 : op_T 19 0 := by
  intro x1 l sa da rn cn sb p s sv iv c t tv jv e hp hlb H M N
  obtain ⟨s1, t1, c1, e1, rn1, cn1, r1, H1, M1, ct1, f1, B1, X1, Y1⟩ := mp_next (sa := sa) (dg := nI 19) (da := da) (rn := rn) (cn := cn) (sv := sv) (iv := iv) (sb := sb) (tv := tv) (jv := jv) (st := 114) (st' := 7)  (by decide) (by decide) H M N
  obtain ⟨s2, t2, c2, e2, rn2, cn2, H2, M2, ct2, X2, Y2⟩ := mp_wrp0 (sa := sa) (dg := nI 19) (da := r1) (rn := rn1) (cn := cn1) (sv := sv) (iv := iv) (sb := sb) (tv := tv) (jv := jv) (st := 7) (st' := 0) B1 (by decide) (by decide) (by decide) H1 M1 ct1.2.2.2
  obtain ⟨s', t', R, hE, hY⟩ := en_gen (sa := sa) (da := r1) (rn := rn2) (cn := cn2) (sv := sv) (iv := iv) (c := c2) (sb := sb) (tv := tv) (jv := jv) (e := e2) (s := s2) (t := t2) (l := l) (o := nI 19) (fun a => a) (fun a => qa_ag0) (qa_agU (qa_agU qa_ag0 (by omega)) (by omega)) rfl rfl (by decide) (by decide) (by decide) (by decide) (hr_cml M2) hlb (H2) (M2)
    (fun Q h => by
        refine br_t (by decide) ⟨by decide, nm_r (e' := nI 0) (by decide) ⟨by decide, nm_r (e' := nI 3) (by decide) (br_t rfl ?_)⟩⟩
        refine br_f (by decide) (br_t rfl ?_)
        exact br_t rfl h)
    (fun Q h => by
        refine br_t (by decide) ⟨by decide, nm_r (e' := nI 0) (by decide) ⟨by decide, nm_r (e' := nI 3) (by decide) (br_t rfl ?_)⟩⟩
        refine br_f (by decide) (br_t rfl ?_)
        exact br_t rfl h)
  refine ⟨114, 2, s', t', _, e2, t2, r1, rn2, cn2, ?_, Or.inr ⟨by decide, 1, rfl, st_cons (by omega) X1 (by decide) (st_last X2 hE)⟩, op_Dof R (hr_ctT ct1 ct2), by omega, ?_, hY⟩
  · exact Or.inl ⟨by omega, fun post h => ⟨by decide, nm_r (e' := nI 0) (by decide) ⟨by decide, br_t (by decide) (br_t rfl h)⟩⟩⟩
  · refine Or.inr (Or.inl ⟨by omega, by omega, fun Q h => ?_⟩)
    rw [show (nI 19 - 16) / 4 = nI 0 by decide, show nI 19 &&& 3 = nI 3 by decide]
    refine br_t rfl ?_
    refine Y1 _ ?_
    refine br_t rfl ?_
    exact Y2 _ h
theorem op_20 : op_T 20 0 := by
  intro x1 l sa da rn cn sb p s sv iv c t tv jv e hp hlb H M N
  obtain ⟨s', t', R, hE, hY⟩ := en_gen (sa := sa) (da := da) (rn := rn) (cn := cn) (sv := sv) (iv := iv) (c := c) (sb := sb) (tv := tv) (jv := jv) (e := e) (s := s) (t := upd t 256 (t 256)) (l := l) (o := nI 20) (fun a => upd a 256 (s 256)) (fun a => qa_agU qa_ag0 (by omega)) (qa_agB (qa_agU (qa_agU qa_ag0 (by omega)) (by omega))) rfl rfl (by decide) (by decide) (by decide) (by decide) (hr_cml M) hlb (hr_HwY H (by omega)) (hr_cmB M (by omega) (M.2.2.2.2.2.2.2.2.1) (M.1))
    (fun Q h => by
        refine br_t (by decide) ⟨by decide, nm_r (e' := nI 1) (by decide) ⟨by decide, nm_r (e' := nI 0) (by decide) (br_f (by decide) ⟨qa_ii 256 0 488 (by omega) (by omega), ?_⟩)⟩⟩
        rw [show ((256 : Int32) + nI 0).toNatClampNeg = 256 by decide]
        exact br_t rfl (nm_e h))
    (fun Q h => by
        refine br_t (by decide) ⟨by decide, nm_r (e' := nI 1) (by decide) ⟨by decide, nm_r (e' := nI 0) (by decide) (br_f (by decide) ⟨qa_ii 256 0 488 (by omega) (by omega), ?_⟩)⟩⟩
        rw [show ((256 : Int32) + nI 0).toNatClampNeg = 256 by decide]
        exact br_t rfl (nm_e h))
  refine ⟨0, 0, s', t', _, e, upd t 256 (t 256), da, rn, cn, ?_, Or.inl ⟨rfl, rfl, hE⟩, op_Dof R (hr_ct0 N), by omega, ?_, hY⟩
  · exact Or.inl ⟨by omega, fun post h => ⟨by decide, nm_r (e' := nI 1) (by decide) ⟨by decide, br_f (by decide) (br_f (by decide) h)⟩⟩⟩
  · refine Or.inr (Or.inl ⟨by omega, by omega, fun Q h => ?_⟩)
    rw [show (nI 20 - 16) / 4 = nI 1 by decide, show nI 20 &&& 3 = nI 0 by decide]
    refine br_f (by decide) (br_t rfl (br_f (by decide) ⟨qa_ii 256 0 512 (by omega) (by omega), ?_⟩))
    rw [show ((256 : Int32) + nI 0).toNatClampNeg = 256 by decide]
    exact nm_e h
theorem op_21 : op_T 21 0 := by
  intro x1 l sa da rn cn sb p s sv iv c t tv jv e hp hlb H M N
  obtain ⟨s', t', R, hE, hY⟩ := en_gen (sa := sa) (da := da) (rn := rn) (cn := cn) (sv := sv) (iv := iv) (c := c) (sb := sb) (tv := tv) (jv := jv) (e := e) (s := s) (t := upd t 256 (t 257)) (l := l) (o := nI 21) (fun a => upd a 256 (s 257)) (fun a => qa_agU qa_ag0 (by omega)) (qa_agB (qa_agU (qa_agU qa_ag0 (by omega)) (by omega))) rfl rfl (by decide) (by decide) (by decide) (by decide) (hr_cml M) hlb (hr_HwY H (by omega)) (hr_cmB M (by omega) (M.2.2.2.2.2.2.2.2.2.1) (M.2.1))
    (fun Q h => by
        refine br_t (by decide) ⟨by decide, nm_r (e' := nI 1) (by decide) ⟨by decide, nm_r (e' := nI 1) (by decide) (br_f (by decide) ⟨qa_ii 256 1 488 (by omega) (by omega), ?_⟩)⟩⟩
        rw [show ((256 : Int32) + nI 1).toNatClampNeg = 257 by decide]
        exact br_t rfl (nm_e h))
    (fun Q h => by
        refine br_t (by decide) ⟨by decide, nm_r (e' := nI 1) (by decide) ⟨by decide, nm_r (e' := nI 1) (by decide) (br_f (by decide) ⟨qa_ii 256 1 488 (by omega) (by omega), ?_⟩)⟩⟩
        rw [show ((256 : Int32) + nI 1).toNatClampNeg = 257 by decide]
        exact br_t rfl (nm_e h))
  refine ⟨0, 0, s', t', _, e, upd t 256 (t 257), da, rn, cn, ?_, Or.inl ⟨rfl, rfl, hE⟩, op_Dof R (hr_ct0 N), by omega, ?_, hY⟩
  · exact Or.inl ⟨by omega, fun post h => ⟨by decide, nm_r (e' := nI 1) (by decide) ⟨by decide, br_f (by decide) (br_f (by decide) h)⟩⟩⟩
  · refine Or.inr (Or.inl ⟨by omega, by omega, fun Q h => ?_⟩)
    rw [show (nI 21 - 16) / 4 = nI 1 by decide, show nI 21 &&& 3 = nI 1 by decide]
    refine br_f (by decide) (br_t rfl (br_f (by decide) ⟨qa_ii 256 1 512 (by omega) (by omega), ?_⟩))
    rw [show ((256 : Int32) + nI 1).toNatClampNeg = 257 by decide]
    exact nm_e h
theorem op_22 : op_T 22 0 := by
  intro x1 l sa da rn cn sb p s sv iv c t tv jv e hp hlb H M N
  obtain ⟨s', t', R, hE, hY⟩ := en_gen (sa := sa) (da := da) (rn := rn) (cn := cn) (sv := sv) (iv := iv) (c := c) (sb := sb) (tv := tv) (jv := jv) (e := e) (s := s) (t := upd t 256 (t 258)) (l := l) (o := nI 22) (fun a => upd a 256 (s 258)) (fun a => qa_agU qa_ag0 (by omega)) (qa_agB (qa_agU (qa_agU qa_ag0 (by omega)) (by omega))) rfl rfl (by decide) (by decide) (by decide) (by decide) (hr_cml M) hlb (hr_HwY H (by omega)) (hr_cmB M (by omega) (M.2.2.2.2.2.2.2.2.2.2.1) (M.2.2.1))
    (fun Q h => by
        refine br_t (by decide) ⟨by decide, nm_r (e' := nI 1) (by decide) ⟨by decide, nm_r (e' := nI 2) (by decide) (br_f (by decide) ⟨qa_ii 256 2 488 (by omega) (by omega), ?_⟩)⟩⟩
        rw [show ((256 : Int32) + nI 2).toNatClampNeg = 258 by decide]
        exact br_t rfl (nm_e h))
    (fun Q h => by
        refine br_t (by decide) ⟨by decide, nm_r (e' := nI 1) (by decide) ⟨by decide, nm_r (e' := nI 2) (by decide) (br_f (by decide) ⟨qa_ii 256 2 488 (by omega) (by omega), ?_⟩)⟩⟩
        rw [show ((256 : Int32) + nI 2).toNatClampNeg = 258 by decide]
        exact br_t rfl (nm_e h))
  refine ⟨0, 0, s', t', _, e, upd t 256 (t 258), da, rn, cn, ?_, Or.inl ⟨rfl, rfl, hE⟩, op_Dof R (hr_ct0 N), by omega, ?_, hY⟩
  · exact Or.inl ⟨by omega, fun post h => ⟨by decide, nm_r (e' := nI 1) (by decide) ⟨by decide, br_f (by decide) (br_f (by decide) h)⟩⟩⟩
  · refine Or.inr (Or.inl ⟨by omega, by omega, fun Q h => ?_⟩)
    rw [show (nI 22 - 16) / 4 = nI 1 by decide, show nI 22 &&& 3 = nI 2 by decide]
    refine br_f (by decide) (br_t rfl (br_f (by decide) ⟨qa_ii 256 2 512 (by omega) (by omega), ?_⟩))
    rw [show ((256 : Int32) + nI 2).toNatClampNeg = 258 by decide]
    exact nm_e h
theorem op_23 : op_T 23 0 := by
  intro x1 l sa da rn cn sb p s sv iv c t tv jv e hp hlb H M N
  obtain ⟨s1, t1, c1, e1, rn1, cn1, r1, H1, M1, ct1, f1, B1, X1, Y1⟩ := mp_rdp (sa := sa) (dg := nI 23) (da := da) (rn := rn) (cn := cn) (sv := sv) (iv := iv) (sb := sb) (tv := tv) (jv := jv) (st := 6) (st' := 0)  (by decide) (by decide) H M N
  obtain ⟨s', t', R, hE, hY⟩ := en_gen (sa := sa) (da := r1) (rn := rn1) (cn := cn1) (sv := sv) (iv := iv) (c := c1) (sb := sb) (tv := tv) (jv := jv) (e := e1) (s := s1) (t := upd t1 256 r1) (l := l) (o := nI 23) (fun a => upd a 256 r1) (fun a => qa_agU qa_ag0 (by omega)) (qa_agB (qa_agU (qa_agU qa_ag0 (by omega)) (by omega))) rfl rfl (by decide) (by decide) (by decide) (by decide) (hr_cml M1) hlb (hr_HwY H1 (by omega)) (hr_cmB M1 (by omega) B1 rfl)
    (fun Q h => by
        refine br_t (by decide) ⟨by decide, nm_r (e' := nI 1) (by decide) ⟨by decide, nm_r (e' := nI 3) (by decide) (br_t rfl ?_)⟩⟩
        exact br_t rfl (nm_e h))
    (fun Q h => by
        refine br_t (by decide) ⟨by decide, nm_r (e' := nI 1) (by decide) ⟨by decide, nm_r (e' := nI 3) (by decide) (br_t rfl ?_)⟩⟩
        exact br_t rfl (nm_e h))
  refine ⟨6, 1, s', t', _, e1, upd t1 256 r1, r1, rn1, cn1, ?_, Or.inr ⟨by decide, 0, rfl, st_last X1 hE⟩, op_Dof R ct1, by omega, ?_, hY⟩
  · refine Or.inl ⟨by omega, fun post h => ⟨by decide, nm_r (e' := nI 1) (by decide) ⟨by decide, br_t (by decide) (br_f (by decide) (br_f (by decide) ?_))⟩⟩⟩
    unfold wpX_isChange
    exact br_t (by decide) (br_t rfl h)
  · refine Or.inr (Or.inl ⟨by omega, by omega, fun Q h => ?_⟩)
    rw [show (nI 23 - 16) / 4 = nI 1 by decide, show nI 23 &&& 3 = nI 3 by decide]
    refine br_f (by decide) (br_t rfl (br_t rfl ?_))
    exact Y1 _ (nm_e h)
theorem op_24 : op_T 24 0 := by
  intro x1 l sa da rn cn sb p s sv iv c t tv jv e hp hlb H M N
  obtain ⟨s', t', R, hE, hY⟩ := en_gen (sa := sa) (da := da) (rn := rn) (cn := cn) (sv := sv) (iv := iv) (c := c) (sb := sb) (tv := tv) (jv := jv) (e := e) (s := s) (t := upd t 256 (t 256)) (l := l) (o := nI 24) (fun a => upd a 256 (s 256)) (fun a => qa_agU qa_ag0 (by omega)) (qa_agB (qa_agU (qa_agU qa_ag0 (by omega)) (by omega))) rfl rfl (by decide) (by decide) (by decide) (by decide) (hr_cml M) hlb (hr_HwY H (by omega)) (hr_cmB M (by omega) (M.2.2.2.2.2.2.2.2.1) (M.1))
    (fun Q h => by
        refine br_t (by decide) ⟨by decide, nm_r (e' := nI 2) (by decide) ⟨by decide, nm_r (e' := nI 0) (by decide) (br_f (by decide) ⟨qa_ii 256 0 488 (by omega) (by omega), ?_⟩)⟩⟩
        rw [show ((256 : Int32) + nI 0).toNatClampNeg = 256 by decide]
        refine br_f (by decide) (br_f (by decide) (br_t rfl ?_))
        exact br_f (by decide) (br_f (by decide) (br_t rfl ⟨qa_ii 256 0 488 (by omega) (by omega), nm_r (qa_up _ _ (qa_ic 256 0 (by omega))) h⟩)))
    (fun Q h => by
        refine br_t (by decide) ⟨by decide, nm_r (e' := nI 2) (by decide) ⟨by decide, nm_r (e' := nI 0) (by decide) (br_f (by decide) ⟨qa_ii 256 0 488 (by omega) (by omega), ?_⟩)⟩⟩
        rw [show ((256 : Int32) + nI 0).toNatClampNeg = 256 by decide]
        refine br_f (by decide) (br_f (by decide) (br_t rfl ?_))
        exact br_f (by decide) (br_f (by decide) (br_t rfl ⟨qa_ii 256 0 488 (by omega) (by omega), nm_r (qa_up _ _ (qa_ic 256 0 (by omega))) h⟩)))
  refine ⟨0, 0, s', t', _, e, upd t 256 (t 256), da, rn, cn, ?_, Or.inl ⟨rfl, rfl, hE⟩, op_Dof R (hr_ct0 N), by omega, ?_, hY⟩
  · exact Or.inl ⟨by omega, fun post h => ⟨by decide, nm_r (e' := nI 2) (by decide) ⟨by decide, br_f (by decide) (br_f (by decide) h)⟩⟩⟩
  · refine Or.inr (Or.inl ⟨by omega, by omega, fun Q h => ?_⟩)
    rw [show (nI 24 - 16) / 4 = nI 2 by decide, show nI 24 &&& 3 = nI 0 by decide]
    exact br_f (by decide) (br_f (by decide) (br_f (by decide) ⟨qa_ii 256 0 512 (by omega) (by omega), nm_r (qa_up _ _ (qa_ic 256 0 (by omega))) h⟩))
theorem op_25 : op_T 25 0 := by
  intro x1 l sa da rn cn sb p s sv iv c t tv jv e hp hlb H M N
  obtain ⟨s', t', R, hE, hY⟩ := en_gen (sa := sa) (da := da) (rn := rn) (cn := cn) (sv := sv) (iv := iv) (c := c) (sb := sb) (tv := tv) (jv := jv) (e := e) (s := s) (t := upd t 257 (t 256)) (l := l) (o := nI 25) (fun a => upd a 257 (s 256)) (fun a => qa_agU qa_ag0 (by omega)) (qa_agB (qa_agU (qa_agU qa_ag0 (by omega)) (by omega))) rfl rfl (by decide) (by decide) (by decide) (by decide) (hr_cml M) hlb (hr_HwY H (by omega)) (hr_cmB M (by omega) (M.2.2.2.2.2.2.2.2.1) (M.1))
    (fun Q h => by
        refine br_t (by decide) ⟨by decide, nm_r (e' := nI 2) (by decide) ⟨by decide, nm_r (e' := nI 1) (by decide) (br_f (by decide) ⟨qa_ii 256 1 488 (by omega) (by omega), ?_⟩)⟩⟩
        rw [show ((256 : Int32) + nI 1).toNatClampNeg = 257 by decide]
        refine br_f (by decide) (br_f (by decide) (br_t rfl ?_))
        exact br_f (by decide) (br_f (by decide) (br_t rfl ⟨qa_ii 256 1 488 (by omega) (by omega), nm_r (qa_up _ _ (qa_ic 256 1 (by omega))) h⟩)))
    (fun Q h => by
        refine br_t (by decide) ⟨by decide, nm_r (e' := nI 2) (by decide) ⟨by decide, nm_r (e' := nI 1) (by decide) (br_f (by decide) ⟨qa_ii 256 1 488 (by omega) (by omega), ?_⟩)⟩⟩
        rw [show ((256 : Int32) + nI 1).toNatClampNeg = 257 by decide]
        refine br_f (by decide) (br_f (by decide) (br_t rfl ?_))
        exact br_f (by decide) (br_f (by decide) (br_t rfl ⟨qa_ii 256 1 488 (by omega) (by omega), nm_r (qa_up _ _ (qa_ic 256 1 (by omega))) h⟩)))
  refine ⟨0, 0, s', t', _, e, upd t 257 (t 256), da, rn, cn, ?_, Or.inl ⟨rfl, rfl, hE⟩, op_Dof R (hr_ct0 N), by omega, ?_, hY⟩
  · exact Or.inl ⟨by omega, fun post h => ⟨by decide, nm_r (e' := nI 2) (by decide) ⟨by decide, br_f (by decide) (br_f (by decide) h)⟩⟩⟩
  · refine Or.inr (Or.inl ⟨by omega, by omega, fun Q h => ?_⟩)
    rw [show (nI 25 - 16) / 4 = nI 2 by decide, show nI 25 &&& 3 = nI 1 by decide]
    exact br_f (by decide) (br_f (by decide) (br_f (by decide) ⟨qa_ii 256 1 512 (by omega) (by omega), nm_r (qa_up _ _ (qa_ic 256 1 (by omega))) h⟩))
theorem op_26 : op_T 26 0 := by
  intro x1 l sa da rn cn sb p s sv iv c t tv jv e hp hlb H M N
  obtain ⟨s', t', R, hE, hY⟩ := en_gen (sa := sa) (da := da) (rn := rn) (cn := cn) (sv := sv) (iv := iv) (c := c) (sb := sb) (tv := tv) (jv := jv) (e := e) (s := s) (t := upd t 258 (t 256)) (l := l) (o := nI 26) (fun a => upd a 258 (s 256)) (fun a => qa_agU qa_ag0 (by omega)) (qa_agB (qa_agU (qa_agU qa_ag0 (by omega)) (by omega))) rfl rfl (by decide) (by decide) (by decide) (by decide) (hr_cml M) hlb (hr_HwY H (by omega)) (hr_cmB M (by omega) (M.2.2.2.2.2.2.2.2.1) (M.1))
    (fun Q h => by
        refine br_t (by decide) ⟨by decide, nm_r (e' := nI 2) (by decide) ⟨by decide, nm_r (e' := nI 2) (by decide) (br_f (by decide) ⟨qa_ii 256 2 488 (by omega) (by omega), ?_⟩)⟩⟩
        rw [show ((256 : Int32) + nI 2).toNatClampNeg = 258 by decide]
        refine br_f (by decide) (br_f (by decide) (br_t rfl ?_))
        exact br_f (by decide) (br_f (by decide) (br_t rfl ⟨qa_ii 256 2 488 (by omega) (by omega), nm_r (qa_up _ _ (qa_ic 256 2 (by omega))) h⟩)))
    (fun Q h => by
        refine br_t (by decide) ⟨by decide, nm_r (e' := nI 2) (by decide) ⟨by decide, nm_r (e' := nI 2) (by decide) (br_f (by decide) ⟨qa_ii 256 2 488 (by omega) (by omega), ?_⟩)⟩⟩
        rw [show ((256 : Int32) + nI 2).toNatClampNeg = 258 by decide]
        refine br_f (by decide) (br_f (by decide) (br_t rfl ?_))
        exact br_f (by decide) (br_f (by decide) (br_t rfl ⟨qa_ii 256 2 488 (by omega) (by omega), nm_r (qa_up _ _ (qa_ic 256 2 (by omega))) h⟩)))
  refine ⟨0, 0, s', t', _, e, upd t 258 (t 256), da, rn, cn, ?_, Or.inl ⟨rfl, rfl, hE⟩, op_Dof R (hr_ct0 N), by omega, ?_, hY⟩
  · exact Or.inl ⟨by omega, fun post h => ⟨by decide, nm_r (e' := nI 2) (by decide) ⟨by decide, br_f (by decide) (br_f (by decide) h)⟩⟩⟩
  · refine Or.inr (Or.inl ⟨by omega, by omega, fun Q h => ?_⟩)
    rw [show (nI 26 - 16) / 4 = nI 2 by decide, show nI 26 &&& 3 = nI 2 by decide]
    exact br_f (by decide) (br_f (by decide) (br_f (by decide) ⟨qa_ii 256 2 512 (by omega) (by omega), nm_r (qa_up _ _ (qa_ic 256 2 (by omega))) h⟩))
theorem op_27 : op_T 27 0 := by
  intro x1 l sa da rn cn sb p s sv iv c t tv jv e hp hlb H M N
  obtain ⟨s1, t1, c1, e1, rn1, cn1, H1, M1, ct1, X1, Y1⟩ := mp_wrp2 (sa := sa) (dg := nI 27) (da := da) (rn := rn) (cn := cn) (sv := sv) (iv := iv) (sb := sb) (tv := tv) (jv := jv) (st := 7) (st' := 0) (by decide) (by decide) (by decide) H M N
  obtain ⟨s', t', R, hE, hY⟩ := en_gen (sa := sa) (da := da) (rn := rn1) (cn := cn1) (sv := sv) (iv := iv) (c := c1) (sb := sb) (tv := tv) (jv := jv) (e := e1) (s := s1) (t := t1) (l := l) (o := nI 27) (fun a => a) (fun a => qa_ag0) (qa_agU (qa_agU qa_ag0 (by omega)) (by omega)) rfl rfl (by decide) (by decide) (by decide) (by decide) (hr_cml M1) hlb (H1) (M1)
    (fun Q h => by
        refine br_t (by decide) ⟨by decide, nm_r (e' := nI 2) (by decide) ⟨by decide, nm_r (e' := nI 3) (by decide) (br_t rfl ?_)⟩⟩
        refine br_f (by decide) (br_f (by decide) (br_t rfl ?_))
        exact br_t rfl h)
    (fun Q h => by
        refine br_t (by decide) ⟨by decide, nm_r (e' := nI 2) (by decide) ⟨by decide, nm_r (e' := nI 3) (by decide) (br_t rfl ?_)⟩⟩
        refine br_f (by decide) (br_f (by decide) (br_t rfl ?_))
        exact br_t rfl h)
  refine ⟨7, 1, s', t', _, e1, t1, da, rn1, cn1, ?_, Or.inr ⟨by decide, 0, rfl, st_last X1 hE⟩, op_Dof R ct1, by omega, ?_, hY⟩
  · exact Or.inl ⟨by omega, fun post h => ⟨by decide, nm_r (e' := nI 2) (by decide) ⟨by decide, br_t (by decide) (br_f (by decide) (br_t rfl h))⟩⟩⟩
  · refine Or.inr (Or.inl ⟨by omega, by omega, fun Q h => ?_⟩)
    rw [show (nI 27 - 16) / 4 = nI 2 by decide, show nI 27 &&& 3 = nI 3 by decide]
    refine br_f (by decide) (br_f (by decide) (br_t rfl ?_))
    exact Y1 _ h
end
section
/-! the instructions that reckon: both sides -/
theorem op_28 : op_T 28 0 := by
  intro x1 l sa da rn cn sb p s sv iv c t tv jv e hp hlb H M N
  obtain ⟨cf, v, hcf, hv, hXc, hYc⟩ := pr_calc (sa := sa) (dg := nI 28) (st := 0) (da := da) (rn := rn) (cn := cn) (sv := sv) (iv := iv) (c := upd c 1 (c 1 + 1)) (sb := sb) (tv := tv) (jv := jv) (k := 3) (s := s) (x := s 256) (by unfold ml_ck; omega) (M.2.2.2.2.2.2.2.2.1) (M.2.2.2.2.2.2.2.2.1) (M.2.2.2.2.2.2.2.2.2.2.2.2.2.2.1) rfl rfl
  obtain ⟨s', t', R, hE, hY⟩ := en_gen (sa := sa) (da := da) (rn := rn) (cn := cn) (sv := sv) (iv := iv) (c := c) (sb := sb) (tv := tv) (jv := jv) (e := e) (s := s) (t := ml_cy 3 cf v t) (l := l) (o := nI 28) (ml_ce 3 cf v) (fun a => ml_ceA a) (ml_ceB (qa_agU (qa_agU qa_ag0 (by omega)) (by omega))) rfl rfl (by decide) (by decide) (by decide) (by decide) (hr_cml M) hlb (ml_cyH H) (hr_cmE M hcf hv)
    (fun Q h => by
        refine br_t (by decide) ⟨by decide, nm_r (e' := nI 3) (by decide) ⟨by decide, nm_r (e' := nI 0) (by decide) (br_f (by decide) ⟨qa_ii 256 0 488 (by omega) (by omega), ?_⟩)⟩⟩
        rw [show ((256 : Int32) + nI 0).toNatClampNeg = 256 by decide]
        refine br_f (by decide) (br_f (by decide) (br_f (by decide) ?_))
        unfold wpX_isChange
        refine br_t (by decide) (br_t rfl ?_)
        refine hXc _ _ rfl rfl ?_
        exact h)
    (fun Q h => by
        refine br_t (by decide) ⟨by decide, nm_r (e' := nI 3) (by decide) ⟨by decide, nm_r (e' := nI 0) (by decide) (br_f (by decide) ⟨qa_ii 256 0 488 (by omega) (by omega), ?_⟩)⟩⟩
        rw [show ((256 : Int32) + nI 0).toNatClampNeg = 256 by decide]
        refine br_f (by decide) (br_f (by decide) (br_f (by decide) ?_))
        unfold wpX_isChange
        refine br_t (by decide) (br_t rfl ?_)
        refine hXc _ _ rfl rfl ?_
        exact h)
  refine ⟨0, 0, s', t', _, e, ml_cy 3 cf v t, da, rn, cn, ?_, Or.inl ⟨rfl, rfl, hE⟩, op_Dof R (hr_ct0 N), by omega, ?_, hY⟩
  · exact Or.inl ⟨by omega, fun post h => ⟨by decide, nm_r (e' := nI 3) (by decide) ⟨by decide, br_f (by decide) (br_f (by decide) h)⟩⟩⟩
  · refine Or.inr (Or.inr ⟨by omega, fun Q h => ?_⟩)
    rw [show (nI 28 - 16) / 4 = nI 3 by decide, show nI 28 &&& 3 = nI 0 by decide]
    refine nm_e (br_f (by decide) ⟨qa_ii 256 0 512 (by omega) (by omega), ?_⟩)
    rw [show ((256 : Int32) + nI 0).toNatClampNeg = 256 by decide]
    refine nm_e ?_
    rw [M.1, M.2.2.2.2.2.2.1]
    exact br_f (by decide) (br_f (by decide) (br_t rfl ((((hYc t _ e Q h).2 (by decide)).2 (by decide)).1 rfl)))
theorem op_29 : op_T 29 0 := by
  intro x1 l sa da rn cn sb p s sv iv c t tv jv e hp hlb H M N
  obtain ⟨cf, v, hcf, hv, hXc, hYc⟩ := pr_calc (sa := sa) (dg := nI 29) (st := 0) (da := da) (rn := rn) (cn := cn) (sv := sv) (iv := iv) (c := upd c 1 (c 1 + 1)) (sb := sb) (tv := tv) (jv := jv) (k := 3) (s := s) (x := s 257) (by unfold ml_ck; omega) (M.2.2.2.2.2.2.2.2.1) (M.2.2.2.2.2.2.2.2.2.1) (M.2.2.2.2.2.2.2.2.2.2.2.2.2.2.1) rfl rfl
  obtain ⟨s', t', R, hE, hY⟩ := en_gen (sa := sa) (da := da) (rn := rn) (cn := cn) (sv := sv) (iv := iv) (c := c) (sb := sb) (tv := tv) (jv := jv) (e := e) (s := s) (t := ml_cy 3 cf v t) (l := l) (o := nI 29) (ml_ce 3 cf v) (fun a => ml_ceA a) (ml_ceB (qa_agU (qa_agU qa_ag0 (by omega)) (by omega))) rfl rfl (by decide) (by decide) (by decide) (by decide) (hr_cml M) hlb (ml_cyH H) (hr_cmE M hcf hv)
    (fun Q h => by
        refine br_t (by decide) ⟨by decide, nm_r (e' := nI 3) (by decide) ⟨by decide, nm_r (e' := nI 1) (by decide) (br_f (by decide) ⟨qa_ii 256 1 488 (by omega) (by omega), ?_⟩)⟩⟩
        rw [show ((256 : Int32) + nI 1).toNatClampNeg = 257 by decide]
        refine br_f (by decide) (br_f (by decide) (br_f (by decide) ?_))
        unfold wpX_isChange
        refine br_t (by decide) (br_t rfl ?_)
        refine hXc _ _ rfl rfl ?_
        exact h)
    (fun Q h => by
        refine br_t (by decide) ⟨by decide, nm_r (e' := nI 3) (by decide) ⟨by decide, nm_r (e' := nI 1) (by decide) (br_f (by decide) ⟨qa_ii 256 1 488 (by omega) (by omega), ?_⟩)⟩⟩
        rw [show ((256 : Int32) + nI 1).toNatClampNeg = 257 by decide]
        refine br_f (by decide) (br_f (by decide) (br_f (by decide) ?_))
        unfold wpX_isChange
        refine br_t (by decide) (br_t rfl ?_)
        refine hXc _ _ rfl rfl ?_
        exact h)
  refine ⟨0, 0, s', t', _, e, ml_cy 3 cf v t, da, rn, cn, ?_, Or.inl ⟨rfl, rfl, hE⟩, op_Dof R (hr_ct0 N), by omega, ?_, hY⟩
  · exact Or.inl ⟨by omega, fun post h => ⟨by decide, nm_r (e' := nI 3) (by decide) ⟨by decide, br_f (by decide) (br_f (by decide) h)⟩⟩⟩
  · refine Or.inr (Or.inr ⟨by omega, fun Q h => ?_⟩)
    rw [show (nI 29 - 16) / 4 = nI 3 by decide, show nI 29 &&& 3 = nI 1 by decide]
    refine nm_e (br_f (by decide) ⟨qa_ii 256 1 512 (by omega) (by omega), ?_⟩)
    rw [show ((256 : Int32) + nI 1).toNatClampNeg = 257 by decide]
    refine nm_e ?_
    rw [M.1, M.2.2.2.2.2.2.1, M.2.1]
    exact br_f (by decide) (br_f (by decide) (br_t rfl ((((hYc t _ e Q h).2 (by decide)).2 (by decide)).1 rfl)))
theorem op_30 : op_T 30 0 := by
  intro x1 l sa da rn cn sb p s sv iv c t tv jv e hp hlb H M N
  obtain ⟨cf, v, hcf, hv, hXc, hYc⟩ := pr_calc (sa := sa) (dg := nI 30) (st := 0) (da := da) (rn := rn) (cn := cn) (sv := sv) (iv := iv) (c := upd c 1 (c 1 + 1)) (sb := sb) (tv := tv) (jv := jv) (k := 3) (s := s) (x := s 258) (by unfold ml_ck; omega) (M.2.2.2.2.2.2.2.2.1) (M.2.2.2.2.2.2.2.2.2.2.1) (M.2.2.2.2.2.2.2.2.2.2.2.2.2.2.1) rfl rfl
  obtain ⟨s', t', R, hE, hY⟩ := en_gen (sa := sa) (da := da) (rn := rn) (cn := cn) (sv := sv) (iv := iv) (c := c) (sb := sb) (tv := tv) (jv := jv) (e := e) (s := s) (t := ml_cy 3 cf v t) (l := l) (o := nI 30) (ml_ce 3 cf v) (fun a => ml_ceA a) (ml_ceB (qa_agU (qa_agU qa_ag0 (by omega)) (by omega))) rfl rfl (by decide) (by decide) (by decide) (by decide) (hr_cml M) hlb (ml_cyH H) (hr_cmE M hcf hv)
    (fun Q h => by
        refine br_t (by decide) ⟨by decide, nm_r (e' := nI 3) (by decide) ⟨by decide, nm_r (e' := nI 2) (by decide) (br_f (by decide) ⟨qa_ii 256 2 488 (by omega) (by omega), ?_⟩)⟩⟩
        rw [show ((256 : Int32) + nI 2).toNatClampNeg = 258 by decide]
        refine br_f (by decide) (br_f (by decide) (br_f (by decide) ?_))
        unfold wpX_isChange
        refine br_t (by decide) (br_t rfl ?_)
        refine hXc _ _ rfl rfl ?_
        exact h)
    (fun Q h => by
        refine br_t (by decide) ⟨by decide, nm_r (e' := nI 3) (by decide) ⟨by decide, nm_r (e' := nI 2) (by decide) (br_f (by decide) ⟨qa_ii 256 2 488 (by omega) (by omega), ?_⟩)⟩⟩
        rw [show ((256 : Int32) + nI 2).toNatClampNeg = 258 by decide]
        refine br_f (by decide) (br_f (by decide) (br_f (by decide) ?_))
        unfold wpX_isChange
        refine br_t (by decide) (br_t rfl ?_)
        refine hXc _ _ rfl rfl ?_
        exact h)
  refine ⟨0, 0, s', t', _, e, ml_cy 3 cf v t, da, rn, cn, ?_, Or.inl ⟨rfl, rfl, hE⟩, op_Dof R (hr_ct0 N), by omega, ?_, hY⟩
  · exact Or.inl ⟨by omega, fun post h => ⟨by decide, nm_r (e' := nI 3) (by decide) ⟨by decide, br_f (by decide) (br_f (by decide) h)⟩⟩⟩
  · refine Or.inr (Or.inr ⟨by omega, fun Q h => ?_⟩)
    rw [show (nI 30 - 16) / 4 = nI 3 by decide, show nI 30 &&& 3 = nI 2 by decide]
    refine nm_e (br_f (by decide) ⟨qa_ii 256 2 512 (by omega) (by omega), ?_⟩)
    rw [show ((256 : Int32) + nI 2).toNatClampNeg = 258 by decide]
    refine nm_e ?_
    rw [M.1, M.2.2.2.2.2.2.1, M.2.2.1]
    exact br_f (by decide) (br_f (by decide) (br_t rfl ((((hYc t _ e Q h).2 (by decide)).2 (by decide)).1 rfl)))
theorem op_31 : op_T 31 0 := by
  intro x1 l sa da rn cn sb p s sv iv c t tv jv e hp hlb H M N
  obtain ⟨s1, t1, c1, e1, rn1, cn1, r1, H1, M1, ct1, f1, B1, X1, Y1⟩ := mp_rdp (sa := sa) (dg := nI 31) (da := da) (rn := rn) (cn := cn) (sv := sv) (iv := iv) (sb := sb) (tv := tv) (jv := jv) (st := 6) (st' := 0)  (by decide) (by decide) H M N
  obtain ⟨cf, v, hcf, hv, hXc, hYc⟩ := pr_calc (sa := sa) (dg := nI 31) (st := 0) (da := r1) (rn := rn1) (cn := cn1) (sv := sv) (iv := iv) (c := upd c1 1 (c1 1 + 1)) (sb := sb) (tv := tv) (jv := jv) (k := 3) (s := s1) (x := r1) (by unfold ml_ck; omega) (M1.2.2.2.2.2.2.2.2.1) (B1) (M1.2.2.2.2.2.2.2.2.2.2.2.2.2.2.1) rfl rfl
  obtain ⟨s', t', R, hE, hY⟩ := en_gen (sa := sa) (da := r1) (rn := rn1) (cn := cn1) (sv := sv) (iv := iv) (c := c1) (sb := sb) (tv := tv) (jv := jv) (e := e1) (s := s1) (t := ml_cy 3 cf v t1) (l := l) (o := nI 31) (ml_ce 3 cf v) (fun a => ml_ceA a) (ml_ceB (qa_agU (qa_agU qa_ag0 (by omega)) (by omega))) rfl rfl (by decide) (by decide) (by decide) (by decide) (hr_cml M1) hlb (ml_cyH H1) (hr_cmE M1 hcf hv)
    (fun Q h => by
        refine br_t (by decide) ⟨by decide, nm_r (e' := nI 3) (by decide) ⟨by decide, nm_r (e' := nI 3) (by decide) (br_t rfl ?_)⟩⟩
        refine br_f (by decide) (br_f (by decide) (br_f (by decide) ?_))
        unfold wpX_isChange
        refine br_t (by decide) (br_t rfl ?_)
        refine hXc _ _ rfl rfl ?_
        exact h)
    (fun Q h => by
        refine br_t (by decide) ⟨by decide, nm_r (e' := nI 3) (by decide) ⟨by decide, nm_r (e' := nI 3) (by decide) (br_t rfl ?_)⟩⟩
        refine br_f (by decide) (br_f (by decide) (br_f (by decide) ?_))
        unfold wpX_isChange
        refine br_t (by decide) (br_t rfl ?_)
        refine hXc _ _ rfl rfl ?_
        exact h)
  refine ⟨6, 1, s', t', _, e1, ml_cy 3 cf v t1, r1, rn1, cn1, ?_, Or.inr ⟨by decide, 0, rfl, st_last X1 hE⟩, op_Dof R ct1, by omega, ?_, hY⟩
  · refine Or.inl ⟨by omega, fun post h => ⟨by decide, nm_r (e' := nI 3) (by decide) ⟨by decide, br_t (by decide) (br_f (by decide) (br_f (by decide) ?_))⟩⟩⟩
    unfold wpX_isChange
    exact br_t (by decide) (br_t rfl h)
  · refine Or.inr (Or.inr ⟨by omega, fun Q h => ?_⟩)
    rw [show (nI 31 - 16) / 4 = nI 3 by decide, show nI 31 &&& 3 = nI 3 by decide]
    refine nm_e (br_t rfl ?_)
    refine Y1 _ ?_
    refine nm_e ?_
    have k6 : t 256 = s1 256 := (M.1).trans (f1 256 (by unfold hr_RG; omega)).symm
    rw [k6, M1.2.2.2.2.2.2.1]
    exact br_f (by decide) (br_f (by decide) (br_t rfl ((((hYc t1 _ e1 Q h).2 (by decide)).2 (by decide)).1 rfl)))
theorem op_32 : op_T 32 0 := by
  intro x1 l sa da rn cn sb p s sv iv c t tv jv e hp hlb H M N
  obtain ⟨cf, v, hcf, hv, hXc, hYc⟩ := pr_calc (sa := sa) (dg := nI 32) (st := 0) (da := da) (rn := rn) (cn := cn) (sv := sv) (iv := iv) (c := upd c 1 (c 1 + 1)) (sb := sb) (tv := tv) (jv := jv) (k := 4) (s := s) (x := s 256) (by unfold ml_ck; omega) (M.2.2.2.2.2.2.2.2.1) (M.2.2.2.2.2.2.2.2.1) (M.2.2.2.2.2.2.2.2.2.2.2.2.2.2.1) rfl rfl
  obtain ⟨s', t', R, hE, hY⟩ := en_gen (sa := sa) (da := da) (rn := rn) (cn := cn) (sv := sv) (iv := iv) (c := c) (sb := sb) (tv := tv) (jv := jv) (e := e) (s := s) (t := ml_cy 4 cf v t) (l := l) (o := nI 32) (ml_ce 4 cf v) (fun a => ml_ceA a) (ml_ceB (qa_agU (qa_agU qa_ag0 (by omega)) (by omega))) rfl rfl (by decide) (by decide) (by decide) (by decide) (hr_cml M) hlb (ml_cyH H) (hr_cmE M hcf hv)
    (fun Q h => by
        refine br_t (by decide) ⟨by decide, nm_r (e' := nI 4) (by decide) ⟨by decide, nm_r (e' := nI 0) (by decide) (br_f (by decide) ⟨qa_ii 256 0 488 (by omega) (by omega), ?_⟩)⟩⟩
        rw [show ((256 : Int32) + nI 0).toNatClampNeg = 256 by decide]
        refine br_f (by decide) (br_f (by decide) (br_f (by decide) ?_))
        unfold wpX_isChange
        refine br_t (by decide) (br_t rfl ?_)
        refine hXc _ _ rfl rfl ?_
        exact h)
    (fun Q h => by
        refine br_t (by decide) ⟨by decide, nm_r (e' := nI 4) (by decide) ⟨by decide, nm_r (e' := nI 0) (by decide) (br_f (by decide) ⟨qa_ii 256 0 488 (by omega) (by omega), ?_⟩)⟩⟩
        rw [show ((256 : Int32) + nI 0).toNatClampNeg = 256 by decide]
        refine br_f (by decide) (br_f (by decide) (br_f (by decide) ?_))
        unfold wpX_isChange
        refine br_t (by decide) (br_t rfl ?_)
        refine hXc _ _ rfl rfl ?_
        exact h)
  refine ⟨0, 0, s', t', _, e, ml_cy 4 cf v t, da, rn, cn, ?_, Or.inl ⟨rfl, rfl, hE⟩, op_Dof R (hr_ct0 N), by omega, ?_, hY⟩
  · exact Or.inl ⟨by omega, fun post h => ⟨by decide, nm_r (e' := nI 4) (by decide) ⟨by decide, br_f (by decide) (br_f (by decide) h)⟩⟩⟩
  · refine Or.inr (Or.inr ⟨by omega, fun Q h => ?_⟩)
    rw [show (nI 32 - 16) / 4 = nI 4 by decide, show nI 32 &&& 3 = nI 0 by decide]
    refine nm_e (br_f (by decide) ⟨qa_ii 256 0 512 (by omega) (by omega), ?_⟩)
    rw [show ((256 : Int32) + nI 0).toNatClampNeg = 256 by decide]
    refine nm_e ?_
    rw [M.1, M.2.2.2.2.2.2.1]
    exact br_f (by decide) (br_f (by decide) (br_f (by decide) (br_t rfl (((((hYc t _ e Q h).2 (by decide)).2 (by decide)).2 (by decide)).1 rfl))))
theorem op_33 : op_T 33 0 := by
  intro x1 l sa da rn cn sb p s sv iv c t tv jv e hp hlb H M N
  obtain ⟨cf, v, hcf, hv, hXc, hYc⟩ := pr_calc (sa := sa) (dg := nI 33) (st := 0) (da := da) (rn := rn) (cn := cn) (sv := sv) (iv := iv) (c := upd c 1 (c 1 + 1)) (sb := sb) (tv := tv) (jv := jv) (k := 4) (s := s) (x := s 257) (by unfold ml_ck; omega) (M.2.2.2.2.2.2.2.2.1) (M.2.2.2.2.2.2.2.2.2.1) (M.2.2.2.2.2.2.2.2.2.2.2.2.2.2.1) rfl rfl
  obtain ⟨s', t', R, hE, hY⟩ := en_gen (sa := sa) (da := da) (rn := rn) (cn := cn) (sv := sv) (iv := iv) (c := c) (sb := sb) (tv := tv) (jv := jv) (e := e) (s := s) (t := ml_cy 4 cf v t) (l := l) (o := nI 33) (ml_ce 4 cf v) (fun a => ml_ceA a) (ml_ceB (qa_agU (qa_agU qa_ag0 (by omega)) (by omega))) rfl rfl (by decide) (by decide) (by decide) (by decide) (hr_cml M) hlb (ml_cyH H) (hr_cmE M hcf hv)
    (fun Q h => by
        refine br_t (by decide) ⟨by decide, nm_r (e' := nI 4) (by decide) ⟨by decide, nm_r (e' := nI 1) (by decide) (br_f (by decide) ⟨qa_ii 256 1 488 (by omega) (by omega), ?_⟩)⟩⟩
        rw [show ((256 : Int32) + nI 1).toNatClampNeg = 257 by decide]
        refine br_f (by decide) (br_f (by decide) (br_f (by decide) ?_))
        unfold wpX_isChange
        refine br_t (by decide) (br_t rfl ?_)
        refine hXc _ _ rfl rfl ?_
        exact h)
    (fun Q h => by
        refine br_t (by decide) ⟨by decide, nm_r (e' := nI 4) (by decide) ⟨by decide, nm_r (e' := nI 1) (by decide) (br_f (by decide) ⟨qa_ii 256 1 488 (by omega) (by omega), ?_⟩)⟩⟩
        rw [show ((256 : Int32) + nI 1).toNatClampNeg = 257 by decide]
        refine br_f (by decide) (br_f (by decide) (br_f (by decide) ?_))
        unfold wpX_isChange
        refine br_t (by decide) (br_t rfl ?_)
        refine hXc _ _ rfl rfl ?_
        exact h)
  refine ⟨0, 0, s', t', _, e, ml_cy 4 cf v t, da, rn, cn, ?_, Or.inl ⟨rfl, rfl, hE⟩, op_Dof R (hr_ct0 N), by omega, ?_, hY⟩
  · exact Or.inl ⟨by omega, fun post h => ⟨by decide, nm_r (e' := nI 4) (by decide) ⟨by decide, br_f (by decide) (br_f (by decide) h)⟩⟩⟩
  · refine Or.inr (Or.inr ⟨by omega, fun Q h => ?_⟩)
    rw [show (nI 33 - 16) / 4 = nI 4 by decide, show nI 33 &&& 3 = nI 1 by decide]
    refine nm_e (br_f (by decide) ⟨qa_ii 256 1 512 (by omega) (by omega), ?_⟩)
    rw [show ((256 : Int32) + nI 1).toNatClampNeg = 257 by decide]
    refine nm_e ?_
    rw [M.1, M.2.2.2.2.2.2.1, M.2.1]
    exact br_f (by decide) (br_f (by decide) (br_f (by decide) (br_t rfl (((((hYc t _ e Q h).2 (by decide)).2 (by decide)).2 (by decide)).1 rfl))))
theorem op_34 : op_T 34 0 := by
  intro x1 l sa da rn cn sb p s sv iv c t tv jv e hp hlb H M N
  obtain ⟨cf, v, hcf, hv, hXc, hYc⟩ := pr_calc (sa := sa) (dg := nI 34) (st := 0) (da := da) (rn := rn) (cn := cn) (sv := sv) (iv := iv) (c := upd c 1 (c 1 + 1)) (sb := sb) (tv := tv) (jv := jv) (k := 4) (s := s) (x := s 258) (by unfold ml_ck; omega) (M.2.2.2.2.2.2.2.2.1) (M.2.2.2.2.2.2.2.2.2.2.1) (M.2.2.2.2.2.2.2.2.2.2.2.2.2.2.1) rfl rfl
  obtain ⟨s', t', R, hE, hY⟩ := en_gen (sa := sa) (da := da) (rn := rn) (cn := cn) (sv := sv) (iv := iv) (c := c) (sb := sb) (tv := tv) (jv := jv) (e := e) (s := s) (t := ml_cy 4 cf v t) (l := l) (o := nI 34) (ml_ce 4 cf v) (fun a => ml_ceA a) (ml_ceB (qa_agU (qa_agU qa_ag0 (by omega)) (by omega))) rfl rfl (by decide) (by decide) (by decide) (by decide) (hr_cml M) hlb (ml_cyH H) (hr_cmE M hcf hv)
    (fun Q h => by
        refine br_t (by decide) ⟨by decide, nm_r (e' := nI 4) (by decide) ⟨by decide, nm_r (e' := nI 2) (by decide) (br_f (by decide) ⟨qa_ii 256 2 488 (by omega) (by omega), ?_⟩)⟩⟩
        rw [show ((256 : Int32) + nI 2).toNatClampNeg = 258 by decide]
        refine br_f (by decide) (br_f (by decide) (br_f (by decide) ?_))
        unfold wpX_isChange
        refine br_t (by decide) (br_t rfl ?_)
        refine hXc _ _ rfl rfl ?_
        exact h)
    (fun Q h => by
        refine br_t (by decide) ⟨by decide, nm_r (e' := nI 4) (by decide) ⟨by decide, nm_r (e' := nI 2) (by decide) (br_f (by decide) ⟨qa_ii 256 2 488 (by omega) (by omega), ?_⟩)⟩⟩
        rw [show ((256 : Int32) + nI 2).toNatClampNeg = 258 by decide]
        refine br_f (by decide) (br_f (by decide) (br_f (by decide) ?_))
        unfold wpX_isChange
        refine br_t (by decide) (br_t rfl ?_)
        refine hXc _ _ rfl rfl ?_
        exact h)
  refine ⟨0, 0, s', t', _, e, ml_cy 4 cf v t, da, rn, cn, ?_, Or.inl ⟨rfl, rfl, hE⟩, op_Dof R (hr_ct0 N), by omega, ?_, hY⟩
  · exact Or.inl ⟨by omega, fun post h => ⟨by decide, nm_r (e' := nI 4) (by decide) ⟨by decide, br_f (by decide) (br_f (by decide) h)⟩⟩⟩
  · refine Or.inr (Or.inr ⟨by omega, fun Q h => ?_⟩)
    rw [show (nI 34 - 16) / 4 = nI 4 by decide, show nI 34 &&& 3 = nI 2 by decide]
    refine nm_e (br_f (by decide) ⟨qa_ii 256 2 512 (by omega) (by omega), ?_⟩)
    rw [show ((256 : Int32) + nI 2).toNatClampNeg = 258 by decide]
    refine nm_e ?_
    rw [M.1, M.2.2.2.2.2.2.1, M.2.2.1]
    exact br_f (by decide) (br_f (by decide) (br_f (by decide) (br_t rfl (((((hYc t _ e Q h).2 (by decide)).2 (by decide)).2 (by decide)).1 rfl))))
theorem op_35 : op_T 35 0 := by
  intro x1 l sa da rn cn sb p s sv iv c t tv jv e hp hlb H M N
  obtain ⟨s1, t1, c1, e1, rn1, cn1, r1, H1, M1, ct1, f1, B1, X1, Y1⟩ := mp_rdp (sa := sa) (dg := nI 35) (da := da) (rn := rn) (cn := cn) (sv := sv) (iv := iv) (sb := sb) (tv := tv) (jv := jv) (st := 6) (st' := 0)  (by decide) (by decide) H M N
  obtain ⟨cf, v, hcf, hv, hXc, hYc⟩ := pr_calc (sa := sa) (dg := nI 35) (st := 0) (da := r1) (rn := rn1) (cn := cn1) (sv := sv) (iv := iv) (c := upd c1 1 (c1 1 + 1)) (sb := sb) (tv := tv) (jv := jv) (k := 4) (s := s1) (x := r1) (by unfold ml_ck; omega) (M1.2.2.2.2.2.2.2.2.1) (B1) (M1.2.2.2.2.2.2.2.2.2.2.2.2.2.2.1) rfl rfl
  obtain ⟨s', t', R, hE, hY⟩ := en_gen (sa := sa) (da := r1) (rn := rn1) (cn := cn1) (sv := sv) (iv := iv) (c := c1) (sb := sb) (tv := tv) (jv := jv) (e := e1) (s := s1) (t := ml_cy 4 cf v t1) (l := l) (o := nI 35) (ml_ce 4 cf v) (fun a => ml_ceA a) (ml_ceB (qa_agU (qa_agU qa_ag0 (by omega)) (by omega))) rfl rfl (by decide) (by decide) (by decide) (by decide) (hr_cml M1) hlb (ml_cyH H1) (hr_cmE M1 hcf hv)
    (fun Q h => by
        refine br_t (by decide) ⟨by decide, nm_r (e' := nI 4) (by decide) ⟨by decide, nm_r (e' := nI 3) (by decide) (br_t rfl ?_)⟩⟩
        refine br_f (by decide) (br_f (by decide) (br_f (by decide) ?_))
        unfold wpX_isChange
        refine br_t (by decide) (br_t rfl ?_)
        refine hXc _ _ rfl rfl ?_
        exact h)
    (fun Q h => by
        refine br_t (by decide) ⟨by decide, nm_r (e' := nI 4) (by decide) ⟨by decide, nm_r (e' := nI 3) (by decide) (br_t rfl ?_)⟩⟩
        refine br_f (by decide) (br_f (by decide) (br_f (by decide) ?_))
        unfold wpX_isChange
        refine br_t (by decide) (br_t rfl ?_)
        refine hXc _ _ rfl rfl ?_
        exact h)
  refine ⟨6, 1, s', t', _, e1, ml_cy 4 cf v t1, r1, rn1, cn1, ?_, Or.inr ⟨by decide, 0, rfl, st_last X1 hE⟩, op_Dof R ct1, by omega, ?_, hY⟩
  · refine Or.inl ⟨by omega, fun post h => ⟨by decide, nm_r (e' := nI 4) (by decide) ⟨by decide, br_t (by decide) (br_f (by decide) (br_f (by decide) ?_))⟩⟩⟩
    unfold wpX_isChange
    exact br_t (by decide) (br_t rfl h)
  · refine Or.inr (Or.inr ⟨by omega, fun Q h => ?_⟩)
    rw [show (nI 35 - 16) / 4 = nI 4 by decide, show nI 35 &&& 3 = nI 3 by decide]
    refine nm_e (br_t rfl ?_)
    refine Y1 _ ?_
    refine nm_e ?_
    have k6 : t 256 = s1 256 := (M.1).trans (f1 256 (by unfold hr_RG; omega)).symm
    rw [k6, M1.2.2.2.2.2.2.1]
    exact br_f (by decide) (br_f (by decide) (br_f (by decide) (br_t rfl (((((hYc t1 _ e1 Q h).2 (by decide)).2 (by decide)).2 (by decide)).1 rfl))))
theorem op_36 : op_T 36 0 := by
  intro x1 l sa da rn cn sb p s sv iv c t tv jv e hp hlb H M N
  obtain ⟨cf, v, hcf, hv, hXc, hYc⟩ := pr_calc (sa := sa) (dg := nI 36) (st := 0) (da := da) (rn := rn) (cn := cn) (sv := sv) (iv := iv) (c := upd c 1 (c 1 + 1)) (sb := sb) (tv := tv) (jv := jv) (k := 5) (s := s) (x := s 256) (by unfold ml_ck; omega) (M.2.2.2.2.2.2.2.2.1) (M.2.2.2.2.2.2.2.2.1) (M.2.2.2.2.2.2.2.2.2.2.2.2.2.2.1) rfl rfl
  obtain ⟨s', t', R, hE, hY⟩ := en_gen (sa := sa) (da := da) (rn := rn) (cn := cn) (sv := sv) (iv := iv) (c := c) (sb := sb) (tv := tv) (jv := jv) (e := e) (s := s) (t := ml_cy 5 cf v t) (l := l) (o := nI 36) (ml_ce 5 cf v) (fun a => ml_ceA a) (ml_ceB (qa_agU (qa_agU qa_ag0 (by omega)) (by omega))) rfl rfl (by decide) (by decide) (by decide) (by decide) (hr_cml M) hlb (ml_cyH H) (hr_cmE M hcf hv)
    (fun Q h => by
        refine br_t (by decide) ⟨by decide, nm_r (e' := nI 5) (by decide) ⟨by decide, nm_r (e' := nI 0) (by decide) (br_f (by decide) ⟨qa_ii 256 0 488 (by omega) (by omega), ?_⟩)⟩⟩
        rw [show ((256 : Int32) + nI 0).toNatClampNeg = 256 by decide]
        refine br_f (by decide) (br_f (by decide) (br_f (by decide) ?_))
        unfold wpX_isChange
        refine br_t (by decide) (br_t rfl ?_)
        refine hXc _ _ rfl rfl ?_
        exact h)
    (fun Q h => by
        refine br_t (by decide) ⟨by decide, nm_r (e' := nI 5) (by decide) ⟨by decide, nm_r (e' := nI 0) (by decide) (br_f (by decide) ⟨qa_ii 256 0 488 (by omega) (by omega), ?_⟩)⟩⟩
        rw [show ((256 : Int32) + nI 0).toNatClampNeg = 256 by decide]
        refine br_f (by decide) (br_f (by decide) (br_f (by decide) ?_))
        unfold wpX_isChange
        refine br_t (by decide) (br_t rfl ?_)
        refine hXc _ _ rfl rfl ?_
        exact h)
  refine ⟨0, 0, s', t', _, e, ml_cy 5 cf v t, da, rn, cn, ?_, Or.inl ⟨rfl, rfl, hE⟩, op_Dof R (hr_ct0 N), by omega, ?_, hY⟩
  · exact Or.inl ⟨by omega, fun post h => ⟨by decide, nm_r (e' := nI 5) (by decide) ⟨by decide, br_f (by decide) (br_f (by decide) h)⟩⟩⟩
  · refine Or.inr (Or.inr ⟨by omega, fun Q h => ?_⟩)
    rw [show (nI 36 - 16) / 4 = nI 5 by decide, show nI 36 &&& 3 = nI 0 by decide]
    refine nm_e (br_f (by decide) ⟨qa_ii 256 0 512 (by omega) (by omega), ?_⟩)
    rw [show ((256 : Int32) + nI 0).toNatClampNeg = 256 by decide]
    refine nm_e ?_
    rw [M.1, M.2.2.2.2.2.2.1]
    exact br_f (by decide) (br_f (by decide) (br_f (by decide) (br_f (by decide) (br_t rfl ((((((hYc t _ e Q h).2 (by decide)).2 (by decide)).2 (by decide)).2 (by decide)).1 rfl)))))
theorem op_37 : op_T 37 0 := by
  intro x1 l sa da rn cn sb p s sv iv c t tv jv e hp hlb H M N
  obtain ⟨cf, v, hcf, hv, hXc, hYc⟩ := pr_calc (sa := sa) (dg := nI 37) (st := 0) (da := da) (rn := rn) (cn := cn) (sv := sv) (iv := iv) (c := upd c 1 (c 1 + 1)) (sb := sb) (tv := tv) (jv := jv) (k := 5) (s := s) (x := s 257) (by unfold ml_ck; omega) (M.2.2.2.2.2.2.2.2.1) (M.2.2.2.2.2.2.2.2.2.1) (M.2.2.2.2.2.2.2.2.2.2.2.2.2.2.1) rfl rfl
  obtain ⟨s', t', R, hE, hY⟩ := en_gen (sa := sa) (da := da) (rn := rn) (cn := cn) (sv := sv) (iv := iv) (c := c) (sb := sb) (tv := tv) (jv := jv) (e := e) (s := s) (t := ml_cy 5 cf v t) (l := l) (o := nI 37) (ml_ce 5 cf v) (fun a => ml_ceA a) (ml_ceB (qa_agU (qa_agU qa_ag0 (by omega)) (by omega))) rfl rfl (by decide) (by decide) (by decide) (by decide) (hr_cml M) hlb (ml_cyH H) (hr_cmE M hcf hv)
    (fun Q h => by
        refine br_t (by decide) ⟨by decide, nm_r (e' := nI 5) (by decide) ⟨by decide, nm_r (e' := nI 1) (by decide) (br_f (by decide) ⟨qa_ii 256 1 488 (by omega) (by omega), ?_⟩)⟩⟩
        rw [show ((256 : Int32) + nI 1).toNatClampNeg = 257 by decide]
        refine br_f (by decide) (br_f (by decide) (br_f (by decide) ?_))
        unfold wpX_isChange
        refine br_t (by decide) (br_t rfl ?_)
        refine hXc _ _ rfl rfl ?_
        exact h)
    (fun Q h => by
        refine br_t (by decide) ⟨by decide, nm_r (e' := nI 5) (by decide) ⟨by decide, nm_r (e' := nI 1) (by decide) (br_f (by decide) ⟨qa_ii 256 1 488 (by omega) (by omega), ?_⟩)⟩⟩
        rw [show ((256 : Int32) + nI 1).toNatClampNeg = 257 by decide]
        refine br_f (by decide) (br_f (by decide) (br_f (by decide) ?_))
        unfold wpX_isChange
        refine br_t (by decide) (br_t rfl ?_)
        refine hXc _ _ rfl rfl ?_
        exact h)
  refine ⟨0, 0, s', t', _, e, ml_cy 5 cf v t, da, rn, cn, ?_, Or.inl ⟨rfl, rfl, hE⟩, op_Dof R (hr_ct0 N), by omega, ?_, hY⟩
  · exact Or.inl ⟨by omega, fun post h => ⟨by decide, nm_r (e' := nI 5) (by decide) ⟨by decide, br_f (by decide) (br_f (by decide) h)⟩⟩⟩
  · refine Or.inr (Or.inr ⟨by omega, fun Q h => ?_⟩)
    rw [show (nI 37 - 16) / 4 = nI 5 by decide, show nI 37 &&& 3 = nI 1 by decide]
    refine nm_e (br_f (by decide) ⟨qa_ii 256 1 512 (by omega) (by omega), ?_⟩)
    rw [show ((256 : Int32) + nI 1).toNatClampNeg = 257 by decide]
    refine nm_e ?_
    rw [M.1, M.2.2.2.2.2.2.1, M.2.1]
    exact br_f (by decide) (br_f (by decide) (br_f (by decide) (br_f (by decide) (br_t rfl ((((((hYc t _ e Q h).2 (by decide)).2 (by decide)).2 (by decide)).2 (by decide)).1 rfl)))))
theorem op_38 : op_T 38 0 := by
  intro x1 l sa da rn cn sb p s sv iv c t tv jv e hp hlb H M N
  obtain ⟨cf, v, hcf, hv, hXc, hYc⟩ := pr_calc (sa := sa) (dg := nI 38) (st := 0) (da := da) (rn := rn) (cn := cn) (sv := sv) (iv := iv) (c := upd c 1 (c 1 + 1)) (sb := sb) (tv := tv) (jv := jv) (k := 5) (s := s) (x := s 258) (by unfold ml_ck; omega) (M.2.2.2.2.2.2.2.2.1) (M.2.2.2.2.2.2.2.2.2.2.1) (M.2.2.2.2.2.2.2.2.2.2.2.2.2.2.1) rfl rfl
  obtain ⟨s', t', R, hE, hY⟩ := en_gen (sa := sa) (da := da) (rn := rn) (cn := cn) (sv := sv) (iv := iv) (c := c) (sb := sb) (tv := tv) (jv := jv) (e := e) (s := s) (t := ml_cy 5 cf v t) (l := l) (o := nI 38) (ml_ce 5 cf v) (fun a => ml_ceA a) (ml_ceB (qa_agU (qa_agU qa_ag0 (by omega)) (by omega))) rfl rfl (by decide) (by decide) (by decide) (by decide) (hr_cml M) hlb (ml_cyH H) (hr_cmE M hcf hv)
    (fun Q h => by
        refine br_t (by decide) ⟨by decide, nm_r (e' := nI 5) (by decide) ⟨by decide, nm_r (e' := nI 2) (by decide) (br_f (by decide) ⟨qa_ii 256 2 488 (by omega) (by omega), ?_⟩)⟩⟩
        rw [show ((256 : Int32) + nI 2).toNatClampNeg = 258 by decide]
        refine br_f (by decide) (br_f (by decide) (br_f (by decide) ?_))
        unfold wpX_isChange
        refine br_t (by decide) (br_t rfl ?_)
        refine hXc _ _ rfl rfl ?_
        exact h)
    (fun Q h => by
        refine br_t (by decide) ⟨by decide, nm_r (e' := nI 5) (by decide) ⟨by decide, nm_r (e' := nI 2) (by decide) (br_f (by decide) ⟨qa_ii 256 2 488 (by omega) (by omega), ?_⟩)⟩⟩
        rw [show ((256 : Int32) + nI 2).toNatClampNeg = 258 by decide]
        refine br_f (by decide) (br_f (by decide) (br_f (by decide) ?_))
        unfold wpX_isChange
        refine br_t (by decide) (br_t rfl ?_)
        refine hXc _ _ rfl rfl ?_
        exact h)
  refine ⟨0, 0, s', t', _, e, ml_cy 5 cf v t, da, rn, cn, ?_, Or.inl ⟨rfl, rfl, hE⟩, op_Dof R (hr_ct0 N), by omega, ?_, hY⟩
  · exact Or.inl ⟨by omega, fun post h => ⟨by decide, nm_r (e' := nI 5) (by decide) ⟨by decide, br_f (by decide) (br_f (by decide) h)⟩⟩⟩
  · refine Or.inr (Or.inr ⟨by omega, fun Q h => ?_⟩)
    rw [show (nI 38 - 16) / 4 = nI 5 by decide, show nI 38 &&& 3 = nI 2 by decide]
    refine nm_e (br_f (by decide) ⟨qa_ii 256 2 512 (by omega) (by omega), ?_⟩)
    rw [show ((256 : Int32) + nI 2).toNatClampNeg = 258 by decide]
    refine nm_e ?_
    rw [M.1, M.2.2.2.2.2.2.1, M.2.2.1]
    exact br_f (by decide) (br_f (by decide) (br_f (by decide) (br_f (by decide) (br_t rfl ((((((hYc t _ e Q h).2 (by decide)).2 (by decide)).2 (by decide)).2 (by decide)).1 rfl)))))
theorem op_39 : op_T 39 0 := by
  intro x1 l sa da rn cn sb p s sv iv c t tv jv e hp hlb H M N
  obtain ⟨s1, t1, c1, e1, rn1, cn1, r1, H1, M1, ct1, f1, B1, X1, Y1⟩ := mp_rdp (sa := sa) (dg := nI 39) (da := da) (rn := rn) (cn := cn) (sv := sv) (iv := iv) (sb := sb) (tv := tv) (jv := jv) (st := 6) (st' := 0)  (by decide) (by decide) H M N
  obtain ⟨cf, v, hcf, hv, hXc, hYc⟩ := pr_calc (sa := sa) (dg := nI 39) (st := 0) (da := r1) (rn := rn1) (cn := cn1) (sv := sv) (iv := iv) (c := upd c1 1 (c1 1 + 1)) (sb := sb) (tv := tv) (jv := jv) (k := 5) (s := s1) (x := r1) (by unfold ml_ck; omega) (M1.2.2.2.2.2.2.2.2.1) (B1) (M1.2.2.2.2.2.2.2.2.2.2.2.2.2.2.1) rfl rfl
  obtain ⟨s', t', R, hE, hY⟩ := en_gen (sa := sa) (da := r1) (rn := rn1) (cn := cn1) (sv := sv) (iv := iv) (c := c1) (sb := sb) (tv := tv) (jv := jv) (e := e1) (s := s1) (t := ml_cy 5 cf v t1) (l := l) (o := nI 39) (ml_ce 5 cf v) (fun a => ml_ceA a) (ml_ceB (qa_agU (qa_agU qa_ag0 (by omega)) (by omega))) rfl rfl (by decide) (by decide) (by decide) (by decide) (hr_cml M1) hlb (ml_cyH H1) (hr_cmE M1 hcf hv)
    (fun Q h => by
        refine br_t (by decide) ⟨by decide, nm_r (e' := nI 5) (by decide) ⟨by decide, nm_r (e' := nI 3) (by decide) (br_t rfl ?_)⟩⟩
        refine br_f (by decide) (br_f (by decide) (br_f (by decide) ?_))
        unfold wpX_isChange
        refine br_t (by decide) (br_t rfl ?_)
        refine hXc _ _ rfl rfl ?_
        exact h)
    (fun Q h => by
        refine br_t (by decide) ⟨by decide, nm_r (e' := nI 5) (by decide) ⟨by decide, nm_r (e' := nI 3) (by decide) (br_t rfl ?_)⟩⟩
        refine br_f (by decide) (br_f (by decide) (br_f (by decide) ?_))
        unfold wpX_isChange
        refine br_t (by decide) (br_t rfl ?_)
        refine hXc _ _ rfl rfl ?_
        exact h)
  refine ⟨6, 1, s', t', _, e1, ml_cy 5 cf v t1, r1, rn1, cn1, ?_, Or.inr ⟨by decide, 0, rfl, st_last X1 hE⟩, op_Dof R ct1, by omega, ?_, hY⟩
  · refine Or.inl ⟨by omega, fun post h => ⟨by decide, nm_r (e' := nI 5) (by decide) ⟨by decide, br_t (by decide) (br_f (by decide) (br_f (by decide) ?_))⟩⟩⟩
    unfold wpX_isChange
    exact br_t (by decide) (br_t rfl h)
  · refine Or.inr (Or.inr ⟨by omega, fun Q h => ?_⟩)
    rw [show (nI 39 - 16) / 4 = nI 5 by decide, show nI 39 &&& 3 = nI 3 by decide]
    refine nm_e (br_t rfl ?_)
    refine Y1 _ ?_
    refine nm_e ?_
    have k6 : t 256 = s1 256 := (M.1).trans (f1 256 (by unfold hr_RG; omega)).symm
    rw [k6, M1.2.2.2.2.2.2.1]
    exact br_f (by decide) (br_f (by decide) (br_f (by decide) (br_f (by decide) (br_t rfl ((((((hYc t1 _ e1 Q h).2 (by decide)).2 (by decide)).2 (by decide)).2 (by decide)).1 rfl)))))
theorem op_40 : op_T 40 0 := by
  intro x1 l sa da rn cn sb p s sv iv c t tv jv e hp hlb H M N
  obtain ⟨cf, v, hcf, hv, hXc, hYc⟩ := pr_calc (sa := sa) (dg := nI 40) (st := 0) (da := da) (rn := rn) (cn := cn) (sv := sv) (iv := iv) (c := upd c 1 (c 1 + 1)) (sb := sb) (tv := tv) (jv := jv) (k := 6) (s := s) (x := s 256) (by unfold ml_ck; omega) (M.2.2.2.2.2.2.2.2.1) (M.2.2.2.2.2.2.2.2.1) (M.2.2.2.2.2.2.2.2.2.2.2.2.2.2.1) rfl rfl
  obtain ⟨s', t', R, hE, hY⟩ := en_gen (sa := sa) (da := da) (rn := rn) (cn := cn) (sv := sv) (iv := iv) (c := c) (sb := sb) (tv := tv) (jv := jv) (e := e) (s := s) (t := ml_cy 6 cf v t) (l := l) (o := nI 40) (ml_ce 6 cf v) (fun a => ml_ceA a) (ml_ceB (qa_agU (qa_agU qa_ag0 (by omega)) (by omega))) rfl rfl (by decide) (by decide) (by decide) (by decide) (hr_cml M) hlb (ml_cyH H) (hr_cmE M hcf hv)
    (fun Q h => by
        refine br_t (by decide) ⟨by decide, nm_r (e' := nI 6) (by decide) ⟨by decide, nm_r (e' := nI 0) (by decide) (br_f (by decide) ⟨qa_ii 256 0 488 (by omega) (by omega), ?_⟩)⟩⟩
        rw [show ((256 : Int32) + nI 0).toNatClampNeg = 256 by decide]
        refine br_f (by decide) (br_f (by decide) (br_f (by decide) ?_))
        unfold wpX_isChange
        refine br_t (by decide) (br_t rfl ?_)
        refine hXc _ _ rfl rfl ?_
        exact h)
    (fun Q h => by
        refine br_t (by decide) ⟨by decide, nm_r (e' := nI 6) (by decide) ⟨by decide, nm_r (e' := nI 0) (by decide) (br_f (by decide) ⟨qa_ii 256 0 488 (by omega) (by omega), ?_⟩)⟩⟩
        rw [show ((256 : Int32) + nI 0).toNatClampNeg = 256 by decide]
        refine br_f (by decide) (br_f (by decide) (br_f (by decide) ?_))
        unfold wpX_isChange
        refine br_t (by decide) (br_t rfl ?_)
        refine hXc _ _ rfl rfl ?_
        exact h)
  refine ⟨0, 0, s', t', _, e, ml_cy 6 cf v t, da, rn, cn, ?_, Or.inl ⟨rfl, rfl, hE⟩, op_Dof R (hr_ct0 N), by omega, ?_, hY⟩
  · exact Or.inl ⟨by omega, fun post h => ⟨by decide, nm_r (e' := nI 6) (by decide) ⟨by decide, br_f (by decide) (br_f (by decide) h)⟩⟩⟩
  · refine Or.inr (Or.inr ⟨by omega, fun Q h => ?_⟩)
    rw [show (nI 40 - 16) / 4 = nI 6 by decide, show nI 40 &&& 3 = nI 0 by decide]
    refine nm_e (br_f (by decide) ⟨qa_ii 256 0 512 (by omega) (by omega), ?_⟩)
    rw [show ((256 : Int32) + nI 0).toNatClampNeg = 256 by decide]
    refine nm_e ?_
    rw [M.1, M.2.2.2.2.2.2.1]
    exact br_f (by decide) (br_f (by decide) (br_f (by decide) (br_f (by decide) (br_f (by decide) (br_t rfl (((((((hYc t _ e Q h).2 (by decide)).2 (by decide)).2 (by decide)).2 (by decide)).2 (by decide)).1 rfl))))))
theorem op_41 : op_T 41 0 := by
  intro x1 l sa da rn cn sb p s sv iv c t tv jv e hp hlb H M N
  obtain ⟨cf, v, hcf, hv, hXc, hYc⟩ := pr_calc (sa := sa) (dg := nI 41) (st := 0) (da := da) (rn := rn) (cn := cn) (sv := sv) (iv := iv) (c := upd c 1 (c 1 + 1)) (sb := sb) (tv := tv) (jv := jv) (k := 6) (s := s) (x := s 257) (by unfold ml_ck; omega) (M.2.2.2.2.2.2.2.2.1) (M.2.2.2.2.2.2.2.2.2.1) (M.2.2.2.2.2.2.2.2.2.2.2.2.2.2.1) rfl rfl
  obtain ⟨s', t', R, hE, hY⟩ := en_gen (sa := sa) (da := da) (rn := rn) (cn := cn) (sv := sv) (iv := iv) (c := c) (sb := sb) (tv := tv) (jv := jv) (e := e) (s := s) (t := ml_cy 6 cf v t) (l := l) (o := nI 41) (ml_ce 6 cf v) (fun a => ml_ceA a) (ml_ceB (qa_agU (qa_agU qa_ag0 (by omega)) (by omega))) rfl rfl (by decide) (by decide) (by decide) (by decide) (hr_cml M) hlb (ml_cyH H) (hr_cmE M hcf hv)
    (fun Q h => by
        refine br_t (by decide) ⟨by decide, nm_r (e' := nI 6) (by decide) ⟨by decide, nm_r (e' := nI 1) (by decide) (br_f (by decide) ⟨qa_ii 256 1 488 (by omega) (by omega), ?_⟩)⟩⟩
        rw [show ((256 : Int32) + nI 1).toNatClampNeg = 257 by decide]
        refine br_f (by decide) (br_f (by decide) (br_f (by decide) ?_))
        unfold wpX_isChange
        refine br_t (by decide) (br_t rfl ?_)
        refine hXc _ _ rfl rfl ?_
        exact h)
    (fun Q h => by
        refine br_t (by decide) ⟨by decide, nm_r (e' := nI 6) (by decide) ⟨by decide, nm_r (e' := nI 1) (by decide) (br_f (by decide) ⟨qa_ii 256 1 488 (by omega) (by omega), ?_⟩)⟩⟩
        rw [show ((256 : Int32) + nI 1).toNatClampNeg = 257 by decide]
        refine br_f (by decide) (br_f (by decide) (br_f (by decide) ?_))
        unfold wpX_isChange
        refine br_t (by decide) (br_t rfl ?_)
        refine hXc _ _ rfl rfl ?_
        exact h)
  refine ⟨0, 0, s', t', _, e, ml_cy 6 cf v t, da, rn, cn, ?_, Or.inl ⟨rfl, rfl, hE⟩, op_Dof R (hr_ct0 N), by omega, ?_, hY⟩
  · exact Or.inl ⟨by omega, fun post h => ⟨by decide, nm_r (e' := nI 6) (by decide) ⟨by decide, br_f (by decide) (br_f (by decide) h)⟩⟩⟩
  · refine Or.inr (Or.inr ⟨by omega, fun Q h => ?_⟩)
    rw [show (nI 41 - 16) / 4 = nI 6 by decide, show nI 41 &&& 3 = nI 1 by decide]
    refine nm_e (br_f (by decide) ⟨qa_ii 256 1 512 (by omega) (by omega), ?_⟩)
    rw [show ((256 : Int32) + nI 1).toNatClampNeg = 257 by decide]
    refine nm_e ?_
    rw [M.1, M.2.2.2.2.2.2.1, M.2.1]
    exact br_f (by decide) (br_f (by decide) (br_f (by decide) (br_f (by decide) (br_f (by decide) (br_t rfl (((((((hYc t _ e Q h).2 (by decide)).2 (by decide)).2 (by decide)).2 (by decide)).2 (by decide)).1 rfl))))))
theorem op_42 : op_T 42 0 := by
  intro x1 l sa da rn cn sb p s sv iv c t tv jv e hp hlb H M N
  obtain ⟨cf, v, hcf, hv, hXc, hYc⟩ := pr_calc (sa := sa) (dg := nI 42) (st := 0) (da := da) (rn := rn) (cn := cn) (sv := sv) (iv := iv) (c := upd c 1 (c 1 + 1)) (sb := sb) (tv := tv) (jv := jv) (k := 6) (s := s) (x := s 258) (by unfold ml_ck; omega) (M.2.2.2.2.2.2.2.2.1) (M.2.2.2.2.2.2.2.2.2.2.1) (M.2.2.2.2.2.2.2.2.2.2.2.2.2.2.1) rfl rfl
  obtain ⟨s', t', R, hE, hY⟩ := en_gen (sa := sa) (da := da) (rn := rn) (cn := cn) (sv := sv) (iv := iv) (c := c) (sb := sb) (tv := tv) (jv := jv) (e := e) (s := s) (t := ml_cy 6 cf v t) (l := l) (o := nI 42) (ml_ce 6 cf v) (fun a => ml_ceA a) (ml_ceB (qa_agU (qa_agU qa_ag0 (by omega)) (by omega))) rfl rfl (by decide) (by decide) (by decide) (by decide) (hr_cml M) hlb (ml_cyH H) (hr_cmE M hcf hv)
    (fun Q h => by
        refine br_t (by decide) ⟨by decide, nm_r (e' := nI 6) (by decide) ⟨by decide, nm_r (e' := nI 2) (by decide) (br_f (by decide) ⟨qa_ii 256 2 488 (by omega) (by omega), ?_⟩)⟩⟩
        rw [show ((256 : Int32) + nI 2).toNatClampNeg = 258 by decide]
        refine br_f (by decide) (br_f (by decide) (br_f (by decide) ?_))
        unfold wpX_isChange
        refine br_t (by decide) (br_t rfl ?_)
        refine hXc _ _ rfl rfl ?_
        exact h)
    (fun Q h => by
        refine br_t (by decide) ⟨by decide, nm_r (e' := nI 6) (by decide) ⟨by decide, nm_r (e' := nI 2) (by decide) (br_f (by decide) ⟨qa_ii 256 2 488 (by omega) (by omega), ?_⟩)⟩⟩
        rw [show ((256 : Int32) + nI 2).toNatClampNeg = 258 by decide]
        refine br_f (by decide) (br_f (by decide) (br_f (by decide) ?_))
        unfold wpX_isChange
        refine br_t (by decide) (br_t rfl ?_)
        refine hXc _ _ rfl rfl ?_
        exact h)
  refine ⟨0, 0, s', t', _, e, ml_cy 6 cf v t, da, rn, cn, ?_, Or.inl ⟨rfl, rfl, hE⟩, op_Dof R (hr_ct0 N), by omega, ?_, hY⟩
  · exact Or.inl ⟨by omega, fun post h => ⟨by decide, nm_r (e' := nI 6) (by decide) ⟨by decide, br_f (by decide) (br_f (by decide) h)⟩⟩⟩
  · refine Or.inr (Or.inr ⟨by omega, fun Q h => ?_⟩)
    rw [show (nI 42 - 16) / 4 = nI 6 by decide, show nI 42 &&& 3 = nI 2 by decide]
    refine nm_e (br_f (by decide) ⟨qa_ii 256 2 512 (by omega) (by omega), ?_⟩)
    rw [show ((256 : Int32) + nI 2).toNatClampNeg = 258 by decide]
    refine nm_e ?_
    rw [M.1, M.2.2.2.2.2.2.1, M.2.2.1]
    exact br_f (by decide) (br_f (by decide) (br_f (by decide) (br_f (by decide) (br_f (by decide) (br_t rfl (((((((hYc t _ e Q h).2 (by decide)).2 (by decide)).2 (by decide)).2 (by decide)).2 (by decide)).1 rfl))))))
theorem op_43 : op_T 43 0 := by
  intro x1 l sa da rn cn sb p s sv iv c t tv jv e hp hlb H M N
  obtain ⟨s1, t1, c1, e1, rn1, cn1, r1, H1, M1, ct1, f1, B1, X1, Y1⟩ := mp_rdp (sa := sa) (dg := nI 43) (da := da) (rn := rn) (cn := cn) (sv := sv) (iv := iv) (sb := sb) (tv := tv) (jv := jv) (st := 6) (st' := 0)  (by decide) (by decide) H M N
  obtain ⟨cf, v, hcf, hv, hXc, hYc⟩ := pr_calc (sa := sa) (dg := nI 43) (st := 0) (da := r1) (rn := rn1) (cn := cn1) (sv := sv) (iv := iv) (c := upd c1 1 (c1 1 + 1)) (sb := sb) (tv := tv) (jv := jv) (k := 6) (s := s1) (x := r1) (by unfold ml_ck; omega) (M1.2.2.2.2.2.2.2.2.1) (B1) (M1.2.2.2.2.2.2.2.2.2.2.2.2.2.2.1) rfl rfl
  obtain ⟨s', t', R, hE, hY⟩ := en_gen (sa := sa) (da := r1) (rn := rn1) (cn := cn1) (sv := sv) (iv := iv) (c := c1) (sb := sb) (tv := tv) (jv := jv) (e := e1) (s := s1) (t := ml_cy 6 cf v t1) (l := l) (o := nI 43) (ml_ce 6 cf v) (fun a => ml_ceA a) (ml_ceB (qa_agU (qa_agU qa_ag0 (by omega)) (by omega))) rfl rfl (by decide) (by decide) (by decide) (by decide) (hr_cml M1) hlb (ml_cyH H1) (hr_cmE M1 hcf hv)
    (fun Q h => by
        refine br_t (by decide) ⟨by decide, nm_r (e' := nI 6) (by decide) ⟨by decide, nm_r (e' := nI 3) (by decide) (br_t rfl ?_)⟩⟩
        refine br_f (by decide) (br_f (by decide) (br_f (by decide) ?_))
        unfold wpX_isChange
        refine br_t (by decide) (br_t rfl ?_)
        refine hXc _ _ rfl rfl ?_
        exact h)
    (fun Q h => by
        refine br_t (by decide) ⟨by decide, nm_r (e' := nI 6) (by decide) ⟨by decide, nm_r (e' := nI 3) (by decide) (br_t rfl ?_)⟩⟩
        refine br_f (by decide) (br_f (by decide) (br_f (by decide) ?_))
        unfold wpX_isChange
        refine br_t (by decide) (br_t rfl ?_)
        refine hXc _ _ rfl rfl ?_
        exact h)
  refine ⟨6, 1, s', t', _, e1, ml_cy 6 cf v t1, r1, rn1, cn1, ?_, Or.inr ⟨by decide, 0, rfl, st_last X1 hE⟩, op_Dof R ct1, by omega, ?_, hY⟩
  · refine Or.inl ⟨by omega, fun post h => ⟨by decide, nm_r (e' := nI 6) (by decide) ⟨by decide, br_t (by decide) (br_f (by decide) (br_f (by decide) ?_))⟩⟩⟩
    unfold wpX_isChange
    exact br_t (by decide) (br_t rfl h)
  · refine Or.inr (Or.inr ⟨by omega, fun Q h => ?_⟩)
    rw [show (nI 43 - 16) / 4 = nI 6 by decide, show nI 43 &&& 3 = nI 3 by decide]
    refine nm_e (br_t rfl ?_)
    refine Y1 _ ?_
    refine nm_e ?_
    have k6 : t 256 = s1 256 := (M.1).trans (f1 256 (by unfold hr_RG; omega)).symm
    rw [k6, M1.2.2.2.2.2.2.1]
    exact br_f (by decide) (br_f (by decide) (br_f (by decide) (br_f (by decide) (br_f (by decide) (br_t rfl (((((((hYc t1 _ e1 Q h).2 (by decide)).2 (by decide)).2 (by decide)).2 (by decide)).2 (by decide)).1 rfl))))))
theorem op_44 : op_T 44 0 := by
  intro x1 l sa da rn cn sb p s sv iv c t tv jv e hp hlb H M N
  obtain ⟨cf, v, hcf, hv, hXc, hYc⟩ := pr_calc (sa := sa) (dg := nI 44) (st := 0) (da := da) (rn := rn) (cn := cn) (sv := sv) (iv := iv) (c := upd c 1 (c 1 + 1)) (sb := sb) (tv := tv) (jv := jv) (k := 7) (s := s) (x := s 256) (by unfold ml_ck; omega) (M.2.2.2.2.2.2.2.2.1) (M.2.2.2.2.2.2.2.2.1) (M.2.2.2.2.2.2.2.2.2.2.2.2.2.2.1) rfl rfl
  obtain ⟨s', t', R, hE, hY⟩ := en_gen (sa := sa) (da := da) (rn := rn) (cn := cn) (sv := sv) (iv := iv) (c := c) (sb := sb) (tv := tv) (jv := jv) (e := e) (s := s) (t := ml_cy 7 cf v t) (l := l) (o := nI 44) (ml_ce 7 cf v) (fun a => ml_ceA a) (ml_ceB (qa_agU (qa_agU qa_ag0 (by omega)) (by omega))) rfl rfl (by decide) (by decide) (by decide) (by decide) (hr_cml M) hlb (ml_cyH H) (hr_cmE M hcf hv)
    (fun Q h => by
        refine br_t (by decide) ⟨by decide, nm_r (e' := nI 7) (by decide) ⟨by decide, nm_r (e' := nI 0) (by decide) (br_f (by decide) ⟨qa_ii 256 0 488 (by omega) (by omega), ?_⟩)⟩⟩
        rw [show ((256 : Int32) + nI 0).toNatClampNeg = 256 by decide]
        refine br_f (by decide) (br_f (by decide) (br_f (by decide) ?_))
        unfold wpX_isChange
        refine br_t (by decide) (br_t rfl ?_)
        refine hXc _ _ rfl rfl ?_
        exact h)
    (fun Q h => by
        refine br_t (by decide) ⟨by decide, nm_r (e' := nI 7) (by decide) ⟨by decide, nm_r (e' := nI 0) (by decide) (br_f (by decide) ⟨qa_ii 256 0 488 (by omega) (by omega), ?_⟩)⟩⟩
        rw [show ((256 : Int32) + nI 0).toNatClampNeg = 256 by decide]
        refine br_f (by decide) (br_f (by decide) (br_f (by decide) ?_))
        unfold wpX_isChange
        refine br_t (by decide) (br_t rfl ?_)
        refine hXc _ _ rfl rfl ?_
        exact h)
  refine ⟨0, 0, s', t', _, e, ml_cy 7 cf v t, da, rn, cn, ?_, Or.inl ⟨rfl, rfl, hE⟩, op_Dof R (hr_ct0 N), by omega, ?_, hY⟩
  · exact Or.inl ⟨by omega, fun post h => ⟨by decide, nm_r (e' := nI 7) (by decide) ⟨by decide, br_f (by decide) (br_f (by decide) h)⟩⟩⟩
  · refine Or.inr (Or.inr ⟨by omega, fun Q h => ?_⟩)
    rw [show (nI 44 - 16) / 4 = nI 7 by decide, show nI 44 &&& 3 = nI 0 by decide]
    refine nm_e (br_f (by decide) ⟨qa_ii 256 0 512 (by omega) (by omega), ?_⟩)
    rw [show ((256 : Int32) + nI 0).toNatClampNeg = 256 by decide]
    refine nm_e ?_
    rw [M.1, M.2.2.2.2.2.2.1]
    exact br_f (by decide) (br_f (by decide) (br_f (by decide) (br_f (by decide) (br_f (by decide) (br_f (by decide) (br_t rfl ((((((((hYc t _ e Q h).2 (by decide)).2 (by decide)).2 (by decide)).2 (by decide)).2 (by decide)).2 (by decide)) rfl)))))))
theorem op_45 : op_T 45 0 := by
  intro x1 l sa da rn cn sb p s sv iv c t tv jv e hp hlb H M N
  obtain ⟨cf, v, hcf, hv, hXc, hYc⟩ := pr_calc (sa := sa) (dg := nI 45) (st := 0) (da := da) (rn := rn) (cn := cn) (sv := sv) (iv := iv) (c := upd c 1 (c 1 + 1)) (sb := sb) (tv := tv) (jv := jv) (k := 7) (s := s) (x := s 257) (by unfold ml_ck; omega) (M.2.2.2.2.2.2.2.2.1) (M.2.2.2.2.2.2.2.2.2.1) (M.2.2.2.2.2.2.2.2.2.2.2.2.2.2.1) rfl rfl
  obtain ⟨s', t', R, hE, hY⟩ := en_gen (sa := sa) (da := da) (rn := rn) (cn := cn) (sv := sv) (iv := iv) (c := c) (sb := sb) (tv := tv) (jv := jv) (e := e) (s := s) (t := ml_cy 7 cf v t) (l := l) (o := nI 45) (ml_ce 7 cf v) (fun a => ml_ceA a) (ml_ceB (qa_agU (qa_agU qa_ag0 (by omega)) (by omega))) rfl rfl (by decide) (by decide) (by decide) (by decide) (hr_cml M) hlb (ml_cyH H) (hr_cmE M hcf hv)
    (fun Q h => by
        refine br_t (by decide) ⟨by decide, nm_r (e' := nI 7) (by decide) ⟨by decide, nm_r (e' := nI 1) (by decide) (br_f (by decide) ⟨qa_ii 256 1 488 (by omega) (by omega), ?_⟩)⟩⟩
        rw [show ((256 : Int32) + nI 1).toNatClampNeg = 257 by decide]
        refine br_f (by decide) (br_f (by decide) (br_f (by decide) ?_))
        unfold wpX_isChange
        refine br_t (by decide) (br_t rfl ?_)
        refine hXc _ _ rfl rfl ?_
        exact h)
    (fun Q h => by
        refine br_t (by decide) ⟨by decide, nm_r (e' := nI 7) (by decide) ⟨by decide, nm_r (e' := nI 1) (by decide) (br_f (by decide) ⟨qa_ii 256 1 488 (by omega) (by omega), ?_⟩)⟩⟩
        rw [show ((256 : Int32) + nI 1).toNatClampNeg = 257 by decide]
        refine br_f (by decide) (br_f (by decide) (br_f (by decide) ?_))
        unfold wpX_isChange
        refine br_t (by decide) (br_t rfl ?_)
        refine hXc _ _ rfl rfl ?_
        exact h)
  refine ⟨0, 0, s', t', _, e, ml_cy 7 cf v t, da, rn, cn, ?_, Or.inl ⟨rfl, rfl, hE⟩, op_Dof R (hr_ct0 N), by omega, ?_, hY⟩
  · exact Or.inl ⟨by omega, fun post h => ⟨by decide, nm_r (e' := nI 7) (by decide) ⟨by decide, br_f (by decide) (br_f (by decide) h)⟩⟩⟩
  · refine Or.inr (Or.inr ⟨by omega, fun Q h => ?_⟩)
    rw [show (nI 45 - 16) / 4 = nI 7 by decide, show nI 45 &&& 3 = nI 1 by decide]
    refine nm_e (br_f (by decide) ⟨qa_ii 256 1 512 (by omega) (by omega), ?_⟩)
    rw [show ((256 : Int32) + nI 1).toNatClampNeg = 257 by decide]
    refine nm_e ?_
    rw [M.1, M.2.2.2.2.2.2.1, M.2.1]
    exact br_f (by decide) (br_f (by decide) (br_f (by decide) (br_f (by decide) (br_f (by decide) (br_f (by decide) (br_t rfl ((((((((hYc t _ e Q h).2 (by decide)).2 (by decide)).2 (by decide)).2 (by decide)).2 (by decide)).2 (by decide)) rfl)))))))
theorem op_46 : op_T 46 0 := by
  intro x1 l sa da rn cn sb p s sv iv c t tv jv e hp hlb H M N
  obtain ⟨cf, v, hcf, hv, hXc, hYc⟩ := pr_calc (sa := sa) (dg := nI 46) (st := 0) (da := da) (rn := rn) (cn := cn) (sv := sv) (iv := iv) (c := upd c 1 (c 1 + 1)) (sb := sb) (tv := tv) (jv := jv) (k := 7) (s := s) (x := s 258) (by unfold ml_ck; omega) (M.2.2.2.2.2.2.2.2.1) (M.2.2.2.2.2.2.2.2.2.2.1) (M.2.2.2.2.2.2.2.2.2.2.2.2.2.2.1) rfl rfl
  obtain ⟨s', t', R, hE, hY⟩ := en_gen (sa := sa) (da := da) (rn := rn) (cn := cn) (sv := sv) (iv := iv) (c := c) (sb := sb) (tv := tv) (jv := jv) (e := e) (s := s) (t := ml_cy 7 cf v t) (l := l) (o := nI 46) (ml_ce 7 cf v) (fun a => ml_ceA a) (ml_ceB (qa_agU (qa_agU qa_ag0 (by omega)) (by omega))) rfl rfl (by decide) (by decide) (by decide) (by decide) (hr_cml M) hlb (ml_cyH H) (hr_cmE M hcf hv)
    (fun Q h => by
        refine br_t (by decide) ⟨by decide, nm_r (e' := nI 7) (by decide) ⟨by decide, nm_r (e' := nI 2) (by decide) (br_f (by decide) ⟨qa_ii 256 2 488 (by omega) (by omega), ?_⟩)⟩⟩
        rw [show ((256 : Int32) + nI 2).toNatClampNeg = 258 by decide]
        refine br_f (by decide) (br_f (by decide) (br_f (by decide) ?_))
        unfold wpX_isChange
        refine br_t (by decide) (br_t rfl ?_)
        refine hXc _ _ rfl rfl ?_
        exact h)
    (fun Q h => by
        refine br_t (by decide) ⟨by decide, nm_r (e' := nI 7) (by decide) ⟨by decide, nm_r (e' := nI 2) (by decide) (br_f (by decide) ⟨qa_ii 256 2 488 (by omega) (by omega), ?_⟩)⟩⟩
        rw [show ((256 : Int32) + nI 2).toNatClampNeg = 258 by decide]
        refine br_f (by decide) (br_f (by decide) (br_f (by decide) ?_))
        unfold wpX_isChange
        refine br_t (by decide) (br_t rfl ?_)
        refine hXc _ _ rfl rfl ?_
        exact h)
  refine ⟨0, 0, s', t', _, e, ml_cy 7 cf v t, da, rn, cn, ?_, Or.inl ⟨rfl, rfl, hE⟩, op_Dof R (hr_ct0 N), by omega, ?_, hY⟩
  · exact Or.inl ⟨by omega, fun post h => ⟨by decide, nm_r (e' := nI 7) (by decide) ⟨by decide, br_f (by decide) (br_f (by decide) h)⟩⟩⟩
  · refine Or.inr (Or.inr ⟨by omega, fun Q h => ?_⟩)
    rw [show (nI 46 - 16) / 4 = nI 7 by decide, show nI 46 &&& 3 = nI 2 by decide]
    refine nm_e (br_f (by decide) ⟨qa_ii 256 2 512 (by omega) (by omega), ?_⟩)
    rw [show ((256 : Int32) + nI 2).toNatClampNeg = 258 by decide]
    refine nm_e ?_
    rw [M.1, M.2.2.2.2.2.2.1, M.2.2.1]
    exact br_f (by decide) (br_f (by decide) (br_f (by decide) (br_f (by decide) (br_f (by decide) (br_f (by decide) (br_t rfl ((((((((hYc t _ e Q h).2 (by decide)).2 (by decide)).2 (by decide)).2 (by decide)).2 (by decide)).2 (by decide)) rfl)))))))
theorem op_47 : op_T 47 0 := by
  intro x1 l sa da rn cn sb p s sv iv c t tv jv e hp hlb H M N
  obtain ⟨s1, t1, c1, e1, rn1, cn1, r1, H1, M1, ct1, f1, B1, X1, Y1⟩ := mp_rdp (sa := sa) (dg := nI 47) (da := da) (rn := rn) (cn := cn) (sv := sv) (iv := iv) (sb := sb) (tv := tv) (jv := jv) (st := 6) (st' := 0)  (by decide) (by decide) H M N
  obtain ⟨cf, v, hcf, hv, hXc, hYc⟩ := pr_calc (sa := sa) (dg := nI 47) (st := 0) (da := r1) (rn := rn1) (cn := cn1) (sv := sv) (iv := iv) (c := upd c1 1 (c1 1 + 1)) (sb := sb) (tv := tv) (jv := jv) (k := 7) (s := s1) (x := r1) (by unfold ml_ck; omega) (M1.2.2.2.2.2.2.2.2.1) (B1) (M1.2.2.2.2.2.2.2.2.2.2.2.2.2.2.1) rfl rfl
  obtain ⟨s', t', R, hE, hY⟩ := en_gen (sa := sa) (da := r1) (rn := rn1) (cn := cn1) (sv := sv) (iv := iv) (c := c1) (sb := sb) (tv := tv) (jv := jv) (e := e1) (s := s1) (t := ml_cy 7 cf v t1) (l := l) (o := nI 47) (ml_ce 7 cf v) (fun a => ml_ceA a) (ml_ceB (qa_agU (qa_agU qa_ag0 (by omega)) (by omega))) rfl rfl (by decide) (by decide) (by decide) (by decide) (hr_cml M1) hlb (ml_cyH H1) (hr_cmE M1 hcf hv)
    (fun Q h => by
        refine br_t (by decide) ⟨by decide, nm_r (e' := nI 7) (by decide) ⟨by decide, nm_r (e' := nI 3) (by decide) (br_t rfl ?_)⟩⟩
        refine br_f (by decide) (br_f (by decide) (br_f (by decide) ?_))
        unfold wpX_isChange
        refine br_t (by decide) (br_t rfl ?_)
        refine hXc _ _ rfl rfl ?_
        exact h)
    (fun Q h => by
        refine br_t (by decide) ⟨by decide, nm_r (e' := nI 7) (by decide) ⟨by decide, nm_r (e' := nI 3) (by decide) (br_t rfl ?_)⟩⟩
        refine br_f (by decide) (br_f (by decide) (br_f (by decide) ?_))
        unfold wpX_isChange
        refine br_t (by decide) (br_t rfl ?_)
        refine hXc _ _ rfl rfl ?_
        exact h)
  refine ⟨6, 1, s', t', _, e1, ml_cy 7 cf v t1, r1, rn1, cn1, ?_, Or.inr ⟨by decide, 0, rfl, st_last X1 hE⟩, op_Dof R ct1, by omega, ?_, hY⟩
  · refine Or.inl ⟨by omega, fun post h => ⟨by decide, nm_r (e' := nI 7) (by decide) ⟨by decide, br_t (by decide) (br_f (by decide) (br_f (by decide) ?_))⟩⟩⟩
    unfold wpX_isChange
    exact br_t (by decide) (br_t rfl h)
  · refine Or.inr (Or.inr ⟨by omega, fun Q h => ?_⟩)
    rw [show (nI 47 - 16) / 4 = nI 7 by decide, show nI 47 &&& 3 = nI 3 by decide]
    refine nm_e (br_t rfl ?_)
    refine Y1 _ ?_
    refine nm_e ?_
    have k6 : t 256 = s1 256 := (M.1).trans (f1 256 (by unfold hr_RG; omega)).symm
    rw [k6, M1.2.2.2.2.2.2.1]
    exact br_f (by decide) (br_f (by decide) (br_f (by decide) (br_f (by decide) (br_f (by decide) (br_f (by decide) (br_t rfl ((((((((hYc t1 _ e1 Q h).2 (by decide)).2 (by decide)).2 (by decide)).2 (by decide)).2 (by decide)).2 (by decide)) rfl)))))))
theorem op_48 : op_T 48 0 := by
  intro x1 l sa da rn cn sb p s sv iv c t tv jv e hp hlb H M N
  obtain ⟨s', t', R, hE, hY⟩ := en_gen (sa := sa) (da := da) (rn := rn) (cn := cn) (sv := sv) (iv := iv) (c := c) (sb := sb) (tv := tv) (jv := jv) (e := e) (s := s) (t := upd (upd (upd t 261 (ml_zf (ml_ch 8 (s 256) (s 262)))) 262 (ml_kf 8 (s 256) (s 262))) 256 (ml_ch 8 (s 256) (s 262))) (l := l) (o := nI 48) (fun a => upd (upd a 261 (ml_zf (ml_ch 8 (s 256) (s 262)))) 256 (ml_ch 8 (s 256) (s 262))) (fun a => qa_agU (qa_agU qa_ag0 (by omega)) (by omega)) (qa_agB (qa_agB (qa_agU (qa_agU qa_ag0 (by omega)) (by omega)))) rfl rfl (by decide) (by decide) (by decide) (by decide) (hr_cml M) hlb (hr_HwY (hr_HwY (hr_HwY H (by omega)) (by omega)) (by omega)) (hr_cmB (hr_cmC (x := (s 256)) M (Or.inl rfl)) (by omega) (ml_chB (Or.inl rfl) (M.2.2.2.2.2.2.2.2.1) (M.2.2.2.2.2.2.2.2.2.2.2.2.2.2.1)) rfl)
    (fun Q h => by
        refine br_t (by decide) ⟨by decide, nm_r (e' := nI 8) (by decide) ⟨by decide, nm_r (e' := nI 0) (by decide) (br_f (by decide) ⟨qa_ii 256 0 488 (by omega) (by omega), ?_⟩)⟩⟩
        rw [show ((256 : Int32) + nI 0).toNatClampNeg = 256 by decide]
        refine br_f (by decide) (br_f (by decide) (br_f (by decide) ?_))
        unfold wpX_isChange
        refine br_f (by decide) (br_f (by decide) (br_f (by decide) ?_))
        refine br_f (by decide) (br_f (by decide) (br_f (by decide) ?_))
        refine mx_changed (k := 8) (Or.inl rfl) ?_
        exact ⟨qa_ii 256 0 488 (by omega) (by omega), nm_r (qa_up _ _ (qa_ic 256 0 (by omega))) h⟩)
    (fun Q h => by
        refine br_t (by decide) ⟨by decide, nm_r (e' := nI 8) (by decide) ⟨by decide, nm_r (e' := nI 0) (by decide) (br_f (by decide) ⟨qa_ii 256 0 488 (by omega) (by omega), ?_⟩)⟩⟩
        rw [show ((256 : Int32) + nI 0).toNatClampNeg = 256 by decide]
        refine br_f (by decide) (br_f (by decide) (br_f (by decide) ?_))
        unfold wpX_isChange
        refine br_f (by decide) (br_f (by decide) (br_f (by decide) ?_))
        refine br_f (by decide) (br_f (by decide) (br_f (by decide) ?_))
        refine mx_changed (k := 8) (Or.inl rfl) ?_
        exact ⟨qa_ii 256 0 488 (by omega) (by omega), nm_r (qa_up _ _ (qa_ic 256 0 (by omega))) h⟩)
  refine ⟨0, 0, s', t', _, e, upd (upd (upd t 261 (ml_zf (ml_ch 8 (s 256) (s 262)))) 262 (ml_kf 8 (s 256) (s 262))) 256 (ml_ch 8 (s 256) (s 262)), da, rn, cn, ?_, Or.inl ⟨rfl, rfl, hE⟩, op_Dof R (hr_ct0 N), by omega, ?_, hY⟩
  · exact Or.inl ⟨by omega, fun post h => ⟨by decide, nm_r (e' := nI 8) (by decide) ⟨by decide, br_f (by decide) (br_f (by decide) h)⟩⟩⟩
  · refine Or.inr (Or.inr ⟨by omega, fun Q h => ?_⟩)
    rw [show (nI 48 - 16) / 4 = nI 8 by decide, show nI 48 &&& 3 = nI 0 by decide]
    refine nm_e (br_f (by decide) ⟨qa_ii 256 0 512 (by omega) (by omega), ?_⟩)
    rw [show ((256 : Int32) + nI 0).toNatClampNeg = 256 by decide]
    refine nm_e ?_
    rw [M.2.2.2.2.2.2.1, M.1]
    exact br_f (by decide) (br_f (by decide) (br_f (by decide) (br_f (by decide) (br_f (by decide) (br_f (by decide) (br_f (by decide) (br_t rfl (nm_e (my_199c (k := 8) (Or.inl rfl) rfl (br_f (by decide) ⟨qa_ii 256 0 512 (by omega) (by omega), nm_r (qa_up _ _ (qa_ic 256 0 (by omega))) h⟩))))))))))
theorem op_49 : op_T 49 0 := by
  intro x1 l sa da rn cn sb p s sv iv c t tv jv e hp hlb H M N
  obtain ⟨s', t', R, hE, hY⟩ := en_gen (sa := sa) (da := da) (rn := rn) (cn := cn) (sv := sv) (iv := iv) (c := c) (sb := sb) (tv := tv) (jv := jv) (e := e) (s := s) (t := upd (upd (upd t 261 (ml_zf (ml_ch 8 (s 257) (s 262)))) 262 (ml_kf 8 (s 257) (s 262))) 257 (ml_ch 8 (s 257) (s 262))) (l := l) (o := nI 49) (fun a => upd (upd a 261 (ml_zf (ml_ch 8 (s 257) (s 262)))) 257 (ml_ch 8 (s 257) (s 262))) (fun a => qa_agU (qa_agU qa_ag0 (by omega)) (by omega)) (qa_agB (qa_agB (qa_agU (qa_agU qa_ag0 (by omega)) (by omega)))) rfl rfl (by decide) (by decide) (by decide) (by decide) (hr_cml M) hlb (hr_HwY (hr_HwY (hr_HwY H (by omega)) (by omega)) (by omega)) (hr_cmB (hr_cmC (x := (s 257)) M (Or.inl rfl)) (by omega) (ml_chB (Or.inl rfl) (M.2.2.2.2.2.2.2.2.2.1) (M.2.2.2.2.2.2.2.2.2.2.2.2.2.2.1)) rfl)
    (fun Q h => by
        refine br_t (by decide) ⟨by decide, nm_r (e' := nI 8) (by decide) ⟨by decide, nm_r (e' := nI 1) (by decide) (br_f (by decide) ⟨qa_ii 256 1 488 (by omega) (by omega), ?_⟩)⟩⟩
        rw [show ((256 : Int32) + nI 1).toNatClampNeg = 257 by decide]
        refine br_f (by decide) (br_f (by decide) (br_f (by decide) ?_))
        unfold wpX_isChange
        refine br_f (by decide) (br_f (by decide) (br_f (by decide) ?_))
        refine br_f (by decide) (br_f (by decide) (br_f (by decide) ?_))
        refine mx_changed (k := 8) (Or.inl rfl) ?_
        exact ⟨qa_ii 256 1 488 (by omega) (by omega), nm_r (qa_up _ _ (qa_ic 256 1 (by omega))) h⟩)
    (fun Q h => by
        refine br_t (by decide) ⟨by decide, nm_r (e' := nI 8) (by decide) ⟨by decide, nm_r (e' := nI 1) (by decide) (br_f (by decide) ⟨qa_ii 256 1 488 (by omega) (by omega), ?_⟩)⟩⟩
        rw [show ((256 : Int32) + nI 1).toNatClampNeg = 257 by decide]
        refine br_f (by decide) (br_f (by decide) (br_f (by decide) ?_))
        unfold wpX_isChange
        refine br_f (by decide) (br_f (by decide) (br_f (by decide) ?_))
        refine br_f (by decide) (br_f (by decide) (br_f (by decide) ?_))
        refine mx_changed (k := 8) (Or.inl rfl) ?_
        exact ⟨qa_ii 256 1 488 (by omega) (by omega), nm_r (qa_up _ _ (qa_ic 256 1 (by omega))) h⟩)
  refine ⟨0, 0, s', t', _, e, upd (upd (upd t 261 (ml_zf (ml_ch 8 (s 257) (s 262)))) 262 (ml_kf 8 (s 257) (s 262))) 257 (ml_ch 8 (s 257) (s 262)), da, rn, cn, ?_, Or.inl ⟨rfl, rfl, hE⟩, op_Dof R (hr_ct0 N), by omega, ?_, hY⟩
  · exact Or.inl ⟨by omega, fun post h => ⟨by decide, nm_r (e' := nI 8) (by decide) ⟨by decide, br_f (by decide) (br_f (by decide) h)⟩⟩⟩
  · refine Or.inr (Or.inr ⟨by omega, fun Q h => ?_⟩)
    rw [show (nI 49 - 16) / 4 = nI 8 by decide, show nI 49 &&& 3 = nI 1 by decide]
    refine nm_e (br_f (by decide) ⟨qa_ii 256 1 512 (by omega) (by omega), ?_⟩)
    rw [show ((256 : Int32) + nI 1).toNatClampNeg = 257 by decide]
    refine nm_e ?_
    rw [M.2.2.2.2.2.2.1, M.2.1]
    exact br_f (by decide) (br_f (by decide) (br_f (by decide) (br_f (by decide) (br_f (by decide) (br_f (by decide) (br_f (by decide) (br_t rfl (nm_e (my_199c (k := 8) (Or.inl rfl) rfl (br_f (by decide) ⟨qa_ii 256 1 512 (by omega) (by omega), nm_r (qa_up _ _ (qa_ic 256 1 (by omega))) h⟩))))))))))
theorem op_50 : op_T 50 0 := by
  intro x1 l sa da rn cn sb p s sv iv c t tv jv e hp hlb H M N
  obtain ⟨s', t', R, hE, hY⟩ := en_gen (sa := sa) (da := da) (rn := rn) (cn := cn) (sv := sv) (iv := iv) (c := c) (sb := sb) (tv := tv) (jv := jv) (e := e) (s := s) (t := upd (upd (upd t 261 (ml_zf (ml_ch 8 (s 258) (s 262)))) 262 (ml_kf 8 (s 258) (s 262))) 258 (ml_ch 8 (s 258) (s 262))) (l := l) (o := nI 50) (fun a => upd (upd a 261 (ml_zf (ml_ch 8 (s 258) (s 262)))) 258 (ml_ch 8 (s 258) (s 262))) (fun a => qa_agU (qa_agU qa_ag0 (by omega)) (by omega)) (qa_agB (qa_agB (qa_agU (qa_agU qa_ag0 (by omega)) (by omega)))) rfl rfl (by decide) (by decide) (by decide) (by decide) (hr_cml M) hlb (hr_HwY (hr_HwY (hr_HwY H (by omega)) (by omega)) (by omega)) (hr_cmB (hr_cmC (x := (s 258)) M (Or.inl rfl)) (by omega) (ml_chB (Or.inl rfl) (M.2.2.2.2.2.2.2.2.2.2.1) (M.2.2.2.2.2.2.2.2.2.2.2.2.2.2.1)) rfl)
    (fun Q h => by
        refine br_t (by decide) ⟨by decide, nm_r (e' := nI 8) (by decide) ⟨by decide, nm_r (e' := nI 2) (by decide) (br_f (by decide) ⟨qa_ii 256 2 488 (by omega) (by omega), ?_⟩)⟩⟩
        rw [show ((256 : Int32) + nI 2).toNatClampNeg = 258 by decide]
        refine br_f (by decide) (br_f (by decide) (br_f (by decide) ?_))
        unfold wpX_isChange
        refine br_f (by decide) (br_f (by decide) (br_f (by decide) ?_))
        refine br_f (by decide) (br_f (by decide) (br_f (by decide) ?_))
        refine mx_changed (k := 8) (Or.inl rfl) ?_
        exact ⟨qa_ii 256 2 488 (by omega) (by omega), nm_r (qa_up _ _ (qa_ic 256 2 (by omega))) h⟩)
    (fun Q h => by
        refine br_t (by decide) ⟨by decide, nm_r (e' := nI 8) (by decide) ⟨by decide, nm_r (e' := nI 2) (by decide) (br_f (by decide) ⟨qa_ii 256 2 488 (by omega) (by omega), ?_⟩)⟩⟩
        rw [show ((256 : Int32) + nI 2).toNatClampNeg = 258 by decide]
        refine br_f (by decide) (br_f (by decide) (br_f (by decide) ?_))
        unfold wpX_isChange
        refine br_f (by decide) (br_f (by decide) (br_f (by decide) ?_))
        refine br_f (by decide) (br_f (by decide) (br_f (by decide) ?_))
        refine mx_changed (k := 8) (Or.inl rfl) ?_
        exact ⟨qa_ii 256 2 488 (by omega) (by omega), nm_r (qa_up _ _ (qa_ic 256 2 (by omega))) h⟩)
  refine ⟨0, 0, s', t', _, e, upd (upd (upd t 261 (ml_zf (ml_ch 8 (s 258) (s 262)))) 262 (ml_kf 8 (s 258) (s 262))) 258 (ml_ch 8 (s 258) (s 262)), da, rn, cn, ?_, Or.inl ⟨rfl, rfl, hE⟩, op_Dof R (hr_ct0 N), by omega, ?_, hY⟩
  · exact Or.inl ⟨by omega, fun post h => ⟨by decide, nm_r (e' := nI 8) (by decide) ⟨by decide, br_f (by decide) (br_f (by decide) h)⟩⟩⟩
  · refine Or.inr (Or.inr ⟨by omega, fun Q h => ?_⟩)
    rw [show (nI 50 - 16) / 4 = nI 8 by decide, show nI 50 &&& 3 = nI 2 by decide]
    refine nm_e (br_f (by decide) ⟨qa_ii 256 2 512 (by omega) (by omega), ?_⟩)
    rw [show ((256 : Int32) + nI 2).toNatClampNeg = 258 by decide]
    refine nm_e ?_
    rw [M.2.2.2.2.2.2.1, M.2.2.1]
    exact br_f (by decide) (br_f (by decide) (br_f (by decide) (br_f (by decide) (br_f (by decide) (br_f (by decide) (br_f (by decide) (br_t rfl (nm_e (my_199c (k := 8) (Or.inl rfl) rfl (br_f (by decide) ⟨qa_ii 256 2 512 (by omega) (by omega), nm_r (qa_up _ _ (qa_ic 256 2 (by omega))) h⟩))))))))))
theorem op_51 : op_T 51 0 := by
  intro x1 l sa da rn cn sb p s sv iv c t tv jv e hp hlb H M N
  obtain ⟨s1, t1, c1, e1, rn1, cn1, r1, H1, M1, ct1, f1, B1, X1, Y1⟩ := mp_rdp (sa := sa) (dg := nI 51) (da := da) (rn := rn) (cn := cn) (sv := sv) (iv := iv) (sb := sb) (tv := tv) (jv := jv) (st := 118) (st' := 7)  (by decide) (by decide) H M N
  obtain ⟨s2, t2, c2, e2, rn2, cn2, H2, M2, ct2, X2, Y2⟩ := mp_wrc (sa := sa) (dg := nI 51) (da := r1) (rn := rn1) (cn := cn1) (sv := sv) (iv := iv) (sb := sb) (tv := tv) (jv := jv) (st := 7) (st' := 0) (Or.inl rfl) B1 (by decide) (by decide) (by decide) H1 M1 ct1.2.2.2
  obtain ⟨s', t', R, hE, hY⟩ := en_gen (sa := sa) (da := r1) (rn := rn2) (cn := cn2) (sv := sv) (iv := iv) (c := c2) (sb := sb) (tv := tv) (jv := jv) (e := e2) (s := s2) (t := t2) (l := l) (o := nI 51) (fun a => a) (fun a => qa_ag0) (qa_agU (qa_agU qa_ag0 (by omega)) (by omega)) rfl rfl (by decide) (by decide) (by decide) (by decide) (hr_cml M2) hlb (H2) (M2)
    (fun Q h => by
        refine br_t (by decide) ⟨by decide, nm_r (e' := nI 8) (by decide) ⟨by decide, nm_r (e' := nI 3) (by decide) (br_t rfl ?_)⟩⟩
        refine br_f (by decide) (br_f (by decide) (br_f (by decide) ?_))
        unfold wpX_isChange
        refine br_f (by decide) (br_f (by decide) (br_f (by decide) ?_))
        exact br_t rfl h)
    (fun Q h => by
        refine br_t (by decide) ⟨by decide, nm_r (e' := nI 8) (by decide) ⟨by decide, nm_r (e' := nI 3) (by decide) (br_t rfl ?_)⟩⟩
        refine br_f (by decide) (br_f (by decide) (br_f (by decide) ?_))
        unfold wpX_isChange
        refine br_f (by decide) (br_f (by decide) (br_f (by decide) ?_))
        exact br_t rfl h)
  refine ⟨118, 2, s', t', _, e2, t2, r1, rn2, cn2, ?_, Or.inr ⟨by decide, 1, rfl, st_cons (by omega) X1 (by decide) (st_last X2 hE)⟩, op_Dof R (hr_ctT ct1 ct2), by omega, ?_, hY⟩
  · refine Or.inl ⟨by omega, fun post h => ⟨by decide, nm_r (e' := nI 8) (by decide) ⟨by decide, br_t (by decide) (br_f (by decide) (br_f (by decide) ?_))⟩⟩⟩
    unfold wpX_isChange
    exact br_f (by decide) (br_f (by decide) (br_f (by decide) h))
  · refine Or.inr (Or.inr ⟨by omega, fun Q h => ?_⟩)
    rw [show (nI 51 - 16) / 4 = nI 8 by decide, show nI 51 &&& 3 = nI 3 by decide]
    refine nm_e (br_t rfl ?_)
    refine Y1 _ ?_
    refine nm_e ?_
    rw [M1.2.2.2.2.2.2.1]
    exact br_f (by decide) (br_f (by decide) (br_f (by decide) (br_f (by decide) (br_f (by decide) (br_f (by decide) (br_f (by decide) (br_t rfl (nm_e (my_199c (k := 8) (Or.inl rfl) rfl (br_t rfl (Y2 _ h)))))))))))
theorem op_52 : op_T 52 0 := by
  intro x1 l sa da rn cn sb p s sv iv c t tv jv e hp hlb H M N
  obtain ⟨s', t', R, hE, hY⟩ := en_gen (sa := sa) (da := da) (rn := rn) (cn := cn) (sv := sv) (iv := iv) (c := c) (sb := sb) (tv := tv) (jv := jv) (e := e) (s := s) (t := upd (upd (upd t 261 (ml_zf (ml_ch 9 (s 256) (s 262)))) 262 (ml_kf 9 (s 256) (s 262))) 256 (ml_ch 9 (s 256) (s 262))) (l := l) (o := nI 52) (fun a => upd (upd a 261 (ml_zf (ml_ch 9 (s 256) (s 262)))) 256 (ml_ch 9 (s 256) (s 262))) (fun a => qa_agU (qa_agU qa_ag0 (by omega)) (by omega)) (qa_agB (qa_agB (qa_agU (qa_agU qa_ag0 (by omega)) (by omega)))) rfl rfl (by decide) (by decide) (by decide) (by decide) (hr_cml M) hlb (hr_HwY (hr_HwY (hr_HwY H (by omega)) (by omega)) (by omega)) (hr_cmB (hr_cmC (x := (s 256)) M (Or.inr (Or.inl rfl))) (by omega) (ml_chB (Or.inr (Or.inl rfl)) (M.2.2.2.2.2.2.2.2.1) (M.2.2.2.2.2.2.2.2.2.2.2.2.2.2.1)) rfl)
    (fun Q h => by
        refine br_t (by decide) ⟨by decide, nm_r (e' := nI 9) (by decide) ⟨by decide, nm_r (e' := nI 0) (by decide) (br_f (by decide) ⟨qa_ii 256 0 488 (by omega) (by omega), ?_⟩)⟩⟩
        rw [show ((256 : Int32) + nI 0).toNatClampNeg = 256 by decide]
        refine br_f (by decide) (br_f (by decide) (br_f (by decide) ?_))
        unfold wpX_isChange
        refine br_f (by decide) (br_f (by decide) (br_f (by decide) ?_))
        refine br_f (by decide) (br_f (by decide) (br_f (by decide) ?_))
        refine mx_changed (k := 9) (Or.inr (Or.inl rfl)) ?_
        exact ⟨qa_ii 256 0 488 (by omega) (by omega), nm_r (qa_up _ _ (qa_ic 256 0 (by omega))) h⟩)
    (fun Q h => by
        refine br_t (by decide) ⟨by decide, nm_r (e' := nI 9) (by decide) ⟨by decide, nm_r (e' := nI 0) (by decide) (br_f (by decide) ⟨qa_ii 256 0 488 (by omega) (by omega), ?_⟩)⟩⟩
        rw [show ((256 : Int32) + nI 0).toNatClampNeg = 256 by decide]
        refine br_f (by decide) (br_f (by decide) (br_f (by decide) ?_))
        unfold wpX_isChange
        refine br_f (by decide) (br_f (by decide) (br_f (by decide) ?_))
        refine br_f (by decide) (br_f (by decide) (br_f (by decide) ?_))
        refine mx_changed (k := 9) (Or.inr (Or.inl rfl)) ?_
        exact ⟨qa_ii 256 0 488 (by omega) (by omega), nm_r (qa_up _ _ (qa_ic 256 0 (by omega))) h⟩)
  refine ⟨0, 0, s', t', _, e, upd (upd (upd t 261 (ml_zf (ml_ch 9 (s 256) (s 262)))) 262 (ml_kf 9 (s 256) (s 262))) 256 (ml_ch 9 (s 256) (s 262)), da, rn, cn, ?_, Or.inl ⟨rfl, rfl, hE⟩, op_Dof R (hr_ct0 N), by omega, ?_, hY⟩
  · exact Or.inl ⟨by omega, fun post h => ⟨by decide, nm_r (e' := nI 9) (by decide) ⟨by decide, br_f (by decide) (br_f (by decide) h)⟩⟩⟩
  · refine Or.inr (Or.inr ⟨by omega, fun Q h => ?_⟩)
    rw [show (nI 52 - 16) / 4 = nI 9 by decide, show nI 52 &&& 3 = nI 0 by decide]
    refine nm_e (br_f (by decide) ⟨qa_ii 256 0 512 (by omega) (by omega), ?_⟩)
    rw [show ((256 : Int32) + nI 0).toNatClampNeg = 256 by decide]
    refine nm_e ?_
    rw [M.2.2.2.2.2.2.1, M.1]
    exact br_f (by decide) (br_f (by decide) (br_f (by decide) (br_f (by decide) (br_f (by decide) (br_f (by decide) (br_f (by decide) (br_f (by decide) (br_t rfl (nm_e (my_199c (k := 9) (Or.inr (Or.inl rfl)) ((qa_decI (M.2.2.2.2.2.2.2.2.1)).symm) (br_f (by decide) ⟨qa_ii 256 0 512 (by omega) (by omega), nm_r (qa_up _ _ (qa_ic 256 0 (by omega))) h⟩)))))))))))
theorem op_53 : op_T 53 0 := by
  intro x1 l sa da rn cn sb p s sv iv c t tv jv e hp hlb H M N
  obtain ⟨s', t', R, hE, hY⟩ := en_gen (sa := sa) (da := da) (rn := rn) (cn := cn) (sv := sv) (iv := iv) (c := c) (sb := sb) (tv := tv) (jv := jv) (e := e) (s := s) (t := upd (upd (upd t 261 (ml_zf (ml_ch 9 (s 257) (s 262)))) 262 (ml_kf 9 (s 257) (s 262))) 257 (ml_ch 9 (s 257) (s 262))) (l := l) (o := nI 53) (fun a => upd (upd a 261 (ml_zf (ml_ch 9 (s 257) (s 262)))) 257 (ml_ch 9 (s 257) (s 262))) (fun a => qa_agU (qa_agU qa_ag0 (by omega)) (by omega)) (qa_agB (qa_agB (qa_agU (qa_agU qa_ag0 (by omega)) (by omega)))) rfl rfl (by decide) (by decide) (by decide) (by decide) (hr_cml M) hlb (hr_HwY (hr_HwY (hr_HwY H (by omega)) (by omega)) (by omega)) (hr_cmB (hr_cmC (x := (s 257)) M (Or.inr (Or.inl rfl))) (by omega) (ml_chB (Or.inr (Or.inl rfl)) (M.2.2.2.2.2.2.2.2.2.1) (M.2.2.2.2.2.2.2.2.2.2.2.2.2.2.1)) rfl)
    (fun Q h => by
        refine br_t (by decide) ⟨by decide, nm_r (e' := nI 9) (by decide) ⟨by decide, nm_r (e' := nI 1) (by decide) (br_f (by decide) ⟨qa_ii 256 1 488 (by omega) (by omega), ?_⟩)⟩⟩
        rw [show ((256 : Int32) + nI 1).toNatClampNeg = 257 by decide]
        refine br_f (by decide) (br_f (by decide) (br_f (by decide) ?_))
        unfold wpX_isChange
        refine br_f (by decide) (br_f (by decide) (br_f (by decide) ?_))
        refine br_f (by decide) (br_f (by decide) (br_f (by decide) ?_))
        refine mx_changed (k := 9) (Or.inr (Or.inl rfl)) ?_
        exact ⟨qa_ii 256 1 488 (by omega) (by omega), nm_r (qa_up _ _ (qa_ic 256 1 (by omega))) h⟩)
    (fun Q h => by
        refine br_t (by decide) ⟨by decide, nm_r (e' := nI 9) (by decide) ⟨by decide, nm_r (e' := nI 1) (by decide) (br_f (by decide) ⟨qa_ii 256 1 488 (by omega) (by omega), ?_⟩)⟩⟩
        rw [show ((256 : Int32) + nI 1).toNatClampNeg = 257 by decide]
        refine br_f (by decide) (br_f (by decide) (br_f (by decide) ?_))
        unfold wpX_isChange
        refine br_f (by decide) (br_f (by decide) (br_f (by decide) ?_))
        refine br_f (by decide) (br_f (by decide) (br_f (by decide) ?_))
        refine mx_changed (k := 9) (Or.inr (Or.inl rfl)) ?_
        exact ⟨qa_ii 256 1 488 (by omega) (by omega), nm_r (qa_up _ _ (qa_ic 256 1 (by omega))) h⟩)
  refine ⟨0, 0, s', t', _, e, upd (upd (upd t 261 (ml_zf (ml_ch 9 (s 257) (s 262)))) 262 (ml_kf 9 (s 257) (s 262))) 257 (ml_ch 9 (s 257) (s 262)), da, rn, cn, ?_, Or.inl ⟨rfl, rfl, hE⟩, op_Dof R (hr_ct0 N), by omega, ?_, hY⟩
  · exact Or.inl ⟨by omega, fun post h => ⟨by decide, nm_r (e' := nI 9) (by decide) ⟨by decide, br_f (by decide) (br_f (by decide) h)⟩⟩⟩
  · refine Or.inr (Or.inr ⟨by omega, fun Q h => ?_⟩)
    rw [show (nI 53 - 16) / 4 = nI 9 by decide, show nI 53 &&& 3 = nI 1 by decide]
    refine nm_e (br_f (by decide) ⟨qa_ii 256 1 512 (by omega) (by omega), ?_⟩)
    rw [show ((256 : Int32) + nI 1).toNatClampNeg = 257 by decide]
    refine nm_e ?_
    rw [M.2.2.2.2.2.2.1, M.2.1]
    exact br_f (by decide) (br_f (by decide) (br_f (by decide) (br_f (by decide) (br_f (by decide) (br_f (by decide) (br_f (by decide) (br_f (by decide) (br_t rfl (nm_e (my_199c (k := 9) (Or.inr (Or.inl rfl)) ((qa_decI (M.2.2.2.2.2.2.2.2.2.1)).symm) (br_f (by decide) ⟨qa_ii 256 1 512 (by omega) (by omega), nm_r (qa_up _ _ (qa_ic 256 1 (by omega))) h⟩)))))))))))
theorem op_54 : op_T 54 0 := by
  intro x1 l sa da rn cn sb p s sv iv c t tv jv e hp hlb H M N
  obtain ⟨s', t', R, hE, hY⟩ := en_gen (sa := sa) (da := da) (rn := rn) (cn := cn) (sv := sv) (iv := iv) (c := c) (sb := sb) (tv := tv) (jv := jv) (e := e) (s := s) (t := upd (upd (upd t 261 (ml_zf (ml_ch 9 (s 258) (s 262)))) 262 (ml_kf 9 (s 258) (s 262))) 258 (ml_ch 9 (s 258) (s 262))) (l := l) (o := nI 54) (fun a => upd (upd a 261 (ml_zf (ml_ch 9 (s 258) (s 262)))) 258 (ml_ch 9 (s 258) (s 262))) (fun a => qa_agU (qa_agU qa_ag0 (by omega)) (by omega)) (qa_agB (qa_agB (qa_agU (qa_agU qa_ag0 (by omega)) (by omega)))) rfl rfl (by decide) (by decide) (by decide) (by decide) (hr_cml M) hlb (hr_HwY (hr_HwY (hr_HwY H (by omega)) (by omega)) (by omega)) (hr_cmB (hr_cmC (x := (s 258)) M (Or.inr (Or.inl rfl))) (by omega) (ml_chB (Or.inr (Or.inl rfl)) (M.2.2.2.2.2.2.2.2.2.2.1) (M.2.2.2.2.2.2.2.2.2.2.2.2.2.2.1)) rfl)
    (fun Q h => by
        refine br_t (by decide) ⟨by decide, nm_r (e' := nI 9) (by decide) ⟨by decide, nm_r (e' := nI 2) (by decide) (br_f (by decide) ⟨qa_ii 256 2 488 (by omega) (by omega), ?_⟩)⟩⟩
        rw [show ((256 : Int32) + nI 2).toNatClampNeg = 258 by decide]
        refine br_f (by decide) (br_f (by decide) (br_f (by decide) ?_))
        unfold wpX_isChange
        refine br_f (by decide) (br_f (by decide) (br_f (by decide) ?_))
        refine br_f (by decide) (br_f (by decide) (br_f (by decide) ?_))
        refine mx_changed (k := 9) (Or.inr (Or.inl rfl)) ?_
        exact ⟨qa_ii 256 2 488 (by omega) (by omega), nm_r (qa_up _ _ (qa_ic 256 2 (by omega))) h⟩)
    (fun Q h => by
        refine br_t (by decide) ⟨by decide, nm_r (e' := nI 9) (by decide) ⟨by decide, nm_r (e' := nI 2) (by decide) (br_f (by decide) ⟨qa_ii 256 2 488 (by omega) (by omega), ?_⟩)⟩⟩
        rw [show ((256 : Int32) + nI 2).toNatClampNeg = 258 by decide]
        refine br_f (by decide) (br_f (by decide) (br_f (by decide) ?_))
        unfold wpX_isChange
        refine br_f (by decide) (br_f (by decide) (br_f (by decide) ?_))
        refine br_f (by decide) (br_f (by decide) (br_f (by decide) ?_))
        refine mx_changed (k := 9) (Or.inr (Or.inl rfl)) ?_
        exact ⟨qa_ii 256 2 488 (by omega) (by omega), nm_r (qa_up _ _ (qa_ic 256 2 (by omega))) h⟩)
  refine ⟨0, 0, s', t', _, e, upd (upd (upd t 261 (ml_zf (ml_ch 9 (s 258) (s 262)))) 262 (ml_kf 9 (s 258) (s 262))) 258 (ml_ch 9 (s 258) (s 262)), da, rn, cn, ?_, Or.inl ⟨rfl, rfl, hE⟩, op_Dof R (hr_ct0 N), by omega, ?_, hY⟩
  · exact Or.inl ⟨by omega, fun post h => ⟨by decide, nm_r (e' := nI 9) (by decide) ⟨by decide, br_f (by decide) (br_f (by decide) h)⟩⟩⟩
  · refine Or.inr (Or.inr ⟨by omega, fun Q h => ?_⟩)
    rw [show (nI 54 - 16) / 4 = nI 9 by decide, show nI 54 &&& 3 = nI 2 by decide]
    refine nm_e (br_f (by decide) ⟨qa_ii 256 2 512 (by omega) (by omega), ?_⟩)
    rw [show ((256 : Int32) + nI 2).toNatClampNeg = 258 by decide]
    refine nm_e ?_
    rw [M.2.2.2.2.2.2.1, M.2.2.1]
    exact br_f (by decide) (br_f (by decide) (br_f (by decide) (br_f (by decide) (br_f (by decide) (br_f (by decide) (br_f (by decide) (br_f (by decide) (br_t rfl (nm_e (my_199c (k := 9) (Or.inr (Or.inl rfl)) ((qa_decI (M.2.2.2.2.2.2.2.2.2.2.1)).symm) (br_f (by decide) ⟨qa_ii 256 2 512 (by omega) (by omega), nm_r (qa_up _ _ (qa_ic 256 2 (by omega))) h⟩)))))))))))
theorem op_55 : op_T 55 0 := by
  intro x1 l sa da rn cn sb p s sv iv c t tv jv e hp hlb H M N
  obtain ⟨s1, t1, c1, e1, rn1, cn1, r1, H1, M1, ct1, f1, B1, X1, Y1⟩ := mp_rdp (sa := sa) (dg := nI 55) (da := da) (rn := rn) (cn := cn) (sv := sv) (iv := iv) (sb := sb) (tv := tv) (jv := jv) (st := 118) (st' := 7)  (by decide) (by decide) H M N
  obtain ⟨s2, t2, c2, e2, rn2, cn2, H2, M2, ct2, X2, Y2⟩ := mp_wrc (sa := sa) (dg := nI 55) (da := r1) (rn := rn1) (cn := cn1) (sv := sv) (iv := iv) (sb := sb) (tv := tv) (jv := jv) (st := 7) (st' := 0) (Or.inr (Or.inl rfl)) B1 (by decide) (by decide) (by decide) H1 M1 ct1.2.2.2
  obtain ⟨s', t', R, hE, hY⟩ := en_gen (sa := sa) (da := r1) (rn := rn2) (cn := cn2) (sv := sv) (iv := iv) (c := c2) (sb := sb) (tv := tv) (jv := jv) (e := e2) (s := s2) (t := t2) (l := l) (o := nI 55) (fun a => a) (fun a => qa_ag0) (qa_agU (qa_agU qa_ag0 (by omega)) (by omega)) rfl rfl (by decide) (by decide) (by decide) (by decide) (hr_cml M2) hlb (H2) (M2)
    (fun Q h => by
        refine br_t (by decide) ⟨by decide, nm_r (e' := nI 9) (by decide) ⟨by decide, nm_r (e' := nI 3) (by decide) (br_t rfl ?_)⟩⟩
        refine br_f (by decide) (br_f (by decide) (br_f (by decide) ?_))
        unfold wpX_isChange
        refine br_f (by decide) (br_f (by decide) (br_f (by decide) ?_))
        exact br_t rfl h)
    (fun Q h => by
        refine br_t (by decide) ⟨by decide, nm_r (e' := nI 9) (by decide) ⟨by decide, nm_r (e' := nI 3) (by decide) (br_t rfl ?_)⟩⟩
        refine br_f (by decide) (br_f (by decide) (br_f (by decide) ?_))
        unfold wpX_isChange
        refine br_f (by decide) (br_f (by decide) (br_f (by decide) ?_))
        exact br_t rfl h)
  refine ⟨118, 2, s', t', _, e2, t2, r1, rn2, cn2, ?_, Or.inr ⟨by decide, 1, rfl, st_cons (by omega) X1 (by decide) (st_last X2 hE)⟩, op_Dof R (hr_ctT ct1 ct2), by omega, ?_, hY⟩
  · refine Or.inl ⟨by omega, fun post h => ⟨by decide, nm_r (e' := nI 9) (by decide) ⟨by decide, br_t (by decide) (br_f (by decide) (br_f (by decide) ?_))⟩⟩⟩
    unfold wpX_isChange
    exact br_f (by decide) (br_f (by decide) (br_f (by decide) h))
  · refine Or.inr (Or.inr ⟨by omega, fun Q h => ?_⟩)
    rw [show (nI 55 - 16) / 4 = nI 9 by decide, show nI 55 &&& 3 = nI 3 by decide]
    refine nm_e (br_t rfl ?_)
    refine Y1 _ ?_
    refine nm_e ?_
    rw [M1.2.2.2.2.2.2.1]
    exact br_f (by decide) (br_f (by decide) (br_f (by decide) (br_f (by decide) (br_f (by decide) (br_f (by decide) (br_f (by decide) (br_f (by decide) (br_t rfl (nm_e (my_199c (k := 9) (Or.inr (Or.inl rfl)) ((qa_decI (B1)).symm) (br_t rfl (Y2 _ h))))))))))))
theorem op_56 : op_T 56 0 := by
  intro x1 l sa da rn cn sb p s sv iv c t tv jv e hp hlb H M N
  obtain ⟨s', t', R, hE, hY⟩ := en_gen (sa := sa) (da := da) (rn := rn) (cn := cn) (sv := sv) (iv := iv) (c := c) (sb := sb) (tv := tv) (jv := jv) (e := e) (s := s) (t := upd (upd (upd t 261 (ml_zf (ml_ch 10 (s 256) (s 262)))) 262 (ml_kf 10 (s 256) (s 262))) 256 (ml_ch 10 (s 256) (s 262))) (l := l) (o := nI 56) (fun a => upd (upd (upd a 262 ((s 256) &&& 1)) 261 (ml_zf (ml_ch 10 (s 256) (s 262)))) 256 (ml_ch 10 (s 256) (s 262))) (fun a => qa_agU (qa_agU (qa_agU qa_ag0 (by omega)) (by omega)) (by omega)) (qa_agB (qa_agB (qa_agB (qa_agU (qa_agU qa_ag0 (by omega)) (by omega))))) rfl rfl (by decide) (by decide) (by decide) (by decide) (hr_cml M) hlb (hr_HwY (hr_HwY (hr_HwY H (by omega)) (by omega)) (by omega)) (hr_cmB (hr_cmC (x := (s 256)) M (Or.inr (Or.inr rfl))) (by omega) (ml_chB (Or.inr (Or.inr rfl)) (M.2.2.2.2.2.2.2.2.1) (M.2.2.2.2.2.2.2.2.2.2.2.2.2.2.1)) rfl)
    (fun Q h => by
        refine br_t (by decide) ⟨by decide, nm_r (e' := nI 10) (by decide) ⟨by decide, nm_r (e' := nI 0) (by decide) (br_f (by decide) ⟨qa_ii 256 0 488 (by omega) (by omega), ?_⟩)⟩⟩
        rw [show ((256 : Int32) + nI 0).toNatClampNeg = 256 by decide]
        refine br_f (by decide) (br_f (by decide) (br_f (by decide) ?_))
        unfold wpX_isChange
        refine br_f (by decide) (br_f (by decide) (br_f (by decide) ?_))
        refine br_f (by decide) (br_f (by decide) (br_f (by decide) ?_))
        refine mx_changed (k := 10) (Or.inr (Or.inr rfl)) ?_
        exact ⟨qa_ii 256 0 488 (by omega) (by omega), nm_r (qa_up _ _ (qa_ic 256 0 (by omega))) h⟩)
    (fun Q h => by
        refine br_t (by decide) ⟨by decide, nm_r (e' := nI 10) (by decide) ⟨by decide, nm_r (e' := nI 0) (by decide) (br_f (by decide) ⟨qa_ii 256 0 488 (by omega) (by omega), ?_⟩)⟩⟩
        rw [show ((256 : Int32) + nI 0).toNatClampNeg = 256 by decide]
        refine br_f (by decide) (br_f (by decide) (br_f (by decide) ?_))
        unfold wpX_isChange
        refine br_f (by decide) (br_f (by decide) (br_f (by decide) ?_))
        refine br_f (by decide) (br_f (by decide) (br_f (by decide) ?_))
        refine mx_changed (k := 10) (Or.inr (Or.inr rfl)) ?_
        exact ⟨qa_ii 256 0 488 (by omega) (by omega), nm_r (qa_up _ _ (qa_ic 256 0 (by omega))) h⟩)
  refine ⟨0, 0, s', t', _, e, upd (upd (upd t 261 (ml_zf (ml_ch 10 (s 256) (s 262)))) 262 (ml_kf 10 (s 256) (s 262))) 256 (ml_ch 10 (s 256) (s 262)), da, rn, cn, ?_, Or.inl ⟨rfl, rfl, hE⟩, op_Dof R (hr_ct0 N), by omega, ?_, hY⟩
  · exact Or.inl ⟨by omega, fun post h => ⟨by decide, nm_r (e' := nI 10) (by decide) ⟨by decide, br_f (by decide) (br_f (by decide) h)⟩⟩⟩
  · refine Or.inr (Or.inr ⟨by omega, fun Q h => ?_⟩)
    rw [show (nI 56 - 16) / 4 = nI 10 by decide, show nI 56 &&& 3 = nI 0 by decide]
    refine nm_e (br_f (by decide) ⟨qa_ii 256 0 512 (by omega) (by omega), ?_⟩)
    rw [show ((256 : Int32) + nI 0).toNatClampNeg = 256 by decide]
    refine nm_e ?_
    rw [M.2.2.2.2.2.2.1, M.1]
    exact br_f (by decide) (br_f (by decide) (br_f (by decide) (br_f (by decide) (br_f (by decide) (br_f (by decide) (br_f (by decide) (br_f (by decide) (br_f (by decide) (br_t rfl (nm_e (nm_e (my_199c (k := 10) (Or.inr (Or.inr rfl)) (qa_rrI (M.2.2.2.2.2.2.2.2.1) (M.2.2.2.2.2.2.2.2.2.2.2.2.2.2.1)) (br_f (by decide) ⟨qa_ii 256 0 512 (by omega) (by omega), nm_r (qa_up _ _ (qa_ic 256 0 (by omega))) h⟩)))))))))))))
theorem op_57 : op_T 57 0 := by
  intro x1 l sa da rn cn sb p s sv iv c t tv jv e hp hlb H M N
  obtain ⟨s', t', R, hE, hY⟩ := en_gen (sa := sa) (da := da) (rn := rn) (cn := cn) (sv := sv) (iv := iv) (c := c) (sb := sb) (tv := tv) (jv := jv) (e := e) (s := s) (t := upd (upd (upd t 261 (ml_zf (ml_ch 10 (s 257) (s 262)))) 262 (ml_kf 10 (s 257) (s 262))) 257 (ml_ch 10 (s 257) (s 262))) (l := l) (o := nI 57) (fun a => upd (upd (upd a 262 ((s 257) &&& 1)) 261 (ml_zf (ml_ch 10 (s 257) (s 262)))) 257 (ml_ch 10 (s 257) (s 262))) (fun a => qa_agU (qa_agU (qa_agU qa_ag0 (by omega)) (by omega)) (by omega)) (qa_agB (qa_agB (qa_agB (qa_agU (qa_agU qa_ag0 (by omega)) (by omega))))) rfl rfl (by decide) (by decide) (by decide) (by decide) (hr_cml M) hlb (hr_HwY (hr_HwY (hr_HwY H (by omega)) (by omega)) (by omega)) (hr_cmB (hr_cmC (x := (s 257)) M (Or.inr (Or.inr rfl))) (by omega) (ml_chB (Or.inr (Or.inr rfl)) (M.2.2.2.2.2.2.2.2.2.1) (M.2.2.2.2.2.2.2.2.2.2.2.2.2.2.1)) rfl)
    (fun Q h => by
        refine br_t (by decide) ⟨by decide, nm_r (e' := nI 10) (by decide) ⟨by decide, nm_r (e' := nI 1) (by decide) (br_f (by decide) ⟨qa_ii 256 1 488 (by omega) (by omega), ?_⟩)⟩⟩
        rw [show ((256 : Int32) + nI 1).toNatClampNeg = 257 by decide]
        refine br_f (by decide) (br_f (by decide) (br_f (by decide) ?_))
        unfold wpX_isChange
        refine br_f (by decide) (br_f (by decide) (br_f (by decide) ?_))
        refine br_f (by decide) (br_f (by decide) (br_f (by decide) ?_))
        refine mx_changed (k := 10) (Or.inr (Or.inr rfl)) ?_
        exact ⟨qa_ii 256 1 488 (by omega) (by omega), nm_r (qa_up _ _ (qa_ic 256 1 (by omega))) h⟩)
    (fun Q h => by
        refine br_t (by decide) ⟨by decide, nm_r (e' := nI 10) (by decide) ⟨by decide, nm_r (e' := nI 1) (by decide) (br_f (by decide) ⟨qa_ii 256 1 488 (by omega) (by omega), ?_⟩)⟩⟩
        rw [show ((256 : Int32) + nI 1).toNatClampNeg = 257 by decide]
        refine br_f (by decide) (br_f (by decide) (br_f (by decide) ?_))
        unfold wpX_isChange
        refine br_f (by decide) (br_f (by decide) (br_f (by decide) ?_))
        refine br_f (by decide) (br_f (by decide) (br_f (by decide) ?_))
        refine mx_changed (k := 10) (Or.inr (Or.inr rfl)) ?_
        exact ⟨qa_ii 256 1 488 (by omega) (by omega), nm_r (qa_up _ _ (qa_ic 256 1 (by omega))) h⟩)
  refine ⟨0, 0, s', t', _, e, upd (upd (upd t 261 (ml_zf (ml_ch 10 (s 257) (s 262)))) 262 (ml_kf 10 (s 257) (s 262))) 257 (ml_ch 10 (s 257) (s 262)), da, rn, cn, ?_, Or.inl ⟨rfl, rfl, hE⟩, op_Dof R (hr_ct0 N), by omega, ?_, hY⟩
  · exact Or.inl ⟨by omega, fun post h => ⟨by decide, nm_r (e' := nI 10) (by decide) ⟨by decide, br_f (by decide) (br_f (by decide) h)⟩⟩⟩
  · refine Or.inr (Or.inr ⟨by omega, fun Q h => ?_⟩)
    rw [show (nI 57 - 16) / 4 = nI 10 by decide, show nI 57 &&& 3 = nI 1 by decide]
    refine nm_e (br_f (by decide) ⟨qa_ii 256 1 512 (by omega) (by omega), ?_⟩)
    rw [show ((256 : Int32) + nI 1).toNatClampNeg = 257 by decide]
    refine nm_e ?_
    rw [M.2.2.2.2.2.2.1, M.2.1]
    exact br_f (by decide) (br_f (by decide) (br_f (by decide) (br_f (by decide) (br_f (by decide) (br_f (by decide) (br_f (by decide) (br_f (by decide) (br_f (by decide) (br_t rfl (nm_e (nm_e (my_199c (k := 10) (Or.inr (Or.inr rfl)) (qa_rrI (M.2.2.2.2.2.2.2.2.2.1) (M.2.2.2.2.2.2.2.2.2.2.2.2.2.2.1)) (br_f (by decide) ⟨qa_ii 256 1 512 (by omega) (by omega), nm_r (qa_up _ _ (qa_ic 256 1 (by omega))) h⟩)))))))))))))
theorem op_58 : op_T 58 0 := by
  intro x1 l sa da rn cn sb p s sv iv c t tv jv e hp hlb H M N
  obtain ⟨s', t', R, hE, hY⟩ := en_gen (sa := sa) (da := da) (rn := rn) (cn := cn) (sv := sv) (iv := iv) (c := c) (sb := sb) (tv := tv) (jv := jv) (e := e) (s := s) (t := upd (upd (upd t 261 (ml_zf (ml_ch 10 (s 258) (s 262)))) 262 (ml_kf 10 (s 258) (s 262))) 258 (ml_ch 10 (s 258) (s 262))) (l := l) (o := nI 58) (fun a => upd (upd (upd a 262 ((s 258) &&& 1)) 261 (ml_zf (ml_ch 10 (s 258) (s 262)))) 258 (ml_ch 10 (s 258) (s 262))) (fun a => qa_agU (qa_agU (qa_agU qa_ag0 (by omega)) (by omega)) (by omega)) (qa_agB (qa_agB (qa_agB (qa_agU (qa_agU qa_ag0 (by omega)) (by omega))))) rfl rfl (by decide) (by decide) (by decide) (by decide) (hr_cml M) hlb (hr_HwY (hr_HwY (hr_HwY H (by omega)) (by omega)) (by omega)) (hr_cmB (hr_cmC (x := (s 258)) M (Or.inr (Or.inr rfl))) (by omega) (ml_chB (Or.inr (Or.inr rfl)) (M.2.2.2.2.2.2.2.2.2.2.1) (M.2.2.2.2.2.2.2.2.2.2.2.2.2.2.1)) rfl)
    (fun Q h => by
        refine br_t (by decide) ⟨by decide, nm_r (e' := nI 10) (by decide) ⟨by decide, nm_r (e' := nI 2) (by decide) (br_f (by decide) ⟨qa_ii 256 2 488 (by omega) (by omega), ?_⟩)⟩⟩
        rw [show ((256 : Int32) + nI 2).toNatClampNeg = 258 by decide]
        refine br_f (by decide) (br_f (by decide) (br_f (by decide) ?_))
        unfold wpX_isChange
        refine br_f (by decide) (br_f (by decide) (br_f (by decide) ?_))
        refine br_f (by decide) (br_f (by decide) (br_f (by decide) ?_))
        refine mx_changed (k := 10) (Or.inr (Or.inr rfl)) ?_
        exact ⟨qa_ii 256 2 488 (by omega) (by omega), nm_r (qa_up _ _ (qa_ic 256 2 (by omega))) h⟩)
    (fun Q h => by
        refine br_t (by decide) ⟨by decide, nm_r (e' := nI 10) (by decide) ⟨by decide, nm_r (e' := nI 2) (by decide) (br_f (by decide) ⟨qa_ii 256 2 488 (by omega) (by omega), ?_⟩)⟩⟩
        rw [show ((256 : Int32) + nI 2).toNatClampNeg = 258 by decide]
        refine br_f (by decide) (br_f (by decide) (br_f (by decide) ?_))
        unfold wpX_isChange
        refine br_f (by decide) (br_f (by decide) (br_f (by decide) ?_))
        refine br_f (by decide) (br_f (by decide) (br_f (by decide) ?_))
        refine mx_changed (k := 10) (Or.inr (Or.inr rfl)) ?_
        exact ⟨qa_ii 256 2 488 (by omega) (by omega), nm_r (qa_up _ _ (qa_ic 256 2 (by omega))) h⟩)
  refine ⟨0, 0, s', t', _, e, upd (upd (upd t 261 (ml_zf (ml_ch 10 (s 258) (s 262)))) 262 (ml_kf 10 (s 258) (s 262))) 258 (ml_ch 10 (s 258) (s 262)), da, rn, cn, ?_, Or.inl ⟨rfl, rfl, hE⟩, op_Dof R (hr_ct0 N), by omega, ?_, hY⟩
  · exact Or.inl ⟨by omega, fun post h => ⟨by decide, nm_r (e' := nI 10) (by decide) ⟨by decide, br_f (by decide) (br_f (by decide) h)⟩⟩⟩
  · refine Or.inr (Or.inr ⟨by omega, fun Q h => ?_⟩)
    rw [show (nI 58 - 16) / 4 = nI 10 by decide, show nI 58 &&& 3 = nI 2 by decide]
    refine nm_e (br_f (by decide) ⟨qa_ii 256 2 512 (by omega) (by omega), ?_⟩)
    rw [show ((256 : Int32) + nI 2).toNatClampNeg = 258 by decide]
    refine nm_e ?_
    rw [M.2.2.2.2.2.2.1, M.2.2.1]
    exact br_f (by decide) (br_f (by decide) (br_f (by decide) (br_f (by decide) (br_f (by decide) (br_f (by decide) (br_f (by decide) (br_f (by decide) (br_f (by decide) (br_t rfl (nm_e (nm_e (my_199c (k := 10) (Or.inr (Or.inr rfl)) (qa_rrI (M.2.2.2.2.2.2.2.2.2.2.1) (M.2.2.2.2.2.2.2.2.2.2.2.2.2.2.1)) (br_f (by decide) ⟨qa_ii 256 2 512 (by omega) (by omega), nm_r (qa_up _ _ (qa_ic 256 2 (by omega))) h⟩)))))))))))))
theorem op_59 : op_T 59 0 := by
  intro x1 l sa da rn cn sb p s sv iv c t tv jv e hp hlb H M N
  obtain ⟨s1, t1, c1, e1, rn1, cn1, r1, H1, M1, ct1, f1, B1, X1, Y1⟩ := mp_rdp (sa := sa) (dg := nI 59) (da := da) (rn := rn) (cn := cn) (sv := sv) (iv := iv) (sb := sb) (tv := tv) (jv := jv) (st := 118) (st' := 7)  (by decide) (by decide) H M N
  obtain ⟨s2, t2, c2, e2, rn2, cn2, H2, M2, ct2, X2, Y2⟩ := mp_wrc (sa := sa) (dg := nI 59) (da := r1) (rn := rn1) (cn := cn1) (sv := sv) (iv := iv) (sb := sb) (tv := tv) (jv := jv) (st := 7) (st' := 0) (Or.inr (Or.inr rfl)) B1 (by decide) (by decide) (by decide) H1 M1 ct1.2.2.2
  obtain ⟨s', t', R, hE, hY⟩ := en_gen (sa := sa) (da := r1) (rn := rn2) (cn := cn2) (sv := sv) (iv := iv) (c := c2) (sb := sb) (tv := tv) (jv := jv) (e := e2) (s := s2) (t := t2) (l := l) (o := nI 59) (fun a => a) (fun a => qa_ag0) (qa_agU (qa_agU qa_ag0 (by omega)) (by omega)) rfl rfl (by decide) (by decide) (by decide) (by decide) (hr_cml M2) hlb (H2) (M2)
    (fun Q h => by
        refine br_t (by decide) ⟨by decide, nm_r (e' := nI 10) (by decide) ⟨by decide, nm_r (e' := nI 3) (by decide) (br_t rfl ?_)⟩⟩
        refine br_f (by decide) (br_f (by decide) (br_f (by decide) ?_))
        unfold wpX_isChange
        refine br_f (by decide) (br_f (by decide) (br_f (by decide) ?_))
        exact br_t rfl h)
    (fun Q h => by
        refine br_t (by decide) ⟨by decide, nm_r (e' := nI 10) (by decide) ⟨by decide, nm_r (e' := nI 3) (by decide) (br_t rfl ?_)⟩⟩
        refine br_f (by decide) (br_f (by decide) (br_f (by decide) ?_))
        unfold wpX_isChange
        refine br_f (by decide) (br_f (by decide) (br_f (by decide) ?_))
        exact br_t rfl h)
  refine ⟨118, 2, s', t', _, e2, t2, r1, rn2, cn2, ?_, Or.inr ⟨by decide, 1, rfl, st_cons (by omega) X1 (by decide) (st_last X2 hE)⟩, op_Dof R (hr_ctT ct1 ct2), by omega, ?_, hY⟩
  · refine Or.inl ⟨by omega, fun post h => ⟨by decide, nm_r (e' := nI 10) (by decide) ⟨by decide, br_t (by decide) (br_f (by decide) (br_f (by decide) ?_))⟩⟩⟩
    unfold wpX_isChange
    exact br_f (by decide) (br_f (by decide) (br_f (by decide) h))
  · refine Or.inr (Or.inr ⟨by omega, fun Q h => ?_⟩)
    rw [show (nI 59 - 16) / 4 = nI 10 by decide, show nI 59 &&& 3 = nI 3 by decide]
    refine nm_e (br_t rfl ?_)
    refine Y1 _ ?_
    refine nm_e ?_
    rw [M1.2.2.2.2.2.2.1]
    exact br_f (by decide) (br_f (by decide) (br_f (by decide) (br_f (by decide) (br_f (by decide) (br_f (by decide) (br_f (by decide) (br_f (by decide) (br_f (by decide) (br_t rfl (nm_e (nm_e (my_199c (k := 10) (Or.inr (Or.inr rfl)) (qa_rrI (B1) (M1.2.2.2.2.2.2.2.2.2.2.2.2.2.2.1)) (br_t rfl (Y2 _ h))))))))))))))
theorem op_60 : op_T 60 0 := by
  intro x1 l sa da rn cn sb p s sv iv c t tv jv e hp hlb H M N
  obtain ⟨cf, v, hcf, hv, hXc, hYc⟩ := pr_calc (sa := sa) (dg := nI 60) (st := 0) (da := da) (rn := rn) (cn := cn) (sv := sv) (iv := iv) (c := upd c 1 (c 1 + 1)) (sb := sb) (tv := tv) (jv := jv) (k := 11) (s := s) (x := s 256) (by unfold ml_ck; omega) (M.2.2.2.2.2.2.2.2.1) (M.2.2.2.2.2.2.2.2.1) (M.2.2.2.2.2.2.2.2.2.2.2.2.2.2.1) rfl rfl
  obtain ⟨s', t', R, hE, hY⟩ := en_gen (sa := sa) (da := da) (rn := rn) (cn := cn) (sv := sv) (iv := iv) (c := c) (sb := sb) (tv := tv) (jv := jv) (e := e) (s := s) (t := ml_cy 11 cf v t) (l := l) (o := nI 60) (ml_ce 11 cf v) (fun a => ml_ceA a) (ml_ceB (qa_agU (qa_agU qa_ag0 (by omega)) (by omega))) rfl rfl (by decide) (by decide) (by decide) (by decide) (hr_cml M) hlb (ml_cyH H) (hr_cmE M hcf hv)
    (fun Q h => by
        refine br_t (by decide) ⟨by decide, nm_r (e' := nI 11) (by decide) ⟨by decide, nm_r (e' := nI 0) (by decide) (br_f (by decide) ⟨qa_ii 256 0 488 (by omega) (by omega), ?_⟩)⟩⟩
        rw [show ((256 : Int32) + nI 0).toNatClampNeg = 256 by decide]
        refine br_f (by decide) (br_f (by decide) (br_f (by decide) ?_))
        unfold wpX_isChange
        refine br_f (by decide) (br_t (by decide) (br_t rfl ?_))
        refine hXc _ _ rfl rfl ?_
        exact h)
    (fun Q h => by
        refine br_t (by decide) ⟨by decide, nm_r (e' := nI 11) (by decide) ⟨by decide, nm_r (e' := nI 0) (by decide) (br_f (by decide) ⟨qa_ii 256 0 488 (by omega) (by omega), ?_⟩)⟩⟩
        rw [show ((256 : Int32) + nI 0).toNatClampNeg = 256 by decide]
        refine br_f (by decide) (br_f (by decide) (br_f (by decide) ?_))
        unfold wpX_isChange
        refine br_f (by decide) (br_t (by decide) (br_t rfl ?_))
        refine hXc _ _ rfl rfl ?_
        exact h)
  refine ⟨0, 0, s', t', _, e, ml_cy 11 cf v t, da, rn, cn, ?_, Or.inl ⟨rfl, rfl, hE⟩, op_Dof R (hr_ct0 N), by omega, ?_, hY⟩
  · exact Or.inl ⟨by omega, fun post h => ⟨by decide, nm_r (e' := nI 11) (by decide) ⟨by decide, br_f (by decide) (br_f (by decide) h)⟩⟩⟩
  · refine Or.inr (Or.inr ⟨by omega, fun Q h => ?_⟩)
    rw [show (nI 60 - 16) / 4 = nI 11 by decide, show nI 60 &&& 3 = nI 0 by decide]
    refine nm_e (br_f (by decide) ⟨qa_ii 256 0 512 (by omega) (by omega), ?_⟩)
    rw [show ((256 : Int32) + nI 0).toNatClampNeg = 256 by decide]
    refine nm_e ?_
    rw [M.1, M.2.2.2.2.2.2.1]
    exact br_f (by decide) (br_t (by decide) (((hYc t _ e Q h).2 (by decide)).1 (by decide)))
theorem op_61 : op_T 61 0 := by
  intro x1 l sa da rn cn sb p s sv iv c t tv jv e hp hlb H M N
  obtain ⟨cf, v, hcf, hv, hXc, hYc⟩ := pr_calc (sa := sa) (dg := nI 61) (st := 0) (da := da) (rn := rn) (cn := cn) (sv := sv) (iv := iv) (c := upd c 1 (c 1 + 1)) (sb := sb) (tv := tv) (jv := jv) (k := 11) (s := s) (x := s 257) (by unfold ml_ck; omega) (M.2.2.2.2.2.2.2.2.1) (M.2.2.2.2.2.2.2.2.2.1) (M.2.2.2.2.2.2.2.2.2.2.2.2.2.2.1) rfl rfl
  obtain ⟨s', t', R, hE, hY⟩ := en_gen (sa := sa) (da := da) (rn := rn) (cn := cn) (sv := sv) (iv := iv) (c := c) (sb := sb) (tv := tv) (jv := jv) (e := e) (s := s) (t := ml_cy 11 cf v t) (l := l) (o := nI 61) (ml_ce 11 cf v) (fun a => ml_ceA a) (ml_ceB (qa_agU (qa_agU qa_ag0 (by omega)) (by omega))) rfl rfl (by decide) (by decide) (by decide) (by decide) (hr_cml M) hlb (ml_cyH H) (hr_cmE M hcf hv)
    (fun Q h => by
        refine br_t (by decide) ⟨by decide, nm_r (e' := nI 11) (by decide) ⟨by decide, nm_r (e' := nI 1) (by decide) (br_f (by decide) ⟨qa_ii 256 1 488 (by omega) (by omega), ?_⟩)⟩⟩
        rw [show ((256 : Int32) + nI 1).toNatClampNeg = 257 by decide]
        refine br_f (by decide) (br_f (by decide) (br_f (by decide) ?_))
        unfold wpX_isChange
        refine br_f (by decide) (br_t (by decide) (br_t rfl ?_))
        refine hXc _ _ rfl rfl ?_
        exact h)
    (fun Q h => by
        refine br_t (by decide) ⟨by decide, nm_r (e' := nI 11) (by decide) ⟨by decide, nm_r (e' := nI 1) (by decide) (br_f (by decide) ⟨qa_ii 256 1 488 (by omega) (by omega), ?_⟩)⟩⟩
        rw [show ((256 : Int32) + nI 1).toNatClampNeg = 257 by decide]
        refine br_f (by decide) (br_f (by decide) (br_f (by decide) ?_))
        unfold wpX_isChange
        refine br_f (by decide) (br_t (by decide) (br_t rfl ?_))
        refine hXc _ _ rfl rfl ?_
        exact h)
  refine ⟨0, 0, s', t', _, e, ml_cy 11 cf v t, da, rn, cn, ?_, Or.inl ⟨rfl, rfl, hE⟩, op_Dof R (hr_ct0 N), by omega, ?_, hY⟩
  · exact Or.inl ⟨by omega, fun post h => ⟨by decide, nm_r (e' := nI 11) (by decide) ⟨by decide, br_f (by decide) (br_f (by decide) h)⟩⟩⟩
  · refine Or.inr (Or.inr ⟨by omega, fun Q h => ?_⟩)
    rw [show (nI 61 - 16) / 4 = nI 11 by decide, show nI 61 &&& 3 = nI 1 by decide]
    refine nm_e (br_f (by decide) ⟨qa_ii 256 1 512 (by omega) (by omega), ?_⟩)
    rw [show ((256 : Int32) + nI 1).toNatClampNeg = 257 by decide]
    refine nm_e ?_
    rw [M.1, M.2.2.2.2.2.2.1, M.2.1]
    exact br_f (by decide) (br_t (by decide) (((hYc t _ e Q h).2 (by decide)).1 (by decide)))
theorem op_62 : op_T 62 0 := by
  intro x1 l sa da rn cn sb p s sv iv c t tv jv e hp hlb H M N
  obtain ⟨cf, v, hcf, hv, hXc, hYc⟩ := pr_calc (sa := sa) (dg := nI 62) (st := 0) (da := da) (rn := rn) (cn := cn) (sv := sv) (iv := iv) (c := upd c 1 (c 1 + 1)) (sb := sb) (tv := tv) (jv := jv) (k := 11) (s := s) (x := s 258) (by unfold ml_ck; omega) (M.2.2.2.2.2.2.2.2.1) (M.2.2.2.2.2.2.2.2.2.2.1) (M.2.2.2.2.2.2.2.2.2.2.2.2.2.2.1) rfl rfl
  obtain ⟨s', t', R, hE, hY⟩ := en_gen (sa := sa) (da := da) (rn := rn) (cn := cn) (sv := sv) (iv := iv) (c := c) (sb := sb) (tv := tv) (jv := jv) (e := e) (s := s) (t := ml_cy 11 cf v t) (l := l) (o := nI 62) (ml_ce 11 cf v) (fun a => ml_ceA a) (ml_ceB (qa_agU (qa_agU qa_ag0 (by omega)) (by omega))) rfl rfl (by decide) (by decide) (by decide) (by decide) (hr_cml M) hlb (ml_cyH H) (hr_cmE M hcf hv)
    (fun Q h => by
        refine br_t (by decide) ⟨by decide, nm_r (e' := nI 11) (by decide) ⟨by decide, nm_r (e' := nI 2) (by decide) (br_f (by decide) ⟨qa_ii 256 2 488 (by omega) (by omega), ?_⟩)⟩⟩
        rw [show ((256 : Int32) + nI 2).toNatClampNeg = 258 by decide]
        refine br_f (by decide) (br_f (by decide) (br_f (by decide) ?_))
        unfold wpX_isChange
        refine br_f (by decide) (br_t (by decide) (br_t rfl ?_))
        refine hXc _ _ rfl rfl ?_
        exact h)
    (fun Q h => by
        refine br_t (by decide) ⟨by decide, nm_r (e' := nI 11) (by decide) ⟨by decide, nm_r (e' := nI 2) (by decide) (br_f (by decide) ⟨qa_ii 256 2 488 (by omega) (by omega), ?_⟩)⟩⟩
        rw [show ((256 : Int32) + nI 2).toNatClampNeg = 258 by decide]
        refine br_f (by decide) (br_f (by decide) (br_f (by decide) ?_))
        unfold wpX_isChange
        refine br_f (by decide) (br_t (by decide) (br_t rfl ?_))
        refine hXc _ _ rfl rfl ?_
        exact h)
  refine ⟨0, 0, s', t', _, e, ml_cy 11 cf v t, da, rn, cn, ?_, Or.inl ⟨rfl, rfl, hE⟩, op_Dof R (hr_ct0 N), by omega, ?_, hY⟩
  · exact Or.inl ⟨by omega, fun post h => ⟨by decide, nm_r (e' := nI 11) (by decide) ⟨by decide, br_f (by decide) (br_f (by decide) h)⟩⟩⟩
  · refine Or.inr (Or.inr ⟨by omega, fun Q h => ?_⟩)
    rw [show (nI 62 - 16) / 4 = nI 11 by decide, show nI 62 &&& 3 = nI 2 by decide]
    refine nm_e (br_f (by decide) ⟨qa_ii 256 2 512 (by omega) (by omega), ?_⟩)
    rw [show ((256 : Int32) + nI 2).toNatClampNeg = 258 by decide]
    refine nm_e ?_
    rw [M.1, M.2.2.2.2.2.2.1, M.2.2.1]
    exact br_f (by decide) (br_t (by decide) (((hYc t _ e Q h).2 (by decide)).1 (by decide)))
theorem op_63 : op_T 63 0 := by
  intro x1 l sa da rn cn sb p s sv iv c t tv jv e hp hlb H M N
  obtain ⟨s1, t1, c1, e1, rn1, cn1, r1, H1, M1, ct1, f1, B1, X1, Y1⟩ := mp_rdp (sa := sa) (dg := nI 63) (da := da) (rn := rn) (cn := cn) (sv := sv) (iv := iv) (sb := sb) (tv := tv) (jv := jv) (st := 6) (st' := 0)  (by decide) (by decide) H M N
  obtain ⟨cf, v, hcf, hv, hXc, hYc⟩ := pr_calc (sa := sa) (dg := nI 63) (st := 0) (da := r1) (rn := rn1) (cn := cn1) (sv := sv) (iv := iv) (c := upd c1 1 (c1 1 + 1)) (sb := sb) (tv := tv) (jv := jv) (k := 11) (s := s1) (x := r1) (by unfold ml_ck; omega) (M1.2.2.2.2.2.2.2.2.1) (B1) (M1.2.2.2.2.2.2.2.2.2.2.2.2.2.2.1) rfl rfl
  obtain ⟨s', t', R, hE, hY⟩ := en_gen (sa := sa) (da := r1) (rn := rn1) (cn := cn1) (sv := sv) (iv := iv) (c := c1) (sb := sb) (tv := tv) (jv := jv) (e := e1) (s := s1) (t := ml_cy 11 cf v t1) (l := l) (o := nI 63) (ml_ce 11 cf v) (fun a => ml_ceA a) (ml_ceB (qa_agU (qa_agU qa_ag0 (by omega)) (by omega))) rfl rfl (by decide) (by decide) (by decide) (by decide) (hr_cml M1) hlb (ml_cyH H1) (hr_cmE M1 hcf hv)
    (fun Q h => by
        refine br_t (by decide) ⟨by decide, nm_r (e' := nI 11) (by decide) ⟨by decide, nm_r (e' := nI 3) (by decide) (br_t rfl ?_)⟩⟩
        refine br_f (by decide) (br_f (by decide) (br_f (by decide) ?_))
        unfold wpX_isChange
        refine br_f (by decide) (br_t (by decide) (br_t rfl ?_))
        refine hXc _ _ rfl rfl ?_
        exact h)
    (fun Q h => by
        refine br_t (by decide) ⟨by decide, nm_r (e' := nI 11) (by decide) ⟨by decide, nm_r (e' := nI 3) (by decide) (br_t rfl ?_)⟩⟩
        refine br_f (by decide) (br_f (by decide) (br_f (by decide) ?_))
        unfold wpX_isChange
        refine br_f (by decide) (br_t (by decide) (br_t rfl ?_))
        refine hXc _ _ rfl rfl ?_
        exact h)
  refine ⟨6, 1, s', t', _, e1, ml_cy 11 cf v t1, r1, rn1, cn1, ?_, Or.inr ⟨by decide, 0, rfl, st_last X1 hE⟩, op_Dof R ct1, by omega, ?_, hY⟩
  · refine Or.inl ⟨by omega, fun post h => ⟨by decide, nm_r (e' := nI 11) (by decide) ⟨by decide, br_t (by decide) (br_f (by decide) (br_f (by decide) ?_))⟩⟩⟩
    unfold wpX_isChange
    exact br_f (by decide) (br_t (by decide) (br_t rfl h))
  · refine Or.inr (Or.inr ⟨by omega, fun Q h => ?_⟩)
    rw [show (nI 63 - 16) / 4 = nI 11 by decide, show nI 63 &&& 3 = nI 3 by decide]
    refine nm_e (br_t rfl ?_)
    refine Y1 _ ?_
    refine nm_e ?_
    have k6 : t 256 = s1 256 := (M.1).trans (f1 256 (by unfold hr_RG; omega)).symm
    rw [k6, M1.2.2.2.2.2.2.1]
    exact br_f (by decide) (br_t (by decide) (((hYc t1 _ e1 Q h).2 (by decide)).1 (by decide)))
end
section
/-! HALT, DI, EI, RETI: both sides -/
section
variable {sa dg st da rn cn : Int32} {s sv iv c : Nat → Int32} {sb : Int32} {t tv jv e : Nat → Int32}
/-- the end of an instruction, as X goes into it -/
theorem mx_endI {Q : SX → Prop} {o l : Int32} (o64 : ¬ o = 64) (o65 : ¬ o = 65) (hl : s 264 = l) (h0 : l = 0 → wX_endInstruction_40 (fun u => match u with | (a1, a2, a3, a4, a5, a6, a7, a8, a9, a10) => Q (a1, a2, a3, a4, a5, a6, a7, a8, a9, a10)) sa o 0 da rn cn s sv iv (upd c 1 (c 1 + 1))) (h1 : l = 1 → wX_endInstruction_40 (fun u => match u with | (a1, a2, a3, a4, a5, a6, a7, a8, a9, a10) => Q (a1, a2, a3, a4, a5, a6, a7, a8, a9, a10)) sa o 0 da rn cn (upd (upd s 264 0) 263 1) sv iv (upd c 1 (c 1 + 1))) (hlb : qa_b l) : wpX_endThis Q (sa, o, 0, da, rn, cn, s, sv, iv, c) := by
  refine br_f o65 (br_f o64 ?_)
  rcases hlb with rfl | rfl
  · exact nm_e (br_f (by rw [hl]; decide) (h0 rfl))
  · exact nm_e (br_t hl (nm_e (nm_e (h1 rfl))))
theorem mx_halt {Q : SX → Prop} (h : ((s 245 &&& s 246) &&& 31 = 0 → Q (sa, nI 1, st, da, rn, cn, upd s 265 1, sv, iv, c)) ∧ (¬ (s 245 &&& s 246) &&& 31 = 0 → ((s 263 = 0 → Q (sa, nI 1, st, da, rn, cn, upd s 265 2, sv, iv, c)) ∧ (¬ s 263 = 0 → Q (sa, nI 1, st, da, rn, cn, s, sv, iv, c))))) : wX_endInstruction_40 (fun u => match u with | (a1, a2, a3, a4, a5, a6, a7, a8, a9, a10) => Q (a1, a2, a3, a4, a5, a6, a7, a8, a9, a10)) sa (nI 1) st da rn cn s sv iv c := by
  refine br_f (by decide) (br_f (by decide) (br_f (by decide) (br_t rfl ?_)))
  unfold wpX_halt wpX_pending
  exact ⟨fun k => nm_e (h.1 k), fun k => ⟨fun k2 => nm_e ((h.2 k).1 k2), fun k2 => (h.2 k).2 k2⟩⟩
end
theorem op_2 : op_T 2 0 := by
  intro x1 l sa da rn cn sb p s sv iv c t tv jv e hp hlb H M N
  obtain ⟨m1, m2, m3, m4, m5, m6, m7, m8, B1, B2, B3, B4, B5, b1, b2, b3, g1, g2, g3, g4, g5⟩ := M
  have H0 : ∀ a b : Nat → Int32, qa_ag (fun i => i < 256 ∨ 266 ≤ i) s a → qa_ag (fun i => i < 256 ∨ (267 ≤ i ∧ i ≠ 269 ∧ i ≠ 274)) t b → hr_Hw a b := fun a b h1 h2 => hr_HwA H h1 h2
  have S : op_S 2 0 (sa, nI 2, 0, da, rn, cn, s, sv, iv, c) := Or.inr ⟨by omega, fun post h => br_t (by decide) h⟩
  have Y : op_Y 2 (sb, t, tv, jv, e) (sb, upd t 263 0, tv, jv, e) := Or.inl ⟨by omega, fun Q h => br_f (by decide) (br_t (by decide) (br_f (by decide) (br_f (by decide) (br_t rfl (nm_e h)))))⟩
  rcases hlb with rfl | rfl
  · refine ⟨0, 0, upd s 263 0, upd t 263 0, upd c 1 (c 1 + 1), e, upd t 263 0, da, rn, cn, S, Or.inl ⟨rfl, rfl, ?_⟩, op_Dof ⟨H0 _ _ (qa_agU qa_ag0 (by omega)) (qa_agU qa_ag0 (by omega)), m1, m2, m3, m4, m5, m6, m7, rfl, g2.trans g1.symm, B1, B2, B3, B4, B5, b1, b2, Or.inl rfl, Or.inl g1, Or.inl ⟨g3, g4, g5⟩⟩ (hr_ct0 N), by omega, Y, fun post h => br_t rfl (br_f (by decide) h)⟩
    intro Q h
    exact mx_endI (by decide) (by decide) g1 (fun _ => br_f (by decide) (br_f (by decide) (br_f (by decide) (br_f (by decide) (br_t rfl (nm_e h)))))) (fun z => absurd z (by decide)) (Or.inl rfl)
  · refine ⟨0, 0, upd (upd (upd s 264 0) 263 1) 263 0, upd t 263 0, upd c 1 (c 1 + 1), e, upd t 263 0, da, rn, cn, S, Or.inl ⟨rfl, rfl, ?_⟩, op_Dof ⟨H0 _ _ (qa_agU (qa_agU (qa_agU qa_ag0 (by omega)) (by omega)) (by omega)) (qa_agU qa_ag0 (by omega)), m1, m2, m3, m4, m5, m6, m7, rfl, g2, B1, B2, B3, B4, B5, b1, b2, Or.inl rfl, Or.inl rfl, Or.inl ⟨g3, g4, g5⟩⟩ (hr_ct0 N), by omega, Y, fun post h => br_f (by decide) (br_t rfl (br_f (by decide) h))⟩
    intro Q h
    exact mx_endI (by decide) (by decide) g1 (fun z => absurd z (by decide)) (fun _ => br_f (by decide) (br_f (by decide) (br_f (by decide) (br_f (by decide) (br_t rfl (nm_e h)))))) (Or.inr rfl)
theorem op_3 : op_T 3 1 := by
  intro x1 l sa da rn cn sb p s sv iv c t tv jv e hp hlb H M N
  obtain ⟨m1, m2, m3, m4, m5, m6, m7, m8, B1, B2, B3, B4, B5, b1, b2, b3, g1, g2, g3, g4, g5⟩ := M
  have H0 : ∀ a b : Nat → Int32, qa_ag (fun i => i < 256 ∨ 266 ≤ i) s a → qa_ag (fun i => i < 256 ∨ (267 ≤ i ∧ i ≠ 269 ∧ i ≠ 274)) t b → hr_Hw a b := fun a b h1 h2 => hr_HwA H h1 h2
  have S : op_S 3 0 (sa, nI 3, 0, da, rn, cn, s, sv, iv, c) := Or.inr ⟨by omega, fun post h => br_t (by decide) h⟩
  have Y : op_Y 3 (sb, t, tv, jv, e) (sb, t, tv, jv, e) := Or.inl ⟨by omega, fun Q h => br_f (by decide) (br_t (by decide) (br_f (by decide) (br_f (by decide) (br_f (by decide) (br_t rfl h)))))⟩
  rcases hlb with rfl | rfl
  · refine ⟨0, 0, upd s 264 1, t, upd c 1 (c 1 + 1), e, t, da, rn, cn, S, Or.inl ⟨rfl, rfl, ?_⟩, op_Dof ⟨H0 _ _ (qa_agU qa_ag0 (by omega)) qa_ag0, m1, m2, m3, m4, m5, m6, m7, m8, g2, B1, B2, B3, B4, B5, b1, b2, b3, Or.inr rfl, Or.inl ⟨g3, g4, g5⟩⟩ (hr_ct0 N), by omega, Y, fun post h => br_t rfl (br_f (by decide) h)⟩
    intro Q h
    exact mx_endI (by decide) (by decide) g1 (fun _ => br_f (by decide) (br_f (by decide) (br_f (by decide) (br_f (by decide) (br_f (by decide) (br_t rfl (nm_e h))))))) (fun z => absurd z (by decide)) (Or.inl rfl)
  · refine ⟨0, 0, upd (upd (upd s 264 0) 263 1) 264 1, upd t 263 1, upd c 1 (c 1 + 1), e, t, da, rn, cn, S, Or.inl ⟨rfl, rfl, ?_⟩, op_Dof ⟨H0 _ _ (qa_agU (qa_agU (qa_agU qa_ag0 (by omega)) (by omega)) (by omega)) (qa_agU qa_ag0 (by omega)), m1, m2, m3, m4, m5, m6, m7, rfl, g2, B1, B2, B3, B4, B5, b1, b2, Or.inr rfl, Or.inr rfl, Or.inl ⟨g3, g4, g5⟩⟩ (hr_ct0 N), by omega, Y, fun post h => br_f (by decide) (br_f (by decide) (nm_e (br_f (by decide) h)))⟩
    intro Q h
    exact mx_endI (by decide) (by decide) g1 (fun z => absurd z (by decide)) (fun _ => br_f (by decide) (br_f (by decide) (br_f (by decide) (br_f (by decide) (br_f (by decide) (br_t rfl (nm_e h))))))) (Or.inr rfl)
theorem op_5 : op_T 5 0 := by
  intro x1 l sa da rn cn sb p s sv iv c t tv jv e hp hlb H M N
  obtain ⟨s1, t1, c1, e1, rn1, cn1, r1, H1, M1, ct1, f1, B1, X1, Y1⟩ := mp_pull (sa := sa) (dg := nI 5) (da := da) (rn := rn) (cn := cn) (sv := sv) (iv := iv) (sb := sb) (tv := tv) (jv := jv) (st := 52) (st' := 3)  (by decide) (by decide) H M N
  obtain ⟨s2, t2, c2, e2, rn2, cn2, H2, M2, ct2, f2, X2, Y2⟩ := mp_nop (sa := sa) (dg := nI 5) (da := r1) (rn := rn1) (cn := cn1) (sv := sv) (iv := iv) (sb := sb) (tv := tv) (jv := jv) (st := 3) (st' := 0)  (by decide) (by decide) H1 M1 ct1.2.2.2
  have g0 := M2
  obtain ⟨m1, m2, m3, m4, m5, m6, m7, m8, D1, D2, D3, D4, D5, b1, b2, b3, g1, g2, g3, g4, g5⟩ := g0
  have H0 : ∀ a b : Nat → Int32, qa_ag (fun i => i < 256 ∨ 266 ≤ i) s2 a → qa_ag (fun i => i < 256 ∨ (267 ≤ i ∧ i ≠ 269 ∧ i ≠ 274)) t2 b → hr_Hw a b := fun a b h1 h2 => hr_HwA H2 h1 h2
  have S : op_S 5 52 (sa, nI 5, 0, da, rn, cn, s, sv, iv, c) := Or.inr ⟨by omega, fun post h => br_f (by decide) (br_f (by decide) (br_f (by decide) (br_t rfl h)))⟩
  have Y : op_Y 5 (sb, t, tv, jv, e) (sb, upd (upd t2 260 r1) 263 1, tv, jv, e2) := by
    refine Or.inl ⟨by omega, fun Q h => br_f (by decide) (br_t (by decide) (br_f (by decide) (br_f (by decide) (br_f (by decide) (br_f (by decide) (br_f (by decide) (br_t rfl ?_)))))))⟩
    unfold wY_simple_104
    refine Y1 _ ?_
    refine Y2 _ ?_
    exact nm_e (br_t rfl (nm_e h))
  rcases hlb with rfl | rfl
  · refine ⟨52, 2, upd (upd s2 260 r1) 263 1, upd (upd t2 260 r1) 263 1, upd c2 1 (c2 1 + 1), e2, upd (upd t2 260 r1) 263 1, r1, rn2, cn2, S, Or.inr ⟨by decide, 1, rfl, st_cons (by omega) X1 (by decide) (st_last X2 ?_)⟩, op_Dof ⟨H0 _ _ (qa_agU (qa_agU qa_ag0 (by omega)) (by omega)) (qa_agU (qa_agU qa_ag0 (by omega)) (by omega)), m1, m2, m3, m4, rfl, m6, m7, rfl, g2.trans g1.symm, D1, D2, D3, D4, B1, b1, b2, Or.inr rfl, Or.inl g1, Or.inl ⟨g3, g4, g5⟩⟩ (hr_ctT ct1 ct2), by omega, Y, fun post h => br_t rfl (br_f (by decide) h)⟩
    intro Q h
    exact mx_endI (by decide) (by decide) g1 (fun _ => br_f (by decide) (br_f (by decide) (br_f (by decide) (br_f (by decide) (br_f (by decide) (br_f (by decide) (br_f (by decide) (br_t rfl (nm_e (nm_e h)))))))))) (fun z => absurd z (by decide)) (Or.inl rfl)
  · refine ⟨52, 2, upd (upd (upd (upd s2 264 0) 263 1) 260 r1) 263 1, upd (upd (upd t2 260 r1) 263 1) 263 1, upd c2 1 (c2 1 + 1), e2, upd (upd t2 260 r1) 263 1, r1, rn2, cn2, S, Or.inr ⟨by decide, 1, rfl, st_cons (by omega) X1 (by decide) (st_last X2 ?_)⟩, op_Dof ⟨H0 _ _ (qa_agU (qa_agU (qa_agU (qa_agU qa_ag0 (by omega)) (by omega)) (by omega)) (by omega)) (qa_agU (qa_agU (qa_agU qa_ag0 (by omega)) (by omega)) (by omega)), m1, m2, m3, m4, rfl, m6, m7, rfl, g2, D1, D2, D3, D4, B1, b1, b2, Or.inr rfl, Or.inl rfl, Or.inl ⟨g3, g4, g5⟩⟩ (hr_ctT ct1 ct2), by omega, Y, fun post h => br_f (by decide) (br_f (by decide) (nm_e (br_f (by decide) h)))⟩
    intro Q h
    exact mx_endI (by decide) (by decide) g1 (fun z => absurd z (by decide)) (fun _ => br_f (by decide) (br_f (by decide) (br_f (by decide) (br_f (by decide) (br_f (by decide) (br_f (by decide) (br_f (by decide) (br_t rfl (nm_e (nm_e h)))))))))) (Or.inr rfl)
theorem op_1 : op_T 1 0 := by
  intro x1 l sa da rn cn sb p s sv iv c t tv jv e hp hlb H M N
  obtain ⟨m1, m2, m3, m4, m5, m6, m7, m8, B1, B2, B3, B4, B5, b1, b2, b3, g1, g2, g3, g4, g5⟩ := M
  have H0 : ∀ a b : Nat → Int32, qa_ag (fun i => i < 256 ∨ 266 ≤ i) s a → qa_ag (fun i => i < 256 ∨ (267 ≤ i ∧ i ≠ 269 ∧ i ≠ 274)) t b → hr_Hw a b := fun a b h1 h2 => hr_HwA H h1 h2
  have S : op_S 1 0 (sa, nI 1, 0, da, rn, cn, s, sv, iv, c) := Or.inr ⟨by omega, fun post h => br_t (by decide) h⟩
  have Y : op_Y 1 (sb, t, tv, jv, e) (sb, t, tv, jv, e) := Or.inl ⟨by omega, fun Q h => br_f (by decide) (br_t (by decide) (br_t (by decide) h))⟩
  have ep : (t 245 &&& t 246) &&& 31 = (s 245 &&& s 246) &&& 31 := by rw [(H.1 245 (by omega)).1, (H.1 246 (by omega)).1]
  rcases hlb with rfl | rfl
  · by_cases kp : (s 245 &&& s 246) &&& 31 = 0
    · refine ⟨0, 0, upd s 265 1, upd t 265 1, upd c 1 (c 1 + 1), e, t, da, rn, cn, S, Or.inl ⟨rfl, rfl, ?_⟩, op_Dof ⟨H0 _ _ (qa_agU qa_ag0 (by omega)) (qa_agU qa_ag0 (by omega)), m1, m2, m3, m4, m5, m6, m7, m8, g2.trans g1.symm, B1, B2, B3, B4, B5, b1, b2, b3, Or.inl g1, Or.inr (Or.inl ⟨rfl, rfl, g5⟩)⟩ (hr_ct0 N), by omega, Y, ?_⟩
      · intro Q h
        exact mx_endI (by decide) (by decide) g1 (fun _ => mx_halt (br_t kp h)) (fun z => absurd z (by decide)) (Or.inl rfl)
      · intro post h
        exact br_t rfl (br_t rfl (br_t (ep.trans kp) (nm_e h)))
    · have kp' : ¬ (t 245 &&& t 246) &&& 31 = 0 := by rw [ep]; exact kp
      by_cases ki : s 263 = 0
      · refine ⟨0, 0, upd s 265 2, upd t 266 1, upd c 1 (c 1 + 1), e, t, da, rn, cn, S, Or.inl ⟨rfl, rfl, ?_⟩, op_Dof ⟨H0 _ _ (qa_agU qa_ag0 (by omega)) (qa_agU qa_ag0 (by omega)), m1, m2, m3, m4, m5, m6, m7, m8, g2.trans g1.symm, B1, B2, B3, B4, B5, b1, b2, b3, Or.inl g1, Or.inr (Or.inr ⟨rfl, g4, rfl, ki⟩)⟩ (hr_ct0 N), by omega, Y, ?_⟩
        · intro Q h
          exact mx_endI (by decide) (by decide) g1 (fun _ => mx_halt (br_f kp (br_t ki h))) (fun z => absurd z (by decide)) (Or.inl rfl)
        · intro post h
          exact br_t rfl (br_t rfl (br_f kp' (br_t (m8.trans ki) (nm_e h))))
      · have ki' : ¬ t 263 = 0 := by rw [m8]; exact ki
        refine ⟨0, 0, s, t, upd c 1 (c 1 + 1), e, t, da, rn, cn, S, Or.inl ⟨rfl, rfl, ?_⟩, op_Dof ⟨H, m1, m2, m3, m4, m5, m6, m7, m8, g2.trans g1.symm, B1, B2, B3, B4, B5, b1, b2, b3, Or.inl g1, Or.inl ⟨g3, g4, g5⟩⟩ (hr_ct0 N), by omega, Y, ?_⟩
        · intro Q h
          exact mx_endI (by decide) (by decide) g1 (fun _ => mx_halt (br_f kp (br_f ki h))) (fun z => absurd z (by decide)) (Or.inl rfl)
        · intro post h
          exact br_t rfl (br_t rfl (br_f kp' (br_f ki' h)))
  · by_cases kp : (s 245 &&& s 246) &&& 31 = 0
    · refine ⟨0, 0, upd (upd (upd s 264 0) 263 1) 265 1, upd (upd t 263 1) 265 1, upd c 1 (c 1 + 1), e, t, da, rn, cn, S, Or.inl ⟨rfl, rfl, ?_⟩, op_Dof ⟨H0 _ _ (qa_agU (qa_agU (qa_agU qa_ag0 (by omega)) (by omega)) (by omega)) (qa_agU (qa_agU qa_ag0 (by omega)) (by omega)), m1, m2, m3, m4, m5, m6, m7, rfl, g2, B1, B2, B3, B4, B5, b1, b2, Or.inr rfl, Or.inl rfl, Or.inr (Or.inl ⟨rfl, rfl, g5⟩)⟩ (hr_ct0 N), by omega, Y, ?_⟩
      · intro Q h
        exact mx_endI (by decide) (by decide) g1 (fun z => absurd z (by decide)) (fun _ => mx_halt (br_t kp h)) (Or.inr rfl)
      · intro post h
        exact br_f (by decide) (br_f (by decide) (nm_e (br_t rfl (br_t (ep.trans kp) (nm_e h)))))
    · have kp' : ¬ (t 245 &&& t 246) &&& 31 = 0 := by rw [ep]; exact kp
      refine ⟨0, 0, upd (upd s 264 0) 263 1, upd t 263 1, upd c 1 (c 1 + 1), e, t, da, rn, cn, S, Or.inl ⟨rfl, rfl, ?_⟩, op_Dof ⟨H0 _ _ (qa_agU (qa_agU qa_ag0 (by omega)) (by omega)) (qa_agU qa_ag0 (by omega)), m1, m2, m3, m4, m5, m6, m7, rfl, g2, B1, B2, B3, B4, B5, b1, b2, Or.inr rfl, Or.inl rfl, Or.inl ⟨g3, g4, g5⟩⟩ (hr_ct0 N), by omega, Y, ?_⟩
      · intro Q h
        exact mx_endI (by decide) (by decide) g1 (fun z => absurd z (by decide)) (fun _ => mx_halt (br_f kp (br_f (show ¬ (1 : Int32) = 0 by decide) h))) (Or.inr rfl)
      · intro post h
        exact br_f (by decide) (br_f (by decide) (nm_e (br_t rfl (br_f kp' (br_f (show ¬ (1 : Int32) = 0 by decide) h)))))
end
section
/-! whole turns of the processor: both sides -/
theorem op_all (o : Nat) (ho : o < 64) : op_T o (if o = 3 then 1 else 0) := by
  by_cases k3 : o = 3
  · rw [if_pos k3, k3]; exact op_3
  · rw [if_neg k3]
    have oo : o = 0 ∨ o = 1 ∨ o = 2 ∨ o = 4 ∨ o = 5 ∨ o = 6 ∨ o = 7 ∨ o = 8 ∨ o = 9 ∨ o = 10 ∨ o = 11 ∨ o = 12 ∨ o = 13 ∨ o = 14 ∨ o = 15 ∨ o = 16 ∨ o = 17 ∨ o = 18 ∨ o = 19 ∨ o = 20 ∨ o = 21 ∨ o = 22 ∨ o = 23 ∨ o = 24 ∨ o = 25 ∨ o = 26 ∨ o = 27 ∨ o = 28 ∨ o = 29 ∨ o = 30 ∨ o = 31 ∨ o = 32 ∨ o = 33 ∨ o = 34 ∨ o = 35 ∨ o = 36 ∨ o = 37 ∨ o = 38 ∨ o = 39 ∨ o = 40 ∨ o = 41 ∨ o = 42 ∨ o = 43 ∨ o = 44 ∨ o = 45 ∨ o = 46 ∨ o = 47 ∨ o = 48 ∨ o = 49 ∨ o = 50 ∨ o = 51 ∨ o = 52 ∨ o = 53 ∨ o = 54 ∨ o = 55 ∨ o = 56 ∨ o = 57 ∨ o = 58 ∨ o = 59 ∨ o = 60 ∨ o = 61 ∨ o = 62 ∨ o = 63 := by omega
    rcases oo with rfl | rfl | rfl | rfl | rfl | rfl | rfl | rfl | rfl | rfl | rfl | rfl | rfl | rfl | rfl | rfl | rfl | rfl | rfl | rfl | rfl | rfl | rfl | rfl | rfl | rfl | rfl | rfl | rfl | rfl | rfl | rfl | rfl | rfl | rfl | rfl | rfl | rfl | rfl | rfl | rfl | rfl | rfl | rfl | rfl | rfl | rfl | rfl | rfl | rfl | rfl | rfl | rfl | rfl | rfl | rfl | rfl | rfl | rfl | rfl | rfl | rfl | rfl
    · exact op_0
    · exact op_1
    · exact op_2
    · exact op_4
    · exact op_5
    · exact op_6
    · exact op_7
    · exact op_8
    · exact op_9
    · exact op_10
    · exact op_11
    · exact op_12
    · exact op_13
    · exact op_14
    · exact op_15
    · exact op_16
    · exact op_17
    · exact op_18
    · exact op_19
    · exact op_20
    · exact op_21
    · exact op_22
    · exact op_23
    · exact op_24
    · exact op_25
    · exact op_26
    · exact op_27
    · exact op_28
    · exact op_29
    · exact op_30
    · exact op_31
    · exact op_32
    · exact op_33
    · exact op_34
    · exact op_35
    · exact op_36
    · exact op_37
    · exact op_38
    · exact op_39
    · exact op_40
    · exact op_41
    · exact op_42
    · exact op_43
    · exact op_44
    · exact op_45
    · exact op_46
    · exact op_47
    · exact op_48
    · exact op_49
    · exact op_50
    · exact op_51
    · exact op_52
    · exact op_53
    · exact op_54
    · exact op_55
    · exact op_56
    · exact op_57
    · exact op_58
    · exact op_59
    · exact op_60
    · exact op_61
    · exact op_62
    · exact op_63
section
variable {sa dg st da rn cn : Int32} {s sv iv c : Nat → Int32} {sb : Int32} {t tv jv e : Nat → Int32}
/-- the first byte of an instruction: what X and Y make of it -/
theorem tn_first (R0 : hr_Rl s t) (nw : ¬ s 265 = 1) (N : hr_cn c e) : ∃ (s4 t4 c4 e4 : Nat → Int32) (rn' cn' r : Int32) (o : Nat), o < 64 ∧ r &&& 63 = nI o ∧ hr_Hw s4 t4 ∧ (∀ z : Int32, hr_cm (s 264) z s4 (upd t4 264 z)) ∧ hr_ct c e c4 e4 1 ∧ (∀ stp : Int32, op_S o stp (sa, nI o, 0, da, rn', cn', s4, sv, iv, c4) → st_X (sa, 0, 1, da, rn, cn, s, sv, iv, c) (sa, nI o, stp, da, rn', cn', s4, sv, iv, c4)) ∧ (∀ post : Int32 → SY → Prop, post r (sb, t4, tv, jv, e4) → wpY_next post (sb, t, tv, jv, e)) := by
  obtain ⟨H, m1, m2, m3, m4, m5, m6, m7, m8, m9, B1, B2, B3, B4, ⟨n, hn, B5⟩, b1, b2, b3, b4, ht⟩ := R0
  obtain ⟨s3, t3, c3, e3, rn', cn', r, R, rB, rX, hX, hY⟩ := pr_rdc (sa := sa) (dg := 0) (st := 1) (da := da) (rn := rn) (cn := cn) (sv := sv) (iv := iv) (c := c) (sb := sb) (tv := tv) (jv := jv) (e := e) (n := n) 0 H N hn
  have ct := mi_ct R
  obtain ⟨H3, x3, y3, r1, r2, q1, q2, n1, n2, n3, n4⟩ := R
  have sx : ∀ i, 256 ≤ i ∧ i < 266 → s3 i = s i := fun i hi => x3 i (by unfold hr_FX; omega)
  have ty : ∀ i, 256 ≤ i ∧ i < 267 → t3 i = t i := fun i hi => y3 i (by unfold hr_FY; omega)
  obtain ⟨w, hw, rfl⟩ := rB
  have eo : nI w &&& 63 = nI (w % 64) := pk_andN (by omega) 6 (by decide)
  have p3 : s3 260 = nI n := (sx 260 (by omega)).trans B5
  have fin59 : ∀ (s4 : Nat → Int32) (Q : SX → Prop) (stp : Int32), op_S (w % 64) stp (sa, nI (w % 64), 0, da, rn', cn', s4, sv, iv, c3) → Q (sa, nI (w % 64), stp, da, rn', cn', s4, sv, iv, c3) → wX_readFirst_59 Q (nI w) sa 0 0 da rn' cn' s4 sv iv c3 := by
    intro s4 Q stp hS h
    refine nm_r eo ?_
    rcases hS with ⟨h16, hS⟩ | ⟨h16, hS⟩
    · refine br_t (nI_le (a := 16) h16 (by omega)) ?_
      exact hS _ h
    · refine br_f (nI_ge (b := 16) h16 (by omega)) ?_
      exact hS _ h
  rcases ht with ⟨h5, h6, h7⟩ | ⟨h5, h6, h7⟩ | ⟨h5, h6, h7, h8⟩
  · have z3 : t3 266 = 0 := (ty 266 (by omega)).trans h7
    refine ⟨upd s3 260 ((s3 260 + 1) &&& 255), upd (upd t3 260 ((t3 260 + 1) &&& 255)) 266 0, c3, e3, rn', cn', nI w, w % 64, by omega, eo, hr_HwX (hr_HwY (hr_HwY H3 (by omega)) (by omega)) (by omega) (by omega), ?_, ct, ?_, ?_⟩
    · intro z
      refine ⟨?_, ?_, ?_, ?_, ?_, ?_, ?_, ?_, ?_, ?_, ?_, ?_, qa_Bm _, ?_, ?_, ?_, sx 264 (by omega), rfl, (sx 265 (by omega)).trans h5, (ty 265 (by omega)).trans h6, rfl⟩
      · exact ((ty 256 (by omega)).trans m1).trans (sx 256 (by omega)).symm
      · exact ((ty 257 (by omega)).trans m2).trans (sx 257 (by omega)).symm
      · exact ((ty 258 (by omega)).trans m3).trans (sx 258 (by omega)).symm
      · exact ((ty 259 (by omega)).trans m4).trans (sx 259 (by omega)).symm
      · show (t3 260 + 1) &&& 255 = (s3 260 + 1) &&& 255
        rw [ty 260 (by omega), m5, ← sx 260 (by omega)]
      · exact ((ty 261 (by omega)).trans m6).trans (sx 261 (by omega)).symm
      · exact ((ty 262 (by omega)).trans m7).trans (sx 262 (by omega)).symm
      · exact ((ty 263 (by omega)).trans m8).trans (sx 263 (by omega)).symm
      · show qa_B (s3 256)
        rw [sx 256 (by omega)]; exact B1
      · show qa_B (s3 257)
        rw [sx 257 (by omega)]; exact B2
      · show qa_B (s3 258)
        rw [sx 258 (by omega)]; exact B3
      · show qa_B (s3 259)
        rw [sx 259 (by omega)]; exact B4
      · show qa_b (s3 261)
        rw [sx 261 (by omega)]; exact b1
      · show qa_b (s3 262)
        rw [sx 262 (by omega)]; exact b2
      · show qa_b (s3 263)
        rw [sx 263 (by omega)]; exact b3
    · intro stp hS
      refine ⟨_, hX, ?_⟩
      intro Q h
      refine nm_r (e' := 1) (by decide) (nm_r (e' := 0) (by decide) (br_f (by decide) (br_f (by decide) (br_t rfl ?_))))
      unfold wpX_readFirst
      dsimp only
      rw [p3]
      refine rX _ ?_
      refine br_f (by rw [sx 265 (by omega), h5]; decide) (nm_r (e' := upd s3 260 ((s3 260 + 1) &&& 255)) (by rw [p3]) ?_)
      exact fin59 _ _ stp hS h
    · intro post h
      unfold wpY_next
      dsimp only
      rw [m5, B5]
      refine hY _ ?_
      exact br_t z3 (nm_e (nm_e h))
  · exact absurd h5 nw
  · have z3 : ¬ t3 266 = 0 := by rw [ty 266 (by omega), h7]; decide
    refine ⟨upd s3 265 0, upd t3 266 0, c3, e3, rn', cn', nI w, w % 64, by omega, eo, hr_HwX (hr_HwY H3 (by omega)) (by omega) (by omega), ?_, ct, ?_, ?_⟩
    · intro z
      refine ⟨?_, ?_, ?_, ?_, ?_, ?_, ?_, ?_, ?_, ?_, ?_, ?_, ?_, ?_, ?_, ?_, sx 264 (by omega), rfl, rfl, (ty 265 (by omega)).trans h6, rfl⟩
      · exact ((ty 256 (by omega)).trans m1).trans (sx 256 (by omega)).symm
      · exact ((ty 257 (by omega)).trans m2).trans (sx 257 (by omega)).symm
      · exact ((ty 258 (by omega)).trans m3).trans (sx 258 (by omega)).symm
      · exact ((ty 259 (by omega)).trans m4).trans (sx 259 (by omega)).symm
      · exact ((ty 260 (by omega)).trans m5).trans (sx 260 (by omega)).symm
      · exact ((ty 261 (by omega)).trans m6).trans (sx 261 (by omega)).symm
      · exact ((ty 262 (by omega)).trans m7).trans (sx 262 (by omega)).symm
      · exact ((ty 263 (by omega)).trans m8).trans (sx 263 (by omega)).symm
      · show qa_B (s3 256)
        rw [sx 256 (by omega)]; exact B1
      · show qa_B (s3 257)
        rw [sx 257 (by omega)]; exact B2
      · show qa_B (s3 258)
        rw [sx 258 (by omega)]; exact B3
      · show qa_B (s3 259)
        rw [sx 259 (by omega)]; exact B4
      · show qa_B (s3 260)
        exact ⟨n, hn, p3⟩
      · show qa_b (s3 261)
        rw [sx 261 (by omega)]; exact b1
      · show qa_b (s3 262)
        rw [sx 262 (by omega)]; exact b2
      · show qa_b (s3 263)
        rw [sx 263 (by omega)]; exact b3
    · intro stp hS
      refine ⟨_, hX, ?_⟩
      intro Q h
      refine nm_r (e' := 1) (by decide) (nm_r (e' := 0) (by decide) (br_f (by decide) (br_f (by decide) (br_t rfl ?_))))
      unfold wpX_readFirst
      dsimp only
      rw [p3]
      refine rX _ ?_
      refine br_t ((sx 265 (by omega)).trans h5) (nm_e ?_)
      exact fin59 _ _ stp hS h
    · intro post h
      unfold wpY_next
      dsimp only
      rw [m5, B5]
      refine hY _ ?_
      exact br_f z3 (nm_e h)
/-- an instruction -/
theorem tn_ins {x1 : Int32} {p : Nat} (hp : p + 6 < 2010) (R0 : hr_Rl s t) (nw : ¬ s 265 = 1) (N : hr_cn c e) : ∃ (k : Nat) (s' t' c' e' : Nat → Int32) (dg' da' rn' cn' : Int32), k ≤ 3 ∧ ru_52 x1 p k (sa, 0, 1, da, rn, cn, s, sv, iv, c) (sa, dg', 0, da', rn', cn', s', sv, iv, c') ∧ hr_Rl s' t' ∧ hr_cn c' e' ∧ c' 0 = c 0 ∧ c' 1 = c 1 + 1 ∧ c' 2 = c 2 ∧ c' 3 = c 3 ∧ e' 0 = e 0 + nI (k + 1) ∧ e' 1 = e 1 + 1 ∧ e' 2 = e 2 ∧ e' 3 = e 3 ∧ (∀ post : SY → Prop, post (sb, t', tv, jv, e') → wpY_instruction post (sb, t, tv, jv, e)) := by
  have lb : qa_b (s 264) := R0.2.2.2.2.2.2.2.2.2.2.2.2.2.2.2.2.2.2.1
  have l9 : t 264 = s 264 := R0.2.2.2.2.2.2.2.2.2.1
  obtain ⟨s4, t4, c4, e4, rn', cn', r, o, ho, er, H4, M4, ct, SX4, Y4⟩ := tn_first (sa := sa)   (da := da) (rn := rn) (cn := cn) (sv := sv) (iv := iv) (c := c) (sb := sb) (tv := tv) (jv := jv) (e := e) R0 nw N
  have N5 : hr_cn c4 (upd e4 1 (e4 1 + 1)) := ct.2.2.2
  obtain ⟨stp, k, s', t', c', e', t6, da', rn6, cn6, oS, oR, oD, k3, oY, o105⟩ := op_all o ho x1 (s 264) sa da rn' cn' sb p s4 sv iv c4 (upd t4 264 (if o = 3 then 1 else 0)) tv jv (upd e4 1 (e4 1 + 1)) (by omega) lb (hr_HwY H4 (by omega)) (M4 _) N5
  obtain ⟨RR, d1, d2, d3, d4, d5, d6, d7, d8, d9⟩ := oD
  obtain ⟨ca, ea, e0, _⟩ := ct
  refine ⟨k, s', t', c', e', nI o, da', rn6, cn6, k3, ?_, RR, d1, ?_, ?_, ?_, ?_, ?_, ?_, ?_, ?_, ?_⟩
  · rcases oR with ⟨z1, z2, hE⟩ | ⟨z1, j, z2, hR⟩
    · subst z1
      subst z2
      exact st_last (SX4 0 oS) hE
    · subst z2
      exact st_cons (by omega) (SX4 stp oS) z1 hR
  · rw [d2]; exact ca 0 (by unfold hr_C4; omega)
  · rw [d3, ca 1 (by unfold hr_C4; omega)]
  · rw [d4]; exact ca 2 (by unfold hr_C4; omega)
  · rw [d5]; exact ca 3 (by unfold hr_C4; omega)
  · rw [d6, pk_un (by omega), e0, Int32.add_assoc, nI_add, show 1 + k = k + 1 by omega]
  · rw [d7, pk_us, ea 1 (by unfold hr_E3; omega)]
  · rw [d8, pk_un (by omega)]; exact ea 2 (by unfold hr_E3; omega)
  · rw [d9, pk_un (by omega)]; exact ea 3 (by unfold hr_E3; omega)
  · intro post h
    have i4 : vp_in (264 : Int32) 512 := vp_in_nI (n := 264) (by omega) (by omega)
    have c4' : (264 : Int32).toNatClampNeg = 264 := nI_clamp (n := 264) (by omega)
    have G45 : ∀ z : Int32, z = (if o = 3 then 1 else 0) → wY_instruction_45 post (s 264) (nI o) z 264 sb t4 tv jv e4 := by
      intro z hz
      refine ⟨i4, nm_r (qa_up _ _ c4') (nm_e ?_)⟩
      rw [hz]
      rcases oY with ⟨h16, g⟩ | ⟨h16, h28, g⟩ | ⟨h28, g⟩
      · refine br_f (nI_ge (b := 16) h16 (by omega)) ?_
        exact g _ (o105 _ h)
      · refine br_t (nI_le (a := 16) h16 (by omega)) (br_f (nI_ge (b := 28) h28 (by omega)) ⟨by decide, ?_⟩)
        exact g _ (o105 _ h)
      · refine br_t (nI_le (a := 16) (by omega) (by omega)) (br_t (nI_le (a := 28) h28 (by omega)) ⟨by decide, ?_⟩)
        exact g _ (o105 _ h)
    have G17 : wY_instruction_17 post (s 264) sb t tv jv e := by
      unfold wY_instruction_17
      refine Y4 _ ?_
      refine nm_r er ⟨fun z => G45 1 ?_, fun z => G45 0 ?_⟩
      · rw [if_pos (qa_eqN (b := 3) z (by omega) (by omega))]
      · rw [if_neg (fun q => z (by rw [q]; rfl))]
    rcases lb with q | q
    · rw [q] at G17
      exact br_f (by rw [l9, q]; decide) G17
    · rw [q] at G17
      exact br_t (l9.trans q) G17
/-- a cycle of waiting -/
theorem tn_wait {x1 : Int32} {p : Nat} (R0 : hr_Rl s t) (w : s 265 = 1) (N : hr_cn c e) : ∃ (s' t' c' e' : Nat → Int32) (rn' cn' : Int32), ru_52 x1 p 0 (sa, 65, 3, da, rn, cn, s, sv, iv, c) (sa, 65, 0, da, rn', cn', s', sv, iv, c') ∧ hr_Rl s' t' ∧ hr_ct c e c' e' 1 ∧ (∀ post : SY → Prop, post (sb, t', tv, jv, e') → wpY_cycle (fun u => match u with | (a1, a2, a3, a4, a5) => wpY_pending (fun r => (r = 0 → post (a1, a2, a3, a4, a5)) ∧ (¬ r = 0 → ∀ b, b = upd a2 265 0 → post (a1, b, a3, a4, a5))) (a1, a2, a3, a4, a5)) (sb, t, tv, jv, e)) := by
  obtain ⟨H, cpu⟩ := R0
  obtain ⟨s3, t3, c3, e3, rn', cn', R, hX, hY⟩ := pr_cyc (sa := sa) (dg := 65) (st := 3) (da := da) (rn := rn) (cn := cn) (sv := sv) (iv := iv) (c := c) (sb := sb) (tv := tv) (jv := jv) (e := e) H N
  have ct := mi_ct R
  obtain ⟨H3, x3, y3, r1, r2, q1, q2, n1, n2, n3, n4⟩ := R
  have cpu3 := hr_cpuA cpu x3 y3
  have w3 : s3 265 = 1 := (x3 265 (by unfold hr_FX; omega)).trans w
  have hS : st_X (sa, 65, 3, da, rn, cn, s, sv, iv, c) (sa, 65, 0, da, rn', cn', s3, sv, iv, c3) := ⟨_, hX, fun Q h => nm_r (e' := 3) (by decide) (nm_r (e' := 0) (by decide) (br_f (by decide) (br_f (by decide) (br_f (by decide) (br_f (by decide) (br_t rfl h))))))⟩
  have ep : (t3 245 &&& t3 246) &&& 31 = (s3 245 &&& s3 246) &&& 31 := by rw [(H3.1 245 (by omega)).1, (H3.1 246 (by omega)).1]
  by_cases k : (s3 245 &&& s3 246) &&& 31 = 0
  · refine ⟨s3, t3, c3, e3, rn', cn', st_last hS ?_, ⟨H3, cpu3⟩, ct, ?_⟩
    · intro Q h
      refine br_t rfl ?_
      unfold wpX_pending
      exact br_t k h
    · intro post h
      refine hY _ ?_
      show wpY_pending _ _
      unfold wpY_pending
      exact br_t (ep.trans k) h
  · have k' : ¬ (t3 245 &&& t3 246) &&& 31 = 0 := by rw [ep]; exact k
    refine ⟨upd s3 265 0, upd t3 265 0, c3, e3, rn', cn', st_last hS ?_, ⟨hr_HwX (hr_HwY H3 (by omega)) (by omega) (by omega), ?_⟩, ct, ?_⟩
    · intro Q h
      refine br_t rfl ?_
      unfold wpX_pending
      exact br_f k (nm_e h)
    · obtain ⟨m1, m2, m3, m4, m5, m6, m7, m8, m9, B1, B2, B3, B4, B5, b1, b2, b3, b4, ht⟩ := cpu3
      refine ⟨m1, m2, m3, m4, m5, m6, m7, m8, m9, B1, B2, B3, B4, B5, b1, b2, b3, b4, Or.inl ⟨rfl, rfl, ?_⟩⟩
      rcases ht with h | h | h
      · exact h.2.2
      · exact h.2.2
      · exact absurd (h.1.symm.trans w3) (by decide)
    · intro post h
      refine hY _ ?_
      show wpY_pending _ _
      unfold wpY_pending
      exact br_f k' (nm_e h)
end
end
section
/-! an interrupt: both sides -/
section
variable {sa dg st da rn cn : Int32} {s sv iv c : Nat → Int32} {sb : Int32} {t tv jv e : Nat → Int32}
theorem hr_Hw245 {v : Int32} (H : hr_Hw s t) (hv : qa_B v) : hr_Hw (upd s 245 v) (upd t 245 v) := by
  obtain ⟨h1, h2, h3, h4, h5, h6, h7⟩ := H
  exact ⟨hr_ceB h1 hv rfl, hr_tmA h2 (qa_agU qa_ag0 (by omega)) (qa_agU qa_ag0 (by omega)), hr_cpA h3 (qa_agU qa_ag0 (by omega)) (qa_agU qa_ag0 (by omega)), hr_lnA h4 (pk_un (by omega)) (pk_un (by omega)), hr_kyA h5 (pk_un (by omega)) (pk_un (by omega)), hr_shA h6 (qa_agU qa_ag0 (by omega)) (qa_agU qa_ag0 (by omega)), hr_vsA h7 (qa_agU qa_ag0 (by unfold hr_PX; omega)) (qa_agU qa_ag0 (by unfold hr_PY; omega))⟩
theorem qa_w0 : ∀ w, w < 32 → (∀ i, i < 5 → (nI w >>> (nI i &&& 31)) &&& 1 = 0) → w = 0 := by decide +kernel
/-- the least bit of what is pending -/
theorem qa_low {w : Nat} (hw : w < 32) (h0 : w ≠ 0) : ∃ j, j < 5 ∧ (nI w >>> (nI j &&& 31)) &&& 1 = 1 ∧ ∀ i, i < j → (nI w >>> (nI i &&& 31)) &&& 1 = 0 := by
  have ex : ∃ j, j < 5 ∧ (nI w >>> (nI j &&& 31)) &&& 1 = 1 := by
    apply Classical.byContradiction
    intro hn
    apply h0
    refine qa_w0 w hw (fun i hi => ?_)
    rcases qa_and1 (nI w >>> (nI i &&& 31)) with h | h
    · exact h
    · exact absurd ⟨i, hi, h⟩ hn
  obtain ⟨j, hj⟩ := ex
  induction j using Nat.strongRecOn with
  | ind j ih =>
    by_cases q : ∃ i, i < j ∧ (nI w >>> (nI i &&& 31)) &&& 1 = 1
    · obtain ⟨i, hi, e⟩ := q
      exact ih i hi ⟨by omega, e⟩
    · refine ⟨j, hj.1, hj.2, fun i hi => ?_⟩
      rcases qa_and1 (nI w >>> (nI i &&& 31)) with h | h
      · exact h
      · exact absurd ⟨i, hi, h⟩ q
theorem mx_int {post : SX → Prop} {x1 : Int32} {j : Nat} (hj : j < 5) (b1 : (x1 >>> (nI j &&& 31)) &&& 1 = 1) (b0 : ∀ i, i < j → (x1 >>> (nI i &&& 31)) &&& 1 = 0) (h : wX_endInterrupt_80 post sa dg st da rn cn (upd (upd s 245 (s 245 &&& (((1 : Int32) <<< (nI j &&& 31)) ^^^ (-1)))) 260 (8 + 8 * nI j)) sv iv c) : ∀ d k, k + d = j → wX_endInterrupt_26 post x1 sa dg st da rn cn s sv iv c (d + 1) (nI k) := by
  intro d
  induction d with
  | zero =>
    intro k hk
    have z : k = j := by omega
    subst z
    exact br_f (nI_ge (b := 5) hj (by omega)) (br_t b1 (nm_e (nm_e h)))
  | succ d ih =>
    intro k hk
    exact br_f (nI_ge (b := 5) (by omega) (by omega)) (br_f (by rw [b0 k (by omega)]; decide) (nm_r (nI_1 k) (ih (k + 1) (by omega))))
theorem mx_int0 {post : SX → Prop} {x1 : Int32} (b0 : ∀ i, i < 5 → (x1 >>> (nI i &&& 31)) &&& 1 = 0) (h : wX_endInterrupt_80 post sa dg st da rn cn s sv iv c) : ∀ d k, k + d = 5 → wX_endInterrupt_26 post x1 sa dg st da rn cn s sv iv c (d + 1) (nI k) := by
  intro d
  induction d with
  | zero =>
    intro k hk
    have z : k = 5 := by omega
    subst z
    exact br_t (by decide) h
  | succ d ih =>
    intro k hk
    exact br_f (nI_ge (b := 5) (by omega) (by omega)) (br_f (by rw [b0 k (by omega)]; decide) (nm_r (nI_1 k) (ih (k + 1) (by omega))))
theorem my_int {post : SY → Prop} {x1 : Int32} {j : Nat} (b1 : (x1 >>> (nI j &&& 31)) &&& 1 = 1) (b0 : ∀ i, i < j → (x1 >>> (nI i &&& 31)) &&& 1 = 0) (h : post (sb, upd (upd t 245 (t 245 &&& (((1 : Int32) <<< (nI j &&& 31)) ^^^ (-1)))) 260 (8 + 8 * nI j), tv, jv, e)) : ∀ d k, k + d = j → wY_interrupt_70 post x1 sb t tv jv e (d + 1) (nI k) := by
  intro d
  induction d with
  | zero =>
    intro k hk
    have z : k = j := by omega
    subst z
    exact br_f (by rw [b1]; decide) (nm_e (nm_e h))
  | succ d ih =>
    intro k hk
    exact br_t (b0 k (by omega)) (nm_r (nI_1 k) (ih (k + 1) (by omega)))
theorem tn_int {x1 : Int32} {p : Nat} (hp : p + 6 < 2010) (R0 : hr_Rl s t) (h265 : s 265 = 0) (N : hr_cn c e) (n2 : c 2 = e 2) (n3 : c 3 = e 3) : ∃ (s' t' c' e' : Nat → Int32) (rn' cn' : Int32), ru_52 x1 p 2 (sa, 64, 851, da, rn, cn, upd s 263 0, sv, iv, c) (sa, 64, 0, da, rn', cn', s', sv, iv, c') ∧ hr_Rl s' t' ∧ hr_cn c' e' ∧ c' 0 = c 0 ∧ c' 1 = c 1 ∧ c' 2 = e' 2 ∧ c' 3 = e' 3 ∧ e' 0 = e 0 + nI 3 ∧ e' 1 = e 1 ∧ (∀ post : SY → Prop, post (sb, t', tv, jv, e') → wpY_interrupt post (sb, t, tv, jv, e)) := by
  obtain ⟨H, m1, m2, m3, m4, m5, m6, m7, m8, m9, B1, B2, B3, B4, B5, b1, b2, b3, b4, ht⟩ := R0
  have h56 : t 265 = 0 ∧ t 266 = 0 := by
    rcases ht with h | h | h
    · exact h.2
    · exact absurd (h.1.symm.trans h265) (by decide)
    · exact absurd (h.1.symm.trans h265) (by decide)
  have H0 : hr_Hw (upd s 263 0) (upd t 263 0) := hr_HwX (hr_HwY H (by omega)) (by omega) (by omega)
  have M0 : hr_cm (s 264) (s 264) (upd s 263 0) (upd t 263 0) := ⟨m1, m2, m3, m4, m5, m6, m7, rfl, B1, B2, B3, B4, B5, b1, b2, Or.inl rfl, rfl, m9, h265, h56.1, h56.2⟩
  obtain ⟨s1, t1, c1, e1, rn1, cn1, H1, M1, ct1, f1, X1, Y1⟩ := mp_nop (sa := sa) (dg := 64) (da := da) (rn := rn) (cn := cn) (sv := sv) (iv := iv) (sb := sb) (tv := tv) (jv := jv) (st := 851) (st' := 53) (by decide) (by decide) H0 M0 N
  obtain ⟨s2, t2, c2, e2, rn2, cn2, H2, M2, ct2, X2, Y2⟩ := mp_pushp (sa := sa) (dg := 64) (da := da) (rn := rn1) (cn := cn1) (sv := sv) (iv := iv) (sb := sb) (tv := tv) (jv := jv) (st := 53) (st' := 3) (by decide) (by decide) (by decide) H1 M1 ct1.2.2.2
  obtain ⟨s3, t3, c3, e3, rn3, cn3, H3, M3, ct3, f3, X3, Y3⟩ := mp_nop (sa := sa) (dg := 64) (da := da) (rn := rn2) (cn := cn2) (sv := sv) (iv := iv) (sb := sb) (tv := tv) (jv := jv) (st := 3) (st' := 0) (by decide) (by decide) H2 M2 ct2.2.2.2
  have CT := hr_ctT (hr_ctT ct1 ct2) ct3
  obtain ⟨ca, ea, ez, cne⟩ := CT
  have ca0 := ca 0 (by unfold hr_C4; omega)
  have ca1 := ca 1 (by unfold hr_C4; omega)
  have ca2 := ca 2 (by unfold hr_C4; omega)
  have ca3 := ca 3 (by unfold hr_C4; omega)
  have ea1 := ea 1 (by unfold hr_E3; omega)
  have ea2 := ea 2 (by unfold hr_E3; omega)
  have ea3 := ea 3 (by unfold hr_E3; omega)
  have ep : (t3 245 &&& t3 246) &&& 31 = (s3 245 &&& s3 246) &&& 31 := by rw [(H3.1 245 (by omega)).1, (H3.1 246 (by omega)).1]
  obtain ⟨w, hw, ew⟩ := pk_andE (s3 245 &&& s3 246) (m := 31) 5 (by decide)
  have RX : ∀ (s' c' : Nat → Int32), (∀ Q : SX → Prop, Q (sa, 64, 0, da, rn3, cn3, s', sv, iv, c') → wpX_endThis Q (sa, 64, 0, da, rn3, cn3, s3, sv, iv, c3)) → ru_52 x1 p 2 (sa, 64, 851, da, rn, cn, upd s 263 0, sv, iv, c) (sa, 64, 0, da, rn3, cn3, s', sv, iv, c') := fun s' c' hE => st_cons (by omega) X1 (by decide) (st_cons (by omega) X2 (by decide) (st_last X3 hE))
  obtain ⟨k1, k2, k3, k4, k5, k6, k7, k8, D1, D2, D3, D4, D5, d1, d2, d3, g1, g2, g3, g4, g5⟩ := M3
  by_cases kz : w = 0
  · subst kz
    refine ⟨upd s3 260 0, upd t3 260 0, upd (upd c3 2 (c3 2 + 1)) 3 (upd c3 2 (c3 2 + 1) 3 + 1), upd (upd e3 2 (e3 2 + 1)) 3 (upd e3 2 (e3 2 + 1) 3 + 1), rn3, cn3, RX _ _ ?_, ⟨hr_HwX (hr_HwY H3 (by omega)) (by omega) (by omega), k1, k2, k3, k4, rfl, k6, k7, k8, g2.trans g1.symm, D1, D2, D3, D4, qa_B0, d1, d2, d3, ?_, Or.inl ⟨g3, g4, g5⟩⟩, cne, ca0, ca1, ?_, ?_, ez, ea1, ?_⟩
    · intro Q h
      refine br_f (by decide) (br_t rfl ?_)
      unfold wpX_endInterrupt wpX_pending
      refine nm_e (nm_e ⟨6, ?_⟩)
      rw [ew]
      exact mx_int0 (by decide +kernel) (br_t rfl (nm_e h)) 5 0 rfl
    · show qa_b (s3 264)
      rw [g1]; exact b4
    · show c3 2 + 1 = e3 2 + 1
      rw [ca2, ea2, n2]
    · show c3 3 + 1 = e3 3 + 1
      rw [ca3, ea3, n3]
    · intro post h
      refine nm_e ?_
      refine Y1 _ ?_
      refine Y2 _ ?_
      refine Y3 _ (nm_e ?_)
      unfold wpY_pending
      exact br_t (ep.trans ew) (nm_e (nm_e h))
  · obtain ⟨j, hj, bj, bi⟩ := qa_low hw kz
    have pcE : (8 : Int32) + 8 * nI j = nI (8 + 8 * j) := by
      show nI 8 + nI 8 * nI j = _
      rw [pk_mul, nI_add]
    have bv : qa_B (s3 245 &&& (((1 : Int32) <<< (nI j &&& 31)) ^^^ (-1))) := qa_Band (H3.1 245 (by omega)).2 _
    have ne : ¬ (t3 245 &&& t3 246) &&& 31 = 0 := by rw [ep, ew]; exact nI_ne0 (by omega) (by omega)
    refine ⟨upd (upd (upd s3 260 0) 245 (upd s3 260 0 245 &&& (((1 : Int32) <<< (nI j &&& 31)) ^^^ (-1)))) 260 (8 + 8 * nI j), upd (upd t3 245 (t3 245 &&& (((1 : Int32) <<< (nI j &&& 31)) ^^^ (-1)))) 260 (8 + 8 * nI j), upd c3 2 (c3 2 + 1), upd e3 2 (e3 2 + 1), rn3, cn3, RX _ _ ?_, ⟨?_, k1, k2, k3, k4, rfl, k6, k7, k8, g2.trans g1.symm, D1, D2, D3, D4, ?_, d1, d2, d3, ?_, Or.inl ⟨g3, g4, g5⟩⟩, cne, ca0, ca1, ?_, ?_, ez, ea1, ?_⟩
    · intro Q h
      refine br_f (by decide) (br_t rfl ?_)
      unfold wpX_endInterrupt wpX_pending
      refine nm_e (nm_e ⟨j + 1, ?_⟩)
      rw [ew]
      refine mx_int hj bj bi (br_f ?_ h) j 0 (by omega)
      show ¬ (8 : Int32) + 8 * nI j = 0
      rw [pcE]
      exact nI_ne0 (by omega) (by omega)
    · refine hr_HwX (hr_HwY ?_ (by omega)) (by omega) (by omega)
      have q := hr_Hw245 (hr_HwX (k := 260) (v := 0) H3 (by omega) (by omega)) bv
      rw [(H3.1 245 (by omega)).1]
      exact q
    · show qa_B ((8 : Int32) + 8 * nI j)
      rw [pcE]
      exact qa_Bn (by omega)
    · show qa_b (s3 264)
      rw [g1]; exact b4
    · show c3 2 + 1 = e3 2 + 1
      rw [ca2, ea2, n2]
    · show c3 3 = e3 3
      rw [ca3, ea3, n3]
    · intro post h
      refine nm_e ?_
      refine Y1 _ ?_
      refine Y2 _ ?_
      refine Y3 _ (nm_e ?_)
      unfold wpY_pending
      refine br_f ne ⟨j + 1, ?_⟩
      show wY_interrupt_70 post ((t3 245 &&& t3 246) &&& 31) sb t3 tv jv (upd e3 2 (e3 2 + 1)) (j + 1) (nI 0)
      rw [ep, ew]
      exact my_int bj bi h j 0 (by omega)
end
end
section
/-! run: both sides -/
def hr_lp (s t c e : Nat → Int32) (p : Nat) : Prop := hr_Rl s t ∧ hr_cn c e ∧ c 1 = e 1 ∧ c 2 = e 2 ∧ c 3 = e 3 ∧ e 0 = c 0 + nI p
section
variable {sa dg st da rn cn : Int32} {s sv iv c : Nat → Int32} {sb : Int32} {t tv jv e : Nat → Int32}
theorem mx_iin1 (h1 : s 263 = 1) (h2 : ¬ (s 245 &&& s 246) &&& 31 = 0) {Q : Int32 → Prop} (h : Q 1) : wpX_isInterruptNext Q (sa, dg, st, da, rn, cn, s, sv, iv, c) := by
  refine br_t h1 ?_
  unfold wpX_pending
  exact br_f h2 h
theorem mx_iin0 (hn : ¬ (s 263 = 1 ∧ ¬ (s 245 &&& s 246) &&& 31 = 0)) {Q : Int32 → Prop} (h : Q 0) : wpX_isInterruptNext Q (sa, dg, st, da, rn, cn, s, sv, iv, c) := by
  refine ⟨fun k => ?_, fun _ => h⟩
  unfold wpX_pending
  exact ⟨fun _ => h, fun k2 => absurd ⟨k, k2⟩ hn⟩
/-- one turn of X's loop at its head, where it doesn't end -/
theorem mx_head {n p k : Nat} (hn : n ≤ 2000) (hp : p < n) (NS : 0 < p → ∀ Q : Int32 → Prop, Q 0 → wpX_isAtStop Q (sa, dg, 0, da, rn, cn, s, sv, iv, c)) {b1 b2 b3 b4 b5 b6 : Int32} {b7 b8 b9 b10 : Nat → Int32} {u' : SX} (BN : ∀ Q : SX → Prop, Q (b1, b2, b3, b4, b5, b6, b7, b8, b9, b10) → wpX_beginNext Q (sa, dg, 0, da, rn, cn, s, sv, iv, c)) (R : ru_52 (nI n) p k (b1, b2, b3, b4, b5, b6, b7, b8, b9, b10) u') (post : Int32 → SX → Prop) (m : Nat) (h : ru_L post (nI n) m (nI (p + k + 1)) u') : wX_run_15 post (nI n) (m + k + 1) (nI p) sa dg 0 da rn cn s sv iv c := by
  have G48 : wX_run_48 post (wX_run_15 post (nI n) (m + k)) (nI n) (nI p) sa dg 0 da rn cn s sv iv c := by
    unfold wX_run_48
    refine BN _ ?_
    exact R post m h
  refine br_f (nI_ge (b := 2010) (by omega) (by omega)) (br_t rfl (br_f (nI_ge hp (by omega)) ?_))
  by_cases q : p = 0
  · subst q
    exact br_t (by decide) G48
  · refine br_f (nI_nle (by omega) (by omega)) ?_
    exact NS (by omega) _ (br_t rfl G48)
theorem qa_sub {a b : Int32} {p : Nat} (h : b = a + nI p) : b - a = nI p := by
  rw [h, Int32.add_comm, Int32.add_sub_cancel]
theorem ru_run {n : Nat} (hn : n ≤ 2000) : ∀ (d p : Nat) (s t c e : Nat → Int32) (dg da rn cn fl : Int32), n ≤ p + d → p ≤ 2003 → hr_lp s t c e p → ((fl = 1 ∧ p = 0) ∨ (fl = 0 ∧ 0 < p)) → ∃ (r : Int32) (s' t' c' e' : Nat → Int32) (dg' da' rn' cn' : Int32), hr_Rl s' t' ∧ (∀ i, i < 7 → c' i = e' i) ∧ (∀ post : Int32 → SX → Prop, post r (sa, dg', 0, da', rn', cn', s', sv, iv, c') → ∃ m, wX_run_15 post (nI n) m (nI p) sa dg 0 da rn cn s sv iv c) ∧ (∀ post : Int32 → SY → Prop, post r (sa, t', tv, jv, e') → ∃ m, wY_run_22 post (nI n) (c 0) m fl sa t tv jv e) := by
  intro d
  induction d with
  | zero =>
    intro p s t c e dg da rn cn fl h1 h2 L F
    obtain ⟨R, N, n1, n2, n3, n0⟩ := L
    have es := qa_sub n0
    refine ⟨nI p, s, t, upd c 0 (c 0 + nI p), e, dg, da, rn, cn, R, ?_, ?_, ?_⟩
    · intro i hi
      have ii : i = 0 ∨ i = 1 ∨ i = 2 ∨ i = 3 ∨ i = 4 ∨ i = 5 ∨ i = 6 := by omega
      rcases ii with rfl | rfl | rfl | rfl | rfl | rfl | rfl
      · exact n0.symm
      · exact n1
      · exact n2
      · exact n3
      · exact N.1
      · exact N.2.1
      · exact N.2.2
    · intro post h
      exact ⟨1, br_f (nI_ge (b := 2010) (by omega) (by omega)) (br_t rfl (br_t (nI_le (by omega) (by omega)) (nm_e h)))⟩
    · intro post h
      refine ⟨1, br_t (by rw [es]; exact nI_le (by omega) (by omega)) ?_⟩
      rw [es]
      exact h
  | succ d ih =>
    intro p s t c e dg da rn cn fl h1 h2 L F
    have L0 := L
    obtain ⟨R, N, n1, n2, n3, n0⟩ := L
    have es := qa_sub n0
    by_cases kp : n ≤ p
    · refine ⟨nI p, s, t, upd c 0 (c 0 + nI p), e, dg, da, rn, cn, R, ?_, ?_, ?_⟩
      · intro i hi
        have ii : i = 0 ∨ i = 1 ∨ i = 2 ∨ i = 3 ∨ i = 4 ∨ i = 5 ∨ i = 6 := by omega
        rcases ii with rfl | rfl | rfl | rfl | rfl | rfl | rfl
        · exact n0.symm
        · exact n1
        · exact n2
        · exact n3
        · exact N.1
        · exact N.2.1
        · exact N.2.2
      · intro post h
        exact ⟨1, br_f (nI_ge (b := 2010) (by omega) (by omega)) (br_t rfl (br_t (nI_le (by omega) (by omega)) (nm_e h)))⟩
      · intro post h
        refine ⟨1, br_t (by rw [es]; exact nI_le (by omega) (by omega)) ?_⟩
        rw [es]
        exact h
    · have ny : ¬ nI n ≤ e 0 - c 0 := by rw [es]; exact nI_ge (by omega) (by omega)
      -- what is left to do, once a turn is done
      have FIN : ∀ (k : Nat) (s2 t2 c2 e2 : Nat → Int32) (dg2 da2 rn2 cn2 : Int32), k ≤ 3 → hr_lp s2 t2 c2 e2 (p + k + 1) → c2 0 = c 0 → (∀ (post : Int32 → SX → Prop) (m : Nat), wX_run_15 post (nI n) m (nI (p + k + 1)) sa dg2 0 da2 rn2 cn2 s2 sv iv c2 → wX_run_15 post (nI n) (m + k + 1) (nI p) sa dg 0 da rn cn s sv iv c) → (∀ (post : Int32 → SY → Prop) (m : Nat), wY_run_22 post (nI n) (c 0) m 0 sa t2 tv jv e2 → wY_run_22 post (nI n) (c 0) (m + 1) fl sa t tv jv e) → ∃ (r : Int32) (s' t' c' e' : Nat → Int32) (dg' da' rn' cn' : Int32), hr_Rl s' t' ∧ (∀ i, i < 7 → c' i = e' i) ∧ (∀ post : Int32 → SX → Prop, post r (sa, dg', 0, da', rn', cn', s', sv, iv, c') → ∃ m, wX_run_15 post (nI n) m (nI p) sa dg 0 da rn cn s sv iv c) ∧ (∀ post : Int32 → SY → Prop, post r (sa, t', tv, jv, e') → ∃ m, wY_run_22 post (nI n) (c 0) m fl sa t tv jv e) := by
        intro k s2 t2 c2 e2 dg2 da2 rn2 cn2 hk L2 z0 TX TY
        obtain ⟨r, s', t', c', e', dg', da', rn', cn', a1, a2, a3, a4⟩ := ih (p + k + 1) s2 t2 c2 e2 dg2 da2 rn2 cn2 0 (by omega) (by omega) L2 (Or.inr ⟨rfl, by omega⟩)
        refine ⟨r, s', t', c', e', dg', da', rn', cn', a1, a2, ?_, ?_⟩
        · intro post h
          obtain ⟨m, hm⟩ := a3 post h
          exact ⟨_, TX post m hm⟩
        · intro post h
          obtain ⟨m, hm⟩ := a4 post h
          rw [z0] at hm
          exact ⟨_, TY post m hm⟩
      have cpu := R.2
      obtain ⟨m1, m2, m3, m4, m5, m6, m7, m8, m9, B1, B2, B3, B4, B5, b1, b2, b3, b4, ht⟩ := cpu
      have ep : (t 245 &&& t 246) &&& 31 = (s 245 &&& s 246) &&& 31 := by rw [(R.1.1 245 (by omega)).1, (R.1.1 246 (by omega)).1]
      by_cases kw : s 265 = 1
      · -- waiting
        have kw' : t 265 = 1 := by
          rcases ht with h | h | h
          · exact absurd (h.1.symm.trans kw) (by decide)
          · exact h.2.1
          · exact absurd (h.1.symm.trans kw) (by decide)
        obtain ⟨s2, t2, c2, e2, rn2, cn2, RW, R2, CT, YW⟩ := tn_wait (x1 := nI n) (p := p) (sa := sa) (da := da) (rn := rn) (cn := cn) (sv := sv) (iv := iv) (sb := sa) (tv := tv) (jv := jv) R kw N
        refine FIN 0 s2 t2 c2 e2 65 da rn2 cn2 (by omega) ⟨R2, CT.2.2.2, ?_, ?_, ?_, ?_⟩ (CT.1 0 (by unfold hr_C4; omega)) ?_ ?_
        · rw [CT.1 1 (by unfold hr_C4; omega), CT.2.1 1 (by unfold hr_E3; omega)]; exact n1
        · rw [CT.1 2 (by unfold hr_C4; omega), CT.2.1 2 (by unfold hr_E3; omega)]; exact n2
        · rw [CT.1 3 (by unfold hr_C4; omega), CT.2.1 3 (by unfold hr_E3; omega)]; exact n3
        · rw [CT.2.2.1, CT.1 0 (by unfold hr_C4; omega), n0, Int32.add_assoc, nI_add]
        · intro post m h
          refine mx_head hn (by omega) ?_ ?_ RW post m h
          · intro _ Q hQ
            exact ⟨fun _ => br_t kw hQ, fun _ => hQ⟩
          · intro Q hQ
            exact br_t kw hQ
        · intro post m h
          refine br_f ny (br_t kw' ?_)
          exact YW (fun u => match u with | (a1, a2, a3, a4, a5) => wY_run_22 post (nI n) (c 0) m 0 a1 a2 a3 a4 a5) h
      · have kw' : ¬ t 265 = 1 := by
          rcases ht with h | h | h
          · rw [h.2.1]; decide
          · exact absurd h.1 kw
          · rw [h.2.1]; decide
        by_cases ki : s 263 = 1 ∧ ¬ (s 245 &&& s 246) &&& 31 = 0
        · -- an interrupt
          have h265 : s 265 = 0 := by
            rcases ht with h | h | h
            · exact h.1
            · exact absurd h.1 kw
            · exact absurd (ki.1.symm.trans h.2.2.2) (by decide)
          obtain ⟨s2, t2, c2, e2, rn2, cn2, RW, R2, d1, d2, d3, d4, d5, d6, d7, YW⟩ := tn_int (x1 := nI n) (p := p) (sa := sa) (da := da) (rn := rn) (cn := cn) (sv := sv) (iv := iv) (sb := sa) (tv := tv) (jv := jv) (by omega) R h265 N n2 n3
          refine FIN 2 s2 t2 c2 e2 64 da rn2 cn2 (by omega) ⟨R2, d1, ?_, d4, d5, ?_⟩ d2 ?_ ?_
          · rw [d3, d7]; exact n1
          · rw [d6, d2, n0, Int32.add_assoc, nI_add]
          · intro post m h
            refine mx_head hn (by omega) ?_ ?_ RW post m h
            · intro _ Q hQ
              refine ⟨fun _ => br_f kw ?_, fun _ => hQ⟩
              exact mx_iin1 ki.1 ki.2 (br_f (by decide) hQ)
            · intro Q hQ
              refine br_f kw ?_
              exact mx_iin1 ki.1 ki.2 (br_f (by decide) (nm_e hQ))
          · intro post m h
            refine br_f ny (br_f kw' (br_t (m8.trans ki.1) ?_))
            unfold wpY_pending
            refine br_f (by rw [ep]; exact ki.2) ?_
            exact YW _ h
        · -- an instruction, or the stop
          have Y95 : ∀ (post : Int32 → SY → Prop) (m : Nat), wY_run_95 post (wY_run_22 post (nI n) (c 0) m) (nI n) (c 0) fl sa t tv jv e → wY_run_22 post (nI n) (c 0) (m + 1) fl sa t tv jv e := by
            intro post m h
            refine br_f ny (br_f kw' ⟨fun k1 => ?_, fun _ => h⟩)
            unfold wpY_pending
            exact ⟨fun _ => h, fun k2 => absurd ⟨m8.symm.trans k1, by rw [← ep]; exact k2⟩ ki⟩
          by_cases kst : 0 < p ∧ s 260 = sa
          · obtain ⟨ks1, ks2⟩ := kst
            have ff : fl = 0 := by
              rcases F with h | h
              · exact absurd h.2 (by omega)
              · exact h.1
            refine ⟨nI p, s, t, upd c 0 (c 0 + nI p), e, dg, da, rn, cn, R, ?_, ?_, ?_⟩
            · intro i hi
              have ii : i = 0 ∨ i = 1 ∨ i = 2 ∨ i = 3 ∨ i = 4 ∨ i = 5 ∨ i = 6 := by omega
              rcases ii with rfl | rfl | rfl | rfl | rfl | rfl | rfl
              · exact n0.symm
              · exact n1
              · exact n2
              · exact n3
              · exact N.1
              · exact N.2.1
              · exact N.2.2
            · intro post h
              refine ⟨1, br_f (nI_ge (b := 2010) (by omega) (by omega)) (br_t rfl (br_f (nI_ge (by omega) (by omega)) (br_f (nI_nle (by omega) (by omega)) ?_)))⟩
              refine br_t ks2 (br_f kw ?_)
              exact mx_iin0 ki (br_t rfl (br_f (by decide) (nm_e h)))
            · intro post h
              refine ⟨1, Y95 post 0 (br_t ff (br_t (m5.trans ks2) ?_))⟩
              rw [es]
              exact h
          · obtain ⟨k, s2, t2, c2, e2, dg2, da2, rn2, cn2, hk, RW, R2, d1, d2, d3, d4, d5, d6, d7, d8, d9, YW⟩ := tn_ins (x1 := nI n) (p := p) (sa := sa) (da := da) (rn := rn) (cn := cn) (sv := sv) (iv := iv) (sb := sa) (tv := tv) (jv := jv) (by omega) R kw N
            refine FIN k s2 t2 c2 e2 dg2 da2 rn2 cn2 hk ⟨R2, d1, ?_, ?_, ?_, ?_⟩ d2 ?_ ?_
            · rw [d3, d7, n1]
            · rw [d4, d8]; exact n2
            · rw [d5, d9]; exact n3
            · rw [d6, d2, n0, Int32.add_assoc, nI_add, show p + (k + 1) = p + k + 1 by omega]
            · intro post m h
              refine mx_head hn (by omega) ?_ ?_ RW post m h
              · intro hp0 Q hQ
                exact ⟨fun z => absurd ⟨hp0, z⟩ kst, fun _ => hQ⟩
              · intro Q hQ
                refine br_f kw ?_
                exact mx_iin0 ki (br_t rfl hQ)
            · intro post m h
              have G117 : wY_run_117 post (wY_run_22 post (nI n) (c 0) m) (nI n) (c 0) sa t tv jv e := by
                unfold wY_run_117
                exact YW _ h
              refine Y95 post m ⟨fun z => ⟨fun z2 => ?_, fun _ => G117⟩, fun _ => G117⟩
              refine absurd ⟨?_, m5.symm.trans z2⟩ kst
              rcases F with h | h
              · exact absurd (h.1.symm.trans z) (by decide)
              · exact h.2
end
end
section
/-! a new beginning, saving, loading: both sides -/
section
variable {sa dg st da rn cn : Int32} {s sv iv c : Nat → Int32} {sb : Int32} {t tv jv e : Nat → Int32}
theorem hr_new {pc : Int32} (hpc : qa_B pc) (C : ∀ i, i < 240 → t i = s i ∧ qa_B (s i)) (K : hr_ky s t) (W : hr_sh s t) (x0 : ∀ i, 240 ≤ i ∧ i < 391 ∧ i ≠ 259 ∧ i ≠ 260 → s i = 0) (x1 : s 259 = 240) (x2 : s 260 = pc) (y0 : ∀ i, 240 ≤ i ∧ i < 310 ∧ i ≠ 259 ∧ i ≠ 260 ∧ i ≠ 271 ∧ i ≠ 275 ∧ i ≠ 299 → t i = 0) (y1 : t 259 = 240) (y2 : t 260 = pc) (y3 : t 271 = 16) (y4 : t 275 = -1) : hr_Rl s t := by
  have zx : ∀ i, 240 ≤ i ∧ i < 310 ∧ i ≠ 259 ∧ i ≠ 260 ∧ i ≠ 271 ∧ i ≠ 275 ∧ i ≠ 299 → t i = s i := fun i hi => (y0 i hi).trans (x0 i (by omega)).symm
  refine ⟨⟨?_, ?_, ?_, ?_, K, W, ?_⟩, ?_⟩
  · intro i hi
    by_cases k : i < 240
    · exact C i k
    · refine ⟨zx i (by omega), ?_⟩
      rw [x0 i (by omega)]
      exact qa_B0
  · refine ⟨?_, ⟨0, by omega, x0 266 (by omega)⟩, ?_, Or.inl (x0 267 (by omega))⟩
    · rw [y0 267 (by omega), x0 266 (by omega)]
    · rw [y0 268 (by omega), x0 267 (by omega)]
  · refine ⟨0, 0, 16, by omega, by omega, by omega, x0 268 (by omega), y0 273 (by omega), x0 269 (by omega), y0 270 (by omega), x0 270 (by omega), y3, ?_⟩
    rw [y0 272 (by omega), x0 253 (by omega)]
    decide
  · refine ⟨?_, Or.inl (x0 271 (by omega))⟩
    rw [y0 308 (by omega), x0 271 (by omega)]
  · refine ⟨0, 0, 0, 0, 0, 0, 0, by omega, by omega, by omega, by omega, by omega, ⟨x0 251 (by omega), x0 272 (by omega), ?_, x0 273 (by omega), y0 276 (by omega), x0 281 (by omega), y0 305 (by omega), x0 282 (by omega), y0 278 (by omega)⟩, ⟨fun z => absurd z (by omega), fun z => absurd z (by omega)⟩, fun _ => rfl, fun _ => x0 274 (by omega), Or.inl ⟨rfl, rfl, rfl, rfl, rfl⟩⟩
    rw [y4]
    decide
  · refine ⟨zx 256 (by omega), zx 257 (by omega), zx 258 (by omega), y1.trans x1.symm, y2.trans x2.symm, zx 261 (by omega), zx 262 (by omega), zx 263 (by omega), zx 264 (by omega), ?_, ?_, ?_, ?_, ?_, Or.inl (x0 261 (by omega)), Or.inl (x0 262 (by omega)), Or.inl (x0 263 (by omega)), Or.inl (x0 264 (by omega)), Or.inl ⟨x0 265 (by omega), y0 265 (by omega), y0 266 (by omega)⟩⟩
    · rw [x0 256 (by omega)]; exact qa_B0
    · rw [x0 257 (by omega)]; exact qa_B0
    · rw [x0 258 (by omega)]; exact qa_B0
    · rw [x1]; exact ⟨240, by omega, rfl⟩
    · rw [x2]; exact hpc
theorem mx_reset {post : Int32 → SX → Prop} {pc : Int32} (h : post 1 (sa, dg, st, da, rn, cn, upd (upd (qa_fill s 240 151 (fun _ => 0)) 259 240) 260 pc, sv, iv, c)) : ∀ d k, k + d = 151 → wX_reset_17 post pc sa dg st da rn cn (d + 1) (nI (240 + k)) (qa_fill s 240 k (fun _ => 0)) sv iv c := by
  intro d
  induction d with
  | zero =>
    intro k hk
    have z : k = 151 := by omega
    subst z
    exact br_t (nI_le (a := 391) (by omega) (by omega)) (nm_e (nm_e h))
  | succ d ih =>
    intro k hk
    refine br_f (nI_ge (b := 391) (by omega) (by omega)) ⟨vp_in_nI (by omega) (by omega), nm_r (e' := qa_fill s 240 (k + 1) (fun _ => 0)) ?_ (nm_r (nI_1 _) (ih (k + 1) (by omega)))⟩
    rw [nI_clamp (by omega)]
    exact qa_fillS s 240 k (fun _ => 0)
theorem my_begin {post : SY → Prop} {pc : Int32} (h : post (sb, upd (upd (upd (upd (upd (qa_fill t 240 70 (fun _ => 0)) 259 240) 260 pc) 271 16) 275 (-1)) 299 4, tv, jv, e)) : ∀ d k, k + d = 70 → wY_begin_4 post pc sb (d + 1) (nI (240 + k)) (qa_fill t 240 k (fun _ => 0)) tv jv e := by
  intro d
  induction d with
  | zero =>
    intro k hk
    have z : k = 70 := by omega
    subst z
    exact br_t (nI_le (a := 310) (by omega) (by omega)) (nm_e (nm_e (nm_e (nm_e (nm_e h)))))
  | succ d ih =>
    intro k hk
    refine br_f (nI_ge (b := 310) (by omega) (by omega)) ⟨vp_in_nI (by omega) (by omega), nm_r (e' := qa_fill t 240 (k + 1) (fun _ => 0)) ?_ (nm_r (nI_1 _) (ih (k + 1) (by omega)))⟩
    rw [nI_clamp (by omega)]
    exact qa_fillS t 240 k (fun _ => 0)
theorem my_beginV {post : SY → Prop} {pc : Int32} (h : post (sb, upd (upd (upd (upd (upd (qa_fill t 240 70 (fun _ => 0)) 259 240) 260 pc) 271 16) 275 (-1)) 299 4, tv, jv, e)) : wpY_begin post (sb, t, tv, jv, e) pc := by
  have g := my_begin h 70 0 rfl
  rw [qa_fill0] at g
  exact ⟨71, g⟩
theorem qa_z {a : Nat → Int32} {b n i : Nat} (h1 : b ≤ i) (h2 : i < b + n) : qa_fill a b n (fun _ => 0) i = 0 := by
  unfold qa_fill
  rw [if_pos ⟨h1, h2⟩]
theorem hr_beg {pc : Int32} {s' : Nat → Int32} (hpc : qa_B pc) (C : ∀ i, i < 240 → t i = s' i ∧ qa_B (s' i)) (K : t 310 = s' 391 ∧ qa_B (s' 391)) (W : ∀ p, p < 96 → t (416 + p) = s' (392 + p)) (x0 : ∀ i, 240 ≤ i ∧ i < 391 ∧ i ≠ 259 ∧ i ≠ 260 → s' i = 0) (x1 : s' 259 = 240) (x2 : s' 260 = pc) : hr_Rl s' (upd (upd (upd (upd (upd (qa_fill t 240 70 (fun _ => 0)) 259 240) 260 pc) 271 16) 275 (-1)) 299 4) := by
  refine hr_new hpc ?_ ?_ ?_ x0 x1 x2 ?_ rfl rfl rfl rfl
  · intro i hi
    rw [pk_un (by omega), pk_un (by omega), pk_un (by omega), pk_un (by omega), pk_un (by omega), qa_fillO (by omega)]
    exact C i hi
  · refine ⟨?_, K.2⟩
    rw [pk_un (by omega), pk_un (by omega), pk_un (by omega), pk_un (by omega), pk_un (by omega), qa_fillO (by omega)]
    exact K.1
  · intro p hp
    rw [pk_un (by omega), pk_un (by omega), pk_un (by omega), pk_un (by omega), pk_un (by omega), qa_fillO (by omega)]
    exact W p hp
  · intro i hi
    rw [pk_un (by omega), pk_un (by omega), pk_un (by omega), pk_un (by omega), pk_un (by omega)]
    exact qa_z (by omega) (by omega)
/-! saving and loading -/
def hr_sd (sv iv tv jv : Nat → Int32) : Prop := ∀ q, q < 2 → jv q = iv q ∧ (¬ iv q = 0 → hr_Rl (fun i => sv (488 * q + i)) (fun i => tv (512 * q + i)))
theorem mx_save {post : Int32 → SX → Prop} {q : Nat} (hq : q < 2) (h : post 1 (sa, dg, st, da, rn, cn, s, qa_fill sv (488 * q) 488 s, upd iv q (vp_nar .boolean 1), c)) : ∀ d k, k + d = 488 → wX_save_13 post (nI q) sa dg st da rn cn (d + 1) (nI k) s (qa_fill sv (488 * q) k s) iv c := by
  intro d
  induction d with
  | zero =>
    intro k hk
    have z : k = 488 := by omega
    subst z
    exact br_t (nI_le (a := 488) (by omega) (by omega)) ⟨vp_in_nI hq (by omega), nm_r (qa_up _ _ (nI_clamp (by omega))) h⟩
  | succ d ih =>
    intro k hk
    have ei : (488 : Int32) * nI q + nI k = nI (488 * q + k) := by
      show nI 488 * nI q + nI k = _
      rw [pk_mul, nI_add]
    refine br_f (nI_ge (b := 488) (by omega) (by omega)) ⟨vp_in_nI (by omega) (by omega), by rw [ei]; exact vp_in_nI (by omega) (by omega), nm_r (e' := qa_fill sv (488 * q) (k + 1) s) ?_ (nm_r (nI_1 _) (ih (k + 1) (by omega)))⟩
    rw [ei, nI_clamp (by omega), nI_clamp (by omega)]
    exact qa_fillS sv (488 * q) k s
theorem my_save {post : Int32 → SY → Prop} {q : Nat} (hq : q < 2) (h : post 1 (sb, t, qa_fill tv (512 * q) 512 t, upd jv q (vp_nar .boolean 1), e)) : ∀ d k, k + d = 512 → wY_save_13 post (nI q) sb (d + 1) (nI k) t (qa_fill tv (512 * q) k t) jv e := by
  intro d
  induction d with
  | zero =>
    intro k hk
    have z : k = 512 := by omega
    subst z
    exact br_t (nI_le (a := 512) (by omega) (by omega)) ⟨vp_in_nI hq (by omega), nm_r (qa_up _ _ (nI_clamp (by omega))) h⟩
  | succ d ih =>
    intro k hk
    have ei : (512 : Int32) * nI q + nI k = nI (512 * q + k) := by
      show nI 512 * nI q + nI k = _
      rw [pk_mul, nI_add]
    refine br_f (nI_ge (b := 512) (by omega) (by omega)) ⟨vp_in_nI (by omega) (by omega), by rw [ei]; exact vp_in_nI (by omega) (by omega), nm_r (e' := qa_fill tv (512 * q) (k + 1) t) ?_ (nm_r (nI_1 _) (ih (k + 1) (by omega)))⟩
    rw [ei, nI_clamp (by omega), nI_clamp (by omega)]
    exact qa_fillS tv (512 * q) k t
theorem mx_load {post : Int32 → SX → Prop} {q : Nat} (hq : q < 2) (h : post 1 (sa, dg, st, da, rn, cn, qa_fill s 0 488 (fun i => sv (488 * q + i)), sv, iv, c)) : ∀ d k, k + d = 488 → wX_load_22 post (nI q) sa dg st da rn cn (d + 1) (nI k) (qa_fill s 0 k (fun i => sv (488 * q + i))) sv iv c := by
  intro d
  induction d with
  | zero =>
    intro k hk
    have z : k = 488 := by omega
    subst z
    exact br_t (nI_le (a := 488) (by omega) (by omega)) h
  | succ d ih =>
    intro k hk
    have ei : (488 : Int32) * nI q + nI k = nI (488 * q + k) := by
      show nI 488 * nI q + nI k = _
      rw [pk_mul, nI_add]
    refine br_f (nI_ge (b := 488) (by omega) (by omega)) ⟨by rw [ei]; exact vp_in_nI (by omega) (by omega), vp_in_nI (by omega) (by omega), nm_r (e' := qa_fill s 0 (k + 1) (fun i => sv (488 * q + i))) ?_ (nm_r (nI_1 _) (ih (k + 1) (by omega)))⟩
    rw [ei, nI_clamp (by omega), nI_clamp (by omega)]
    have g := qa_fillS s 0 k (fun i => sv (488 * q + i))
    rw [Nat.zero_add] at g
    exact g
theorem my_load {post : Int32 → SY → Prop} {q : Nat} (hq : q < 2) (h : post 1 (sb, qa_fill t 0 512 (fun i => tv (512 * q + i)), tv, jv, e)) : ∀ d k, k + d = 512 → wY_load_22 post (nI q) sb (d + 1) (nI k) (qa_fill t 0 k (fun i => tv (512 * q + i))) tv jv e := by
  intro d
  induction d with
  | zero =>
    intro k hk
    have z : k = 512 := by omega
    subst z
    exact br_t (nI_le (a := 512) (by omega) (by omega)) h
  | succ d ih =>
    intro k hk
    have ei : (512 : Int32) * nI q + nI k = nI (512 * q + k) := by
      show nI 512 * nI q + nI k = _
      rw [pk_mul, nI_add]
    refine br_f (nI_ge (b := 512) (by omega) (by omega)) ⟨by rw [ei]; exact vp_in_nI (by omega) (by omega), vp_in_nI (by omega) (by omega), nm_r (e' := qa_fill t 0 (k + 1) (fun i => tv (512 * q + i))) ?_ (nm_r (nI_1 _) (ih (k + 1) (by omega)))⟩
    rw [ei, nI_clamp (by omega), nI_clamp (by omega)]
    have g := qa_fillS t 0 k (fun i => tv (512 * q + i))
    rw [Nat.zero_add] at g
    exact g
theorem hr_sdS {q : Nat} (hq : q < 2) (R : hr_Rl s t) (D : hr_sd sv iv tv jv) : hr_sd (qa_fill sv (488 * q) 488 s) (upd iv q (vp_nar .boolean 1)) (qa_fill tv (512 * q) 512 t) (upd jv q (vp_nar .boolean 1)) := by
  intro w hw
  by_cases k : w = q
  · subst k
    refine ⟨by rw [pk_us, pk_us], fun _ => hr_RlA R ?_ ?_⟩
    · intro i hi
      exact qa_fillI hi
    · intro i hi
      exact qa_fillI hi
  · rw [pk_un k, pk_un k]
    refine ⟨(D w hw).1, fun z => hr_RlA ((D w hw).2 z) ?_ ?_⟩
    · intro i hi
      exact qa_fillO (by omega)
    · intro i hi
      exact qa_fillO (by omega)
theorem hr_RlL {q : Nat} (R : hr_Rl (fun i => sv (488 * q + i)) (fun i => tv (512 * q + i))) : hr_Rl (qa_fill s 0 488 (fun i => sv (488 * q + i))) (qa_fill t 0 512 (fun i => tv (512 * q + i))) := by
  refine hr_RlA R ?_ ?_
  · intro i hi
    have g := qa_fillI (a := s) (b := 0) (n := 488) (f := fun i => sv (488 * q + i)) hi
    rw [Nat.zero_add] at g
    exact g
  · intro i hi
    have g := qa_fillI (a := t) (b := 0) (n := 512) (f := fun i => tv (512 * q + i)) hi
    rw [Nat.zero_add] at g
    exact g
/-! the picture as one number -/
theorem pr_pict (W : hr_sh s t) : ∀ (d k : Nat) (x : Int64), k + d = 96 → ∃ r : Int64, (∀ post : Int64 → Prop, post r → wX_picture_4 post sa dg st da rn cn s sv iv c (d + 1) x (nI k)) ∧ (∀ post : Int64 → Prop, post r → wY_picture_4 post sb t tv jv e (d + 1) x (nI k)) := by
  intro d
  induction d with
  | zero =>
    intro k x hk
    have z : k = 96 := by omega
    subst z
    exact ⟨x, fun post h => br_t (nI_le (a := 96) (by omega) (by omega)) h, fun post h => br_t (nI_le (a := 96) (by omega) (by omega)) h⟩
  | succ d ih =>
    intro k x hk
    obtain ⟨r, hX, hY⟩ := ih (k + 1) (31 * x + (s (392 + k)).toInt64) (by omega)
    refine ⟨r, fun post h => br_f (nI_ge (b := 96) (by omega) (by omega)) ⟨qa_ii 392 k 488 (by omega) (by omega), nm_r (e' := 31 * x + (s (392 + k)).toInt64) ?_ (nm_r (nI_1 k) (hX post h))⟩, fun post h => br_f (nI_ge (b := 96) (by omega) (by omega)) ⟨qa_ii 416 k 512 (by omega) (by omega), nm_r (e' := 31 * x + (s (392 + k)).toInt64) ?_ (nm_r (nI_1 k) (hY post h))⟩⟩
    · show 31 * x + (s (nI 392 + nI k).toNatClampNeg).toInt64 = _
      rw [qa_ic 392 k (by omega)]
    · show 31 * x + (t (nI 416 + nI k).toNatClampNeg).toInt64 = _
      rw [qa_ic 416 k (by omega), W k (by omega)]
end
end
section
/-! the owed statements -/
section
variable {sa dg st da rn cn : Int32} {s sv iv c : Nat → Int32} {sb : Int32} {t tv jv e : Nat → Int32}
theorem mx_resetV {post : Int32 → SX → Prop} {pc : Int32} (h : post 1 (sa, dg, st, da, rn, cn, upd (upd (qa_fill s 240 151 (fun _ => 0)) 259 240) 260 pc, sv, iv, c)) : ∃ n, wX_reset_17 post pc sa dg st da rn cn n 240 s sv iv c := by
  have g := mx_reset h 151 0 rfl
  rw [qa_fill0] at g
  exact ⟨152, g⟩
theorem mx_saveV {post : Int32 → SX → Prop} {q : Nat} (hq : q < 2) (h : post 1 (sa, dg, st, da, rn, cn, s, qa_fill sv (488 * q) 488 s, upd iv q (vp_nar .boolean 1), c)) : ∃ n, wX_save_13 post (nI q) sa dg st da rn cn n 0 s sv iv c := by
  have g := mx_save hq h 488 0 rfl
  rw [qa_fill0] at g
  exact ⟨489, g⟩
theorem my_saveV {post : Int32 → SY → Prop} {q : Nat} (hq : q < 2) (h : post 1 (sb, t, qa_fill tv (512 * q) 512 t, upd jv q (vp_nar .boolean 1), e)) : ∃ n, wY_save_13 post (nI q) sb n 0 t tv jv e := by
  have g := my_save hq h 512 0 rfl
  rw [qa_fill0] at g
  exact ⟨513, g⟩
theorem mx_loadV {post : Int32 → SX → Prop} {q : Nat} (hq : q < 2) (h : post 1 (sa, dg, st, da, rn, cn, qa_fill s 0 488 (fun i => sv (488 * q + i)), sv, iv, c)) : ∃ n, wX_load_22 post (nI q) sa dg st da rn cn n 0 s sv iv c := by
  have g := mx_load hq h 488 0 rfl
  rw [qa_fill0] at g
  exact ⟨489, g⟩
theorem my_loadV {post : Int32 → SY → Prop} {q : Nat} (hq : q < 2) (h : post 1 (sb, qa_fill t 0 512 (fun i => tv (512 * q + i)), tv, jv, e)) : ∃ n, wY_load_22 post (nI q) sb n 0 t tv jv e := by
  have g := my_load hq h 512 0 rfl
  rw [qa_fill0] at g
  exact ⟨513, g⟩
end
/-- the relation: registers, cells and the saved states as hr_Rl says, the counts alike -/
def i_Rel (k : Nat) (u : SX) (v : SY) : Prop := match u, v with
  | (sa, _, st, _, _, _, s, sv, iv, c), (sb, t, tv, jv, e) => 0 = st ∧ sa = sb ∧ hr_Rl s t ∧ (∀ i, i < 7 → c i = e i) ∧ hr_sd sv iv tv jv
theorem i_up {k : Nat} {u : SX} {v : SY} (h : i_Rel k u v) : i_Rel (k + 3) u v := h
theorem i_vc0 : wpX_init (fun u => wpY_init (fun v => i_Rel 0 u v)) := by
  refine nm_e ?_
  unfold wpY_init
  refine my_beginV ?_
  refine ⟨rfl, rfl, ?_, fun i _ => rfl, fun q _ => ⟨rfl, fun z => absurd rfl z⟩⟩
  refine hr_beg (t := fun _ => 0) (s' := upd (fun _ => 0) 259 240) qa_B0 ?_ ⟨rfl, qa_B0⟩ ?_ ?_ rfl rfl
  · intro i hi
    rw [pk_un (by omega)]
    exact ⟨rfl, qa_B0⟩
  · intro p hp
    rw [pk_un (by omega)]
  · intro i hi
    rw [pk_un (by omega)]
theorem i_vc_put {k : Nat} {u : SX} {v : SY} (I : i_Rel k u v) (hk : k + 3 ≤ 1536) (v1 : Int32) (v2 : Int32) : wpX_put (fun r u' => wpY_put (fun r' v' => r' = r ∧ i_Rel (k + 3) u' v') v v1 v2) u v1 v2 := by
  obtain ⟨sa, dg, st, da, rn, cn, s, sv, iv, c⟩ := u
  obtain ⟨sb, t, tv, jv, e⟩ := v
  have I0 := i_up I
  obtain ⟨z1, z2, R, n7, D⟩ := I
  subst z1
  subst z2
  by_cases h0 : v1 < 0
  · exact br_t h0 (br_t h0 ⟨rfl, I0⟩)
  obtain ⟨j, hj, rfl⟩ := nI_of h0
  by_cases k : j < 240
  · refine br_f h0 (br_t (nI_lt (b := 240) k (by omega)) ⟨vp_in_nI (by omega) (by omega), nm_r (qa_up _ _ (nI_clamp hj)) ?_⟩)
    refine br_f h0 (br_t (nI_le (b := 239) (by omega) (by omega)) ⟨vp_in_nI (by omega) (by omega), nm_r (qa_up _ _ (nI_clamp hj)) ?_⟩)
    exact ⟨rfl, rfl, rfl, ⟨hr_HwW R.1 k (qa_Bm _), hr_cpuA R.2 (qa_agU qa_ag0 (by unfold hr_FX; omega)) (qa_agU qa_ag0 (by unfold hr_FY; omega))⟩, n7, D⟩
  · exact br_f h0 (br_f (nI_nlt (b := 240) (by omega) (by omega)) (br_f h0 (br_f (nI_ge (a := 239) (by omega) (by omega)) ⟨rfl, I0⟩)))
theorem i_vc_reset {k : Nat} {u : SX} {v : SY} (I : i_Rel k u v) (hk : k + 3 ≤ 1536) (v1 : Int32) : wpX_reset (fun r u' => wpY_reset (fun r' v' => r' = r ∧ i_Rel (k + 3) u' v') v v1) u v1 := by
  obtain ⟨sa, dg, st, da, rn, cn, s, sv, iv, c⟩ := u
  obtain ⟨sb, t, tv, jv, e⟩ := v
  have I0 := i_up I
  obtain ⟨z1, z2, R, n7, D⟩ := I
  subst z1
  subst z2
  by_cases h0 : v1 < 0
  · exact br_t h0 (br_t h0 ⟨rfl, I0⟩)
  obtain ⟨j, hj, rfl⟩ := nI_of h0
  by_cases k : j ≤ 255
  · refine br_f h0 (br_t (nI_le (b := 255) k (by omega)) (mx_resetV ?_))
    refine br_f h0 (br_t (nI_le (b := 255) k (by omega)) ?_)
    refine my_beginV ?_
    refine ⟨rfl, rfl, rfl, ?_, n7, D⟩
    obtain ⟨C, T, P, L, K, W, V⟩ := R.1
    refine hr_beg ⟨j, by omega, rfl⟩ ?_ ?_ ?_ ?_ rfl rfl
    · intro i hi
      rw [pk_un (by omega), pk_un (by omega), qa_fillO (by omega)]
      exact C i (by omega)
    · rw [pk_un (by omega), pk_un (by omega), qa_fillO (by omega)]
      exact K
    · intro p hp
      rw [pk_un (by omega), pk_un (by omega), qa_fillO (by omega)]
      exact W p hp
    · intro i hi
      rw [pk_un (by omega), pk_un (by omega)]
      exact qa_z (by omega) (by omega)
  · exact br_f h0 (br_f (nI_ge (a := 255) (by omega) (by omega)) (br_f h0 (br_f (nI_ge (a := 255) (by omega) (by omega)) ⟨rfl, I0⟩)))
theorem i_vc_run {k : Nat} {u : SX} {v : SY} (I : i_Rel k u v) (hk : k + 3 ≤ 1536) (v1 : Int32) : wpX_run (fun r u' => wpY_run (fun r' v' => r' = r ∧ i_Rel (k + 3) u' v') v v1) u v1 := by
  obtain ⟨sa, dg, st, da, rn, cn, s, sv, iv, c⟩ := u
  obtain ⟨sb, t, tv, jv, e⟩ := v
  have I0 := i_up I
  obtain ⟨z1, z2, R, n7, D⟩ := I
  subst z1
  subst z2
  by_cases h0 : v1 < 0
  · exact br_t h0 (br_t h0 ⟨rfl, I0⟩)
  obtain ⟨j, hj, rfl⟩ := nI_of h0
  by_cases k : j ≤ 2000
  · have n0 : e 0 = c 0 + nI 0 := by
      rw [← n7 0 (by omega)]
      exact (Int32.add_zero _).symm
    obtain ⟨r, s', t', c', e', dg', da', rn', cn', R2, n2, hX, hY⟩ := ru_run (sa := sa) (sv := sv) (iv := iv) (tv := tv) (jv := jv) k j 0 s t c e dg da rn cn 1 (by omega) (by omega) ⟨R, ⟨n7 4 (by omega), n7 5 (by omega), n7 6 (by omega)⟩, n7 1 (by omega), n7 2 (by omega), n7 3 (by omega), n0⟩ (Or.inl ⟨rfl, rfl⟩)
    refine br_f h0 (br_t (nI_le (b := 2000) k (by omega)) ?_)
    refine hX _ ?_
    refine br_f h0 (br_t (nI_le (b := 2000) k (by omega)) (nm_r (n7 0 (by omega)).symm ?_))
    refine hY _ ?_
    exact ⟨rfl, rfl, rfl, R2, n2, D⟩
  · exact br_f h0 (br_f (nI_ge (a := 2000) (by omega) (by omega)) (br_f h0 (br_f (nI_ge (a := 2000) (by omega) (by omega)) ⟨rfl, I0⟩)))
theorem i_vc_stop {k : Nat} {u : SX} {v : SY} (I : i_Rel k u v) (hk : k + 3 ≤ 1536) (v1 : Int32) : wpX_stop (fun r u' => wpY_stop (fun r' v' => r' = r ∧ i_Rel (k + 3) u' v') v v1) u v1 := by
  obtain ⟨sa, dg, st, da, rn, cn, s, sv, iv, c⟩ := u
  obtain ⟨sb, t, tv, jv, e⟩ := v
  have I0 := i_up I
  obtain ⟨z1, z2, R, n7, D⟩ := I
  subst z1
  subst z2
  by_cases h0 : v1 < 0
  · exact br_t h0 (br_t h0 ⟨rfl, rfl, rfl, R, n7, D⟩)
  obtain ⟨j, hj, rfl⟩ := nI_of h0
  by_cases k : j ≤ 255
  · exact br_f h0 (br_f (nI_nlt (a := 255) k (by omega)) (br_f h0 (br_t (nI_le (b := 255) k (by omega)) ⟨rfl, rfl, rfl, R, n7, D⟩)))
  · exact br_f h0 (br_t (nI_lt (a := 255) (by omega) (by omega)) (br_f h0 (br_f (nI_ge (a := 255) (by omega) (by omega)) ⟨rfl, rfl, rfl, R, n7, D⟩)))
theorem i_vc_keys {k : Nat} {u : SX} {v : SY} (I : i_Rel k u v) (hk : k + 3 ≤ 1536) (v1 : Int32) : wpX_keys (fun r u' => wpY_keys (fun r' v' => r' = r ∧ i_Rel (k + 3) u' v') v v1) u v1 := by
  obtain ⟨sa, dg, st, da, rn, cn, s, sv, iv, c⟩ := u
  obtain ⟨sb, t, tv, jv, e⟩ := v
  have I0 := i_up I
  obtain ⟨z1, z2, R, n7, D⟩ := I
  subst z1
  subst z2
  obtain ⟨⟨C, T, P, L, K, W, V⟩, cpu⟩ := R
  have K1 : hr_ky (upd s 391 (v1 &&& 255)) (upd t 310 (v1 &&& 255)) := ⟨rfl, qa_Bm _⟩
  have C1 : hr_ce (upd s 391 (v1 &&& 255)) (upd t 310 (v1 &&& 255)) := hr_ceX (hr_ceY C (by omega)) (by omega)
  obtain ⟨s', t', C2, x2, y2, hX, hY⟩ := pr_keysN (sa := sa) (dg := dg) (st := 0) (da := da) (rn := rn) (cn := cn) (sv := sv) (iv := iv) (c := c) (sb := sa) (tv := tv) (jv := jv) (e := e) C1 K1 (ml_pd (s 240) (s 391))
  have sx : ∀ i, i ≠ 245 → i ≠ 391 → s' i = s i := fun i h1 h2 => (x2 i h1).trans (pk_un h2)
  have ty : ∀ i, i ≠ 245 → i ≠ 310 → t' i = t i := fun i h1 h2 => (y2 i h1).trans (pk_un h2)
  have H2 : hr_Hw s' t' := by
    refine ⟨C2, hr_tmA T (fun i hi => sx i (by omega) (by omega)) (fun i hi => ty i (by omega) (by omega)), hr_cpA P (fun i hi => sx i (by omega) (by omega)) (fun i hi => ty i (by omega) (by omega)), hr_lnA L (sx 271 (by omega) (by omega)) (ty 308 (by omega) (by omega)), hr_kyA K1 (x2 391 (by omega)) (y2 310 (by omega)), hr_shA W (fun i hi => sx i (by omega) (by omega)) (fun i hi => ty i (by omega) (by omega)), hr_vsA V (fun i hi => ?_) (fun i hi => ?_)⟩
    · unfold hr_PX at hi
      exact sx i (by omega) (by omega)
    · unfold hr_PY at hi
      exact ty i (by omega) (by omega)
  have cpu2 : hr_cpu s' t' := hr_cpuA cpu (fun i hi => by unfold hr_FX at hi; exact sx i (by omega) (by omega)) (fun i hi => by unfold hr_FY at hi; exact ty i (by omega) (by omega))
  have hk : qa_B (t 310) := by rw [K.1]; exact K.2
  have ep : ml_pd (t 240) (t 310) = ml_pd (s 240) (s 391) := by rw [(C 240 (by omega)).1, K.1]
  refine nm_e ?_
  refine mx_pad ?_
  refine nm_e ?_
  refine hX _ ?_
  refine nm_e ?_
  refine my_pad hk ?_
  refine nm_e ?_
  rw [ep]
  refine hY _ ?_
  exact ⟨K.1, rfl, rfl, ⟨H2, cpu2⟩, n7, D⟩
theorem i_vc_cell {k : Nat} {u : SX} {v : SY} (I : i_Rel k u v) (hk : k + 3 ≤ 1536) (v1 : Int32) : wpX_cell (fun r => wpY_cell (fun r' => r' = r ∧ i_Rel (k + 3) u v) v v1) u v1 := by
  obtain ⟨sa, dg, st, da, rn, cn, s, sv, iv, c⟩ := u
  obtain ⟨sb, t, tv, jv, e⟩ := v
  have I0 := i_up I
  obtain ⟨z1, z2, R, n7, D⟩ := I
  subst z1
  subst z2
  by_cases h0 : v1 < 0
  · exact br_t h0 (br_t h0 ⟨rfl, I0⟩)
  obtain ⟨j, hj, rfl⟩ := nI_of h0
  by_cases k : j < 256
  · obtain ⟨m, hm, m1, m2⟩ := hr_mode R.1.2.2.2.2.2.2
    obtain ⟨r, rB, rX, rY⟩ := pr_cell (sa := sa) (dg := dg) (st := 0) (da := da) (rn := rn) (cn := cn) (sv := sv) (iv := iv) (c := c) (sb := sa) (tv := tv) (jv := jv) (e := e) R.1.1 R.1.2.1 R.1.2.2.2.2.1 k hm m1 m2
    refine br_f h0 (br_t (nI_lt (b := 256) k (by omega)) ?_)
    refine rX _ ?_
    exact rY _ ⟨rfl, I0⟩
  · exact br_f h0 (br_f (nI_nlt (b := 256) (by omega) (by omega)) (br_f h0 (br_f (nI_ge (a := 255) (by omega) (by omega)) ⟨rfl, I0⟩)))
theorem i_vc_cpu {k : Nat} {u : SX} {v : SY} (I : i_Rel k u v) (hk : k + 3 ≤ 1536) (v1 : Int32) : wpX_cpu (fun r => wpY_cpu (fun r' => r' = r ∧ i_Rel (k + 3) u v) v v1) u v1 := by
  obtain ⟨sa, dg, st, da, rn, cn, s, sv, iv, c⟩ := u
  obtain ⟨sb, t, tv, jv, e⟩ := v
  have I0 := i_up I
  obtain ⟨z1, z2, R, n7, D⟩ := I
  subst z1
  subst z2
  by_cases h0 : v1 < 0
  · exact br_t h0 (br_t h0 ⟨rfl, I0⟩)
  obtain ⟨j, hj, rfl⟩ := nI_of h0
  by_cases k : j ≤ 7
  · obtain ⟨m1, m2, m3, m4, m5, m6, m7, m8, m9, B1, B2, B3, B4, B5, b1, b2, b3, b4, ht⟩ := R.2
    have jj : j = 0 ∨ j = 1 ∨ j = 2 ∨ j = 3 ∨ j = 4 ∨ j = 5 ∨ j = 6 ∨ j = 7 := by omega
    rcases jj with rfl | rfl | rfl | rfl | rfl | rfl | rfl | rfl
    · refine br_f h0 (br_f (by decide) (br_t rfl (br_f h0 (br_t (by decide) (br_f (by decide) ⟨qa_ii 256 0 512 (by omega) (by omega), ?_, I0⟩)))))
      rw [show ((256 : Int32) + nI 0).toNatClampNeg = 256 by decide]
      exact m1
    · refine br_f h0 (br_f (by decide) (br_f (by decide) (br_t rfl (br_f h0 (br_t (by decide) (br_f (by decide) ⟨qa_ii 256 1 512 (by omega) (by omega), ?_, I0⟩))))))
      rw [show ((256 : Int32) + nI 1).toNatClampNeg = 257 by decide]
      exact m2
    · refine br_f h0 (br_f (by decide) (br_f (by decide) (br_f (by decide) (br_t rfl (br_f h0 (br_t (by decide) (br_f (by decide) ⟨qa_ii 256 2 512 (by omega) (by omega), ?_, I0⟩)))))))
      rw [show ((256 : Int32) + nI 2).toNatClampNeg = 258 by decide]
      exact m3
    · refine br_f h0 (br_f (by decide) (br_f (by decide) (br_f (by decide) (br_f (by decide) (br_t rfl (br_f h0 (br_t (by decide) (br_f (by decide) ⟨qa_ii 256 3 512 (by omega) (by omega), ?_, I0⟩))))))))
      rw [show ((256 : Int32) + nI 3).toNatClampNeg = 259 by decide]
      exact m4
    · refine br_f h0 (br_f (by decide) (br_f (by decide) (br_f (by decide) (br_f (by decide) (br_f (by decide) (br_t rfl (br_f h0 (br_t (by decide) (br_f (by decide) ⟨qa_ii 256 4 512 (by omega) (by omega), ?_, I0⟩)))))))))
      rw [show ((256 : Int32) + nI 4).toNatClampNeg = 260 by decide]
      exact m5
    · refine br_f h0 (br_f (by decide) (br_f (by decide) (br_f (by decide) (br_f (by decide) (br_f (by decide) (br_f (by decide) (br_t rfl (br_f h0 (br_t (by decide) (br_t (by decide) (br_t rfl ⟨?_, I0⟩)))))))))))
      rw [m6, m7]
    · by_cases q : s 263 = 1
      · exact br_f h0 (br_f (by decide) (br_f (by decide) (br_f (by decide) (br_f (by decide) (br_f (by decide) (br_f (by decide) (br_f (by decide) (br_t rfl (br_t q (br_f h0 (br_t (by decide) (br_t (by decide) (br_f (by decide) (br_t rfl (br_t (m8.trans q) ⟨rfl, I0⟩)))))))))))))))
      · refine br_f h0 (br_f (by decide) (br_f (by decide) (br_f (by decide) (br_f (by decide) (br_f (by decide) (br_f (by decide) (br_f (by decide) (br_t rfl (br_f q (br_f h0 (br_t (by decide) (br_t (by decide) (br_f (by decide) (br_t rfl (br_f (by rw [m8]; exact q) ⟨?_, I0⟩)))))))))))))))
        rw [m9]
    · rcases ht with h | h | h
      · refine br_f h0 (br_f (by decide) (br_f (by decide) (br_f (by decide) (br_f (by decide) (br_f (by decide) (br_f (by decide) (br_f (by decide) (br_f (by decide) (br_t rfl (br_f h0 (br_t (by decide) (br_t (by decide) (br_f (by decide) (br_f (by decide) (br_f (by rw [h.2.1]; decide) ⟨?_, I0⟩)))))))))))))))
        rw [h.1, h.2.2]
        decide
      · refine br_f h0 (br_f (by decide) (br_f (by decide) (br_f (by decide) (br_f (by decide) (br_f (by decide) (br_f (by decide) (br_f (by decide) (br_f (by decide) (br_t rfl (br_f h0 (br_t (by decide) (br_t (by decide) (br_f (by decide) (br_f (by decide) (br_t h.2.1 ⟨?_, I0⟩)))))))))))))))
        rw [h.1]
      · refine br_f h0 (br_f (by decide) (br_f (by decide) (br_f (by decide) (br_f (by decide) (br_f (by decide) (br_f (by decide) (br_f (by decide) (br_f (by decide) (br_t rfl (br_f h0 (br_t (by decide) (br_t (by decide) (br_f (by decide) (br_f (by decide) (br_f (by rw [h.2.1]; decide) ⟨?_, I0⟩)))))))))))))))
        rw [h.1, h.2.2.1]
        decide
  · exact br_f h0 (br_t (nI_lt (a := 7) (by omega) (by omega)) (br_f h0 (br_f (nI_ge (a := 7) (by omega) (by omega)) ⟨rfl, I0⟩)))
theorem i_vc_timer {k : Nat} {u : SX} {v : SY} (I : i_Rel k u v) (hk : k + 3 ≤ 1536) (v1 : Int32) : wpX_timer (fun r => wpY_timer (fun r' => r' = r ∧ i_Rel (k + 3) u v) v v1) u v1 := by
  obtain ⟨sa, dg, st, da, rn, cn, s, sv, iv, c⟩ := u
  obtain ⟨sb, t, tv, jv, e⟩ := v
  have I0 := i_up I
  obtain ⟨z1, z2, R, n7, D⟩ := I
  subst z1
  subst z2
  by_cases h0 : v1 < 0
  · exact br_t h0 (br_f (fun z => absurd h0 (by rw [z]; decide)) (br_f (fun z => absurd h0 (by rw [z]; decide)) (br_f (fun z => absurd h0 (by rw [z]; decide)) ⟨rfl, I0⟩)))
  obtain ⟨j, hj, rfl⟩ := nI_of h0
  by_cases k : j ≤ 2
  · have T := R.1.2.1
    have jj : j = 0 ∨ j = 1 ∨ j = 2 := by omega
    rcases jj with rfl | rfl | rfl
    · exact br_f h0 (br_f (by decide) (br_t rfl (br_t rfl ⟨T.1, I0⟩)))
    · exact br_f h0 (br_f (by decide) (br_f (by decide) (br_t rfl (br_f (by decide) (br_t rfl ⟨T.2.2.1, I0⟩)))))
    · obtain ⟨dl, pg, nx, a1, a2, a3, e1, e2, e3, e4, e5, e6, e7⟩ := R.1.2.2.1
      by_cases k16 : nx = 16
      · subst k16
        have q5 : s 270 ≤ 0 := by rw [e5]; decide
        have q6 : 16 ≤ t 271 := by rw [e6]; decide
        by_cases kd : dl = 0
        · subst kd
          exact br_f h0 (br_f (by decide) (br_f (by decide) (br_f (by decide) (br_t rfl (br_t q5 (br_t (by rw [e1]; decide) (br_f (by decide) (br_f (by decide) (br_t rfl (br_t q6 (br_t (by rw [e2]; decide) ⟨rfl, I0⟩)))))))))))
        · exact br_f h0 (br_f (by decide) (br_f (by decide) (br_f (by decide) (br_t rfl (br_t q5 (br_f (by rw [e1]; exact nI_nle (by omega) (by omega)) (br_f (by decide) (br_f (by decide) (br_t rfl (br_t q6 (br_f (by rw [e2]; exact nI_nle (by omega) (by omega)) ⟨rfl, I0⟩)))))))))))
      · refine br_f h0 (br_f (by decide) (br_f (by decide) (br_f (by decide) (br_t rfl (br_f (by rw [e5]; exact nI_nle (by omega) (by omega)) (br_f (by decide) (br_f (by decide) (br_t rfl (br_f (by rw [e6]; exact nI_ge (b := 16) (by omega) (by omega)) ⟨?_, I0⟩)))))))))
        rw [e5, e6]
        exact pk_sub (a := 16) (by omega)
  · exact br_f h0 (br_t (nI_lt (a := 2) (by omega) (by omega)) (br_f (qa_neN (b := 0) (by omega) (by omega) (by omega)) (br_f (qa_neN (b := 1) (by omega) (by omega) (by omega)) (br_f (qa_neN (b := 2) (by omega) (by omega) (by omega)) ⟨rfl, I0⟩))))
theorem i_vc_video {k : Nat} {u : SX} {v : SY} (I : i_Rel k u v) (hk : k + 3 ≤ 1536) (v1 : Int32) : wpX_video (fun r => wpY_video (fun r' => r' = r ∧ i_Rel (k + 3) u v) v v1) u v1 := by
  obtain ⟨sa, dg, st, da, rn, cn, s, sv, iv, c⟩ := u
  obtain ⟨sb, t, tv, jv, e⟩ := v
  have I0 := i_up I
  obtain ⟨z1, z2, R, n7, D⟩ := I
  subst z1
  subst z2
  by_cases h0 : v1 < 0
  · exact br_t h0 (br_t h0 ⟨rfl, I0⟩)
  obtain ⟨j, hj, rfl⟩ := nI_of h0
  by_cases k : j ≤ 4
  · obtain ⟨ly, d, m, wl, tk, f0, f1, b1, b2, b3, b4, b5, B, S, o, z, Q⟩ := R.1.2.2.2.2.2.2
    obtain ⟨e1, e2, e3, e4, e5, e6, e7, e8, e9⟩ := B
    have jj : j = 0 ∨ j = 1 ∨ j = 2 ∨ j = 3 ∨ j = 4 := by omega
    rcases jj with rfl | rfl | rfl | rfl | rfl
    · refine br_f h0 (br_f (by decide) (br_t rfl (br_f h0 (br_f (by decide) (br_t rfl ⟨?_, I0⟩)))))
      rw [e3, e2]
    · refine br_f h0 (br_f (by decide) (br_f (by decide) (br_t rfl (br_f h0 (br_f (by decide) (br_f (by decide) (br_t rfl ⟨?_, I0⟩)))))))
      rw [e5, e4]
    · refine br_f h0 (br_f (by decide) (br_f (by decide) (br_f (by decide) (br_t rfl (br_f h0 (br_f (by decide) (br_f (by decide) (br_f (by decide) (br_t rfl ?_)))))))))
      by_cases km : m = 3
      · subst km
        rcases Q with h | h | h | h | h
        · exact absurd h.2.1 (by omega)
        · exact absurd h.2.2.1 (by omega)
        · exact absurd h.2.2.2.1 (by omega)
        · obtain ⟨h1, h2, h3, x, dp, pa, le, nx, he, D'⟩ := h
          refine br_t e5 ⟨?_, I0⟩
          rw [D'.2.2.2.2.2.2.2.2.2.1, D'.2.2.2.2.2.2.2.2.2.2.1]
        · exact absurd h.2.2.1 (by omega)
      · have m4 : m < 4 := by
          rcases Q with h | h | h | h | h <;> omega
        refine br_f (by rw [e5]; exact qa_neN (b := 3) km (by omega) (by omega)) ⟨?_, I0⟩
        exact (z km).symm
    · refine br_f h0 (br_f (by decide) (br_f (by decide) (br_f (by decide) (br_f (by decide) (br_t rfl (br_f h0 (br_f (by decide) (br_f (by decide) (br_f (by decide) (br_f (by decide) (br_t rfl ⟨?_, I0⟩)))))))))))
      rw [e9, e8]
    · refine br_f h0 (br_f (by decide) (br_f (by decide) (br_f (by decide) (br_f (by decide) (br_f (by decide) (br_t rfl (br_f h0 (br_f (by decide) (br_f (by decide) (br_f (by decide) (br_f (by decide) (br_f (by decide) (br_t rfl ⟨?_, I0⟩)))))))))))))
      rw [e7, e6]
  · exact br_f h0 (br_t (nI_lt (a := 4) (by omega) (by omega)) (br_f h0 (br_t (nI_lt (a := 4) (by omega) (by omega)) ⟨rfl, I0⟩)))
theorem i_vc_pixel {k : Nat} {u : SX} {v : SY} (I : i_Rel k u v) (hk : k + 3 ≤ 1536) (v1 : Int32) (v2 : Int32) : wpX_pixel (fun r => wpY_pixel (fun r' => r' = r ∧ i_Rel (k + 3) u v) v v1 v2) u v1 v2 := by
  obtain ⟨sa, dg, st, da, rn, cn, s, sv, iv, c⟩ := u
  obtain ⟨sb, t, tv, jv, e⟩ := v
  have I0 := i_up I
  obtain ⟨z1, z2, R, n7, D⟩ := I
  subst z1
  subst z2
  by_cases h0 : v1 < 0
  · exact br_t h0 (br_t h0 ⟨rfl, I0⟩)
  obtain ⟨j, hj, rfl⟩ := nI_of h0
  by_cases kx : j < 12
  · by_cases g0 : v2 < 0
    · exact br_f h0 (br_f (nI_ge (b := 12) kx (by omega)) (br_t g0 (br_f h0 (br_f (nI_nlt (a := 11) (by omega) (by omega)) (br_t g0 ⟨rfl, I0⟩)))))
    obtain ⟨y, hy, rfl⟩ := nI_of g0
    by_cases ky : y < 8
    · have i1 : ((392 : Int32) + 12 * nI y) + nI j = nI (392 + (12 * y + j)) := by
        show nI 392 + nI 12 * nI y + nI j = _
        rw [pk_mul, nI_add, nI_add, show 392 + 12 * y + j = 392 + (12 * y + j) by omega]
      have i2 : ((416 : Int32) + 12 * nI y) + nI j = nI (416 + (12 * y + j)) := by
        show nI 416 + nI 12 * nI y + nI j = _
        rw [pk_mul, nI_add, nI_add, show 416 + 12 * y + j = 416 + (12 * y + j) by omega]
      refine br_f h0 (br_f (nI_ge (b := 12) kx (by omega)) (br_f g0 (br_t (nI_lt (b := 8) ky (by omega)) ⟨by rw [i1]; exact vp_in_nI (by omega) (by omega), ?_⟩)))
      refine br_f h0 (br_f (nI_nlt (a := 11) (by omega) (by omega)) (br_f g0 (br_t (nI_le (b := 7) (by omega) (by omega)) ⟨by rw [i2]; exact vp_in_nI (by omega) (by omega), ?_, I0⟩)))
      rw [i1, i2, nI_clamp (by omega), nI_clamp (by omega)]
      exact R.1.2.2.2.2.2.1 _ (by omega)
    · exact br_f h0 (br_f (nI_ge (b := 12) kx (by omega)) (br_f g0 (br_f (nI_nlt (b := 8) (by omega) (by omega)) (br_f h0 (br_f (nI_nlt (a := 11) (by omega) (by omega)) (br_f g0 (br_f (nI_ge (a := 7) (by omega) (by omega)) ⟨rfl, I0⟩)))))))
  · exact br_f h0 (br_t (nI_le (a := 12) (by omega) (by omega)) (br_f h0 (br_t (nI_lt (a := 11) (by omega) (by omega)) ⟨rfl, I0⟩)))
theorem i_vc_picture {k : Nat} {u : SX} {v : SY} (I : i_Rel k u v) (hk : k + 3 ≤ 1536) : wpX_picture (fun r => wpY_picture (fun r' => r' = r ∧ i_Rel (k + 3) u v) v) u := by
  obtain ⟨sa, dg, st, da, rn, cn, s, sv, iv, c⟩ := u
  obtain ⟨sb, t, tv, jv, e⟩ := v
  have I0 := i_up I
  obtain ⟨z1, z2, R, n7, D⟩ := I
  subst z1
  subst z2
  obtain ⟨r, hX, hY⟩ := pr_pict (sa := sa) (dg := dg) (st := 0) (da := da) (rn := rn) (cn := cn) (sv := sv) (iv := iv) (c := c) (sb := sa) (tv := tv) (jv := jv) (e := e) R.1.2.2.2.2.2.1 96 0 0 rfl
  refine ⟨97, hX _ ?_⟩
  exact ⟨97, hY _ ⟨rfl, I0⟩⟩
theorem i_vc_count {k : Nat} {u : SX} {v : SY} (I : i_Rel k u v) (hk : k + 3 ≤ 1536) (v1 : Int32) : wpX_count (fun r => wpY_count (fun r' => r' = r ∧ i_Rel (k + 3) u v) v v1) u v1 := by
  obtain ⟨sa, dg, st, da, rn, cn, s, sv, iv, c⟩ := u
  obtain ⟨sb, t, tv, jv, e⟩ := v
  have I0 := i_up I
  obtain ⟨z1, z2, R, n7, D⟩ := I
  subst z1
  subst z2
  by_cases h0 : v1 < 0
  · exact br_t h0 (br_t h0 ⟨rfl, I0⟩)
  obtain ⟨j, hj, rfl⟩ := nI_of h0
  by_cases k : j < 7
  · refine br_f h0 (br_t (nI_lt (b := 7) k (by omega)) ⟨vp_in_nI k (by omega), br_f h0 (br_t (nI_le (b := 6) (by omega) (by omega)) ⟨vp_in_nI k (by omega), ?_, I0⟩)⟩)
    rw [nI_clamp hj]
    exact (n7 j k).symm
  · exact br_f h0 (br_f (nI_nlt (b := 7) (by omega) (by omega)) (br_f h0 (br_f (nI_ge (a := 6) (by omega) (by omega)) ⟨rfl, I0⟩)))
theorem i_vc_save {k : Nat} {u : SX} {v : SY} (I : i_Rel k u v) (hk : k + 3 ≤ 1536) (v1 : Int32) : wpX_save (fun r u' => wpY_save (fun r' v' => r' = r ∧ i_Rel (k + 3) u' v') v v1) u v1 := by
  obtain ⟨sa, dg, st, da, rn, cn, s, sv, iv, c⟩ := u
  obtain ⟨sb, t, tv, jv, e⟩ := v
  have I0 := i_up I
  obtain ⟨z1, z2, R, n7, D⟩ := I
  subst z1
  subst z2
  by_cases h0 : v1 < 0
  · exact br_t h0 (br_t h0 ⟨rfl, I0⟩)
  obtain ⟨j, hj, rfl⟩ := nI_of h0
  by_cases k : j < 2
  · refine br_f h0 (br_t (nI_lt (b := 2) k (by omega)) (mx_saveV k ?_))
    refine br_f h0 (br_t (nI_le (b := 1) (by omega) (by omega)) (my_saveV k ?_))
    exact ⟨rfl, rfl, rfl, R, n7, hr_sdS k R D⟩
  · exact br_f h0 (br_f (nI_nlt (b := 2) (by omega) (by omega)) (br_f h0 (br_f (nI_ge (a := 1) (by omega) (by omega)) ⟨rfl, I0⟩)))
theorem i_vc_load {k : Nat} {u : SX} {v : SY} (I : i_Rel k u v) (hk : k + 3 ≤ 1536) (v1 : Int32) : wpX_load (fun r u' => wpY_load (fun r' v' => r' = r ∧ i_Rel (k + 3) u' v') v v1) u v1 := by
  obtain ⟨sa, dg, st, da, rn, cn, s, sv, iv, c⟩ := u
  obtain ⟨sb, t, tv, jv, e⟩ := v
  have I0 := i_up I
  obtain ⟨z1, z2, R, n7, D⟩ := I
  subst z1
  subst z2
  by_cases h0 : v1 < 0
  · exact br_t h0 (br_t h0 ⟨rfl, I0⟩)
  obtain ⟨j, hj, rfl⟩ := nI_of h0
  by_cases k : j < 2
  · have cj : (nI j).toNatClampNeg = j := nI_clamp hj
    by_cases q : iv j = 0
    · exact br_f h0 (br_f (nI_ge (b := 2) k (by omega)) ⟨vp_in_nI k (by omega), br_t (by rw [cj]; exact q) (br_f h0 (br_f (nI_nlt (a := 1) (by omega) (by omega)) ⟨vp_in_nI k (by omega), br_t (by rw [cj, (D j k).1]; exact q) ⟨rfl, I0⟩⟩))⟩)
    · refine br_f h0 (br_f (nI_ge (b := 2) k (by omega)) ⟨vp_in_nI k (by omega), br_f (by rw [cj]; exact q) (mx_loadV k ?_)⟩)
      refine br_f h0 (br_f (nI_nlt (a := 1) (by omega) (by omega)) ⟨vp_in_nI k (by omega), br_f (by rw [cj, (D j k).1]; exact q) (my_loadV k ?_)⟩)
      exact ⟨rfl, rfl, rfl, hr_RlL ((D j k).2 q), n7, D⟩
  · exact br_f h0 (br_t (nI_le (a := 2) (by omega) (by omega)) (br_f h0 (br_t (nI_lt (a := 1) (by omega) (by omega)) ⟨rfl, I0⟩)))
end
