/-! the law's own reckoning beside the class's -/
theorem fa_or (a b : Nat) : nI a ||| nI b = nI (a ||| b) := by
  apply Int32.toBitVec_inj.1
  show BitVec.ofNat 32 a ||| BitVec.ofNat 32 b = BitVec.ofNat 32 (a ||| b)
  apply BitVec.eq_of_getLsbD_eq
  intro i hi
  simp [hi]
theorem nx_xor (a b : Nat) : nI a ^^^ nI b = nI (a ^^^ b) := by
  apply Int32.toBitVec_inj.1
  show BitVec.ofNat 32 a ^^^ BitVec.ofNat 32 b = BitVec.ofNat 32 (a ^^^ b)
  apply BitVec.eq_of_getLsbD_eq
  intro i hi
  simp [hi]
theorem zal_congr {p q : Nat → Bool} : ∀ {n : Nat}, (∀ k, k < n → p k = q k) → zal p n = zal q n
  | 0, _ => rfl
  | n + 1, h => by rw [zal, zal, zal_congr (n := n) (fun k hk => h k (by omega)), h n (by omega)]
theorem zmk_0 (f : Nat → Int32) (k : Nat) : zmk f k 0 = f k &&& 1 := by
  unfold zmk
  rw [nI_0, sb_shr0]
theorem zmv_0 (f : Nat → Int32) {n : Nat} (hn : 0 < n) : zmv f n 0 = true := by
  refine zex_t (k := 0) hn (zal_t (fun k hk => ?_))
  rw [Nat.add_zero, Nat.mod_eq_of_lt hk]
  exact decide_eq_true rfl
theorem zon_law (f : Nat → Int32) {n : Nat} (hn : 0 < n) (T : Nat) : zal (fun t => zmv f n t) T = zon f n T := by
  refine zal_congr (fun t _ => ?_)
  by_cases h : t = 0
  · subst h; rw [zmv_0 f hn]; rfl
  · rw [beq_eq_false_iff_ne.mpr h]; rfl
/-- the law's least -/
def zlw (f : Nat → Int32) (n t : Nat) : Nat := if t = 0 then 99 else zlo f n t
theorem zlw_i (f : Nat → Int32) (n t : Nat) (hn : n ≤ 64) : (if zchg f n t < zlw f n t then zchg f n t else zlw f n t) = zlw f n (t + 1) := by
  have h1 := zchg_le f n t
  have h2 : zlw f n (t + 1) = zlo f n (t + 1) := if_neg (by omega)
  rw [h2]
  by_cases h : t = 0
  · subst h
    have h3 : zlw f n 0 = 99 := if_pos rfl
    rw [h3, if_pos (by omega), zlo]
    by_cases h4 : zchg f n 0 < zlo f n 0
    · rw [if_pos h4]
    · rw [if_neg h4]
      have h5 : zlo f n 0 = n := rfl
      omega
  · have h3 : zlw f n t = zlo f n t := if_neg h
    rw [h3, zlo]
theorem zlw_le (f : Nat → Int32) (n t : Nat) (hn : n ≤ 64) : zlw f n t ≤ 99 := by
  unfold zlw
  have := zlo_le f n t
  split <;> omega
theorem zhi_i2 (f : Nat → Int32) (n t : Nat) : (if zhi f n t < zchg f n t then zchg f n t else zhi f n t) = zhi f n (t + 1) := by rw [zhi]
/-- all the words' bits -/
def zob (v : Nat → Nat) : Nat → Nat
  | 0 => 0
  | k + 1 => zob v k ||| v k
theorem zob_lt (v : Nat → Nat) (t : Nat) : ∀ n, zob v n < 2 ^ t ↔ ∀ k, k < n → v k < 2 ^ t
  | 0 => ⟨fun _ k hk => absurd hk (Nat.not_lt_zero k), fun _ => Nat.two_pow_pos t⟩
  | n + 1 => by
    have ih := zob_lt v t n
    constructor
    · intro h k hk
      have h1 : zob v n ≤ zob v n ||| v n := Nat.left_le_or
      have h2 : v n ≤ zob v n ||| v n := Nat.right_le_or
      rw [zob] at h
      rcases Nat.lt_or_ge k n with q | q
      · exact ih.mp (Nat.lt_of_le_of_lt h1 h) k q
      · rw [show k = n by omega]; exact Nat.lt_of_le_of_lt h2 h
    · intro h
      rw [zob]
      exact Nat.or_lt_two_pow (ih.mpr (fun k hk => h k (by omega))) (h n (by omega))
theorem ztw0_le (x : Int32) : ∀ t, ztw x 0 t ≤ t
  | 0 => Nat.le_refl 0
  | t + 1 => by
    have := ztw0_le x t
    rw [ztw]; split <;> omega
theorem ztw_max (x : Int32) (h : Nat) : ∀ t, ztw x h t = max h (ztw x 0 t)
  | 0 => by show h = max h 0; omega
  | t + 1 => by
    have ih := ztw_max x h t
    have h1 := ztw0_le x t
    rw [ztw, ztw]
    by_cases hb : zbt x t = true
    · by_cases h2 : h ≤ t
      · rw [if_pos ⟨hb, by omega⟩, if_pos ⟨hb, h1⟩]; omega
      · rw [if_neg (fun q => by have := q.2; omega), if_pos ⟨hb, h1⟩]; omega
    · rw [if_neg (fun q => hb q.1), if_neg (fun q => hb q.1)]; exact ih
theorem ztw_w : ∀ w, w < 256 → ∀ t, t < 9 → (ztw (nI w &&& 255) 0 8 ≤ t ↔ w < 2 ^ t) := by decide +kernel
theorem zcl255 : ∀ w, w < 256 → (nI w &&& 255).toNatClampNeg = w := by decide +kernel
theorem ztr_iff {f : Nat → Int32} {v : Nat → Nat} : ∀ {n : Nat}, (∀ k, k < n → f k = nI (v k) ∧ v k < 256) → ∀ {t : Nat}, t < 9 → (ztr f n ≤ t ↔ ∀ k, k < n → v k < 2 ^ t)
  | 0, _, t, _ => ⟨fun _ k hk => absurd hk (Nat.not_lt_zero k), fun _ => Nat.zero_le t⟩
  | n + 1, h, t, ht => by
    have ih := ztr_iff (n := n) (fun k hk => h k (by omega)) ht
    have h1 := h n (by omega)
    have h2 := ztw_w (v n) h1.2 t ht
    rw [ztr, ztw_max, h1.1]
    constructor
    · intro q k hk
      rcases Nat.lt_or_ge k n with r | r
      · exact ih.mp (by omega) k r
      · rw [show k = n by omega]; exact h2.mp (by omega)
    · intro q
      have a := ih.mpr (fun k hk => q k (by omega))
      have b := h2.mpr (q n (by omega))
      omega
theorem zs31 : ∀ t, t < 9 → ((nI t &&& 31).toBitVec.smod 32).toNat = t := by decide +kernel
/-- the law's 'bits >> tracks' -/
theorem zsh {B t : Nat} (hB : B < 256) (ht : t < 9) : nI B >>> (nI t &&& 31) = nI (B / 2 ^ t) := pk_shrN (by omega) (nI t &&& 31) t (zs31 t ht)
theorem zsh_0 {B t : Nat} : B / 2 ^ t = 0 ↔ B < 2 ^ t := by
  rw [Nat.div_eq_zero_iff]
  have := Nat.two_pow_pos t
  omega
/-- the law's search of a word -/
def zat (f : Nat → Int32) (w : Nat) : Nat → Int32
  | 0 => -900003
  | k + 1 => if f k = nI w then nI k else zat f w k
theorem zpl_at {f : Nat → Int32} {v : Nat → Nat} {w : Nat} (hw : w < 256) : ∀ {n : Nat}, n < 2 ^ 30 → (∀ k, k < n → f k = nI (v k) ∧ v k < 256) → (zpl f n w = -1 ∧ zat f w n = -900003) ∨ ∃ j, j < n ∧ zpl f n w = nI j ∧ zat f w n = nI j
  | 0, _, _ => Or.inl ⟨if_pos hw, rfl⟩
  | n + 1, hn, h => by
    have ih := zpl_at hw (n := n) (by omega) (fun k hk => h k (by omega))
    have h1 := h n (by omega)
    have e1 : zpl f (n + 1) w = if w = v n then nI n else zpl f n w := by
      show upd (zpl f n) ((f n &&& 255).toNatClampNeg) (nI n) w = _
      rw [h1.1, zcl255 _ h1.2]; rfl
    have e2 : zat f w (n + 1) = if w = v n then nI n else zat f w n := by
      rw [zat, h1.1]
      by_cases q : w = v n
      · rw [if_pos q, if_pos (by rw [q])]
      · rw [if_neg q, if_neg (fun r => q ((nI_eq (by omega) (by omega)).mp r).symm)]
    rw [e1, e2]
    by_cases q : w = v n
    · rw [if_pos q, if_pos q]; exact Or.inr ⟨n, by omega, rfl, rfl⟩
    · rw [if_neg q, if_neg q]
      rcases ih with r | ⟨j, hj, r⟩
      · exact Or.inl r
      · exact Or.inr ⟨j, by omega, r⟩
theorem znI_n1 {j : Nat} (h : j < 2 ^ 31) : ¬ nI j = -1 := fun q => by
  have h1 : (nI j).toInt = (-1 : Int32).toInt := by rw [q]
  rw [nI_toInt h] at h1
  have h2 : (-1 : Int32).toInt = -1 := by decide
  omega
theorem zbc00 : ¬ zbc (nI 0 ^^^ nI 0) = 1 := by decide +kernel
/-- a ring has a track -/
theorem ztr_pos {f : Nat → Int32} {v : Nat → Nat} {n : Nat} (hn : 0 < n) (h : ∀ k, k < n → f k = nI (v k) ∧ v k < 256) (hr : zrg f n = true) : 1 ≤ ztr f n := by
  rcases Nat.lt_or_ge 0 (ztr f n) with q | q
  · exact q
  · exfalso
    have h0 := (ztr_iff h (t := 0) (by omega)).mp (by omega)
    have h1 := zal_all.mp hr 0 hn
    have a1 := h 0 hn
    have hx : znx n 0 < n := by unfold znx; split <;> omega
    have a2 := h (znx n 0) hx
    have b1 := h0 0 hn
    have b2 := h0 (znx n 0) hx
    have c1 : v 0 = 0 := by omega
    have c2 : v (znx n 0) = 0 := by omega
    have d := of_decide_eq_true h1
    rw [a1.1, a2.1, c1, c2] at d
    exact zbc00 d
theorem zb_and {a b : Bool} : zb a &&& zb b = zb (a && b) := by cases a <;> cases b <;> decide
theorem zb_or {a b : Bool} : zb a ||| zb b = zb (a || b) := by cases a <;> cases b <;> decide
theorem zb_if {c : Prop} [Decidable c] : (if c then (1 : Int32) else 0) = zb (decide c) := by by_cases h : c <;> simp [h, zb]
theorem z11 : (1 : Int32) &&& 1 = 1 := by decide
