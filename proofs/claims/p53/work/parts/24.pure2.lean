/-! codes kept, in words of the world's list; the law's ring beside the class's -/
def zM (cI : ClassId) (nc : Nat) (ad : Nat → Option Nat) (X : va_W) : Prop := ∀ k, k < nc → ∃ (h0 h1 h2 n T : Nat) (f : Nat → Int32), ad k = some h0 ∧ ((h0, .inr (0, [.ref h1, .int (nI T), .ref h2])) : Nat × va_E) ∈ X ∧ ((h1, .inl (cI, n, .inl f)) : Nat × va_E) ∈ X ∧ n < 2 ^ 30 ∧ zrg f n = true
theorem zM_0 {cI : ClassId} {ad : Nat → Option Nat} {X : va_W} : zM cI 0 ad X := fun k h => absurd h (Nat.not_lt_zero k)
theorem zM_more {cI : ClassId} {nc : Nat} {ad : Nat → Option Nat} {X Y : va_W} (h : zM cI nc ad X) : zM cI nc ad (Y ++ X) := fun k hk => by
  obtain ⟨h0, h1, h2, n, T, f, e1, e2, e3, e4, e5⟩ := h k hk
  exact ⟨h0, h1, h2, n, T, f, e1, List.mem_append_right _ e2, List.mem_append_right _ e3, e4, e5⟩
theorem zM_add {cI : ClassId} {nc : Nat} {ad : Nat → Option Nat} {X : va_W} {q : Nat × va_E} {h0 h1 h2 n T : Nat} {f g : Nat → Int32} (h : zM cI nc ad X) (hn : n < 2 ^ 30) (hr : zrg f n = true) :
    zM cI (nc + 1) (va_up ad nc (some h0)) ([q, (h0, .inr (0, [.ref h1, .int (nI T), .ref h2])), (h1, .inl (cI, n, .inl f)), (h2, .inl (cI, 256, .inl g))] ++ X) := fun k hk => by
  by_cases e : k = nc
  · refine ⟨h0, h1, h2, n, T, f, if_pos e, List.mem_append_left _ ?_, List.mem_append_left _ ?_, hn, hr⟩
    · exact List.mem_of_getElem? (i := 1) rfl
    · exact List.mem_of_getElem? (i := 2) rfl
  · obtain ⟨a0, a1, a2, n2, T2, f2, e1, e2, e3, e4, e5⟩ := h k (by omega)
    exact ⟨a0, a1, a2, n2, T2, f2, (if_neg e).trans e1, List.mem_append_right _ e2, List.mem_append_right _ e3, e4, e5⟩
theorem zP_mem {D : va_G} {cl : List vw_C} {ws : va_W} {H : Heap} (h : va_P D cl ws H) {q : Nat × va_E} (hq : q ∈ ws) : va_at D cl q H := by
  obtain ⟨k, hk⟩ := List.getElem?_of_mem hq
  exact h k q hk
theorem zM_Cs {D : va_G} {cI : ClassId} {nc : Nat} {ad : Nat → Option Nat} {X Y : va_W} {H : Heap} (h : zM cI nc ad X) (hP : va_P D vwCl (Y ++ X) H) : zCs D cI nc ad H := fun k hk => by
  obtain ⟨h0, h1, h2, n, T, f, e1, e2, e3, e4, e5⟩ := h k hk
  refine ⟨h0, h1, h2, n, T, f, e1, fun i q hq => ?_, e4, e5⟩
  match i, hq with
  | 0, hq => cases hq; exact zP_mem hP (List.mem_append_right _ e2)
  | 1, hq => cases hq; exact zP_mem hP (List.mem_append_right _ e3)
  | i + 2, hq => cases hq
theorem znx_lt {w k : Nat} (h : 0 < w) : znx w k < w := by unfold znx; split <;> omega
theorem znx_mod {w k : Nat} (h : k < w) : znx w k = (k + 1) % w := by
  unfold znx
  by_cases q : k + 1 < w
  · rw [if_pos q, Nat.mod_eq_of_lt q]
  · rw [if_neg q, show k + 1 = w by omega, Nat.mod_self]
theorem ztg_congr {f g : Nat → Int32} {w : Nat} (h : ∀ j, j < w → f j = g j) : ztg f w = ztg g w := by
  have h1 : zrg f w = zrg g w := zal_congr (fun k hk => by rw [h k hk, h _ (znx_lt (by omega))])
  have h2 : zds f w = zds g w := zal_congr (fun k hk => zal_congr (fun j hj => by rw [h k hk, h j hj]))
  unfold ztg
  rw [h1, h2]
theorem zrg_congr {f g : Nat → Int32} {w : Nat} (h : ∀ j, j < w → f j = g j) : zrg f w = zrg g w := zal_congr (fun k hk => by rw [h k hk, h _ (znx_lt (by omega))])
theorem ztr_congr {f g : Nat → Int32} : ∀ {w : Nat}, (∀ j, j < w → f j = g j) → ztr f w = ztr g w
  | 0, _ => rfl
  | w + 1, h => by rw [ztr, ztr, ztr_congr (w := w) (fun j hj => h j (by omega)), h w (by omega)]
theorem zpl_congr {f g : Nat → Int32} : ∀ {w : Nat}, (∀ j, j < w → f j = g j) → zpl f w = zpl g w
  | 0, _ => rfl
  | w + 1, h => by rw [zpl, zpl, zpl_congr (w := w) (fun j hj => h j (by omega)), h w (by omega)]
/-- one bit, as the law asks for it -/
def zap (x : Int32) : Bool := decide (¬ x = 0) && decide (x &&& (x - 1) = 0)
theorem zap_w : ∀ y, y < 256 → zap (nI y) = decide (zbc (nI y) = 1) := by decide +kernel
/-- the words of a row are 0 to 255 -/
def zrw8 (fr : Nat → Int32) (n : Nat) : Prop := ∀ k, k < n → ∃ v, v < 256 ∧ fr k = nI v
theorem zxor8 {a b : Nat} (ha : a < 256) (hb : b < 256) : a ^^^ b < 256 := Nat.xor_lt_two_pow (n := 8) ha hb
/-- the law's ring: its first k words looked at -/
def zlP (fr : Nat → Int32) (n k : Nat) : Bool := zap (fr k ^^^ fr ((k + 1) % n)) && zal (fun j => decide (¬ fr j = fr k)) k
theorem zlaw_ring {fr : Nat → Int32} {n : Nat} (h4 : 4 ≤ n) (h8 : zrw8 fr n) : zal (fun k => zlP fr n k) n = ztg fr n := by
  have hP : ∀ k, k < n → zap (fr k ^^^ fr ((k + 1) % n)) = decide (zbc (fr k ^^^ fr (znx n k)) = 1) := fun k hk => by
    obtain ⟨a, ha, ea⟩ := h8 k hk
    obtain ⟨d, hd, ed⟩ := h8 (znx n k) (znx_lt (by omega))
    rw [← znx_mod hk, ea, ed, nx_xor]
    exact zap_w _ (zxor8 ha hd)
  rw [Bool.eq_iff_iff]
  unfold ztg
  rw [decide_eq_true h4, Bool.true_and, Bool.and_eq_true]
  unfold zrg zds
  rw [zal_all, zal_all, zal_all]
  constructor
  · intro h
    refine ⟨fun k hk => ?_, fun k hk => zal_all.mpr (fun j hj => ?_)⟩
    · have := h k hk
      unfold zlP at this
      rw [Bool.and_eq_true] at this
      rw [← hP k hk]; exact this.1
    · show (decide (j ≤ k) || decide (¬ fr k = fr j)) = true
      rcases Nat.lt_or_ge k j with q | q
      · have := h j hj
        unfold zlP at this
        rw [Bool.and_eq_true] at this
        rw [decide_eq_true (of_decide_eq_true (zal_all.mp this.2 k q)), Bool.or_true]
      · rw [decide_eq_true q]; rfl
  · intro h k hk
    unfold zlP
    rw [Bool.and_eq_true]
    refine ⟨by rw [hP k hk]; exact h.1 k hk, zal_all.mpr (fun j hj => ?_)⟩
    have := zal_all.mp (h.2 j (by omega)) k hk
    rw [decide_eq_false (by omega : ¬ k ≤ j), Bool.false_or] at this
    exact this
theorem zrg_4 : zrg zrf 4 = true := by decide +kernel
theorem zrg_8 : zrg zrf 8 = true := by decide +kernel
theorem zrg_16 : zrg zrf 16 = true := by decide +kernel
theorem zrg_32 : zrg zrf 32 = true := by decide +kernel
theorem zrf_w (k : Nat) : zrf k = nI (k ^^^ k / 2) := nx_xor k (k / 2)
theorem zrf_lt {k : Nat} (hk : k < 32) : k ^^^ k / 2 < 256 := zxor8 (by omega) (by omega)
theorem zbit8 : ∀ q, q < 8 → (1 : Int32) <<< (nI q &&& 31) = nI (2 ^ q) := by decide +kernel
theorem zbit8_lt : ∀ q, q < 8 → 2 ^ q < 256 := by decide +kernel
theorem zshr1 {a : Nat} (ha : a < 2 ^ 31) : nI a >>> ((1 : Int32) &&& 31) = nI (a / 2) := pk_shrN ha ((1 : Int32) &&& 31) 1 (by decide)
theorem zshl1 : ∀ q, q < 6 → (1 : Int32) <<< (nI q &&& 31) = nI (2 ^ q) := by decide +kernel
