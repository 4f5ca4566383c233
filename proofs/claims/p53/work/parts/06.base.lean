/-! my own words: the worlds' conditions, tops, pure pictures -/
abbrev zq (sz : Nat) : Nat → Prop := fun q => sz ≤ q
/-- a read-only method's start: the cells it reads -/
abbrev zPc (D : va_G) (ws : va_W) (tys : List (ClassId × FieldType)) (sz : Nat) : State → Prop := fun U => U.heap.size = sz ∧ va_P D vwCl ws U.heap ∧ va_K D vwCl tys U
theorem zfb {av : List Value} {D : va_G} {ws : va_W} {tys : List (ClassId × FieldType)} {sz : Nat} : FrameBlind (va_Pc av (zPc D ws tys sz)) := fun a U g mk q => by
  obtain ⟨q0, q1, qP, qK⟩ := q
  exact ⟨q0, q1, qP, va_K.moved (u := U) (U := U.calling g mk a) (Vm.Alike.refl U.vm) qK⟩
theorem zpre {av : List Value} {D : va_G} {ws : va_W} {tys : List (ClassId × FieldType)} {s : State} {H : Heap} (hP : va_P D vwCl ws H) (hK : va_K D vwCl tys s) : ∀ U : State, U.heap = H → s.WarmedH U.vm → va_Pc av (zPc D ws tys H.size) av.toArray U := fun U hU hW => ⟨rfl, by rw [hU], by rw [hU]; exact hP, va_K.moved hW.alike hK⟩
/-- .. with a condition of the tables (E) beside it -/
abbrev zPcE (E : State → Prop) (D : va_G) (ws : va_W) (tys : List (ClassId × FieldType)) (sz : Nat) : State → Prop := fun U => U.heap.size = sz ∧ va_P D vwCl ws U.heap ∧ va_K D vwCl tys U ∧ E U
theorem zr_keep {D : va_G} {cl : List vw_C} {ws : va_W} {H H1 : Heap} (hP : va_P D cl ws H) (hk : ∀ q : Nat, q < H.size → ¬ zq H.size q → H1[q]? = H[q]?) : va_P D cl ws H1 := hP.kept (fun k x hx => hk x.1 ((hP k x hx).lt) (Nat.not_le.mpr ((hP k x hx).lt)))
section ZT
variable {p : Program} {l : Launch} {e : Env} {R : Room} {s : State} {m : MethodId} {args : Array Value} {below : List Frame} {meth : Method} {c : Code} {H : Heap} {locs : List Loc} {cells slots : Nat} {Q : State → Prop}
theorem zt_top {pc : Nat} {ls : Array Slot} {rest : List Value} {x y : Int32} (h : x = y) (k : W p l e R s m args below meth c H locs cells slots Q (F0 m pc ls (.int y :: rest))) : W p l e R s m args below meth c H locs cells slots Q (F0 m pc ls (.int x :: rest)) := by rw [h]; exact k
theorem zt_topv {pc : Nat} {ls : Array Slot} {rest : List Value} {x y : Value} (h : x = y) (k : W p l e R s m args below meth c H locs cells slots Q (F0 m pc ls (y :: rest))) : W p l e R s m args below meth c H locs cells slots Q (F0 m pc ls (x :: rest)) := by rw [h]; exact k
end ZT
/-- a truth as the machine's int -/
def zb (b : Bool) : Int32 := if b then 1 else 0
theorem zb_t : zb true = 1 := rfl
theorem zb_f : zb false = 0 := rfl
theorem zb_0 {b : Bool} : zb b = 0 ↔ b = false := by cases b <;> decide
theorem zb_n0 {b : Bool} : ¬ zb b = 0 ↔ b = true := by cases b <;> decide
/-- one mark, as the machine's int -/
def zmk (f : Nat → Int32) (k t : Nat) : Int32 := (f k >>> (nI t &&& 31)) &&& 1
/-- how many k below n -/
def zct (p : Nat → Bool) : Nat → Nat
  | 0 => 0
  | n + 1 => zct p n + if p n then 1 else 0
theorem zct_le (p : Nat → Bool) : ∀ n, zct p n ≤ n
  | 0 => Nat.le_refl 0
  | n + 1 => by
    have ih := zct_le p n
    rw [zct]
    split <;> omega
/-- changes of a track, all around -/
def zchg (f : Nat → Int32) (n t : Nat) : Nat := zct (fun k => decide (¬ zmk f k t = zmk f ((k + 1) % n) t)) n
theorem zchg_le (f : Nat → Int32) (n t : Nat) : zchg f n t ≤ n := zct_le _ n
theorem znI_clamp {n : Nat} (h : n < 2 ^ 31) : (nI n).toNatClampNeg = n := nI_clamp h
theorem zw_0a {n a b : Int32} (h : n < a) : (0 : Int32) = zb (decide (a ≤ n) && decide (n ≤ b)) := by rw [decide_eq_false (Int32.not_le.mpr h)]; rfl
theorem zw_0b {n a b : Int32} (h : b < n) : (0 : Int32) = zb (decide (a ≤ n) && decide (n ≤ b)) := by rw [decide_eq_false (Int32.not_le.mpr h), Bool.and_false]; rfl
theorem zw_1 {n a b : Int32} (h : ¬ n < a) (h2 : ¬ b < n) : (1 : Int32) = zb (decide (a ≤ n) && decide (n ≤ b)) := by rw [decide_eq_true (Int32.not_lt.mp h), decide_eq_true (Int32.not_lt.mp h2)]; rfl
/-- the tables' word for the call of Ringtrack.modulo out of Code -/
abbrev zN (U : State) : Prop := va_Nw (.methodLinkNest RX0 36 yX6_modulo "Ringtrack") U
theorem zN_cal {U : State} {g : JFrame} {mk : MethodId} {a : Array Value} (h : zN U) : zN (U.calling g mk a) := va_Nw.same rfl (u := U) (U := U.calling g mk a) rfl h
theorem zN_warm {s U : State} (hW : s.WarmedH U.vm) (h : zN s) : zN U := va_Nw.warmM hW h
abbrev zPcN (D : va_G) (ws : va_W) (tys : List (ClassId × FieldType)) (sz : Nat) : State → Prop := fun U => U.heap.size = sz ∧ va_P D vwCl ws U.heap ∧ va_K D vwCl tys U ∧ zN U
theorem zfbN {av : List Value} {D : va_G} {ws : va_W} {tys : List (ClassId × FieldType)} {sz : Nat} : FrameBlind (va_Pc av (zPcN D ws tys sz)) := fun a U g mk q => by
  obtain ⟨q0, q1, qP, qK, qE⟩ := q
  exact ⟨q0, q1, qP, va_K.moved (u := U) (U := U.calling g mk a) (Vm.Alike.refl U.vm) qK, zN_cal qE⟩
theorem zpreN {av : List Value} {D : va_G} {ws : va_W} {tys : List (ClassId × FieldType)} {s : State} {H : Heap} (hP : va_P D vwCl ws H) (hK : va_K D vwCl tys s) (hE : zN s) : ∀ U : State, U.heap = H → s.WarmedH U.vm → va_Pc av (zPcN D ws tys H.size) av.toArray U := fun U hU hW => ⟨rfl, by rw [hU], by rw [hU]; exact hP, va_K.moved hW.alike hK, zN_warm hW hE⟩
theorem zct_t {p : Nat → Bool} {n : Nat} (h : p n = true) : zct p (n + 1) = zct p n + 1 := by rw [zct, h]; rfl
theorem zct_f {p : Nat → Bool} {n : Nat} (h : p n = false) : zct p (n + 1) = zct p n := by rw [zct, h]; rfl
/-- all below n -/
def zal (p : Nat → Bool) : Nat → Bool
  | 0 => true
  | n + 1 => zal p n && p n
/-- one below n -/
def zex (p : Nat → Bool) : Nat → Bool
  | 0 => false
  | n + 1 => zex p n || p n
theorem zal_s {p : Nat → Bool} {n : Nat} (h : zal p n = true) (h2 : p n = true) : zal p (n + 1) = true := by rw [zal, h, h2]; rfl
theorem zal_all {p : Nat → Bool} : ∀ {n : Nat}, zal p n = true ↔ ∀ k, k < n → p k = true
  | 0 => ⟨fun _ k hk => absurd hk (Nat.not_lt_zero k), fun _ => rfl⟩
  | n + 1 => by
    rw [zal, Bool.and_eq_true, zal_all (n := n)]
    constructor
    · intro h k hk
      rcases Nat.lt_or_ge k n with q | q
      · exact h.1 k q
      · rw [show k = n by omega]; exact h.2
    · exact fun h => ⟨fun k hk => h k (by omega), h n (by omega)⟩
theorem zex_any {p : Nat → Bool} : ∀ {n : Nat}, zex p n = true ↔ ∃ k, k < n ∧ p k = true
  | 0 => ⟨fun h => (nomatch h), fun ⟨k, hk, _⟩ => absurd hk (Nat.not_lt_zero k)⟩
  | n + 1 => by
    rw [zex, Bool.or_eq_true, zex_any (n := n)]
    constructor
    · rintro (⟨k, hk, h⟩ | h)
      · exact ⟨k, by omega, h⟩
      · exact ⟨n, by omega, h⟩
    · rintro ⟨k, hk, h⟩
      rcases Nat.lt_or_ge k n with q | q
      · exact Or.inl ⟨k, q, h⟩
      · rw [show k = n by omega] at h; exact Or.inr h
theorem zal_f {p : Nat → Bool} {n k : Nat} (hk : k < n) (h : p k = false) : zal p n = false := by
  cases e : zal p n with
  | false => rfl
  | true => rw [zal_all.mp e k hk] at h; exact (nomatch h)
theorem zex_t {p : Nat → Bool} {n k : Nat} (hk : k < n) (h : p k = true) : zex p n = true := zex_any.mpr ⟨k, hk, h⟩
theorem zex_f {p : Nat → Bool} {n : Nat} (h : zex p n = false) (h2 : p n = false) : zex p (n + 1) = false := by rw [zex, h, h2]; rfl
/-- the track t is the track 0 from b on -/
def zft (f : Nat → Int32) (n t b : Nat) : Bool := zal (fun k => decide (zmk f k t = zmk f ((k + b) % n) 0)) n
/-- .. from some place on -/
def zmv (f : Nat → Int32) (n t : Nat) : Bool := zex (fun b => zft f n t b) n
/-- each track but the first is it from some place on -/
def zon (f : Nat → Int32) (n T : Nat) : Bool := zal (fun t => t == 0 || zmv f n t) T
/-- the least and the most of how often the tracks change -/
def zlo (f : Nat → Int32) (n : Nat) : Nat → Nat
  | 0 => n
  | t + 1 => if zchg f n t < zlo f n t then zchg f n t else zlo f n t
def zhi (f : Nat → Int32) (n : Nat) : Nat → Nat
  | 0 => 0
  | t + 1 => if zhi f n t < zchg f n t then zchg f n t else zhi f n t
theorem zlo_le (f : Nat → Int32) (n : Nat) : ∀ t, zlo f n t ≤ n
  | 0 => Nat.le_refl n
  | t + 1 => by
    have := zlo_le f n t
    rw [zlo]; split <;> omega
theorem zhi_le (f : Nat → Int32) (n : Nat) : ∀ t, zhi f n t ≤ n
  | 0 => Nat.zero_le n
  | t + 1 => by
    have := zhi_le f n t
    have := zchg_le f n t
    rw [zhi]; split <;> omega
theorem zI_one {D : va_G} {cl : List vw_C} {tys : List (ClassId × FieldType)} {s : State} (hK : va_K D cl tys s) {i j : Nat} {cA cB : ClassId} (hi : tys[i]? = some (cA, .int)) (hj : tys[j]? = some (cB, .int)) : cA = cB := by
  have h1 : s.vm.findClass ("[" ++ FieldType.int.toString) = some cA := (hK.2 i _ hi).2
  have h2 : s.vm.findClass ("[" ++ FieldType.int.toString) = some cB := (hK.2 j _ hj).2
  exact Option.some.inj (h1.symm.trans h2)
theorem zlo_i (f : Nat → Int32) (n t : Nat) (hn : n < 2 ^ 30) : (if nI (zchg f n t) < nI (zlo f n t) then nI (zchg f n t) else nI (zlo f n t)) = nI (zlo f n (t + 1)) := by
  have h1 := zchg_le f n t
  have h2 := zlo_le f n t
  rw [zlo]
  by_cases h : zchg f n t < zlo f n t
  · rw [if_pos h, if_pos ((nI_ltI (by omega) (by omega)).mpr h)]
  · rw [if_neg h, if_neg (fun q => h ((nI_ltI (by omega) (by omega)).mp q))]
theorem zhi_i (f : Nat → Int32) (n t : Nat) (hn : n < 2 ^ 30) : (if nI (zhi f n t) < nI (zchg f n t) then nI (zchg f n t) else nI (zhi f n t)) = nI (zhi f n (t + 1)) := by
  have h1 := zchg_le f n t
  have h2 := zhi_le f n t
  rw [zhi]
  by_cases h : zhi f n t < zchg f n t
  · rw [if_pos h, if_pos ((nI_ltI (by omega) (by omega)).mpr h)]
  · rw [if_neg h, if_neg (fun q => h ((nI_ltI (by omega) (by omega)).mp q))]
/-- a writing method's start -/
abbrev zPcD (D : va_G) (ws : va_W) (tys : List (ClassId × FieldType)) (sz : Nat) : State → Prop := fun U => U.heap.size = sz ∧ va_P D vwCl ws U.heap ∧ va_K D vwCl tys U ∧ va_D (fun _ => True) ws
theorem zfbD {av : List Value} {D : va_G} {ws : va_W} {tys : List (ClassId × FieldType)} {sz : Nat} : FrameBlind (va_Pc av (zPcD D ws tys sz)) := fun a U g mk q => by
  obtain ⟨q0, q1, qP, qK, qD⟩ := q
  exact ⟨q0, q1, qP, va_K.moved (u := U) (U := U.calling g mk a) (Vm.Alike.refl U.vm) qK, qD⟩
theorem zpreD {av : List Value} {D : va_G} {ws : va_W} {tys : List (ClassId × FieldType)} {s : State} {H : Heap} {A : Nat → Prop} (hP : va_P D vwCl ws H) (hK : va_K D vwCl tys s) (hD : va_D A ws) : ∀ U : State, U.heap = H → s.WarmedH U.vm → va_Pc av (zPcD D ws tys H.size) av.toArray U := fun U hU hW => ⟨rfl, by rw [hU], by rw [hU]; exact hP, va_K.moved hW.alike hK, hD.weaken (fun _ _ _ _ => trivial)⟩
/-- an array with its first places filled -/
def zfl (f : Nat → Int32) (v : Int32) (k : Nat) : Nat → Int32 := fun j => if j < k then v else f j
theorem zfl_s (f : Nat → Int32) (v : Int32) (k : Nat) : upd (zfl f v k) k v = zfl f v (k + 1) := by
  funext j
  unfold upd zfl
  by_cases h : j = k
  · rw [if_pos h, if_pos (by omega)]
  · rw [if_neg h]
    by_cases h2 : j < k
    · rw [if_pos h2, if_pos (by omega)]
    · rw [if_neg h2, if_neg (by omega)]
theorem zfl_0 (f : Nat → Int32) (v : Int32) : zfl f v 0 = f := by
  funext j
  exact if_neg (Nat.not_lt_zero j)
/-- places of the words of a ring, by its first k words -/
def zpl (f : Nat → Int32) : Nat → Nat → Int32
  | 0 => zfl (fun _ => 0) (-1) 256
  | k + 1 => upd (zpl f k) ((f k &&& 255).toNatClampNeg) (nI k)
/-- the bit t of a word is there -/
def zbt (x : Int32) (t : Nat) : Bool := decide ((x >>> (nI t &&& 31)) &&& 1 = 1)
/-- one more than the highest of the first t tracks that the word x has, at least h -/
def ztw (x : Int32) (h : Nat) : Nat → Nat
  | 0 => h
  | t + 1 => if zbt x t = true ∧ ztw x h t ≤ t then t + 1 else ztw x h t
/-- how many tracks the first k words have -/
def ztr (f : Nat → Int32) : Nat → Nat
  | 0 => 0
  | k + 1 => ztw (f k &&& 255) (ztr f k) 8
theorem ztw_le (x : Int32) (h : Nat) (hh : h ≤ 8) : ∀ t, t ≤ 8 → ztw x h t ≤ 8
  | 0, _ => hh
  | t + 1, ht => by
    have := ztw_le x h hh t (by omega)
    rw [ztw]; split <;> omega
theorem ztr_le (f : Nat → Int32) : ∀ k, ztr f k ≤ 8
  | 0 => Nat.zero_le 8
  | k + 1 => ztw_le _ _ (ztr_le f k) 8 (Nat.le_refl 8)
theorem z255 (x : Int32) : ∃ w : Nat, w < 256 ∧ x &&& 255 = nI w := pk_andE x (m := 255) 8 (by decide)
/-- one less, from -1 on -/
def zh (h : Nat) : Int32 := nI h - nI 1
theorem zh_0 : zh 0 = -1 := by decide
theorem zh_s (t : Nat) : zh (t + 1) = nI t := nI_pred t
theorem zh_1 (h : Nat) : zh h + 1 = nI h := Int32.sub_add_cancel (nI h) 1
theorem zh_le {t h : Nat} (ht : t < 2 ^ 30) (hh : h < 2 ^ 30) : nI t ≤ zh h ↔ t < h := by
  rw [Int32.le_iff_toInt_le, zh, pk_sub_toInt hh (by decide), nI_toInt (by omega)]
  omega
theorem zin255 (x : Int32) : vp_in (x &&& 255) 256 := pk_andIn x (m := 255) 8 (by decide) (by decide)
