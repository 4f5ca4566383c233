/-! more pictures: bit counts, rings, new arrays -/
theorem z_fnC {cA : ClassId} {n : Nat} {f g : Nat → Int32} (h : ∀ j, j < n → f j = g j) : vp_cell cA (n, .inl f) = vp_cell cA (n, .inl g) := by
  have e : (fun j : Fin n => Value.int (f j.val)) = (fun j : Fin n => Value.int (g j.val)) := funext (fun j => by rw [h j.val j.isLt])
  exact congrArg (fun z => ({ cls := cA, slots := Array.ofFn z, vm := .none } : Cell)) e
theorem z_fn {D : va_G} {cl : List vw_C} {A : Nat → Prop} {ws : va_W} {H : Heap} {cA : ClassId} {a n : Nat} {f g : Nat → Int32} (hP : va_P D cl ws H) (hD : va_D A ws) (k : Nat) (hk : ws[k]? = some (a, .inl (cA, n, .inl f))) (h : ∀ j, j < n → f j = g j) : va_P D cl (ws.set k (a, .inl (cA, n, .inl g))) H ∧ va_D A (ws.set k (a, .inl (cA, n, .inl g))) :=
  ⟨hP.set hD hk (by
    show H[a]? = some (vp_cell cA (n, .inl g))
    rw [← z_fnC h]; exact hP k _ hk) (fun _ _ => rfl), hD.set hk⟩
/-- Integer.bitCount, as the machine goes -/
def zbc (x : Int32) : Int32 :=
  let a := x - ((x.toUInt32 >>> ((1 : Int32).toUInt32 &&& Int32.toUInt32 31)).toInt32 &&& 1431655765)
  let b := (a &&& 858993459) + ((a.toUInt32 >>> ((2 : Int32).toUInt32 &&& Int32.toUInt32 31)).toInt32 &&& 858993459)
  let c := (b + (b.toUInt32 >>> ((4 : Int32).toUInt32 &&& Int32.toUInt32 31)).toInt32) &&& 252645135
  let d := c + (c.toUInt32 >>> ((8 : Int32).toUInt32 &&& Int32.toUInt32 31)).toInt32
  let e := d + (d.toUInt32 >>> ((16 : Int32).toUInt32 &&& Int32.toUInt32 31)).toInt32
  e &&& 63
/-- the place behind k of w places, all around -/
def znx (w k : Nat) : Nat := if k + 1 < w then k + 1 else 0
/-- each word and the next one differ by one bit -/
def zrg (f : Nat → Int32) (w : Nat) : Bool := zal (fun k => decide (zbc (f k ^^^ f (znx w k)) = 1)) w
/-- the word at k is unlike those behind it -/
def zdr (f : Nat → Int32) (w k : Nat) : Bool := zal (fun j => decide (j ≤ k) || decide (¬ f k = f j)) w
def zds (f : Nat → Int32) (w : Nat) : Bool := zal (fun k => zdr f w k) w
def ztg (f : Nat → Int32) (w : Nat) : Bool := decide (4 ≤ w) && (zrg f w && zds f w)
theorem zal_t {p : Nat → Bool} {n : Nat} (h : ∀ k, k < n → p k = true) : zal p n = true := zal_all.mpr h

set_option maxHeartbeats 4000000 in
set_option maxRecDepth 100000 in
/-- Integer.bitCount(x) -/
theorem k_bitCount (l : Launch) (dC : Nat → ClassId) (dI : Nat → Nat → Nat) (sz : Nat) (x : Int32) : Met l yJ6_bitCount_0f7a4 wsJ6_bitCount_0f7a4 ({ frames := 0, cells := 0, slots := 0, locals := 0 }) (va_Pc [.int x] (zPc (dC, dI) [] [] sz)) (va_Qi (fun (r : Int32) (_ : Unit) => r = zbc x) (fun _ _ => True) (zq sz)) 0 0 (zq sz) := by
  refine Met.ofW (cc := cJ6_bitCount_0f7a4) (maxL := 1) (ret := (some .int)) (by decide) rfl ?_
  intro p e s m args below meth c s₁ B hml hv
  obtain ⟨rfl, hsz, hP, hK⟩ := hv
  have hx := B.exec
  have hb := B.bytes
  have hr := B.returns
  have hts := atoms_spec (ws := wsJ6_bitCount_0f7a4) B.pre
  have hown : s.vm.findClass RJ6 = some m.cls := findClass_of_methodNamed B.named
  have hlocks := B.notSynchronized
  subst hsz
  have hA : ∀ q : Nat, s.heap.size ≤ q → zq s.heap.size q := fun q h => h
  have hS : va_S (zq s.heap.size) s.heap s.heap [] := va_S.rf
  have hl := lv_entry ([.int x]) (n := 1) (Nat.le_of_ble_eq_true rfl)
  rw [lg_entry_eq]
  generalize (lg_sl ([.int x]) ++ List.replicate (1 - (lg_sl ([.int x])).length) Slot.unset).toArray = ls at hl ⊢
  have hl : lv_has ls 1 [(0, .int x)] := hl
  refine lv_iload_n hx hb dJ6_bitCount_0f7a4_0 rfl (lv_at hl 0 rfl) ?_
  refine lv_iload_n hx hb dJ6_bitCount_0f7a4_1 rfl (lv_at hl 0 rfl) ?_
  refine lv_iconst (v := 1) hx hb dJ6_bitCount_0f7a4_2 (by decide) ?_
  refine lv_iushr (v := (x.toUInt32 >>> ((1 : Int32).toUInt32 &&& Int32.toUInt32 31)).toInt32) hx hb dJ6_bitCount_0f7a4_3 rfl ?_
  refine lv_ldcw hx hb hown (hts (.constant RJ6 265 (1431655765)) (List.mem_of_getElem? (i := 1) rfl)) dJ6_bitCount_0f7a4_4 ?_
  refine lv_iand hx hb dJ6_bitCount_0f7a4_7 ?_
  refine lv_isub hx hb dJ6_bitCount_0f7a4_8 ?_
  refine lv_topi (fun x1 ex1 => ?_)
  refine lv_istore_n (lv' := [(0, .int x1)]) hx hb dJ6_bitCount_0f7a4_9 rfl hl (by decide) rfl (fun ls hl => ?_)
  refine lv_iload_n hx hb dJ6_bitCount_0f7a4_10 rfl (lv_at hl 0 rfl) ?_
  refine lv_ldcw hx hb hown (hts (.constant RJ6 266 (858993459)) (List.mem_of_getElem? (i := 2) rfl)) dJ6_bitCount_0f7a4_11 ?_
  refine lv_iand hx hb dJ6_bitCount_0f7a4_14 ?_
  refine lv_iload_n hx hb dJ6_bitCount_0f7a4_15 rfl (lv_at hl 0 rfl) ?_
  refine lv_iconst (v := 2) hx hb dJ6_bitCount_0f7a4_16 (by decide) ?_
  refine lv_iushr (v := (x1.toUInt32 >>> ((2 : Int32).toUInt32 &&& Int32.toUInt32 31)).toInt32) hx hb dJ6_bitCount_0f7a4_17 rfl ?_
  refine lv_ldcw hx hb hown (hts (.constant RJ6 266 (858993459)) (List.mem_of_getElem? (i := 2) rfl)) dJ6_bitCount_0f7a4_18 ?_
  refine lv_iand hx hb dJ6_bitCount_0f7a4_21 ?_
  refine lv_iadd hx hb dJ6_bitCount_0f7a4_22 ?_
  refine lv_topi (fun x2 ex2 => ?_)
  refine lv_istore_n (lv' := [(0, .int x2)]) hx hb dJ6_bitCount_0f7a4_23 rfl hl (by decide) rfl (fun ls hl => ?_)
  refine lv_iload_n hx hb dJ6_bitCount_0f7a4_24 rfl (lv_at hl 0 rfl) ?_
  refine lv_iload_n hx hb dJ6_bitCount_0f7a4_25 rfl (lv_at hl 0 rfl) ?_
  refine lv_iconst (v := 4) hx hb dJ6_bitCount_0f7a4_26 (by decide) ?_
  refine lv_iushr (v := (x2.toUInt32 >>> ((4 : Int32).toUInt32 &&& Int32.toUInt32 31)).toInt32) hx hb dJ6_bitCount_0f7a4_27 rfl ?_
  refine lv_iadd hx hb dJ6_bitCount_0f7a4_28 ?_
  refine lv_ldcw hx hb hown (hts (.constant RJ6 267 (252645135)) (List.mem_of_getElem? (i := 3) rfl)) dJ6_bitCount_0f7a4_29 ?_
  refine lv_iand hx hb dJ6_bitCount_0f7a4_32 ?_
  refine lv_topi (fun x3 ex3 => ?_)
  refine lv_istore_n (lv' := [(0, .int x3)]) hx hb dJ6_bitCount_0f7a4_33 rfl hl (by decide) rfl (fun ls hl => ?_)
  refine lv_iload_n hx hb dJ6_bitCount_0f7a4_34 rfl (lv_at hl 0 rfl) ?_
  refine lv_iload_n hx hb dJ6_bitCount_0f7a4_35 rfl (lv_at hl 0 rfl) ?_
  refine lv_bipush (v := 8) hx hb dJ6_bitCount_0f7a4_36 (by decide) ?_
  refine lv_iushr (v := (x3.toUInt32 >>> ((8 : Int32).toUInt32 &&& Int32.toUInt32 31)).toInt32) hx hb dJ6_bitCount_0f7a4_38 rfl ?_
  refine lv_iadd hx hb dJ6_bitCount_0f7a4_39 ?_
  refine lv_topi (fun x4 ex4 => ?_)
  refine lv_istore_n (lv' := [(0, .int x4)]) hx hb dJ6_bitCount_0f7a4_40 rfl hl (by decide) rfl (fun ls hl => ?_)
  refine lv_iload_n hx hb dJ6_bitCount_0f7a4_41 rfl (lv_at hl 0 rfl) ?_
  refine lv_iload_n hx hb dJ6_bitCount_0f7a4_42 rfl (lv_at hl 0 rfl) ?_
  refine lv_bipush (v := 16) hx hb dJ6_bitCount_0f7a4_43 (by decide) ?_
  refine lv_iushr (v := (x4.toUInt32 >>> ((16 : Int32).toUInt32 &&& Int32.toUInt32 31)).toInt32) hx hb dJ6_bitCount_0f7a4_45 rfl ?_
  refine lv_iadd hx hb dJ6_bitCount_0f7a4_46 ?_
  refine lv_topi (fun x5 ex5 => ?_)
  refine lv_istore_n (lv' := [(0, .int x5)]) hx hb dJ6_bitCount_0f7a4_47 rfl hl (by decide) rfl (fun ls hl => ?_)
  refine lv_iload_n hx hb dJ6_bitCount_0f7a4_48 rfl (lv_at hl 0 rfl) ?_
  refine lv_bipush (v := 63) hx hb dJ6_bitCount_0f7a4_49 (by decide) ?_
  refine lv_iand hx hb dJ6_bitCount_0f7a4_51 ?_
  exact W.iret (v := (x5 &&& 63)) hx hb hr (fun t9 ht hW => ⟨⟨_, (), rfl, by rw [ex5, ex4, ex3, ex2, ex1]; rfl, trivial⟩, hS.F ht⟩) hS.2.2 dJ6_bitCount_0f7a4_52

set_option maxHeartbeats 4000000 in
set_option maxRecDepth 100000 in
/-- isRing(words, w) -/
theorem k_isRing (l : Launch) (dC : Nat → ClassId) (dI : Nat → Nat → Nat) (sz : Nat) (cI : ClassId) (h1 n : Nat) (f : Nat → Int32) (w : Nat) (hwn : w ≤ n) (hn : n < 2 ^ 30) : Met l yX6_isRing wsX6_isRing ({ frames := 1, cells := 0, slots := 0, locals := 20 }) (va_Pc [.ref h1, .int (nI w)] (zPc (dC, dI) [(h1, .inl (cI, n, .inl f))] [(cI, .int)] sz)) (va_Qi (fun (r : Int32) (_ : Unit) => r = zb (zrg f w)) (fun _ _ => True) (zq sz)) 0 0 (zq sz) := by
  refine Met.ofW (cc := cX6_isRing) (maxL := 4) (ret := (some .boolean)) (by decide) rfl ?_
  intro p e s m args below meth c s₁ B hml hv
  obtain ⟨rfl, hsz, hP, hK⟩ := hv
  have hx := B.exec
  have hb := B.bytes
  have hr := B.returns
  have hts := atoms_spec (ws := wsX6_isRing) B.pre
  have hown : s.vm.findClass RX6 = some m.cls := findClass_of_methodNamed B.named
  have hlocks := B.notSynchronized
  subst hsz
  have hA : ∀ q : Nat, s.heap.size ≤ q → zq s.heap.size q := fun q h => h
  have hS : va_S (zq s.heap.size) s.heap s.heap [] := va_S.rf
  have hl := lv_entry ([.ref h1, .int (nI w)]) (n := 4) (Nat.le_of_ble_eq_true rfl)
  rw [lg_entry_eq]
  generalize (lg_sl ([.ref h1, .int (nI w)]) ++ List.replicate (4 - (lg_sl ([.ref h1, .int (nI w)])).length) Slot.unset).toArray = ls at hl ⊢
  have hl : lv_has ls 4 [(0, .ref h1), (1, .int (nI w))] := hl
  refine lv_iconst (v := 0) hx hb dX6_isRing_0 (by decide) ?_
  refine lv_istore_n (lv' := [(2, .int 0), (0, .ref h1), (1, .int (nI w))]) hx hb dX6_isRing_1 rfl hl (by decide) rfl (fun ls hl => ?_)
  have loop : ∀ (d : Nat) (k : Nat), w + 1 ≤ k + d → k ≤ w → zal (fun k => decide (zbc (f k ^^^ f (znx w k)) = 1)) k = true → ∀ (H : Heap) (locs : List Loc), va_P (dC, dI) vwCl [(h1, .inl (cI, n, .inl f))] H → va_S (zq s.heap.size) s.heap H locs → ∀ ls : Array Slot, lv_has ls 4 [(0, .ref h1), (1, .int (nI w)), (2, .int (nI k))] → W p l e (headSpec wsX6_isRing ({ frames := 1, cells := 0, slots := 0, locals := 20 })).room s m ([.ref h1, .int (nI w)] : List Value).toArray below meth c H locs 0 0 (MQ below (va_Qi (fun (r : Int32) (_ : Unit) => r = zb (zrg f w)) (fun _ _ => True) (zq s.heap.size)) ([.ref h1, .int (nI w)] : List Value).toArray s 0 0 (zq s.heap.size)) (F0 m 2 ls []) := by
    intro d
    induction d with
    | zero => intro k hd hk hz; exact absurd hd (by omega)
    | succ d ih =>
      intro k hd hk hz H locs hP hS ls hl
      refine lv_iload_n hx hb dX6_isRing_2 rfl (lv_at hl 2 rfl) ?_
      refine lv_iload_n hx hb dX6_isRing_3 rfl (lv_at hl 1 rfl) ?_
      refine lv_icmp_ge (tgt := 58) hx hb dX6_isRing_4 (by decide) (fun c4 => ?_) (fun c4 => ?_)
      · skip
        have hkw : k = w := Nat.le_antisymm hk ((nI_leI (by omega) (by omega)).mp c4)
        refine lv_iconst (v := 1) hx hb dX6_isRing_58 (by decide) ?_
        exact W.zret (v := 1) hx hb hr (by decide) (fun t9 ht hW => ⟨⟨_, (), rfl, by rw [hkw] at hz; rw [show zrg f w = true from hz]; rfl, trivial⟩, hS.F ht⟩) hS.2.2 dX6_isRing_59
      · skip
        have hkw : k < w := Nat.lt_of_not_le (fun q => c4 ((nI_leI (by omega) (by omega)).mpr q))
        refine lv_iload_n hx hb dX6_isRing_7 rfl (lv_at hl 2 rfl) ?_
        refine lv_aload_n hx hb dX6_isRing_8 rfl (lv_at hl 0 rfl) ?_
        refine va_alen (v := (nI n)) hx hb hK hP 0 0 rfl rfl rfl dX6_isRing_9 ?_
        refine lv_icmp_ge (tgt := 58) hx hb dX6_isRing_10 (by decide) (fun c => absurd c (nI_ge (by omega) (by omega))) (fun c10 => ?_)
        refine lv_iload_n hx hb dX6_isRing_13 rfl (lv_at hl 2 rfl) ?_
        refine lv_iconst (v := 1) hx hb dX6_isRing_14 (by decide) ?_
        refine lv_iadd hx hb dX6_isRing_15 ?_
        refine zt_top (y := nI (k + 1)) (nI_1 k) ?_
        refine lv_iload_n hx hb dX6_isRing_16 rfl (lv_at hl 1 rfl) ?_
        refine lv_icmp_ge (tgt := 34) hx hb dX6_isRing_17 (by decide) (fun c17 => ?_) (fun c17 => ?_)
        · skip
          have hnx : znx w k = 0 := if_neg (fun q => absurd ((nI_leI (by omega) (by omega)).mp c17) (by omega))
          refine lv_iconst (v := 0) hx hb dX6_isRing_34 (by decide) ?_
          refine zt_top (y := nI 0) (nI_0.symm) ?_
          refine lv_istore_n (lv' := [(3, .int (nI 0)), (0, .ref h1), (1, .int (nI w)), (2, .int (nI k))]) hx hb dX6_isRing_35 rfl hl (by decide) rfl (fun ls hl => ?_)
          refine lv_aload_n hx hb dX6_isRing_36 rfl (lv_at hl 1 rfl) ?_
          refine lv_iload_n hx hb dX6_isRing_37 rfl (lv_at hl 3 rfl) ?_
          refine va_iald hx hb hK hP 0 0 rfl rfl (vp_in_nI (by omega) (by omega)) dX6_isRing_38 ?_
          refine zt_top (y := f k) (by rw [nI_clamp (by omega)]) ?_
          refine lv_aload_n hx hb dX6_isRing_39 rfl (lv_at hl 1 rfl) ?_
          refine lv_iload_n hx hb dX6_isRing_40 rfl (lv_at hl 0 rfl) ?_
          refine va_iald hx hb hK hP 0 0 rfl rfl (vp_in_nI (by omega) (by omega)) dX6_isRing_41 ?_
          refine zt_top (y := f (znx w k)) (by rw [nI_clamp (by omega), hnx]) ?_
          refine lv_ixor hx hb dX6_isRing_42 ?_
          refine va_calli (va_runS (As := [.int ((f k) ^^^ (f (znx w k)))]) (rest := []) ⟨hx, hb, hml, hown, hts⟩ (k_bitCount l dC dI H.size ((f k) ^^^ (f (znx w k)))) (va_cwS 1 hts gX6_isRing_J6_bitCount_0f7a4 rfl rfl rfl (by decide +kernel) ⟨Nat.le_of_ble_eq_true rfl, Nat.le_of_ble_eq_true rfl⟩) ⟨zfb, zpre (hP.sub (ws' := []) [] rfl) (hK.sub (tys' := []) [] rfl)⟩ rfl rfl hl.1 rfl (lv_room (Nat.le_of_ble_eq_true rfl)) dX6_isRing_43 ⟨Nat.le_of_ble_eq_true rfl, Nat.le_of_ble_eq_true rfl⟩) hS (fun q h1 h2 => absurd h2 (Nat.not_le.mpr h1)) (fun q h => hA q (Nat.le_trans hS.1 h)) (fun r9 u9 t9 H1 locs ht hvm hw hB hz1 hk1 hS => ?_)
          have hw : r9 = zbc ((f k) ^^^ (f (znx w k))) := hw
          subst hw
          have hP := zr_keep hP hk1
          clear hk1 hz1 hB ht hvm hw
          refine lv_iconst (v := 1) hx hb dX6_isRing_46 (by decide) ?_
          refine lv_icmp_eq (tgt := 52) hx hb dX6_isRing_47 (by decide) (fun c47 => ?_) (fun c47 => ?_)
          · skip
            have ec : zal (fun k => decide (zbc (f k ^^^ f (znx w k)) = 1)) (k + 1) = true := zal_s hz (decide_eq_true c47)
            refine lv_iinc (v := nI (k + 1)) (lv' := [(2, .int (nI (k + 1))), (3, .int (nI 0)), (0, .ref h1), (1, .int (nI w))]) hx hb dX6_isRing_52 hl (k := 3) rfl (nI_1 k) (by decide) rfl (fun ls hl => ?_)
            refine lv_goto (tgt := 2) hx hb dX6_isRing_55 (by decide) ?_
            exact ih (k + 1) (by omega) (by omega) ec _ _ hP hS ls (lv_sub hl [2, 3, 0] rfl)
          · skip
            have ec : zrg f w = false := zal_f hkw (decide_eq_false c47)
            refine lv_iconst (v := 0) hx hb dX6_isRing_50 (by decide) ?_
            exact W.zret (v := 0) hx hb hr (by decide) (fun t9 ht hW => ⟨⟨_, (), rfl, by rw [ec]; rfl, trivial⟩, hS.F ht⟩) hS.2.2 dX6_isRing_51
        · skip
          have hk1w : k + 1 < w := Nat.lt_of_not_le (fun q => c17 ((nI_leI (by omega) (by omega)).mpr q))
          have hnx : znx w k = k + 1 := if_pos hk1w
          refine lv_iload_n hx hb dX6_isRing_20 rfl (lv_at hl 2 rfl) ?_
          refine lv_iconst (v := 1) hx hb dX6_isRing_21 (by decide) ?_
          refine lv_iadd hx hb dX6_isRing_22 ?_
          refine zt_top (y := nI (k + 1)) (nI_1 k) ?_
          refine lv_aload_n hx hb dX6_isRing_23 rfl (lv_at hl 0 rfl) ?_
          refine va_alen (v := (nI n)) hx hb hK hP 0 0 rfl rfl rfl dX6_isRing_24 ?_
          refine lv_icmp_ge (tgt := 34) hx hb dX6_isRing_25 (by decide) (fun c => absurd c (nI_ge (by omega) (by omega))) (fun c25 => ?_)
          refine lv_iload_n hx hb dX6_isRing_28 rfl (lv_at hl 2 rfl) ?_
          refine lv_iconst (v := 1) hx hb dX6_isRing_29 (by decide) ?_
          refine lv_iadd hx hb dX6_isRing_30 ?_
          refine zt_top (y := nI (k + 1)) (nI_1 k) ?_
          refine lv_goto (tgt := 35) hx hb dX6_isRing_31 (by decide) ?_
          refine lv_istore_n (lv' := [(3, .int (nI (k + 1))), (0, .ref h1), (1, .int (nI w)), (2, .int (nI k))]) hx hb dX6_isRing_35 rfl hl (by decide) rfl (fun ls hl => ?_)
          refine lv_aload_n hx hb dX6_isRing_36 rfl (lv_at hl 1 rfl) ?_
          refine lv_iload_n hx hb dX6_isRing_37 rfl (lv_at hl 3 rfl) ?_
          refine va_iald hx hb hK hP 0 0 rfl rfl (vp_in_nI (by omega) (by omega)) dX6_isRing_38 ?_
          refine zt_top (y := f k) (by rw [nI_clamp (by omega)]) ?_
          refine lv_aload_n hx hb dX6_isRing_39 rfl (lv_at hl 1 rfl) ?_
          refine lv_iload_n hx hb dX6_isRing_40 rfl (lv_at hl 0 rfl) ?_
          refine va_iald hx hb hK hP 0 0 rfl rfl (vp_in_nI (by omega) (by omega)) dX6_isRing_41 ?_
          refine zt_top (y := f (znx w k)) (by rw [nI_clamp (by omega), hnx]) ?_
          refine lv_ixor hx hb dX6_isRing_42 ?_
          refine va_calli (va_runS (As := [.int ((f k) ^^^ (f (znx w k)))]) (rest := []) ⟨hx, hb, hml, hown, hts⟩ (k_bitCount l dC dI H.size ((f k) ^^^ (f (znx w k)))) (va_cwS 1 hts gX6_isRing_J6_bitCount_0f7a4 rfl rfl rfl (by decide +kernel) ⟨Nat.le_of_ble_eq_true rfl, Nat.le_of_ble_eq_true rfl⟩) ⟨zfb, zpre (hP.sub (ws' := []) [] rfl) (hK.sub (tys' := []) [] rfl)⟩ rfl rfl hl.1 rfl (lv_room (Nat.le_of_ble_eq_true rfl)) dX6_isRing_43 ⟨Nat.le_of_ble_eq_true rfl, Nat.le_of_ble_eq_true rfl⟩) hS (fun q h1 h2 => absurd h2 (Nat.not_le.mpr h1)) (fun q h => hA q (Nat.le_trans hS.1 h)) (fun r9 u9 t9 H1 locs ht hvm hw hB hz1 hk1 hS => ?_)
          have hw : r9 = zbc ((f k) ^^^ (f (znx w k))) := hw
          subst hw
          have hP := zr_keep hP hk1
          clear hk1 hz1 hB ht hvm hw
          refine lv_iconst (v := 1) hx hb dX6_isRing_46 (by decide) ?_
          refine lv_icmp_eq (tgt := 52) hx hb dX6_isRing_47 (by decide) (fun c47 => ?_) (fun c47 => ?_)
          · skip
            have ec : zal (fun k => decide (zbc (f k ^^^ f (znx w k)) = 1)) (k + 1) = true := zal_s hz (decide_eq_true c47)
            refine lv_iinc (v := nI (k + 1)) (lv' := [(2, .int (nI (k + 1))), (3, .int (nI (k + 1))), (0, .ref h1), (1, .int (nI w))]) hx hb dX6_isRing_52 hl (k := 3) rfl (nI_1 k) (by decide) rfl (fun ls hl => ?_)
            refine lv_goto (tgt := 2) hx hb dX6_isRing_55 (by decide) ?_
            exact ih (k + 1) (by omega) (by omega) ec _ _ hP hS ls (lv_sub hl [2, 3, 0] rfl)
          · skip
            have ec : zrg f w = false := zal_f hkw (decide_eq_false c47)
            refine lv_iconst (v := 0) hx hb dX6_isRing_50 (by decide) ?_
            exact W.zret (v := 0) hx hb hr (by decide) (fun t9 ht hW => ⟨⟨_, (), rfl, by rw [ec]; rfl, trivial⟩, hS.F ht⟩) hS.2.2 dX6_isRing_51
  exact loop (w + 1) 0 (by omega) (Nat.zero_le _) rfl _ _ hP hS ls (lv_sub hl [1, 2, 0] rfl)

set_option maxHeartbeats 4000000 in
set_option maxRecDepth 100000 in
/-- typedIsRing() -/
theorem k_typedIsRing (l : Launch) (dC : Nat → ClassId) (dI : Nat → Nat → Nat) (sz : Nat) (cI cC : ClassId) (o a0 a1 a2 : Nat) (w nc : Nat) (f : Nat → Int32) (hwm : w ≤ 64) : Met l yX6_typedIsRing wsX6_typedIsRing ({ frames := 2, cells := 0, slots := 0, locals := 43 }) (va_Pc [.ref o] (zPc (dC, dI) [(o, .inr (6, [.ref a0, .int (nI w), .ref a1, .int (nI nc), .null, .int 40, .int 48, .int 0, .ref a2])), (a0, .inl (cI, 64, .inl f))] [(cI, .int), (cC, (.object RX0))] sz)) (va_Qi (fun (r : Int32) (_ : Unit) => r = zb (ztg f w)) (fun _ _ => True) (zq sz)) 0 0 (zq sz) := by
  refine Met.ofW (cc := cX6_typedIsRing) (maxL := 3) (ret := (some .boolean)) (by decide) rfl ?_
  intro p e s m args below meth c s₁ B hml hv
  obtain ⟨rfl, hsz, hP, hK⟩ := hv
  have hx := B.exec
  have hb := B.bytes
  have hr := B.returns
  have hts := atoms_spec (ws := wsX6_typedIsRing) B.pre
  have hown : s.vm.findClass RX6 = some m.cls := findClass_of_methodNamed B.named
  have hlocks := B.notSynchronized
  subst hsz
  have hi6 : ∀ w ∈ u_ws RX6 TX6 9, w ∈ wsX6_typedIsRing := by decide +kernel
  have hA : ∀ q : Nat, s.heap.size ≤ q → zq s.heap.size q := fun q h => h
  have hS : va_S (zq s.heap.size) s.heap s.heap [] := va_S.rf
  have hl := lv_entry ([.ref o]) (n := 3) (Nat.le_of_ble_eq_true rfl)
  rw [lg_entry_eq]
  generalize (lg_sl ([.ref o]) ++ List.replicate (3 - (lg_sl ([.ref o])).length) Slot.unset).toArray = ls at hl ⊢
  have hl : lv_has ls 3 [(0, .ref o)] := hl
  refine lv_aload_n hx hb dX6_typedIsRing_0 rfl (lv_at hl 0 rfl) ?_
  refine va_get (D := (dC, dI)) (ci := 6) (v := .int (nI w)) (C := RX6) (T := TX6) (N := 9) hx hb hts hi6 hown hK hP 0 rfl rfl 1 (by decide) (hts (.fieldLink RX6 44 "Ringtrack" "typedCount" "I") (List.mem_of_getElem? (i := 1) rfl)) (fun _ h9 => h9) rfl dX6_typedIsRing_1 ?_
  refine lv_iconst (v := 4) hx hb dX6_typedIsRing_4 (by decide) ?_
  refine lv_icmp_lt (tgt := 22) hx hb dX6_typedIsRing_5 (by decide) (fun c5 => ?_) (fun c5 => ?_)
  · skip
    have h4 : ztg f w = false := by unfold ztg; rw [decide_eq_false (fun q => absurd ((nI_ltI (b := 4) (by omega) (by decide)).mp c5) (by omega))]; rfl
    refine lv_iconst (v := 0) hx hb dX6_typedIsRing_22 (by decide) ?_
    exact W.zret (v := 0) hx hb hr (by decide) (fun t9 ht hW => ⟨⟨_, (), rfl, by rw [h4]; rfl, trivial⟩, hS.F ht⟩) hS.2.2 dX6_typedIsRing_23
  · skip
    have h4 : 4 ≤ w := Nat.le_of_not_lt (fun q => c5 ((nI_ltI (b := 4) (by omega) (by decide)).mpr q))
    refine lv_aload_n hx hb dX6_typedIsRing_8 rfl (lv_at hl 0 rfl) ?_
    refine va_get (D := (dC, dI)) (ci := 6) (v := .ref a0) (C := RX6) (T := TX6) (N := 9) hx hb hts hi6 hown hK hP 0 rfl rfl 0 (by decide) (hts (.fieldLink RX6 9 "Ringtrack" "typed" "[I") (List.mem_of_getElem? (i := 2) rfl)) (fun _ h9 => h9) rfl dX6_typedIsRing_9 ?_
    refine lv_aload_n hx hb dX6_typedIsRing_12 rfl (lv_at hl 0 rfl) ?_
    refine va_get (D := (dC, dI)) (ci := 6) (v := .int (nI w)) (C := RX6) (T := TX6) (N := 9) hx hb hts hi6 hown hK hP 0 rfl rfl 1 (by decide) (hts (.fieldLink RX6 44 "Ringtrack" "typedCount" "I") (List.mem_of_getElem? (i := 1) rfl)) (fun _ h9 => h9) rfl dX6_typedIsRing_13 ?_
    refine va_calli (va_runS (As := [.ref a0, .int (nI w)]) (rest := []) ⟨hx, hb, hml, hown, hts⟩ (k_isRing l dC dI s.heap.size cI a0 64 f w (by omega) (by decide)) (va_cwS 2 hts gX6_typedIsRing_X6_isRing rfl rfl rfl (by decide +kernel) ⟨Nat.le_of_ble_eq_true rfl, Nat.le_of_ble_eq_true rfl⟩) ⟨zfb, zpre (hP.sub (ws' := [(a0, .inl (cI, 64, .inl f))]) [1] rfl) (hK.sub (tys' := [(cI, .int)]) [0] rfl)⟩ rfl rfl hl.1 rfl (lv_room (Nat.le_of_ble_eq_true rfl)) dX6_typedIsRing_16 ⟨Nat.le_of_ble_eq_true rfl, Nat.le_of_ble_eq_true rfl⟩) hS (fun q h1 h2 => absurd h2 (Nat.not_le.mpr h1)) (fun q h => hA q (Nat.le_trans hS.1 h)) (fun r9 u9 t9 H1 locs ht hvm hw hB hz1 hk1 hS => ?_)
    have hw : r9 = zb (zrg f w) := hw
    subst hw
    have hP := zr_keep hP hk1
    clear hk1 hz1 hB ht hvm hw
    refine lv_if_ne (tgt := 24) hx hb dX6_typedIsRing_19 (by decide) (fun c19 => ?_) (fun c19 => ?_)
    · skip
      have h19 : zrg f w = true := zb_n0.mp c19
      refine lv_iconst (v := 0) hx hb dX6_typedIsRing_24 (by decide) ?_
      refine lv_istore_n (lv' := [(1, .int 0), (0, .ref o)]) hx hb dX6_typedIsRing_25 rfl hl (by decide) rfl (fun ls hl => ?_)
      have loop : ∀ (d : Nat) (k : Nat), w + 1 ≤ k + d → k ≤ w → zal (fun k => zdr f w k) k = true → ∀ (H : Heap) (locs : List Loc), va_P (dC, dI) vwCl [(o, .inr (6, [.ref a0, .int (nI w), .ref a1, .int (nI nc), .null, .int 40, .int 48, .int 0, .ref a2])), (a0, .inl (cI, 64, .inl f))] H → va_S (zq s.heap.size) s.heap H locs → ∀ ls : Array Slot, lv_has ls 3 [(0, .ref o), (1, .int (nI k))] → W p l e (headSpec wsX6_typedIsRing ({ frames := 2, cells := 0, slots := 0, locals := 43 })).room s m ([.ref o] : List Value).toArray below meth c H locs 0 0 (MQ below (va_Qi (fun (r : Int32) (_ : Unit) => r = zb (ztg f w)) (fun _ _ => True) (zq s.heap.size)) ([.ref o] : List Value).toArray s 0 0 (zq s.heap.size)) (F0 m 26 ls []) := by
        intro d
        induction d with
        | zero => intro k hd hk hz; exact absurd hd (by omega)
        | succ d ih =>
          intro k hd hk hz H locs hP hS ls hl
          refine lv_iload_n hx hb dX6_typedIsRing_26 rfl (lv_at hl 1 rfl) ?_
          refine lv_aload_n hx hb dX6_typedIsRing_27 rfl (lv_at hl 0 rfl) ?_
          refine va_get (D := (dC, dI)) (ci := 6) (v := .int (nI w)) (C := RX6) (T := TX6) (N := 9) hx hb hts hi6 hown hK hP 0 rfl rfl 1 (by decide) (hts (.fieldLink RX6 44 "Ringtrack" "typedCount" "I") (List.mem_of_getElem? (i := 1) rfl)) (fun _ h9 => h9) rfl dX6_typedIsRing_28 ?_
          refine lv_icmp_ge (tgt := 75) hx hb dX6_typedIsRing_31 (by decide) (fun c31 => ?_) (fun c31 => ?_)
          · skip
            have hkw : k = w := Nat.le_antisymm hk ((nI_leI (by omega) (by omega)).mp c31)
            refine lv_iconst (v := 1) hx hb dX6_typedIsRing_75 (by decide) ?_
            exact W.zret (v := 1) hx hb hr (by decide) (fun t9 ht hW => ⟨⟨_, (), rfl, by rw [hkw] at hz; rw [show ztg f w = true from by unfold ztg; rw [decide_eq_true h4, h19, show zds f w = true from hz]; rfl]; rfl, trivial⟩, hS.F ht⟩) hS.2.2 dX6_typedIsRing_76
          · skip
            have hkw : k < w := Nat.lt_of_not_le (fun q => c31 ((nI_leI (by omega) (by omega)).mpr q))
            refine lv_iload_n hx hb dX6_typedIsRing_34 rfl (lv_at hl 1 rfl) ?_
            refine lv_iconst (v := 1) hx hb dX6_typedIsRing_35 (by decide) ?_
            refine lv_iadd hx hb dX6_typedIsRing_36 ?_
            refine zt_top (y := nI (k + 1)) (nI_1 k) ?_
            refine lv_istore_n (lv' := [(2, .int (nI (k + 1))), (0, .ref o), (1, .int (nI k))]) hx hb dX6_typedIsRing_37 rfl hl (by decide) rfl (fun ls hl => ?_)
            have inner : ∀ (d2 : Nat) (j : Nat), w + 1 ≤ j + d2 → j ≤ w → k + 1 ≤ j → zal (fun j => decide (j ≤ k) || decide (¬ f k = f j)) j = true → ∀ (H : Heap) (locs : List Loc), va_P (dC, dI) vwCl [(o, .inr (6, [.ref a0, .int (nI w), .ref a1, .int (nI nc), .null, .int 40, .int 48, .int 0, .ref a2])), (a0, .inl (cI, 64, .inl f))] H → va_S (zq s.heap.size) s.heap H locs → ∀ ls : Array Slot, lv_has ls 3 [(0, .ref o), (1, .int (nI k)), (2, .int (nI j))] → W p l e (headSpec wsX6_typedIsRing ({ frames := 2, cells := 0, slots := 0, locals := 43 })).room s m ([.ref o] : List Value).toArray below meth c H locs 0 0 (MQ below (va_Qi (fun (r : Int32) (_ : Unit) => r = zb (ztg f w)) (fun _ _ => True) (zq s.heap.size)) ([.ref o] : List Value).toArray s 0 0 (zq s.heap.size)) (F0 m 38 ls []) := by
              intro d2
              induction d2 with
              | zero => intro j hd2 hj hkj hzj; exact absurd hd2 (by omega)
              | succ d2 ihe =>
                intro j hd2 hj hkj hzj H locs hP hS ls hl
                refine lv_iload_n hx hb dX6_typedIsRing_38 rfl (lv_at hl 2 rfl) ?_
                refine lv_aload_n hx hb dX6_typedIsRing_39 rfl (lv_at hl 0 rfl) ?_
                refine va_get (D := (dC, dI)) (ci := 6) (v := .int (nI w)) (C := RX6) (T := TX6) (N := 9) hx hb hts hi6 hown hK hP 0 rfl rfl 1 (by decide) (hts (.fieldLink RX6 44 "Ringtrack" "typedCount" "I") (List.mem_of_getElem? (i := 1) rfl)) (fun _ h9 => h9) rfl dX6_typedIsRing_40 ?_
                refine lv_icmp_ge (tgt := 69) hx hb dX6_typedIsRing_43 (by decide) (fun c43 => ?_) (fun c43 => ?_)
                · skip
                  have hjw : j = w := Nat.le_antisymm hj ((nI_leI (by omega) (by omega)).mp c43)
                  have ec2 : zal (fun k => zdr f w k) (k + 1) = true := zal_s hz (by rw [hjw] at hzj; exact hzj)
                  refine lv_iinc (v := nI (k + 1)) (lv' := [(1, .int (nI (k + 1))), (0, .ref o), (2, .int (nI j))]) hx hb dX6_typedIsRing_69 hl (k := 1) rfl (nI_1 k) (by decide) rfl (fun ls hl => ?_)
                  refine lv_goto (tgt := 26) hx hb dX6_typedIsRing_72 (by decide) ?_
                  exact ih (k + 1) (by omega) (by omega) ec2 _ _ hP hS ls (lv_sub hl [1, 0] rfl)
                · skip
                  have hjw : j < w := Nat.lt_of_not_le (fun q => c43 ((nI_leI (by omega) (by omega)).mpr q))
                  refine lv_aload_n hx hb dX6_typedIsRing_46 rfl (lv_at hl 0 rfl) ?_
                  refine va_get (D := (dC, dI)) (ci := 6) (v := .ref a0) (C := RX6) (T := TX6) (N := 9) hx hb hts hi6 hown hK hP 0 rfl rfl 0 (by decide) (hts (.fieldLink RX6 9 "Ringtrack" "typed" "[I") (List.mem_of_getElem? (i := 2) rfl)) (fun _ h9 => h9) rfl dX6_typedIsRing_47 ?_
                  refine lv_iload_n hx hb dX6_typedIsRing_50 rfl (lv_at hl 1 rfl) ?_
                  refine va_iald hx hb hK hP 1 0 rfl rfl (vp_in_nI (by omega) (by decide)) dX6_typedIsRing_51 ?_
                  refine zt_top (y := f k) (by rw [nI_clamp (by omega)]) ?_
                  refine lv_aload_n hx hb dX6_typedIsRing_52 rfl (lv_at hl 0 rfl) ?_
                  refine va_get (D := (dC, dI)) (ci := 6) (v := .ref a0) (C := RX6) (T := TX6) (N := 9) hx hb hts hi6 hown hK hP 0 rfl rfl 0 (by decide) (hts (.fieldLink RX6 9 "Ringtrack" "typed" "[I") (List.mem_of_getElem? (i := 2) rfl)) (fun _ h9 => h9) rfl dX6_typedIsRing_53 ?_
                  refine lv_iload_n hx hb dX6_typedIsRing_56 rfl (lv_at hl 2 rfl) ?_
                  refine va_iald hx hb hK hP 1 0 rfl rfl (vp_in_nI (by omega) (by decide)) dX6_typedIsRing_57 ?_
                  refine zt_top (y := f j) (by rw [nI_clamp (by omega)]) ?_
                  refine lv_icmp_ne (tgt := 63) hx hb dX6_typedIsRing_58 (by decide) (fun c58 => ?_) (fun c58 => ?_)
                  · skip
                    have ec : zal (fun j => decide (j ≤ k) || decide (¬ f k = f j)) (j + 1) = true := zal_s hzj (by show (_ || decide (¬ f k = f j)) = true; rw [decide_eq_true c58, Bool.or_true])
                    refine lv_iinc (v := nI (j + 1)) (lv' := [(2, .int (nI (j + 1))), (0, .ref o), (1, .int (nI k))]) hx hb dX6_typedIsRing_63 hl (k := 2) rfl (nI_1 j) (by decide) rfl (fun ls hl => ?_)
                    refine lv_goto (tgt := 38) hx hb dX6_typedIsRing_66 (by decide) ?_
                    exact ihe (j + 1) (by omega) (by omega) (by omega) ec _ _ hP hS ls (lv_sub hl [1, 2, 0] rfl)
                  · skip
                    have h5 : ztg f w = false := by
                      have h6 : zdr f w k = false := zal_f hjw (by show (decide (j ≤ k) || decide (¬ f k = f j)) = false; rw [decide_eq_false (not_not_intro c58), decide_eq_false (by omega)]; rfl)
                      have h7 : zds f w = false := zal_f hkw h6
                      unfold ztg; rw [h7, Bool.and_false, Bool.and_false]
                    refine lv_iconst (v := 0) hx hb dX6_typedIsRing_61 (by decide) ?_
                    exact W.zret (v := 0) hx hb hr (by decide) (fun t9 ht hW => ⟨⟨_, (), rfl, by rw [h5]; rfl, trivial⟩, hS.F ht⟩) hS.2.2 dX6_typedIsRing_62
            exact inner (w + 1) (k + 1) (by omega) (by omega) (Nat.le_refl _) (zal_t (fun j hj => by show (decide (j ≤ k) || _) = true; rw [decide_eq_true (by omega)]; rfl)) _ _ hP hS ls (lv_sub hl [1, 2, 0] rfl)
      exact loop (w + 1) 0 (by omega) (Nat.zero_le _) rfl _ _ hP hS ls (lv_sub hl [1, 0] rfl)
    · skip
      have h4 : ztg f w = false := by unfold ztg; rw [zb_0.mp c19, Bool.false_and, Bool.and_false]
      refine lv_iconst (v := 0) hx hb dX6_typedIsRing_22 (by decide) ?_
      exact W.zret (v := 0) hx hb hr (by decide) (fun t9 ht hW => ⟨⟨_, (), rfl, by rw [h4]; rfl, trivial⟩, hS.F ht⟩) hS.2.2 dX6_typedIsRing_23

set_option maxHeartbeats 4000000 in
set_option maxRecDepth 100000 in
/-- ring() of what is no ring -/
theorem x_ring (l : Launch) (dC : Nat → ClassId) (dI : Nat → Nat → Nat) (sz : Nat) (cI cC : ClassId) (o a0 a1 a2 : Nat) (w nc : Nat) (f : Nat → Int32) (hfl : l.stackTraces = false) (hwm : w ≤ 64) (hnr : ztg f w = false) : vx_Met l yX6_ring wsX6_ring ({ frames := 6, cells := 1, slots := 6, locals := 90 }) (va_Pc [.ref o] (zPcX (dC, dI) [(o, .inr (6, [.ref a0, .int (nI w), .ref a1, .int (nI nc), .null, .int 40, .int 48, .int 0, .ref a2])), (a0, .inl (cI, 64, .inl f))] [(cI, .int), (cC, (.object RX0))] sz)) zNoQ (zXC "java/lang/UnsupportedOperationException" sz) 1 6 (zq sz) := by
  refine vx_ofW (cc := cX6_ring) (maxL := 2) (ret := (some .int)) (by decide) rfl ?_
  intro p e s m args below meth c s₁ B hml hnt hv
  obtain ⟨rfl, hsz, hP, hK, hE⟩ := hv
  have hx := B.exec
  have hb := B.bytes
  have hr := B.returns
  have hts := atoms_spec (ws := wsX6_ring) B.pre
  have hown : s.vm.findClass RX6 = some m.cls := findClass_of_methodNamed B.named
  have hlocks := B.notSynchronized
  subst hsz
  have hi6 : ∀ w ∈ u_ws RX6 TX6 9, w ∈ wsX6_ring := by decide +kernel
  have hA : ∀ q : Nat, s.heap.size ≤ q → zq s.heap.size q := fun q h => h
  have hS : va_S (zq s.heap.size) s.heap s.heap [] := va_S.rf
  have hl := lv_entry ([.ref o]) (n := 2) (Nat.le_of_ble_eq_true rfl)
  rw [lg_entry_eq]
  generalize (lg_sl ([.ref o]) ++ List.replicate (2 - (lg_sl ([.ref o])).length) Slot.unset).toArray = ls at hl ⊢
  have hl : lv_has ls 2 [(0, .ref o)] := hl
  refine lv_aload_n hx hb dX6_ring_0 rfl (lv_at hl 0 rfl) ?_
  refine va_calli (va_runV (As := []) (rest := []) ⟨hx, hb, hml, hown, hts⟩ (k_typedIsRing l dC dI s.heap.size cI cC o a0 a1 a2 w nc f hwm) (cwV 0 hts gX6_ring_X6_typedIsRing rfl rfl rfl (by decide +kernel) ⟨Nat.le_of_ble_eq_true rfl, Nat.le_of_ble_eq_true rfl⟩) ⟨zfb, va_recv hK hP (ci := 6) (q0 := 0) rfl rfl, zpre (hP.sub (ws' := [(o, .inr (6, [.ref a0, .int (nI w), .ref a1, .int (nI nc), .null, .int 40, .int 48, .int 0, .ref a2])), (a0, .inl (cI, 64, .inl f))]) [0, 1] rfl) (hK.sub (tys' := [(cI, .int), (cC, (.object RX0))]) [0, 1] rfl)⟩ rfl rfl hl.1 rfl (lv_room (Nat.le_of_ble_eq_true rfl)) dX6_ring_1 ⟨Nat.le_of_ble_eq_true rfl, Nat.le_of_ble_eq_true rfl⟩) hS (fun q h1 h2 => absurd h2 (Nat.not_le.mpr h1)) (fun q h => hA q (Nat.le_trans hS.1 h)) (fun r9 u9 t9 H1 locs ht hvm hw hB hz1 hk1 hS => ?_)
  have hw : r9 = zb (ztg f w) := hw
  subst hw
  have hP := zr_keep hP hk1
  clear hk1 hz1 hB ht hvm hw
  refine zt_top (y := 0) (by rw [hnr]; rfl) ?_
  refine lv_if_ne (tgt := 17) hx hb dX6_ring_4 (by decide) (fun c => absurd c (fun q => q rfl)) (fun c4 => ?_)
  obtain ⟨sa, hsa⟩ := hE.2.1 (58, "what is typed is no ring") (List.mem_of_getElem? (i := 1) rfl)
  exact vx_throwS hx hb hfl (own := RX6) (cls := "java/lang/UnsupportedOperationException") (names := ["java/lang/RuntimeException", "java/lang/Exception"]) (ik := 56) (is := 58) (ic := 60) (A := zq s.heap.size) hown (by decide) (by decide) (hts (.classLink RX6 56 "java/lang/UnsupportedOperationException") (List.mem_of_getElem? (i := 1) rfl)) (hts (.initialized "java/lang/UnsupportedOperationException") (List.mem_of_getElem? (i := 2) rfl)) hsa (zg_of (fun w hw => hts w (List.mem_cons_of_mem _ (List.mem_append_left _ (List.mem_append_right _ hw)))) zg_UOE hE.2.2.1) zo_UOE hE.1.1 hE.1.2 hS (hl.1.trans hml.symm) dX6_ring_7 dX6_ring_10 dX6_ring_11 dX6_ring_13 dX6_ring_16 (fun x hx => (hnt x hx).elim) (Nat.le_of_ble_eq_true rfl) (Nat.le_of_ble_eq_true rfl) (Nat.le_of_ble_eq_true rfl) (Nat.le_of_ble_eq_true rfl) hlocks (z_hx hS) hS.2.2 (Nat.le_of_ble_eq_true rfl) (Nat.le_of_ble_eq_true rfl)

set_option maxHeartbeats 4000000 in
set_option maxRecDepth 100000 in
/-- type(v) -/
theorem k_type (l : Launch) (dC : Nat → ClassId) (dI : Nat → Nat → Nat) (sz : Nat) (cI cC : ClassId) (o a0 a1 a2 : Nat) (w nc : Nat) (f : Nat → Int32) (v : Int32) (hwm : w < 64) (hv : (decide ((0 : Int32) ≤ v) && decide (v ≤ 255)) = true) : Met l yX6_type wsX6_type ({ frames := 1, cells := 0, slots := 0, locals := 22 }) (va_Pc [.ref o, .int v] (zPcD (dC, dI) [(o, .inr (6, [.ref a0, .int (nI w), .ref a1, .int (nI nc), .null, .int 40, .int 48, .int 0, .ref a2])), (a0, .inl (cI, 64, .inl f))] [(cI, .int), (cC, (.object RX0))] sz)) (va_Qi (fun (r : Int32) (_ : Unit) => r = nI (w + 1)) (fun _ t => va_P (dC, dI) vwCl [(o, .inr (6, [.ref a0, .int (nI (w + 1)), .ref a1, .int (nI nc), .null, .int 40, .int 48, .int 0, .ref a2])), (a0, .inl (cI, 64, .inl (upd f w v)))] t.heap ∧ va_D (va_A [(o, .inr (6, [.ref a0, .int (nI w), .ref a1, .int (nI nc), .null, .int 40, .int 48, .int 0, .ref a2])), (a0, .inl (cI, 64, .inl f))] sz) [(o, .inr (6, [.ref a0, .int (nI (w + 1)), .ref a1, .int (nI nc), .null, .int 40, .int 48, .int 0, .ref a2])), (a0, .inl (cI, 64, .inl (upd f w v)))]) (va_A [(o, .inr (6, [.ref a0, .int (nI w), .ref a1, .int (nI nc), .null, .int 40, .int 48, .int 0, .ref a2])), (a0, .inl (cI, 64, .inl f))] sz)) 0 0 (va_A [(o, .inr (6, [.ref a0, .int (nI w), .ref a1, .int (nI nc), .null, .int 40, .int 48, .int 0, .ref a2])), (a0, .inl (cI, 64, .inl f))] sz) := by
  refine Met.ofW (cc := cX6_type) (maxL := 2) (ret := (some .int)) (by decide) rfl ?_
  intro p e s m args below meth c s₁ B hml hv
  obtain ⟨rfl, hsz, hP, hK, hD0⟩ := hv
  have hx := B.exec
  have hb := B.bytes
  have hr := B.returns
  have hts := atoms_spec (ws := wsX6_type) B.pre
  have hown : s.vm.findClass RX6 = some m.cls := findClass_of_methodNamed B.named
  have hlocks := B.notSynchronized
  subst hsz
  have hi6 : ∀ w ∈ u_ws RX6 TX6 9, w ∈ wsX6_type := by decide +kernel
  have hD := hD0.self (sz := s.heap.size)
  generalize hAe : va_A [(o, .inr (6, [.ref a0, .int (nI w), .ref a1, .int (nI nc), .null, .int 40, .int 48, .int 0, .ref a2])), (a0, .inl (cI, 64, .inl f))] s.heap.size = A at hD ⊢
  have hA : ∀ q : Nat, s.heap.size ≤ q → A q := fun q h => by rw [← hAe]; exact Or.inr h
  have hS : va_S A s.heap s.heap [] := va_S.rf
  have hl := lv_entry ([.ref o, .int v]) (n := 2) (Nat.le_of_ble_eq_true rfl)
  rw [lg_entry_eq]
  generalize (lg_sl ([.ref o, .int v]) ++ List.replicate (2 - (lg_sl ([.ref o, .int v])).length) Slot.unset).toArray = ls at hl ⊢
  have hl : lv_has ls 2 [(0, .ref o), (1, .int v)] := hl
  have hvv := hv
  refine lv_iload_n hx hb dX6_type_0 rfl (lv_at hl 1 rfl) ?_
  refine lv_iconst (v := 0) hx hb dX6_type_1 (by decide) ?_
  refine lv_sipush (v := 255) hx hb dX6_type_2 (by decide) ?_
  refine va_calli (va_runS (As := [.int v, .int 0, .int 255]) (rest := []) ⟨hx, hb, hml, hown, hts⟩ (k_isWithin l dC dI s.heap.size v 0 255) (va_cwS 3 hts gX6_type_X6_isWithin rfl rfl rfl (by decide +kernel) ⟨Nat.le_of_ble_eq_true rfl, Nat.le_of_ble_eq_true rfl⟩) ⟨zfb, zpre (hP.sub (ws' := []) [] rfl) (hK.sub (tys' := []) [] rfl)⟩ rfl rfl hl.1 rfl (lv_room (Nat.le_of_ble_eq_true rfl)) dX6_type_5 ⟨Nat.le_of_ble_eq_true rfl, Nat.le_of_ble_eq_true rfl⟩) hS (fun q h1 h2 => absurd h2 (Nat.not_le.mpr h1)) (fun q h => hA q (Nat.le_trans hS.1 h)) (fun r9 u9 t9 H1 locs ht hvm hw hB hz1 hk1 hS => ?_)
  have hw : r9 = zb (decide ((0 : Int32) ≤ v) && decide (v ≤ 255)) := hw
  subst hw
  have hP := zr_keep hP hk1
  clear hk1 hz1 hB ht hvm hw
  refine zt_top (y := 1) (by rw [hvv]; rfl) ?_
  refine lv_if_ne (tgt := 21) hx hb dX6_type_8 (by decide) (fun c8 => ?_) (fun c => absurd c (by decide))
  refine lv_aload_n hx hb dX6_type_21 rfl (lv_at hl 0 rfl) ?_
  refine va_get (D := (dC, dI)) (ci := 6) (v := .int (nI w)) (C := RX6) (T := TX6) (N := 9) hx hb hts hi6 hown hK hP 0 rfl rfl 1 (by decide) (hts (.fieldLink RX6 44 "Ringtrack" "typedCount" "I") (List.mem_of_getElem? (i := 5) rfl)) (fun _ h9 => h9) rfl dX6_type_22 ?_
  refine lv_aload_n hx hb dX6_type_25 rfl (lv_at hl 0 rfl) ?_
  refine va_get (D := (dC, dI)) (ci := 6) (v := .ref a0) (C := RX6) (T := TX6) (N := 9) hx hb hts hi6 hown hK hP 0 rfl rfl 0 (by decide) (hts (.fieldLink RX6 9 "Ringtrack" "typed" "[I") (List.mem_of_getElem? (i := 6) rfl)) (fun _ h9 => h9) rfl dX6_type_26 ?_
  refine va_alen (v := 64) hx hb hK hP 1 0 rfl rfl rfl dX6_type_29 ?_
  refine lv_icmp_lt (tgt := 43) hx hb dX6_type_30 (by decide) (fun c30 => ?_) (fun c => absurd (nI_lt (b := 64) hwm (by decide)) c)
  refine lv_aload_n hx hb dX6_type_43 rfl (lv_at hl 0 rfl) ?_
  refine va_get (D := (dC, dI)) (ci := 6) (v := .ref a0) (C := RX6) (T := TX6) (N := 9) hx hb hts hi6 hown hK hP 0 rfl rfl 0 (by decide) (hts (.fieldLink RX6 9 "Ringtrack" "typed" "[I") (List.mem_of_getElem? (i := 6) rfl)) (fun _ h9 => h9) rfl dX6_type_44 ?_
  refine lv_aload_n hx hb dX6_type_47 rfl (lv_at hl 0 rfl) ?_
  refine va_get (D := (dC, dI)) (ci := 6) (v := .int (nI w)) (C := RX6) (T := TX6) (N := 9) hx hb hts hi6 hown hK hP 0 rfl rfl 1 (by decide) (hts (.fieldLink RX6 44 "Ringtrack" "typedCount" "I") (List.mem_of_getElem? (i := 5) rfl)) (fun _ h9 => h9) rfl dX6_type_48 ?_
  refine lv_iload_n hx hb dX6_type_51 rfl (lv_at hl 1 rfl) ?_
  refine va_iast hx hb hK hP hD hS 1 0 rfl rfl (vp_in_nI hwm (by decide)) dX6_type_52 (fun H locs hP hD hS => ?_)
  have hP : va_P (dC, dI) vwCl [(o, .inr (6, [.ref a0, .int (nI w), .ref a1, .int (nI nc), .null, .int 40, .int 48, .int 0, .ref a2])), (a0, .inl (cI, 64, .inl (upd f (nI w).toNatClampNeg v)))] H := hP
  have hD : va_D A [(o, .inr (6, [.ref a0, .int (nI w), .ref a1, .int (nI nc), .null, .int 40, .int 48, .int 0, .ref a2])), (a0, .inl (cI, 64, .inl (upd f (nI w).toNatClampNeg v)))] := hD
  rw [nI_clamp (by omega)] at hP hD
  have hP : va_P (dC, dI) vwCl [(o, .inr (6, [.ref a0, .int (nI w), .ref a1, .int (nI nc), .null, .int 40, .int 48, .int 0, .ref a2])), (a0, .inl (cI, 64, .inl (upd f w v)))] H := hP
  have hD : va_D A [(o, .inr (6, [.ref a0, .int (nI w), .ref a1, .int (nI nc), .null, .int 40, .int 48, .int 0, .ref a2])), (a0, .inl (cI, 64, .inl (upd f w v)))] := hD
  refine lv_aload_n hx hb dX6_type_53 rfl (lv_at hl 0 rfl) ?_
  refine lv_dup hx hb dX6_type_54 rfl ?_
  refine va_get (D := (dC, dI)) (ci := 6) (v := .int (nI w)) (C := RX6) (T := TX6) (N := 9) hx hb hts hi6 hown hK hP 0 rfl rfl 1 (by decide) (hts (.fieldLink RX6 44 "Ringtrack" "typedCount" "I") (List.mem_of_getElem? (i := 5) rfl)) (fun _ h9 => h9) rfl dX6_type_55 ?_
  refine lv_iconst (v := 1) hx hb dX6_type_58 (by decide) ?_
  refine lv_iadd hx hb dX6_type_59 ?_
  refine zt_top (y := nI (w + 1)) (nI_1 w) ?_
  refine va_put (D := (dC, dI)) (ci := 6) (v := .int (nI (w + 1))) (ty := .int) (C := RX6) (T := TX6) (N := 9) hx hb hts hi6 tyX6 tyX6_ok nmX6 hown hK hP hD hS 0 rfl rfl 1 (by decide) (hts (.fieldLink RX6 44 "Ringtrack" "typedCount" "I") (List.mem_of_getElem? (i := 5) rfl)) (fun _ h9 => h9) rfl (by decide +kernel) rfl rfl (Nat.le_of_ble_eq_true rfl) dX6_type_60 (fun H locs hP hD hS => ?_)
  have hP : va_P (dC, dI) vwCl [(o, .inr (6, [.ref a0, .int (nI (w + 1)), .ref a1, .int (nI nc), .null, .int 40, .int 48, .int 0, .ref a2])), (a0, .inl (cI, 64, .inl (upd f w v)))] H := hP
  have hD : va_D A [(o, .inr (6, [.ref a0, .int (nI (w + 1)), .ref a1, .int (nI nc), .null, .int 40, .int 48, .int 0, .ref a2])), (a0, .inl (cI, 64, .inl (upd f w v)))] := hD
  refine lv_aload_n hx hb dX6_type_63 rfl (lv_at hl 0 rfl) ?_
  refine va_get (D := (dC, dI)) (ci := 6) (v := .int (nI (w + 1))) (C := RX6) (T := TX6) (N := 9) hx hb hts hi6 hown hK hP 0 rfl rfl 1 (by decide) (hts (.fieldLink RX6 44 "Ringtrack" "typedCount" "I") (List.mem_of_getElem? (i := 5) rfl)) (fun _ h9 => h9) rfl dX6_type_64 ?_
  exact W.iret (v := (nI (w + 1))) hx hb hr (fun t9 ht hW => ⟨⟨_, (), rfl, rfl, by rw [ht]; exact hP, hD⟩, hS.F ht⟩) hS.2.2 dX6_type_67

set_option maxHeartbeats 4000000 in
set_option maxRecDepth 100000 in
/-- wipe() -/
theorem k_wipe (l : Launch) (dC : Nat → ClassId) (dI : Nat → Nat → Nat) (sz : Nat) (cI cC : ClassId) (o a0 a1 a2 : Nat) (w nc : Nat) (f : Nat → Int32) : Met l yX6_wipe wsX6_wipe ({ frames := 0, cells := 0, slots := 0, locals := 0 }) (va_Pc [.ref o] (zPcD (dC, dI) [(o, .inr (6, [.ref a0, .int (nI w), .ref a1, .int (nI nc), .null, .int 40, .int 48, .int 0, .ref a2]))] [(cI, .int), (cC, (.object RX0))] sz)) (va_Qi (fun (r : Int32) (_ : Unit) => r = nI w) (fun _ t => va_P (dC, dI) vwCl [(o, .inr (6, [.ref a0, .int (nI 0), .ref a1, .int (nI nc), .null, .int 40, .int 48, .int 0, .ref a2]))] t.heap ∧ va_D (va_A [(o, .inr (6, [.ref a0, .int (nI w), .ref a1, .int (nI nc), .null, .int 40, .int 48, .int 0, .ref a2]))] sz) [(o, .inr (6, [.ref a0, .int (nI 0), .ref a1, .int (nI nc), .null, .int 40, .int 48, .int 0, .ref a2]))]) (va_A [(o, .inr (6, [.ref a0, .int (nI w), .ref a1, .int (nI nc), .null, .int 40, .int 48, .int 0, .ref a2]))] sz)) 0 0 (va_A [(o, .inr (6, [.ref a0, .int (nI w), .ref a1, .int (nI nc), .null, .int 40, .int 48, .int 0, .ref a2]))] sz) := by
  refine Met.ofW (cc := cX6_wipe) (maxL := 2) (ret := (some .int)) (by decide) rfl ?_
  intro p e s m args below meth c s₁ B hml hv
  obtain ⟨rfl, hsz, hP, hK, hD0⟩ := hv
  have hx := B.exec
  have hb := B.bytes
  have hr := B.returns
  have hts := atoms_spec (ws := wsX6_wipe) B.pre
  have hown : s.vm.findClass RX6 = some m.cls := findClass_of_methodNamed B.named
  have hlocks := B.notSynchronized
  subst hsz
  have hi6 : ∀ w ∈ u_ws RX6 TX6 9, w ∈ wsX6_wipe := by decide +kernel
  have hD := hD0.self (sz := s.heap.size)
  generalize hAe : va_A [(o, .inr (6, [.ref a0, .int (nI w), .ref a1, .int (nI nc), .null, .int 40, .int 48, .int 0, .ref a2]))] s.heap.size = A at hD ⊢
  have hA : ∀ q : Nat, s.heap.size ≤ q → A q := fun q h => by rw [← hAe]; exact Or.inr h
  have hS : va_S A s.heap s.heap [] := va_S.rf
  have hl := lv_entry ([.ref o]) (n := 2) (Nat.le_of_ble_eq_true rfl)
  rw [lg_entry_eq]
  generalize (lg_sl ([.ref o]) ++ List.replicate (2 - (lg_sl ([.ref o])).length) Slot.unset).toArray = ls at hl ⊢
  have hl : lv_has ls 2 [(0, .ref o)] := hl
  refine lv_aload_n hx hb dX6_wipe_0 rfl (lv_at hl 0 rfl) ?_
  refine va_get (D := (dC, dI)) (ci := 6) (v := .int (nI w)) (C := RX6) (T := TX6) (N := 9) hx hb hts hi6 hown hK hP 0 rfl rfl 1 (by decide) (hts (.fieldLink RX6 44 "Ringtrack" "typedCount" "I") (List.mem_of_getElem? (i := 1) rfl)) (fun _ h9 => h9) rfl dX6_wipe_1 ?_
  refine lv_istore_n (lv' := [(1, .int (nI w)), (0, .ref o)]) hx hb dX6_wipe_4 rfl hl (by decide) rfl (fun ls hl => ?_)
  refine lv_aload_n hx hb dX6_wipe_5 rfl (lv_at hl 1 rfl) ?_
  refine lv_iconst (v := 0) hx hb dX6_wipe_6 (by decide) ?_
  refine zt_top (y := nI 0) (nI_0.symm) ?_
  refine va_put (D := (dC, dI)) (ci := 6) (v := .int (nI 0)) (ty := .int) (C := RX6) (T := TX6) (N := 9) hx hb hts hi6 tyX6 tyX6_ok nmX6 hown hK hP hD hS 0 rfl rfl 1 (by decide) (hts (.fieldLink RX6 44 "Ringtrack" "typedCount" "I") (List.mem_of_getElem? (i := 1) rfl)) (fun _ h9 => h9) rfl (by decide +kernel) rfl rfl (Nat.le_of_ble_eq_true rfl) dX6_wipe_7 (fun H locs hP hD hS => ?_)
  have hP : va_P (dC, dI) vwCl [(o, .inr (6, [.ref a0, .int (nI 0), .ref a1, .int (nI nc), .null, .int 40, .int 48, .int 0, .ref a2]))] H := hP
  have hD : va_D A [(o, .inr (6, [.ref a0, .int (nI 0), .ref a1, .int (nI nc), .null, .int 40, .int 48, .int 0, .ref a2]))] := hD
  refine lv_iload_n hx hb dX6_wipe_10 rfl (lv_at hl 0 rfl) ?_
  exact W.iret (v := (nI w)) hx hb hr (fun t9 ht hW => ⟨⟨_, (), rfl, rfl, by rw [ht]; exact hP, hD⟩, hS.F ht⟩) hS.2.2 dX6_wipe_11
