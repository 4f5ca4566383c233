/-- the words of a reflected code -/
def zrf (k : Nat) : Int32 := nI k ^^^ nI (k / 2)
/-- .. its first k words written -/
def zrw (k : Nat) : Nat → Int32 := fun j => if j < k then zrf j else 0
theorem zrw_0 : zrw 0 = fun _ => 0 := by
  funext j
  exact if_neg (Nat.not_lt_zero j)
theorem zrw_s (k : Nat) : upd (zrw k) k (zrf k) = zrw (k + 1) := by
  funext j
  unfold upd zrw
  by_cases h : j = k
  · rw [if_pos h, if_pos (by omega), h]
  · rw [if_neg h]
    by_cases h2 : j < k
    · rw [if_pos h2, if_pos (by omega)]
    · rw [if_neg h2, if_neg (by omega)]
theorem zrw_in {k j : Nat} (h : j < k) : zrw k j = zrf j := if_pos h
/-- the codes that are kept: each a ring -/
def zCs (D : va_G) (cI : ClassId) (nc : Nat) (ad : Nat → Option Nat) (H : Heap) : Prop := ∀ k, k < nc → ∃ (h0 h1 h2 n T : Nat) (f : Nat → Int32), ad k = some h0 ∧ va_P D vwCl [(h0, .inr (0, [.ref h1, .int (nI T), .ref h2])), (h1, .inl (cI, n, .inl f))] H ∧ n < 2 ^ 30 ∧ zrg f n = true
theorem zCs_keep {D : va_G} {cI : ClassId} {nc : Nat} {ad : Nat → Option Nat} {H H1 : Heap} (h : zCs D cI nc ad H) (hk : ∀ q : Nat, q < H.size → ¬ zq H.size q → H1[q]? = H[q]?) : zCs D cI nc ad H1 := fun k hkn => by
  obtain ⟨h0, h1, h2, n, T, f, e1, e2, e3, e4⟩ := h k hkn
  exact ⟨h0, h1, h2, n, T, f, e1, zr_keep e2 hk, e3, e4⟩
abbrev zPcC (cI : ClassId) (nc : Nat) (ad : Nat → Option Nat) (D : va_G) (ws : va_W) (tys : List (ClassId × FieldType)) (sz : Nat) : State → Prop := fun U => U.heap.size = sz ∧ va_P D vwCl ws U.heap ∧ va_K D vwCl tys U ∧ zCs D cI nc ad U.heap
theorem zfbC {cI : ClassId} {nc : Nat} {ad : Nat → Option Nat} {av : List Value} {D : va_G} {ws : va_W} {tys : List (ClassId × FieldType)} {sz : Nat} : FrameBlind (va_Pc av (zPcC cI nc ad D ws tys sz)) := fun a U g mk q => by
  obtain ⟨q0, q1, qP, qK, qE⟩ := q
  exact ⟨q0, q1, qP, va_K.moved (u := U) (U := U.calling g mk a) (Vm.Alike.refl U.vm) qK, qE⟩
theorem zpreC {cI : ClassId} {nc : Nat} {ad : Nat → Option Nat} {av : List Value} {D : va_G} {ws : va_W} {tys : List (ClassId × FieldType)} {s : State} {H : Heap} (hP : va_P D vwCl ws H) (hK : va_K D vwCl tys s) (hC : zCs D cI nc ad H) : ∀ U : State, U.heap = H → s.WarmedH U.vm → va_Pc av (zPcC cI nc ad D ws tys H.size) av.toArray U := fun U hU hW => ⟨rfl, by rw [hU], by rw [hU]; exact hP, va_K.moved hW.alike hK, by rw [hU]; exact hC⟩
/-- what a constructor of Ringtrack needs of the tables -/
abbrev zI (U : State) : Prop := va_AO RX0 U ∧ va_Nw (.methodLinkNest RX6 28 yX2_init "Ringtrack") U
abbrev zPcID (D : va_G) (ws : va_W) (tys : List (ClassId × FieldType)) (sz : Nat) : State → Prop := fun U => U.heap.size = sz ∧ va_P D vwCl ws U.heap ∧ va_K D vwCl tys U ∧ zI U ∧ va_D (fun _ => True) ws
theorem zfbID {av : List Value} {D : va_G} {ws : va_W} {tys : List (ClassId × FieldType)} {sz : Nat} : FrameBlind (va_Pc av (zPcID D ws tys sz)) := fun a U g mk q => by
  obtain ⟨q0, q1, qP, qK, qE, qD⟩ := q
  exact ⟨q0, q1, qP, va_K.moved (u := U) (U := U.calling g mk a) (Vm.Alike.refl U.vm) qK, ⟨va_AO.moved (u := U) (U := U.calling g mk a) (Vm.Alike.refl U.vm) qE.1, va_Nw.same rfl (u := U) (U := U.calling g mk a) rfl qE.2⟩, qD⟩
theorem zpreID {av : List Value} {D : va_G} {ws : va_W} {tys : List (ClassId × FieldType)} {s : State} {H : Heap} {A : Nat → Prop} (hP : va_P D vwCl ws H) (hK : va_K D vwCl tys s) (hE : zI s) (hD : va_D A ws) : ∀ U : State, U.heap = H → s.WarmedH U.vm → va_Pc av (zPcID D ws tys H.size) av.toArray U := fun U hU hW => ⟨rfl, by rw [hU], by rw [hU]; exact hP, va_K.moved hW.alike hK, ⟨va_AO.moved hW.alike hE.1, va_Nw.warmM hW hE.2⟩, hD.weaken (fun _ _ _ _ => trivial)⟩

set_option maxHeartbeats 4000000 in
set_option maxRecDepth 100000 in
/-- Arrays.copyOf(a, w) -/
theorem k_copyOf (l : Launch) (dC : Nat → ClassId) (dI : Nat → Nat → Nat) (sz : Nat) (cI : ClassId) (a0 w : Nat) (f : Nat → Int32) (hwm : w < 64) : Met l yJ7_copyOf_59c91 wsJ7_copyOf_59c91 ({ frames := 1, cells := 1, slots := 64, locals := 60 }) (va_Pc [.ref a0, .int (nI w)] (zPcD (dC, dI) [(a0, .inl (cI, 64, .inl f))] [(cI, .int)] sz)) (va_Qr (fun (_ : Unit) => True) (fun _ h1 t => va_P (dC, dI) vwCl [(a0, .inl (cI, 64, .inl f)), (h1, .inl (cI, w, .inl f))] t.heap ∧ va_D (va_A [(a0, .inl (cI, 64, .inl f))] sz) [(a0, .inl (cI, 64, .inl f)), (h1, .inl (cI, w, .inl f))]) (va_A [(a0, .inl (cI, 64, .inl f))] sz)) 1 64 (va_A [(a0, .inl (cI, 64, .inl f))] sz) := by
  refine Met.ofW (cc := cJ7_copyOf_59c91) (maxL := 3) (ret := (some (.array .int))) (by decide) rfl ?_
  intro p e s m args below meth c s₁ B hml hv
  obtain ⟨rfl, hsz, hP, hK, hD0⟩ := hv
  have hx := B.exec
  have hb := B.bytes
  have hr := B.returns
  have hts := atoms_spec (ws := wsJ7_copyOf_59c91) B.pre
  have hown : s.vm.findClass RJ7 = some m.cls := findClass_of_methodNamed B.named
  have hlocks := B.notSynchronized
  subst hsz
  have hD := hD0.self (sz := s.heap.size)
  generalize hAe : va_A [(a0, .inl (cI, 64, .inl f))] s.heap.size = A at hD ⊢
  have hA : ∀ q : Nat, s.heap.size ≤ q → A q := fun q h => by rw [← hAe]; exact Or.inr h
  have hS : va_S A s.heap s.heap [] := va_S.rf
  have hl := lv_entry ([.ref a0, .int (nI w)]) (n := 3) (Nat.le_of_ble_eq_true rfl)
  rw [lg_entry_eq]
  generalize (lg_sl ([.ref a0, .int (nI w)]) ++ List.replicate (3 - (lg_sl ([.ref a0, .int (nI w)])).length) Slot.unset).toArray = ls at hl ⊢
  have hl : lv_has ls 3 [(0, .ref a0), (1, .int (nI w))] := hl
  refine lv_iload_n hx hb dJ7_copyOf_59c91_0 rfl (lv_at hl 1 rfl) ?_
  refine lv_aload_n hx hb dJ7_copyOf_59c91_1 rfl (lv_at hl 0 rfl) ?_
  refine va_alen (v := 64) hx hb hK hP 0 0 rfl rfl rfl dJ7_copyOf_59c91_2 ?_
  refine lv_icmp_ne (tgt := 14) hx hb dJ7_copyOf_59c91_3 (by decide) (fun c3 => ?_) (fun c => absurd c (fun q => absurd ((nI_eq (b := 64) (by omega) (by decide)).mp q) (by omega)))
  refine lv_iload_n hx hb dJ7_copyOf_59c91_14 rfl (lv_at hl 1 rfl) ?_
  refine va_newa (atype := .int) (ty := .int) (N' := w) (a0 := (w, .inl (fun _ => 0))) hx hb (hts (.arrayClass .int) (List.mem_of_getElem? (i := 7) rfl)) rfl hK hP hD hS hA (fun _ => rfl) (nI_pos (by omega)) (nI_clamp (by omega)) (by show w * 4 ≤ 536870912; omega) (Nat.le_of_ble_eq_true rfl) (by show 0 + w ≤ 64; omega) dJ7_copyOf_59c91_15 (fun h1 cA H hK hP hD hS => ?_)
  obtain rfl := zI_one hK (i := 0) (j := 1) rfl rfl
  have hK := hK.sub (tys' := [(cI, .int)]) [0] rfl
  have hP : va_P (dC, dI) vwCl [(a0, .inl (cI, 64, .inl f)), (h1, .inl (cI, w, .inl (fun _ => 0)))] H := hP
  have hD : va_D A [(a0, .inl (cI, 64, .inl f)), (h1, .inl (cI, w, .inl (fun _ => 0)))] := hD
  refine W.widen (k := 1) (n := 64) (by omega) (by omega) ?_
  refine lv_astore_n (lv' := [(2, .ref h1), (0, .ref a0), (1, .int (nI w))]) hx hb dJ7_copyOf_59c91_17 rfl hl (by decide) rfl (fun ls hl => ?_)
  refine lv_aload_n hx hb dJ7_copyOf_59c91_18 rfl (lv_at hl 1 rfl) ?_
  refine lv_iconst (v := 0) hx hb dJ7_copyOf_59c91_19 (by decide) ?_
  refine lv_aload_n hx hb dJ7_copyOf_59c91_20 rfl (lv_at hl 0 rfl) ?_
  refine lv_iconst (v := 0) hx hb dJ7_copyOf_59c91_21 (by decide) ?_
  refine lv_aload_n hx hb dJ7_copyOf_59c91_22 rfl (lv_at hl 1 rfl) ?_
  refine va_alen (v := 64) hx hb hK hP 0 0 rfl rfl rfl dJ7_copyOf_59c91_23 ?_
  refine lv_iload_n hx hb dJ7_copyOf_59c91_24 rfl (lv_at hl 2 rfl) ?_
  refine va_mmin hx hb (hml.trans hl.1.symm) hown (hts (.methodLink RJ7 304 Lib.Math.min.name) (List.mem_of_getElem? (i := 8) rfl)) (hts (.static Lib.Math.min.name) (List.mem_of_getElem? (i := 9) rfl)) (hts (.initialized "java/lang/Math") (List.mem_of_getElem? (i := 10) rfl)) (hts (.code Lib.Math.min.name Lib.Math.min.code 2 (some .int)) (List.mem_of_getElem? (i := 11) rfl)) (Nat.le_of_ble_eq_true rfl) (Nat.le_of_ble_eq_true rfl) (Nat.le_of_ble_eq_true rfl) (Nat.le_of_ble_eq_true rfl) dJ7_copyOf_59c91_25 ?_
  refine zt_top (y := nI w) (if_pos (nI_lt (b := 64) hwm (by decide))) ?_
  refine va_copyi hx hb (hml.trans hl.1.symm) hown (hts (.methodLink RJ7 150 arraycopyName) (List.mem_of_getElem? (i := 12) rfl)) (hts (.native arraycopyName) (List.mem_of_getElem? (i := 13) rfl)) (hts (.static arraycopyName) (List.mem_of_getElem? (i := 14) rfl)) (hts (.initialized "java/lang/System") (List.mem_of_getElem? (i := 15) rfl)) hK hP hD hS 0 1 0 0 rfl rfl rfl rfl rfl (by decide) (by decide) (nI_pos (by omega)) (by rw [nI_clamp (by omega), sb_cl0]; omega) (by rw [nI_clamp (by omega), sb_cl0]; omega) (fun _ _ => rfl) (Nat.le_of_ble_eq_true rfl) (Nat.le_of_ble_eq_true rfl) dJ7_copyOf_59c91_28 (fun H locs hP hD hS => ?_)
  rw [nI_clamp (by omega), sb_cl0] at hP hD
  obtain ⟨hP, hD⟩ := z_fn (g := f) hP hD 1 rfl (fun j hj => sb_cpy0 hj)
  have hP : va_P (dC, dI) vwCl [(a0, .inl (cI, 64, .inl f)), (h1, .inl (cI, w, .inl f))] H := hP
  have hD : va_D A [(a0, .inl (cI, 64, .inl f)), (h1, .inl (cI, w, .inl f))] := hD
  refine lv_aload_n hx hb dJ7_copyOf_59c91_31 rfl (lv_at hl 0 rfl) ?_
  exact W.aret (v := .ref h1) hx hb hr (Or.inr ⟨_, rfl⟩) (Or.inr ⟨_, rfl⟩) (fun t9 ht hW => ⟨⟨(), h1, rfl, trivial, by rw [ht]; exact hP, hD⟩, hS.F ht⟩) hS.2.2 dJ7_copyOf_59c91_32

set_option maxHeartbeats 4000000 in
set_option maxRecDepth 100000 in
/-- keepCode(words) -/
theorem k_keepCode (l : Launch) (dC : Nat → ClassId) (dI : Nat → Nat → Nat) (sz : Nat) (cI cC : ClassId) (o a0 a1 a2 : Nat) (tc : Int32) (nc : Nat) (ad : Nat → Option Nat) (h1 n : Nat) (f : Nat → Int32) (hn : n < 2 ^ 30) (hnc : nc < 4) : Met l yX6_keepCode wsX6_keepCode ({ frames := 2, cells := 2, slots := 259, locals := 48 }) (va_Pc [.ref o, .ref h1] (zPcD (dC, dI) [(o, .inr (6, [.ref a0, .int tc, .ref a1, .int (nI nc), .null, .int 40, .int 48, .int 0, .ref a2])), (a1, .inl (cC, 4, .inr (.inr (.inr (.inr ad))))), (h1, .inl (cI, n, .inl f))] [(cI, .int), (cC, (.object RX0))] sz)) (va_Qi (fun (r : Int32) (_ : Nat × Nat) => r = nI nc) (fun u t => va_P (dC, dI) vwCl [(o, .inr (6, [.ref a0, .int tc, .ref a1, .int (nI (nc + 1)), .null, .int 40, .int 48, .int 0, .ref a2])), (a1, .inl (cC, 4, .inr (.inr (.inr (.inr (va_up ad nc (some u.1))))))), (h1, .inl (cI, n, .inl f)), (u.1, .inr (0, [.ref h1, .int (nI (ztr f n)), .ref u.2])), (u.2, .inl (cI, 256, .inl (zpl f n)))] t.heap ∧ va_D (va_A [(o, .inr (6, [.ref a0, .int tc, .ref a1, .int (nI nc), .null, .int 40, .int 48, .int 0, .ref a2])), (a1, .inl (cC, 4, .inr (.inr (.inr (.inr ad))))), (h1, .inl (cI, n, .inl f))] sz) [(o, .inr (6, [.ref a0, .int tc, .ref a1, .int (nI (nc + 1)), .null, .int 40, .int 48, .int 0, .ref a2])), (a1, .inl (cC, 4, .inr (.inr (.inr (.inr (va_up ad nc (some u.1))))))), (h1, .inl (cI, n, .inl f)), (u.1, .inr (0, [.ref h1, .int (nI (ztr f n)), .ref u.2])), (u.2, .inl (cI, 256, .inl (zpl f n)))]) (va_A [(o, .inr (6, [.ref a0, .int tc, .ref a1, .int (nI nc), .null, .int 40, .int 48, .int 0, .ref a2])), (a1, .inl (cC, 4, .inr (.inr (.inr (.inr ad))))), (h1, .inl (cI, n, .inl f))] sz)) 2 259 (va_A [(o, .inr (6, [.ref a0, .int tc, .ref a1, .int (nI nc), .null, .int 40, .int 48, .int 0, .ref a2])), (a1, .inl (cC, 4, .inr (.inr (.inr (.inr ad))))), (h1, .inl (cI, n, .inl f))] sz) := by
  refine Met.ofW (cc := cX6_keepCode) (maxL := 3) (ret := (some .int)) (by decide) rfl ?_
  intro p e s m args below meth c s₁ B hml hv
  obtain ⟨rfl, hsz, hP, hK, hD0⟩ := hv
  have hx := B.exec
  have hb := B.bytes
  have hr := B.returns
  have hts := atoms_spec (ws := wsX6_keepCode) B.pre
  have hown : s.vm.findClass RX6 = some m.cls := findClass_of_methodNamed B.named
  have hlocks := B.notSynchronized
  subst hsz
  have hi6 : ∀ w ∈ u_ws RX6 TX6 9, w ∈ wsX6_keepCode := by decide +kernel
  have hD := hD0.self (sz := s.heap.size)
  generalize hAe : va_A [(o, .inr (6, [.ref a0, .int tc, .ref a1, .int (nI nc), .null, .int 40, .int 48, .int 0, .ref a2])), (a1, .inl (cC, 4, .inr (.inr (.inr (.inr ad))))), (h1, .inl (cI, n, .inl f))] s.heap.size = A at hD ⊢
  have hA : ∀ q : Nat, s.heap.size ≤ q → A q := fun q h => by rw [← hAe]; exact Or.inr h
  have hS : va_S A s.heap s.heap [] := va_S.rf
  have hl := lv_entry ([.ref o, .ref h1]) (n := 3) (Nat.le_of_ble_eq_true rfl)
  rw [lg_entry_eq]
  generalize (lg_sl ([.ref o, .ref h1]) ++ List.replicate (3 - (lg_sl ([.ref o, .ref h1])).length) Slot.unset).toArray = ls at hl ⊢
  have hl : lv_has ls 3 [(0, .ref o), (1, .ref h1)] := hl
  have hi0 : ∀ w ∈ u_ws RX0 TX0 3, w ∈ wsX6_keepCode := by decide +kernel
  refine lv_aload_n hx hb dX6_keepCode_0 rfl (lv_at hl 0 rfl) ?_
  refine va_get (D := (dC, dI)) (ci := 6) (v := .int (nI nc)) (C := RX6) (T := TX6) (N := 9) hx hb hts hi6 hown hK hP 0 rfl rfl 3 (by decide) (hts (.fieldLink RX6 61 "Ringtrack" "codeCount" "I") (List.mem_of_getElem? (i := 1) rfl)) (fun _ h9 => h9) rfl dX6_keepCode_1 ?_
  refine lv_istore_n (lv' := [(2, .int (nI nc)), (0, .ref o), (1, .ref h1)]) hx hb dX6_keepCode_4 rfl hl (by decide) rfl (fun ls hl => ?_)
  refine lv_iload_n hx hb dX6_keepCode_5 rfl (lv_at hl 0 rfl) ?_
  refine lv_aload_n hx hb dX6_keepCode_6 rfl (lv_at hl 1 rfl) ?_
  refine va_get (D := (dC, dI)) (ci := 6) (v := .ref a1) (C := RX6) (T := TX6) (N := 9) hx hb hts hi6 hown hK hP 0 rfl rfl 2 (by decide) (hts (.fieldLink RX6 15 "Ringtrack" "codes" "[LRingtrack$Code;") (List.mem_of_getElem? (i := 2) rfl)) (fun _ h9 => h9) rfl dX6_keepCode_7 ?_
  refine va_alen (v := 4) hx hb hK hP 1 1 rfl rfl rfl dX6_keepCode_10 ?_
  refine lv_icmp_ge (tgt := 38) hx hb dX6_keepCode_11 (by decide) (fun c => absurd c (nI_ge (b := 4) hnc (by decide))) (fun c11 => ?_)
  refine lv_aload_n hx hb dX6_keepCode_14 rfl (lv_at hl 1 rfl) ?_
  refine va_get (D := (dC, dI)) (ci := 6) (v := .ref a1) (C := RX6) (T := TX6) (N := 9) hx hb hts hi6 hown hK hP 0 rfl rfl 2 (by decide) (hts (.fieldLink RX6 15 "Ringtrack" "codes" "[LRingtrack$Code;") (List.mem_of_getElem? (i := 2) rfl)) (fun _ h9 => h9) rfl dX6_keepCode_15 ?_
  refine lv_iload_n hx hb dX6_keepCode_18 rfl (lv_at hl 0 rfl) ?_
  refine va_new (ci := 0) (fs := [.null, .int 0, .null]) (C := RX0) (T := TX0) (N := 3) hx hb hts hi0 tyX0 tyX0_ok hown (hts (.classLink RX6 13 RX0) (List.mem_of_getElem? (i := 3) rfl)) (hts (.instantiable RX0 3) (List.mem_of_getElem? (i := 4) rfl)) (hts (.initialized RX0) (List.mem_of_getElem? (i := 5) rfl)) hK hP hD hS hA rfl (fun j hj => by rcases (show j = 0 ∨ j = 1 ∨ j = 2 by omega) with rfl | rfl | rfl <;> rfl) (Nat.le_of_ble_eq_true rfl) (Nat.le_of_ble_eq_true rfl) dX6_keepCode_19 (fun h0 H hP hD hS => ?_)
  have hP : va_P (dC, dI) vwCl [(o, .inr (6, [.ref a0, .int tc, .ref a1, .int (nI nc), .null, .int 40, .int 48, .int 0, .ref a2])), (a1, .inl (cC, 4, .inr (.inr (.inr (.inr ad))))), (h1, .inl (cI, n, .inl f)), (h0, .inr (0, [.null, .int 0, .null]))] H := hP
  have hD : va_D A [(o, .inr (6, [.ref a0, .int tc, .ref a1, .int (nI nc), .null, .int 40, .int 48, .int 0, .ref a2])), (a1, .inl (cC, 4, .inr (.inr (.inr (.inr ad))))), (h1, .inl (cI, n, .inl f)), (h0, .inr (0, [.null, .int 0, .null]))] := hD
  refine W.widen (k := 1) (n := 3) (by omega) (by omega) ?_
  refine lv_dup hx hb dX6_keepCode_22 rfl ?_
  refine lv_aload_n hx hb dX6_keepCode_23 rfl (lv_at hl 2 rfl) ?_
  have hPc := hP.sub (ws' := [(h0, .inr (0, [.null, .int 0, .null])), (h1, .inl (cI, n, .inl f))]) [3, 2] rfl
  have hDc := hD.sub (ws' := [(h0, .inr (0, [.null, .int 0, .null])), (h1, .inl (cI, n, .inl f))]) [3, 2] (by decide) rfl
  have hKc := hK.sub (tys' := [(cI, .int)]) [0] rfl
  have hFc := va_free (wc := [(h0, .inr (0, [.null, .int 0, .null])), (h1, .inl (cI, n, .inl f))]) hD hS hA [3, 2] rfl
  refine va_callv (va_runI (As := [.ref h1]) (rest := [.ref h0, .int (nI nc), .ref a1]) ⟨hx, hb, hml, hown, hts⟩ (k_Code l dC dI H.size cI h0 h1 n f hn) (cwI 1 hts gX6_keepCode_X0_init rfl rfl rfl (hts (.initialized RX0) (List.mem_of_getElem? (i := 5) rfl)) (hts (.methodLink RX6 384 yX0_init) (List.mem_of_getElem? (i := 6) rfl)) (hts (.instanceMethod yX0_init) (List.mem_of_getElem? (i := 7) rfl)) rfl (by decide +kernel) ⟨Nat.le_of_ble_eq_true rfl, Nat.le_of_ble_eq_true rfl⟩) ⟨zfbD, zpreD hPc hKc hDc⟩ rfl rfl hl.1 rfl (lv_room (Nat.le_of_ble_eq_true rfl)) dX6_keepCode_24 ⟨Nat.le_of_ble_eq_true rfl, Nat.le_of_ble_eq_true rfl⟩) hS (fun q _ h => hFc q h) hFc (fun u9 t9 H1 locs ht hvm hw hB hz1 hk1 hS => ?_)
  try dsimp only at hw
  obtain ⟨h2, eh2⟩ : ∃ z : Nat, z = u9 := ⟨_, rfl⟩
  subst eh2
  obtain ⟨hP1, hD1⟩ := hB
  rw [ht] at hP1
  obtain ⟨hP, hD⟩ := va_join (wr := [(o, .inr (6, [.ref a0, .int tc, .ref a1, .int (nI nc), .null, .int 40, .int 48, .int 0, .ref a2])), (a1, .inl (cC, 4, .inr (.inr (.inr (.inr ad)))))]) (w1 := [(h1, .inl (cI, n, .inl f)), (h0, .inr (0, [.ref h1, .int (nI (ztr f n)), .ref h2])), (h2, .inl (cI, 256, .inl (zpl f n)))]) hP hD [3, 2] [0, 1] rfl rfl (by decide) (by decide) hk1 hFc hP1 hD1
  clear hPc hDc hFc hP1 hD1 hk1 hz1 ht hvm
  have hP : va_P (dC, dI) vwCl [(o, .inr (6, [.ref a0, .int tc, .ref a1, .int (nI nc), .null, .int 40, .int 48, .int 0, .ref a2])), (a1, .inl (cC, 4, .inr (.inr (.inr (.inr ad))))), (h1, .inl (cI, n, .inl f)), (h0, .inr (0, [.ref h1, .int (nI (ztr f n)), .ref h2])), (h2, .inl (cI, 256, .inl (zpl f n)))] H1 := hP
  have hD : va_D A [(o, .inr (6, [.ref a0, .int tc, .ref a1, .int (nI nc), .null, .int 40, .int 48, .int 0, .ref a2])), (a1, .inl (cC, 4, .inr (.inr (.inr (.inr ad))))), (h1, .inl (cI, n, .inl f)), (h0, .inr (0, [.ref h1, .int (nI (ztr f n)), .ref h2])), (h2, .inl (cI, 256, .inl (zpl f n)))] := hD
  refine W.widen (k := 2) (n := 259) (by omega) (by omega) ?_
  refine va_astq hx hb hK hP hD hS 1 1 3 0 rfl rfl rfl rfl (vp_in_nI hnc (by decide)) dX6_keepCode_27 (fun H locs hP hD hS => ?_)
  rw [nI_clamp (by omega)] at hP hD
  have hP : va_P (dC, dI) vwCl [(o, .inr (6, [.ref a0, .int tc, .ref a1, .int (nI nc), .null, .int 40, .int 48, .int 0, .ref a2])), (a1, .inl (cC, 4, .inr (.inr (.inr (.inr (va_up ad nc (some h0))))))), (h1, .inl (cI, n, .inl f)), (h0, .inr (0, [.ref h1, .int (nI (ztr f n)), .ref h2])), (h2, .inl (cI, 256, .inl (zpl f n)))] H := hP
  have hD : va_D A [(o, .inr (6, [.ref a0, .int tc, .ref a1, .int (nI nc), .null, .int 40, .int 48, .int 0, .ref a2])), (a1, .inl (cC, 4, .inr (.inr (.inr (.inr (va_up ad nc (some h0))))))), (h1, .inl (cI, n, .inl f)), (h0, .inr (0, [.ref h1, .int (nI (ztr f n)), .ref h2])), (h2, .inl (cI, 256, .inl (zpl f n)))] := hD
  refine lv_aload_n hx hb dX6_keepCode_28 rfl (lv_at hl 1 rfl) ?_
  refine lv_dup hx hb dX6_keepCode_29 rfl ?_
  refine va_get (D := (dC, dI)) (ci := 6) (v := .int (nI nc)) (C := RX6) (T := TX6) (N := 9) hx hb hts hi6 hown hK hP 0 rfl rfl 3 (by decide) (hts (.fieldLink RX6 61 "Ringtrack" "codeCount" "I") (List.mem_of_getElem? (i := 1) rfl)) (fun _ h9 => h9) rfl dX6_keepCode_30 ?_
  refine lv_iconst (v := 1) hx hb dX6_keepCode_33 (by decide) ?_
  refine lv_iadd hx hb dX6_keepCode_34 ?_
  refine zt_top (y := nI (nc + 1)) (nI_1 nc) ?_
  refine va_put (D := (dC, dI)) (ci := 6) (v := .int (nI (nc + 1))) (ty := .int) (C := RX6) (T := TX6) (N := 9) hx hb hts hi6 tyX6 tyX6_ok nmX6 hown hK hP hD hS 0 rfl rfl 3 (by decide) (hts (.fieldLink RX6 61 "Ringtrack" "codeCount" "I") (List.mem_of_getElem? (i := 1) rfl)) (fun _ h9 => h9) rfl (by decide +kernel) rfl rfl (Nat.le_of_ble_eq_true rfl) dX6_keepCode_35 (fun H locs hP hD hS => ?_)
  have hP : va_P (dC, dI) vwCl [(o, .inr (6, [.ref a0, .int tc, .ref a1, .int (nI (nc + 1)), .null, .int 40, .int 48, .int 0, .ref a2])), (a1, .inl (cC, 4, .inr (.inr (.inr (.inr (va_up ad nc (some h0))))))), (h1, .inl (cI, n, .inl f)), (h0, .inr (0, [.ref h1, .int (nI (ztr f n)), .ref h2])), (h2, .inl (cI, 256, .inl (zpl f n)))] H := hP
  have hD : va_D A [(o, .inr (6, [.ref a0, .int tc, .ref a1, .int (nI (nc + 1)), .null, .int 40, .int 48, .int 0, .ref a2])), (a1, .inl (cC, 4, .inr (.inr (.inr (.inr (va_up ad nc (some h0))))))), (h1, .inl (cI, n, .inl f)), (h0, .inr (0, [.ref h1, .int (nI (ztr f n)), .ref h2])), (h2, .inl (cI, 256, .inl (zpl f n)))] := hD
  refine lv_iload_n hx hb dX6_keepCode_38 rfl (lv_at hl 0 rfl) ?_
  exact W.iret (v := (nI nc)) hx hb hr (fun t9 ht hW => ⟨⟨_, (h0, h2), rfl, rfl, by rw [ht]; exact hP.sub [0, 1, 2, 3, 4] rfl, hD.sub [0, 1, 2, 3, 4] (by decide) rfl⟩, hS.F ht⟩) hS.2.2 dX6_keepCode_39

set_option maxHeartbeats 4000000 in
set_option maxRecDepth 100000 in
/-- ring() of a ring -/
theorem k_ring (l : Launch) (dC : Nat → ClassId) (dI : Nat → Nat → Nat) (sz : Nat) (cI cC : ClassId) (o a0 a1 a2 : Nat) (w nc : Nat) (ad : Nat → Option Nat) (f : Nat → Int32) (hwm : w < 64) (hrg : ztg f w = true) (hnc : nc < 4) : Met l yX6_ring wsX6_ring ({ frames := 3, cells := 3, slots := 323, locals := 82 }) (va_Pc [.ref o] (zPcD (dC, dI) [(o, .inr (6, [.ref a0, .int (nI w), .ref a1, .int (nI nc), .null, .int 40, .int 48, .int 0, .ref a2])), (a0, .inl (cI, 64, .inl f)), (a1, .inl (cC, 4, .inr (.inr (.inr (.inr ad)))))] [(cI, .int), (cC, (.object RX0))] sz)) (va_Qi (fun (r : Int32) (_ : Nat × Nat × Nat) => r = nI nc) (fun u t => va_P (dC, dI) vwCl [(o, .inr (6, [.ref a0, .int (nI 0), .ref a1, .int (nI (nc + 1)), .null, .int 40, .int 48, .int 0, .ref a2])), (a0, .inl (cI, 64, .inl f)), (a1, .inl (cC, 4, .inr (.inr (.inr (.inr (va_up ad nc (some u.2.1))))))), (u.1, .inl (cI, w, .inl f)), (u.2.1, .inr (0, [.ref u.1, .int (nI (ztr f w)), .ref u.2.2])), (u.2.2, .inl (cI, 256, .inl (zpl f w)))] t.heap ∧ va_D (va_A [(o, .inr (6, [.ref a0, .int (nI w), .ref a1, .int (nI nc), .null, .int 40, .int 48, .int 0, .ref a2])), (a0, .inl (cI, 64, .inl f)), (a1, .inl (cC, 4, .inr (.inr (.inr (.inr ad)))))] sz) [(o, .inr (6, [.ref a0, .int (nI 0), .ref a1, .int (nI (nc + 1)), .null, .int 40, .int 48, .int 0, .ref a2])), (a0, .inl (cI, 64, .inl f)), (a1, .inl (cC, 4, .inr (.inr (.inr (.inr (va_up ad nc (some u.2.1))))))), (u.1, .inl (cI, w, .inl f)), (u.2.1, .inr (0, [.ref u.1, .int (nI (ztr f w)), .ref u.2.2])), (u.2.2, .inl (cI, 256, .inl (zpl f w)))]) (va_A [(o, .inr (6, [.ref a0, .int (nI w), .ref a1, .int (nI nc), .null, .int 40, .int 48, .int 0, .ref a2])), (a0, .inl (cI, 64, .inl f)), (a1, .inl (cC, 4, .inr (.inr (.inr (.inr ad)))))] sz)) 3 323 (va_A [(o, .inr (6, [.ref a0, .int (nI w), .ref a1, .int (nI nc), .null, .int 40, .int 48, .int 0, .ref a2])), (a0, .inl (cI, 64, .inl f)), (a1, .inl (cC, 4, .inr (.inr (.inr (.inr ad)))))] sz) := by
  refine Met.ofW (cc := cX6_ring) (maxL := 2) (ret := (some .int)) (by decide) rfl ?_
  intro p e s m args below meth c s₁ B hml hv
  obtain ⟨rfl, hsz, hP, hK, hD0⟩ := hv
  have hx := B.exec
  have hb := B.bytes
  have hr := B.returns
  have hts := atoms_spec (ws := wsX6_ring) B.pre
  have hown : s.vm.findClass RX6 = some m.cls := findClass_of_methodNamed B.named
  have hlocks := B.notSynchronized
  subst hsz
  have hi6 : ∀ w ∈ u_ws RX6 TX6 9, w ∈ wsX6_ring := by decide +kernel
  have hD := hD0.self (sz := s.heap.size)
  generalize hAe : va_A [(o, .inr (6, [.ref a0, .int (nI w), .ref a1, .int (nI nc), .null, .int 40, .int 48, .int 0, .ref a2])), (a0, .inl (cI, 64, .inl f)), (a1, .inl (cC, 4, .inr (.inr (.inr (.inr ad)))))] s.heap.size = A at hD ⊢
  have hA : ∀ q : Nat, s.heap.size ≤ q → A q := fun q h => by rw [← hAe]; exact Or.inr h
  have hS : va_S A s.heap s.heap [] := va_S.rf
  have hl := lv_entry ([.ref o]) (n := 2) (Nat.le_of_ble_eq_true rfl)
  rw [lg_entry_eq]
  generalize (lg_sl ([.ref o]) ++ List.replicate (2 - (lg_sl ([.ref o])).length) Slot.unset).toArray = ls at hl ⊢
  have hl : lv_has ls 2 [(0, .ref o)] := hl
  refine lv_aload_n hx hb dX6_ring_0 rfl (lv_at hl 0 rfl) ?_
  refine va_calli (va_runV (As := []) (rest := []) ⟨hx, hb, hml, hown, hts⟩ (k_typedIsRing l dC dI s.heap.size cI cC o a0 a1 a2 w nc f (by omega)) (cwV 0 hts gX6_ring_X6_typedIsRing rfl rfl rfl (by decide +kernel) ⟨Nat.le_of_ble_eq_true rfl, Nat.le_of_ble_eq_true rfl⟩) ⟨zfb, va_recv hK hP (ci := 6) (q0 := 0) rfl rfl, zpre (hP.sub (ws' := [(o, .inr (6, [.ref a0, .int (nI w), .ref a1, .int (nI nc), .null, .int 40, .int 48, .int 0, .ref a2])), (a0, .inl (cI, 64, .inl f))]) [0, 1] rfl) (hK.sub (tys' := [(cI, .int), (cC, (.object RX0))]) [0, 1] rfl)⟩ rfl rfl hl.1 rfl (lv_room (Nat.le_of_ble_eq_true rfl)) dX6_ring_1 ⟨Nat.le_of_ble_eq_true rfl, Nat.le_of_ble_eq_true rfl⟩) hS (fun q h1 h2 => absurd h2 (Nat.not_le.mpr h1)) (fun q h => hA q (Nat.le_trans hS.1 h)) (fun r9 u9 t9 H1 locs ht hvm hw hB hz1 hk1 hS => ?_)
  have hw : r9 = zb (ztg f w) := hw
  subst hw
  have hP := zr_keep hP hk1
  clear hk1 hz1 hB ht hvm hw
  refine zt_top (y := 1) (by rw [hrg]; rfl) ?_
  refine lv_if_ne (tgt := 17) hx hb dX6_ring_4 (by decide) (fun c4 => ?_) (fun c => absurd c (by decide))
  refine lv_aload_n hx hb dX6_ring_17 rfl (lv_at hl 0 rfl) ?_
  refine va_get (D := (dC, dI)) (ci := 6) (v := .int (nI nc)) (C := RX6) (T := TX6) (N := 9) hx hb hts hi6 hown hK hP 0 rfl rfl 3 (by decide) (hts (.fieldLink RX6 61 "Ringtrack" "codeCount" "I") (List.mem_of_getElem? (i := 5) rfl)) (fun _ h9 => h9) rfl dX6_ring_18 ?_
  refine lv_aload_n hx hb dX6_ring_21 rfl (lv_at hl 0 rfl) ?_
  refine va_get (D := (dC, dI)) (ci := 6) (v := .ref a1) (C := RX6) (T := TX6) (N := 9) hx hb hts hi6 hown hK hP 0 rfl rfl 2 (by decide) (hts (.fieldLink RX6 15 "Ringtrack" "codes" "[LRingtrack$Code;") (List.mem_of_getElem? (i := 6) rfl)) (fun _ h9 => h9) rfl dX6_ring_22 ?_
  refine va_alen (v := 4) hx hb hK hP 2 1 rfl rfl rfl dX6_ring_25 ?_
  refine lv_icmp_lt (tgt := 39) hx hb dX6_ring_26 (by decide) (fun c26 => ?_) (fun c => absurd (nI_lt (b := 4) hnc (by decide)) c)
  refine lv_aload_n hx hb dX6_ring_39 rfl (lv_at hl 0 rfl) ?_
  refine va_get (D := (dC, dI)) (ci := 6) (v := .ref a0) (C := RX6) (T := TX6) (N := 9) hx hb hts hi6 hown hK hP 0 rfl rfl 0 (by decide) (hts (.fieldLink RX6 9 "Ringtrack" "typed" "[I") (List.mem_of_getElem? (i := 7) rfl)) (fun _ h9 => h9) rfl dX6_ring_40 ?_
  refine lv_aload_n hx hb dX6_ring_43 rfl (lv_at hl 0 rfl) ?_
  refine va_get (D := (dC, dI)) (ci := 6) (v := .int (nI w)) (C := RX6) (T := TX6) (N := 9) hx hb hts hi6 hown hK hP 0 rfl rfl 1 (by decide) (hts (.fieldLink RX6 44 "Ringtrack" "typedCount" "I") (List.mem_of_getElem? (i := 8) rfl)) (fun _ h9 => h9) rfl dX6_ring_44 ?_
  have hPc := hP.sub (ws' := [(a0, .inl (cI, 64, .inl f))]) [1] rfl
  have hDc := hD.sub (ws' := [(a0, .inl (cI, 64, .inl f))]) [1] (by decide) rfl
  have hKc := hK.sub (tys' := [(cI, .int)]) [0] rfl
  have hFc := va_free (wc := [(a0, .inl (cI, 64, .inl f))]) hD hS hA [1] rfl
  refine va_callr (va_runS (As := [.ref a0, .int (nI w)]) (rest := []) ⟨hx, hb, hml, hown, hts⟩ (k_copyOf l dC dI H1.size cI a0 w f hwm) (va_cwS 2 hts gX6_ring_J7_copyOf_59c91 rfl rfl rfl (by decide +kernel) ⟨Nat.le_of_ble_eq_true rfl, Nat.le_of_ble_eq_true rfl⟩) ⟨zfbD, zpreD hPc hKc hDc⟩ rfl rfl hl.1 rfl (lv_room (Nat.le_of_ble_eq_true rfl)) dX6_ring_47 ⟨Nat.le_of_ble_eq_true rfl, Nat.le_of_ble_eq_true rfl⟩) hS (fun q _ h => hFc q h) hFc (fun u9 h1 t9 H1 locs ht hvm hw hB hz1 hk1 hS => ?_)
  try dsimp only at hw
  obtain ⟨hP1, hD1⟩ := hB
  rw [ht] at hP1
  obtain ⟨hP, hD⟩ := va_join (wr := [(o, .inr (6, [.ref a0, .int (nI w), .ref a1, .int (nI nc), .null, .int 40, .int 48, .int 0, .ref a2])), (a1, .inl (cC, 4, .inr (.inr (.inr (.inr ad)))))]) (w1 := [(a0, .inl (cI, 64, .inl f)), (h1, .inl (cI, w, .inl f))]) hP hD [1] [0, 2] rfl rfl (by decide) (by decide) hk1 hFc hP1 hD1
  clear hPc hDc hFc hP1 hD1 hk1 hz1 ht hvm
  have hP : va_P (dC, dI) vwCl [(o, .inr (6, [.ref a0, .int (nI w), .ref a1, .int (nI nc), .null, .int 40, .int 48, .int 0, .ref a2])), (a1, .inl (cC, 4, .inr (.inr (.inr (.inr ad))))), (a0, .inl (cI, 64, .inl f)), (h1, .inl (cI, w, .inl f))] H1 := hP
  have hD : va_D A [(o, .inr (6, [.ref a0, .int (nI w), .ref a1, .int (nI nc), .null, .int 40, .int 48, .int 0, .ref a2])), (a1, .inl (cC, 4, .inr (.inr (.inr (.inr ad))))), (a0, .inl (cI, 64, .inl f)), (h1, .inl (cI, w, .inl f))] := hD
  refine W.widen (k := 1) (n := 64) (by omega) (by omega) ?_
  refine lv_astore_n (lv' := [(1, .ref h1), (0, .ref o)]) hx hb dX6_ring_50 rfl hl (by decide) rfl (fun ls hl => ?_)
  refine lv_aload_n hx hb dX6_ring_51 rfl (lv_at hl 1 rfl) ?_
  refine lv_iconst (v := 0) hx hb dX6_ring_52 (by decide) ?_
  refine zt_top (y := nI 0) (nI_0.symm) ?_
  refine va_put (D := (dC, dI)) (ci := 6) (v := .int (nI 0)) (ty := .int) (C := RX6) (T := TX6) (N := 9) hx hb hts hi6 tyX6 tyX6_ok nmX6 hown hK hP hD hS 0 rfl rfl 1 (by decide) (hts (.fieldLink RX6 44 "Ringtrack" "typedCount" "I") (List.mem_of_getElem? (i := 8) rfl)) (fun _ h9 => h9) rfl (by decide +kernel) rfl rfl (Nat.le_of_ble_eq_true rfl) dX6_ring_53 (fun H locs hP hD hS => ?_)
  have hP : va_P (dC, dI) vwCl [(o, .inr (6, [.ref a0, .int (nI 0), .ref a1, .int (nI nc), .null, .int 40, .int 48, .int 0, .ref a2])), (a1, .inl (cC, 4, .inr (.inr (.inr (.inr ad))))), (a0, .inl (cI, 64, .inl f)), (h1, .inl (cI, w, .inl f))] H := hP
  have hD : va_D A [(o, .inr (6, [.ref a0, .int (nI 0), .ref a1, .int (nI nc), .null, .int 40, .int 48, .int 0, .ref a2])), (a1, .inl (cC, 4, .inr (.inr (.inr (.inr ad))))), (a0, .inl (cI, 64, .inl f)), (h1, .inl (cI, w, .inl f))] := hD
  refine lv_aload_n hx hb dX6_ring_56 rfl (lv_at hl 1 rfl) ?_
  refine lv_aload_n hx hb dX6_ring_57 rfl (lv_at hl 0 rfl) ?_
  have hPc := hP.sub (ws' := [(o, .inr (6, [.ref a0, .int (nI 0), .ref a1, .int (nI nc), .null, .int 40, .int 48, .int 0, .ref a2])), (a1, .inl (cC, 4, .inr (.inr (.inr (.inr ad))))), (h1, .inl (cI, w, .inl f))]) [0, 1, 3] rfl
  have hDc := hD.sub (ws' := [(o, .inr (6, [.ref a0, .int (nI 0), .ref a1, .int (nI nc), .null, .int 40, .int 48, .int 0, .ref a2])), (a1, .inl (cC, 4, .inr (.inr (.inr (.inr ad))))), (h1, .inl (cI, w, .inl f))]) [0, 1, 3] (by decide) rfl
  have hKc := hK.sub (tys' := [(cI, .int), (cC, (.object RX0))]) [0, 1] rfl
  have hFc := va_free (wc := [(o, .inr (6, [.ref a0, .int (nI 0), .ref a1, .int (nI nc), .null, .int 40, .int 48, .int 0, .ref a2])), (a1, .inl (cC, 4, .inr (.inr (.inr (.inr ad))))), (h1, .inl (cI, w, .inl f))]) hD hS hA [0, 1, 3] rfl
  refine va_calli (va_runV (As := [.ref h1]) (rest := []) ⟨hx, hb, hml, hown, hts⟩ (k_keepCode l dC dI H.size cI cC o a0 a1 a2 (nI 0) nc ad h1 w f (by omega) hnc) (cwV 1 hts gX6_ring_X6_keepCode rfl rfl rfl (by decide +kernel) ⟨Nat.le_of_ble_eq_true rfl, Nat.le_of_ble_eq_true rfl⟩) ⟨zfbD, va_recv hK hP (ci := 6) (q0 := 0) rfl rfl, zpreD hPc hKc hDc⟩ rfl rfl hl.1 rfl (lv_room (Nat.le_of_ble_eq_true rfl)) dX6_ring_58 ⟨Nat.le_of_ble_eq_true rfl, Nat.le_of_ble_eq_true rfl⟩) hS (fun q _ h => hFc q h) hFc (fun r9 u9 t9 H1 locs ht hvm hw hB hz1 hk1 hS => ?_)
  try dsimp only at hw
  obtain ⟨h0, h2⟩ := u9
  have hw : r9 = nI nc := hw
  subst hw
  obtain ⟨hP1, hD1⟩ := hB
  rw [ht] at hP1
  obtain ⟨hP, hD⟩ := va_join (wr := [(a0, .inl (cI, 64, .inl f))]) (w1 := [(o, .inr (6, [.ref a0, .int (nI 0), .ref a1, .int (nI (nc + 1)), .null, .int 40, .int 48, .int 0, .ref a2])), (a1, .inl (cC, 4, .inr (.inr (.inr (.inr (va_up ad nc (some h0))))))), (h1, .inl (cI, w, .inl f)), (h0, .inr (0, [.ref h1, .int (nI (ztr f w)), .ref h2])), (h2, .inl (cI, 256, .inl (zpl f w)))]) hP hD [0, 1, 3] [2] rfl rfl (by decide) (by decide) hk1 hFc hP1 hD1
  clear hPc hDc hFc hP1 hD1 hk1 hz1 ht hvm
  have hP : va_P (dC, dI) vwCl [(a0, .inl (cI, 64, .inl f)), (o, .inr (6, [.ref a0, .int (nI 0), .ref a1, .int (nI (nc + 1)), .null, .int 40, .int 48, .int 0, .ref a2])), (a1, .inl (cC, 4, .inr (.inr (.inr (.inr (va_up ad nc (some h0))))))), (h1, .inl (cI, w, .inl f)), (h0, .inr (0, [.ref h1, .int (nI (ztr f w)), .ref h2])), (h2, .inl (cI, 256, .inl (zpl f w)))] H1 := hP
  have hD : va_D A [(a0, .inl (cI, 64, .inl f)), (o, .inr (6, [.ref a0, .int (nI 0), .ref a1, .int (nI (nc + 1)), .null, .int 40, .int 48, .int 0, .ref a2])), (a1, .inl (cC, 4, .inr (.inr (.inr (.inr (va_up ad nc (some h0))))))), (h1, .inl (cI, w, .inl f)), (h0, .inr (0, [.ref h1, .int (nI (ztr f w)), .ref h2])), (h2, .inl (cI, 256, .inl (zpl f w)))] := hD
  refine W.widen (k := 3) (n := 323) (by omega) (by omega) ?_
  exact W.iret (v := (nI nc)) hx hb hr (fun t9 ht hW => ⟨⟨_, (h1, h0, h2), rfl, rfl, by rw [ht]; exact hP.sub [1, 0, 2, 3, 4, 5] rfl, hD.sub [1, 0, 2, 3, 4, 5] (by decide) rfl⟩, hS.F ht⟩) hS.2.2 dX6_ring_61

set_option maxHeartbeats 4000000 in
set_option maxRecDepth 100000 in
/-- reflected(b) -/
theorem k_reflected (l : Launch) (dC : Nat → ClassId) (dI : Nat → Nat → Nat) (sz : Nat) (cI cC : ClassId) (o a0 a1 a2 : Nat) (tc : Int32) (nc : Nat) (ad : Nat → Option Nat) (b n : Nat) (hb2 : 2 ≤ b) (hb5 : b ≤ 5) (hnb : n = 2 ^ b) (hnc : nc < 4) : Met l yX6_reflected wsX6_reflected ({ frames := 3, cells := 3, slots := 291, locals := 80 }) (va_Pc [.ref o, .int (nI b)] (zPcD (dC, dI) [(o, .inr (6, [.ref a0, .int tc, .ref a1, .int (nI nc), .null, .int 40, .int 48, .int 0, .ref a2])), (a1, .inl (cC, 4, .inr (.inr (.inr (.inr ad)))))] [(cI, .int), (cC, (.object RX0))] sz)) (va_Qi (fun (r : Int32) (_ : Nat × Nat × Nat) => r = nI nc) (fun u t => va_P (dC, dI) vwCl [(o, .inr (6, [.ref a0, .int tc, .ref a1, .int (nI (nc + 1)), .null, .int 40, .int 48, .int 0, .ref a2])), (a1, .inl (cC, 4, .inr (.inr (.inr (.inr (va_up ad nc (some u.2.1))))))), (u.1, .inl (cI, n, .inl zrf)), (u.2.1, .inr (0, [.ref u.1, .int (nI (ztr zrf n)), .ref u.2.2])), (u.2.2, .inl (cI, 256, .inl (zpl zrf n)))] t.heap ∧ va_D (va_A [(o, .inr (6, [.ref a0, .int tc, .ref a1, .int (nI nc), .null, .int 40, .int 48, .int 0, .ref a2])), (a1, .inl (cC, 4, .inr (.inr (.inr (.inr ad)))))] sz) [(o, .inr (6, [.ref a0, .int tc, .ref a1, .int (nI (nc + 1)), .null, .int 40, .int 48, .int 0, .ref a2])), (a1, .inl (cC, 4, .inr (.inr (.inr (.inr (va_up ad nc (some u.2.1))))))), (u.1, .inl (cI, n, .inl zrf)), (u.2.1, .inr (0, [.ref u.1, .int (nI (ztr zrf n)), .ref u.2.2])), (u.2.2, .inl (cI, 256, .inl (zpl zrf n)))]) (va_A [(o, .inr (6, [.ref a0, .int tc, .ref a1, .int (nI nc), .null, .int 40, .int 48, .int 0, .ref a2])), (a1, .inl (cC, 4, .inr (.inr (.inr (.inr ad)))))] sz)) 3 291 (va_A [(o, .inr (6, [.ref a0, .int tc, .ref a1, .int (nI nc), .null, .int 40, .int 48, .int 0, .ref a2])), (a1, .inl (cC, 4, .inr (.inr (.inr (.inr ad)))))] sz) := by
  refine Met.ofW (cc := cX6_reflected) (maxL := 4) (ret := (some .int)) (by decide) rfl ?_
  intro p e s m args below meth c s₁ B hml hv
  obtain ⟨rfl, hsz, hP, hK, hD0⟩ := hv
  have hx := B.exec
  have hb := B.bytes
  have hr := B.returns
  have hts := atoms_spec (ws := wsX6_reflected) B.pre
  have hown : s.vm.findClass RX6 = some m.cls := findClass_of_methodNamed B.named
  have hlocks := B.notSynchronized
  subst hsz
  have hi6 : ∀ w ∈ u_ws RX6 TX6 9, w ∈ wsX6_reflected := by decide +kernel
  have hD := hD0.self (sz := s.heap.size)
  generalize hAe : va_A [(o, .inr (6, [.ref a0, .int tc, .ref a1, .int (nI nc), .null, .int 40, .int 48, .int 0, .ref a2])), (a1, .inl (cC, 4, .inr (.inr (.inr (.inr ad)))))] s.heap.size = A at hD ⊢
  have hA : ∀ q : Nat, s.heap.size ≤ q → A q := fun q h => by rw [← hAe]; exact Or.inr h
  have hS : va_S A s.heap s.heap [] := va_S.rf
  have hl := lv_entry ([.ref o, .int (nI b)]) (n := 4) (Nat.le_of_ble_eq_true rfl)
  rw [lg_entry_eq]
  generalize (lg_sl ([.ref o, .int (nI b)]) ++ List.replicate (4 - (lg_sl ([.ref o, .int (nI b)])).length) Slot.unset).toArray = ls at hl ⊢
  have hl : lv_has ls 4 [(0, .ref o), (1, .int (nI b))] := hl
  have hbb : b = 2 ∨ b = 3 ∨ b = 4 ∨ b = 5 := by omega
  have hn32 : n ≤ 32 := by rw [hnb]; rcases hbb with rfl | rfl | rfl | rfl <;> decide
  refine lv_iload_n hx hb dX6_reflected_0 rfl (lv_at hl 1 rfl) ?_
  refine lv_iconst (v := 2) hx hb dX6_reflected_1 (by decide) ?_
  refine lv_bipush (v := 6) hx hb dX6_reflected_2 (by decide) ?_
  refine va_calli (va_runS (As := [.int (nI b), .int 2, .int 6]) (rest := []) ⟨hx, hb, hml, hown, hts⟩ (k_isWithin l dC dI s.heap.size (nI b) 2 6) (va_cwS 3 hts gX6_reflected_X6_isWithin rfl rfl rfl (by decide +kernel) ⟨Nat.le_of_ble_eq_true rfl, Nat.le_of_ble_eq_true rfl⟩) ⟨zfb, zpre (hP.sub (ws' := []) [] rfl) (hK.sub (tys' := []) [] rfl)⟩ rfl rfl hl.1 rfl (lv_room (Nat.le_of_ble_eq_true rfl)) dX6_reflected_4 ⟨Nat.le_of_ble_eq_true rfl, Nat.le_of_ble_eq_true rfl⟩) hS (fun q h1 h2 => absurd h2 (Nat.not_le.mpr h1)) (fun q h => hA q (Nat.le_trans hS.1 h)) (fun r9 u9 t9 H1 locs ht hvm hw hB hz1 hk1 hS => ?_)
  have hw : r9 = zb (decide ((2 : Int32) ≤ nI b) && decide (nI b ≤ 6)) := hw
  subst hw
  have hP := zr_keep hP hk1
  clear hk1 hz1 hB ht hvm hw
  refine zt_top (y := 1) (by rcases hbb with rfl | rfl | rfl | rfl <;> decide) ?_
  refine lv_if_ne (tgt := 20) hx hb dX6_reflected_7 (by decide) (fun c7 => ?_) (fun c => absurd c (by decide))
  refine lv_aload_n hx hb dX6_reflected_20 rfl (lv_at hl 0 rfl) ?_
  refine va_get (D := (dC, dI)) (ci := 6) (v := .int (nI nc)) (C := RX6) (T := TX6) (N := 9) hx hb hts hi6 hown hK hP 0 rfl rfl 3 (by decide) (hts (.fieldLink RX6 61 "Ringtrack" "codeCount" "I") (List.mem_of_getElem? (i := 5) rfl)) (fun _ h9 => h9) rfl dX6_reflected_21 ?_
  refine lv_aload_n hx hb dX6_reflected_24 rfl (lv_at hl 0 rfl) ?_
  refine va_get (D := (dC, dI)) (ci := 6) (v := .ref a1) (C := RX6) (T := TX6) (N := 9) hx hb hts hi6 hown hK hP 0 rfl rfl 2 (by decide) (hts (.fieldLink RX6 15 "Ringtrack" "codes" "[LRingtrack$Code;") (List.mem_of_getElem? (i := 6) rfl)) (fun _ h9 => h9) rfl dX6_reflected_25 ?_
  refine va_alen (v := 4) hx hb hK hP 1 1 rfl rfl rfl dX6_reflected_28 ?_
  refine lv_icmp_lt (tgt := 42) hx hb dX6_reflected_29 (by decide) (fun c29 => ?_) (fun c => absurd (nI_lt (b := 4) hnc (by decide)) c)
  refine lv_iconst (v := 1) hx hb dX6_reflected_42 (by decide) ?_
  refine lv_iload_n hx hb dX6_reflected_43 rfl (lv_at hl 1 rfl) ?_
  refine lv_ishl hx hb dX6_reflected_44 ?_
  refine zt_top (y := nI n) (by rw [hnb]; rcases hbb with rfl | rfl | rfl | rfl <;> decide) ?_
  refine va_newa (atype := .int) (ty := .int) (N' := n) (a0 := (n, .inl (fun _ => 0))) hx hb (hts (.arrayClass .int) (List.mem_of_getElem? (i := 7) rfl)) rfl hK hP hD hS hA (fun _ => rfl) (nI_pos (by omega)) (nI_clamp (by omega)) (by show n * 4 ≤ 536870912; omega) (Nat.le_of_ble_eq_true rfl) (by show 0 + n ≤ 291; omega) dX6_reflected_45 (fun h1 cA H hK hP hD hS => ?_)
  obtain rfl := zI_one hK (i := 0) (j := 2) rfl rfl
  have hK := hK.sub (tys' := [(cI, .int), (cC, (.object RX0))]) [0, 1] rfl
  have hP : va_P (dC, dI) vwCl [(o, .inr (6, [.ref a0, .int tc, .ref a1, .int (nI nc), .null, .int 40, .int 48, .int 0, .ref a2])), (a1, .inl (cC, 4, .inr (.inr (.inr (.inr ad))))), (h1, .inl (cI, n, .inl (fun _ => 0)))] H := hP
  have hD : va_D A [(o, .inr (6, [.ref a0, .int tc, .ref a1, .int (nI nc), .null, .int 40, .int 48, .int 0, .ref a2])), (a1, .inl (cC, 4, .inr (.inr (.inr (.inr ad))))), (h1, .inl (cI, n, .inl (fun _ => 0)))] := hD
  refine W.widen (k := 1) (n := 32) (by omega) (by omega) ?_
  refine lv_astore_n (lv' := [(2, .ref h1), (0, .ref o), (1, .int (nI b))]) hx hb dX6_reflected_47 rfl hl (by decide) rfl (fun ls hl => ?_)
  refine lv_iconst (v := 0) hx hb dX6_reflected_48 (by decide) ?_
  refine lv_istore_n (lv' := [(3, .int 0), (2, .ref h1), (0, .ref o), (1, .int (nI b))]) hx hb dX6_reflected_49 rfl hl (by decide) rfl (fun ls hl => ?_)
  rw [← zrw_0] at hP hD
  have hP : va_P (dC, dI) vwCl [(o, .inr (6, [.ref a0, .int tc, .ref a1, .int (nI nc), .null, .int 40, .int 48, .int 0, .ref a2])), (a1, .inl (cC, 4, .inr (.inr (.inr (.inr ad))))), (h1, .inl (cI, n, .inl (zrw 0)))] H := hP
  have hD : va_D A [(o, .inr (6, [.ref a0, .int tc, .ref a1, .int (nI nc), .null, .int 40, .int 48, .int 0, .ref a2])), (a1, .inl (cC, 4, .inr (.inr (.inr (.inr ad))))), (h1, .inl (cI, n, .inl (zrw 0)))] := hD
  have loop : ∀ (d : Nat) (k : Nat), n + 1 ≤ k + d → k ≤ n → ∀ (H : Heap) (locs : List Loc), va_P (dC, dI) vwCl [(o, .inr (6, [.ref a0, .int tc, .ref a1, .int (nI nc), .null, .int 40, .int 48, .int 0, .ref a2])), (a1, .inl (cC, 4, .inr (.inr (.inr (.inr ad))))), (h1, .inl (cI, n, .inl (zrw k)))] H → va_D A [(o, .inr (6, [.ref a0, .int tc, .ref a1, .int (nI nc), .null, .int 40, .int 48, .int 0, .ref a2])), (a1, .inl (cC, 4, .inr (.inr (.inr (.inr ad))))), (h1, .inl (cI, n, .inl (zrw k)))] → va_S A s.heap H locs → ∀ ls : Array Slot, lv_has ls 4 [(0, .ref o), (1, .int (nI b)), (2, .ref h1), (3, .int (nI k))] → W p l e (headSpec wsX6_reflected ({ frames := 3, cells := 3, slots := 291, locals := 80 })).room s m ([.ref o, .int (nI b)] : List Value).toArray below meth c H locs 1 32 (MQ below (va_Qi (fun (r : Int32) (_ : Nat × Nat × Nat) => r = nI nc) (fun u t => va_P (dC, dI) vwCl [(o, .inr (6, [.ref a0, .int tc, .ref a1, .int (nI (nc + 1)), .null, .int 40, .int 48, .int 0, .ref a2])), (a1, .inl (cC, 4, .inr (.inr (.inr (.inr (va_up ad nc (some u.2.1))))))), (u.1, .inl (cI, n, .inl zrf)), (u.2.1, .inr (0, [.ref u.1, .int (nI (ztr zrf n)), .ref u.2.2])), (u.2.2, .inl (cI, 256, .inl (zpl zrf n)))] t.heap ∧ va_D A [(o, .inr (6, [.ref a0, .int tc, .ref a1, .int (nI (nc + 1)), .null, .int 40, .int 48, .int 0, .ref a2])), (a1, .inl (cC, 4, .inr (.inr (.inr (.inr (va_up ad nc (some u.2.1))))))), (u.1, .inl (cI, n, .inl zrf)), (u.2.1, .inr (0, [.ref u.1, .int (nI (ztr zrf n)), .ref u.2.2])), (u.2.2, .inl (cI, 256, .inl (zpl zrf n)))]) A) ([.ref o, .int (nI b)] : List Value).toArray s 3 291 A) (F0 m 50 ls []) := by
    intro d
    induction d with
    | zero => intro k hd hk; exact absurd hd (by omega)
    | succ d ih =>
      intro k hd hk H locs hP hD hS ls hl
      refine lv_iload_n hx hb dX6_reflected_50 rfl (lv_at hl 3 rfl) ?_
      refine lv_aload_n hx hb dX6_reflected_51 rfl (lv_at hl 2 rfl) ?_
      refine va_alen (v := (nI n)) hx hb hK hP 2 0 rfl rfl rfl dX6_reflected_52 ?_
      refine lv_icmp_ge (tgt := 70) hx hb dX6_reflected_53 (by decide) (fun c53 => ?_) (fun c53 => ?_)
      · skip
        have hkn : k = n := Nat.le_antisymm hk ((nI_leI (by omega) (by omega)).mp c53)
        rw [hkn] at hP hD
        obtain ⟨hP, hD⟩ := z_fn (g := zrf) hP hD 2 rfl (fun j hj => zrw_in hj)
        have hP : va_P (dC, dI) vwCl [(o, .inr (6, [.ref a0, .int tc, .ref a1, .int (nI nc), .null, .int 40, .int 48, .int 0, .ref a2])), (a1, .inl (cC, 4, .inr (.inr (.inr (.inr ad))))), (h1, .inl (cI, n, .inl zrf))] H := hP
        have hD : va_D A [(o, .inr (6, [.ref a0, .int tc, .ref a1, .int (nI nc), .null, .int 40, .int 48, .int 0, .ref a2])), (a1, .inl (cC, 4, .inr (.inr (.inr (.inr ad))))), (h1, .inl (cI, n, .inl zrf))] := hD
        refine lv_aload_n hx hb dX6_reflected_70 rfl (lv_at hl 0 rfl) ?_
        refine lv_aload_n hx hb dX6_reflected_71 rfl (lv_at hl 2 rfl) ?_
        have hPc := hP.sub (ws' := [(o, .inr (6, [.ref a0, .int tc, .ref a1, .int (nI nc), .null, .int 40, .int 48, .int 0, .ref a2])), (a1, .inl (cC, 4, .inr (.inr (.inr (.inr ad))))), (h1, .inl (cI, n, .inl zrf))]) [0, 1, 2] rfl
        have hDc := hD.sub (ws' := [(o, .inr (6, [.ref a0, .int tc, .ref a1, .int (nI nc), .null, .int 40, .int 48, .int 0, .ref a2])), (a1, .inl (cC, 4, .inr (.inr (.inr (.inr ad))))), (h1, .inl (cI, n, .inl zrf))]) [0, 1, 2] (by decide) rfl
        have hKc := hK.sub (tys' := [(cI, .int), (cC, (.object RX0))]) [0, 1] rfl
        have hFc := va_free (wc := [(o, .inr (6, [.ref a0, .int tc, .ref a1, .int (nI nc), .null, .int 40, .int 48, .int 0, .ref a2])), (a1, .inl (cC, 4, .inr (.inr (.inr (.inr ad))))), (h1, .inl (cI, n, .inl zrf))]) hD hS hA [0, 1, 2] rfl
        refine va_calli (va_runV (As := [.ref h1]) (rest := []) ⟨hx, hb, hml, hown, hts⟩ (k_keepCode l dC dI H.size cI cC o a0 a1 a2 tc nc ad h1 n zrf (by omega) hnc) (cwV 1 hts gX6_reflected_X6_keepCode rfl rfl rfl (by decide +kernel) ⟨Nat.le_of_ble_eq_true rfl, Nat.le_of_ble_eq_true rfl⟩) ⟨zfbD, va_recv hK hP (ci := 6) (q0 := 0) rfl rfl, zpreD hPc hKc hDc⟩ rfl rfl hl.1 rfl (lv_room (Nat.le_of_ble_eq_true rfl)) dX6_reflected_72 ⟨Nat.le_of_ble_eq_true rfl, Nat.le_of_ble_eq_true rfl⟩) hS (fun q _ h => hFc q h) hFc (fun r9 u9 t9 H1 locs ht hvm hw hB hz1 hk1 hS => ?_)
        try dsimp only at hw
        obtain ⟨h0, h2⟩ := u9
        have hw : r9 = nI nc := hw
        subst hw
        obtain ⟨hP1, hD1⟩ := hB
        rw [ht] at hP1
        obtain ⟨hP, hD⟩ := va_join (wr := []) (w1 := [(o, .inr (6, [.ref a0, .int tc, .ref a1, .int (nI (nc + 1)), .null, .int 40, .int 48, .int 0, .ref a2])), (a1, .inl (cC, 4, .inr (.inr (.inr (.inr (va_up ad nc (some h0))))))), (h1, .inl (cI, n, .inl zrf)), (h0, .inr (0, [.ref h1, .int (nI (ztr zrf n)), .ref h2])), (h2, .inl (cI, 256, .inl (zpl zrf n)))]) hP hD [0, 1, 2] [] rfl rfl (by decide) (by decide) hk1 hFc hP1 hD1
        clear hPc hDc hFc hP1 hD1 hk1 hz1 ht hvm
        have hP : va_P (dC, dI) vwCl [(o, .inr (6, [.ref a0, .int tc, .ref a1, .int (nI (nc + 1)), .null, .int 40, .int 48, .int 0, .ref a2])), (a1, .inl (cC, 4, .inr (.inr (.inr (.inr (va_up ad nc (some h0))))))), (h1, .inl (cI, n, .inl zrf)), (h0, .inr (0, [.ref h1, .int (nI (ztr zrf n)), .ref h2])), (h2, .inl (cI, 256, .inl (zpl zrf n)))] H1 := hP
        have hD : va_D A [(o, .inr (6, [.ref a0, .int tc, .ref a1, .int (nI (nc + 1)), .null, .int 40, .int 48, .int 0, .ref a2])), (a1, .inl (cC, 4, .inr (.inr (.inr (.inr (va_up ad nc (some h0))))))), (h1, .inl (cI, n, .inl zrf)), (h0, .inr (0, [.ref h1, .int (nI (ztr zrf n)), .ref h2])), (h2, .inl (cI, 256, .inl (zpl zrf n)))] := hD
        refine W.widen (k := 3) (n := 291) (by omega) (by omega) ?_
        exact W.iret (v := (nI nc)) hx hb hr (fun t9 ht hW => ⟨⟨_, (h1, h0, h2), rfl, rfl, by rw [ht]; exact hP.sub [0, 1, 2, 3, 4] rfl, hD.sub [0, 1, 2, 3, 4] (by decide) rfl⟩, hS.F ht⟩) hS.2.2 dX6_reflected_75
      · skip
        have hkn : k < n := Nat.lt_of_not_le (fun q => c53 ((nI_leI (by omega) (by omega)).mpr q))
        refine lv_aload_n hx hb dX6_reflected_56 rfl (lv_at hl 2 rfl) ?_
        refine lv_iload_n hx hb dX6_reflected_57 rfl (lv_at hl 3 rfl) ?_
        refine lv_iload_n hx hb dX6_reflected_58 rfl (lv_at hl 3 rfl) ?_
        refine lv_iload_n hx hb dX6_reflected_59 rfl (lv_at hl 3 rfl) ?_
        refine lv_iconst (v := 2) hx hb dX6_reflected_60 (by decide) ?_
        refine lv_idiv hx hb dX6_reflected_61 (by decide) ?_
        refine lv_ixor hx hb dX6_reflected_62 ?_
        refine zt_top (y := zrf k) (by rw [show nI k / (2 : Int32) = nI (k / 2) from pk_div (d := 2) (by omega) (by decide) (by decide)]; rfl) ?_
        refine va_iast hx hb hK hP hD hS 2 0 rfl rfl (vp_in_nI hkn (by omega)) dX6_reflected_63 (fun H locs hP hD hS => ?_)
        have hP : va_P (dC, dI) vwCl [(o, .inr (6, [.ref a0, .int tc, .ref a1, .int (nI nc), .null, .int 40, .int 48, .int 0, .ref a2])), (a1, .inl (cC, 4, .inr (.inr (.inr (.inr ad))))), (h1, .inl (cI, n, .inl (upd (zrw k) (nI k).toNatClampNeg (zrf k))))] H := hP
        have hD : va_D A [(o, .inr (6, [.ref a0, .int tc, .ref a1, .int (nI nc), .null, .int 40, .int 48, .int 0, .ref a2])), (a1, .inl (cC, 4, .inr (.inr (.inr (.inr ad))))), (h1, .inl (cI, n, .inl (upd (zrw k) (nI k).toNatClampNeg (zrf k))))] := hD
        rw [nI_clamp (by omega), zrw_s] at hP hD
        have hP : va_P (dC, dI) vwCl [(o, .inr (6, [.ref a0, .int tc, .ref a1, .int (nI nc), .null, .int 40, .int 48, .int 0, .ref a2])), (a1, .inl (cC, 4, .inr (.inr (.inr (.inr ad))))), (h1, .inl (cI, n, .inl (zrw (k + 1))))] H := hP
        have hD : va_D A [(o, .inr (6, [.ref a0, .int tc, .ref a1, .int (nI nc), .null, .int 40, .int 48, .int 0, .ref a2])), (a1, .inl (cC, 4, .inr (.inr (.inr (.inr ad))))), (h1, .inl (cI, n, .inl (zrw (k + 1))))] := hD
        refine lv_iinc (v := nI (k + 1)) (lv' := [(3, .int (nI (k + 1))), (0, .ref o), (1, .int (nI b)), (2, .ref h1)]) hx hb dX6_reflected_64 hl (k := 3) rfl (nI_1 k) (by decide) rfl (fun ls hl => ?_)
        refine lv_goto (tgt := 50) hx hb dX6_reflected_67 (by decide) ?_
        exact ih (k + 1) (by omega) (by omega) _ _ hP hD hS ls (lv_sub hl [1, 2, 3, 0] rfl)
  exact loop (n + 1) 0 (by omega) (Nat.zero_le _) _ _ hP hD hS ls (lv_sub hl [2, 3, 1, 0] rfl)

set_option maxHeartbeats 4000000 in
set_option maxRecDepth 100000 in
/-- isSound() without a disc -/
theorem k_isSound (l : Launch) (dC : Nat → ClassId) (dI : Nat → Nat → Nat) (sz : Nat) (cI cC : ClassId) (o a0 a1 a2 : Nat) (tc : Int32) (nc : Nat) (ad : Nat → Option Nat) (hnc : nc ≤ 4) : Met l yX6_isSound wsX6_isSound ({ frames := 2, cells := 0, slots := 0, locals := 43 }) (va_Pc [.ref o] (zPcC cI nc ad (dC, dI) [(o, .inr (6, [.ref a0, .int tc, .ref a1, .int (nI nc), .null, .int 40, .int 48, .int 0, .ref a2])), (a1, .inl (cC, 4, .inr (.inr (.inr (.inr ad)))))] [(cI, .int), (cC, (.object RX0))] sz)) (va_Qi (fun (r : Int32) (_ : Unit) => r = 1) (fun _ _ => True) (zq sz)) 0 0 (zq sz) := by
  refine Met.ofW (cc := cX6_isSound) (maxL := 3) (ret := (some .boolean)) (by decide) rfl ?_
  intro p e s m args below meth c s₁ B hml hv
  obtain ⟨rfl, hsz, hP, hK, hE⟩ := hv
  have hx := B.exec
  have hb := B.bytes
  have hr := B.returns
  have hts := atoms_spec (ws := wsX6_isSound) B.pre
  have hown : s.vm.findClass RX6 = some m.cls := findClass_of_methodNamed B.named
  have hlocks := B.notSynchronized
  subst hsz
  have hi6 : ∀ w ∈ u_ws RX6 TX6 9, w ∈ wsX6_isSound := by decide +kernel
  have hA : ∀ q : Nat, s.heap.size ≤ q → zq s.heap.size q := fun q h => h
  have hS : va_S (zq s.heap.size) s.heap s.heap [] := va_S.rf
  have hl := lv_entry ([.ref o]) (n := 3) (Nat.le_of_ble_eq_true rfl)
  rw [lg_entry_eq]
  generalize (lg_sl ([.ref o]) ++ List.replicate (3 - (lg_sl ([.ref o])).length) Slot.unset).toArray = ls at hl ⊢
  have hl : lv_has ls 3 [(0, .ref o)] := hl
  have hi0 : ∀ w ∈ u_ws RX0 TX0 3, w ∈ wsX6_isSound := by decide +kernel
  refine lv_iconst (v := 0) hx hb dX6_isSound_0 (by decide) ?_
  refine lv_istore_n (lv' := [(1, .int 0), (0, .ref o)]) hx hb dX6_isSound_1 rfl hl (by decide) rfl (fun ls hl => ?_)
  have loop : ∀ (d : Nat) (k : Nat), nc + 1 ≤ k + d → k ≤ nc → ∀ (H : Heap) (locs : List Loc), va_P (dC, dI) vwCl [(o, .inr (6, [.ref a0, .int tc, .ref a1, .int (nI nc), .null, .int 40, .int 48, .int 0, .ref a2])), (a1, .inl (cC, 4, .inr (.inr (.inr (.inr ad)))))] H → zCs (dC, dI) cI nc ad H → va_S (zq s.heap.size) s.heap H locs → ∀ ls : Array Slot, lv_has ls 3 [(0, .ref o), (1, .int (nI k))] → W p l e (headSpec wsX6_isSound ({ frames := 2, cells := 0, slots := 0, locals := 43 })).room s m ([.ref o] : List Value).toArray below meth c H locs 0 0 (MQ below (va_Qi (fun (r : Int32) (_ : Unit) => r = 1) (fun _ _ => True) (zq s.heap.size)) ([.ref o] : List Value).toArray s 0 0 (zq s.heap.size)) (F0 m 2 ls []) := by
    intro d
    induction d with
    | zero => intro k hd hk; exact absurd hd (by omega)
    | succ d ih =>
      intro k hd hk H locs hP hC hS ls hl
      refine lv_iload_n hx hb dX6_isSound_2 rfl (lv_at hl 1 rfl) ?_
      refine lv_aload_n hx hb dX6_isSound_3 rfl (lv_at hl 0 rfl) ?_
      refine va_get (D := (dC, dI)) (ci := 6) (v := .int (nI nc)) (C := RX6) (T := TX6) (N := 9) hx hb hts hi6 hown hK hP 0 rfl rfl 3 (by decide) (hts (.fieldLink RX6 61 "Ringtrack" "codeCount" "I") (List.mem_of_getElem? (i := 1) rfl)) (fun _ h9 => h9) rfl dX6_isSound_4 ?_
      refine lv_icmp_ge (tgt := 44) hx hb dX6_isSound_7 (by decide) (fun c7 => ?_) (fun c7 => ?_)
      · skip
        have hkc : k = nc := Nat.le_antisymm hk ((nI_leI (by omega) (by omega)).mp c7)
        refine lv_aload_n hx hb dX6_isSound_44 rfl (lv_at hl 0 rfl) ?_
        refine va_get (D := (dC, dI)) (ci := 6) (v := .null) (C := RX6) (T := TX6) (N := 9) hx hb hts hi6 hown hK hP 0 rfl rfl 4 (by decide) (hts (.fieldLink RX6 127 "Ringtrack" "disc" "LRingtrack$Disc;") (List.mem_of_getElem? (i := 4) rfl)) (fun _ h9 => h9) rfl dX6_isSound_45 ?_
        refine lv_astore_nN (lv' := [(1, .null), (0, .ref o)]) hx hb dX6_isSound_48 rfl hl (by decide) rfl (fun ls hl => ?_)
        refine lv_aload_nN hx hb dX6_isSound_49 rfl (lv_at hl 0 rfl) ?_
        refine lv_ifnonnullN hx hb dX6_isSound_50 ?_
        refine lv_iconst (v := 1) hx hb dX6_isSound_53 (by decide) ?_
        exact W.zret (v := 1) hx hb hr (by decide) (fun t9 ht hW => ⟨⟨_, (), rfl, rfl, trivial⟩, hS.F ht⟩) hS.2.2 dX6_isSound_54
      · skip
        have hkc : k < nc := Nat.lt_of_not_le (fun q => c7 ((nI_leI (by omega) (by omega)).mpr q))
        obtain ⟨h0, h1, h2, n, T, f, had, hPk, hn, hrg⟩ := hC k hkc
        have hP := hP.app hPk
        have hP : va_P (dC, dI) vwCl [(o, .inr (6, [.ref a0, .int tc, .ref a1, .int (nI nc), .null, .int 40, .int 48, .int 0, .ref a2])), (a1, .inl (cC, 4, .inr (.inr (.inr (.inr ad))))), (h0, .inr (0, [.ref h1, .int (nI T), .ref h2])), (h1, .inl (cI, n, .inl f))] H := hP
        refine lv_aload_n hx hb dX6_isSound_10 rfl (lv_at hl 0 rfl) ?_
        refine va_get (D := (dC, dI)) (ci := 6) (v := .ref a1) (C := RX6) (T := TX6) (N := 9) hx hb hts hi6 hown hK hP 0 rfl rfl 2 (by decide) (hts (.fieldLink RX6 15 "Ringtrack" "codes" "[LRingtrack$Code;") (List.mem_of_getElem? (i := 2) rfl)) (fun _ h9 => h9) rfl dX6_isSound_11 ?_
        refine lv_iload_n hx hb dX6_isSound_14 rfl (lv_at hl 1 rfl) ?_
        refine va_aldq hx hb hK hP 1 1 rfl rfl (vp_in_nI (by omega) (by decide)) dX6_isSound_15 ?_
        refine zt_topv (y := .ref h0) (by rw [nI_clamp (by omega), had]; rfl) ?_
        refine lv_astore_n (lv' := [(2, .ref h0), (0, .ref o), (1, .int (nI k))]) hx hb dX6_isSound_16 rfl hl (by decide) rfl (fun ls hl => ?_)
        refine lv_aload_n hx hb dX6_isSound_17 rfl (lv_at hl 0 rfl) ?_
        refine lv_ifnull hx hb dX6_isSound_18 ?_
        refine lv_aload_n hx hb dX6_isSound_21 rfl (lv_at hl 0 rfl) ?_
        refine va_get (D := (dC, dI)) (ci := 0) (v := .ref h1) (C := RX0) (T := TX0) (N := 3) hx hb hts hi0 hown hK hP 2 rfl rfl 0 (by decide) (hts (.fieldLink RX6 82 "Ringtrack$Code" "words" "[I") (List.mem_of_getElem? (i := 3) rfl)) (fun _ h9 => h9) rfl dX6_isSound_22 ?_
        refine lv_aload_n hx hb dX6_isSound_25 rfl (lv_at hl 0 rfl) ?_
        refine va_get (D := (dC, dI)) (ci := 0) (v := .ref h1) (C := RX0) (T := TX0) (N := 3) hx hb hts hi0 hown hK hP 2 rfl rfl 0 (by decide) (hts (.fieldLink RX6 82 "Ringtrack$Code" "words" "[I") (List.mem_of_getElem? (i := 3) rfl)) (fun _ h9 => h9) rfl dX6_isSound_26 ?_
        refine va_alen (v := (nI n)) hx hb hK hP 3 0 rfl rfl rfl dX6_isSound_29 ?_
        refine va_calli (va_runS (As := [.ref h1, .int (nI n)]) (rest := []) ⟨hx, hb, hml, hown, hts⟩ (k_isRing l dC dI H.size cI h1 n f n (Nat.le_refl _) hn) (va_cwS 2 hts gX6_isSound_X6_isRing rfl rfl rfl (by decide +kernel) ⟨Nat.le_of_ble_eq_true rfl, Nat.le_of_ble_eq_true rfl⟩) ⟨zfb, zpre (hP.sub (ws' := [(h1, .inl (cI, n, .inl f))]) [3] rfl) (hK.sub (tys' := [(cI, .int)]) [0] rfl)⟩ rfl rfl hl.1 rfl (lv_room (Nat.le_of_ble_eq_true rfl)) dX6_isSound_30 ⟨Nat.le_of_ble_eq_true rfl, Nat.le_of_ble_eq_true rfl⟩) hS (fun q h1 h2 => absurd h2 (Nat.not_le.mpr h1)) (fun q h => hA q (Nat.le_trans hS.1 h)) (fun r9 u9 t9 H1 locs ht hvm hw hB hz1 hk1 hS => ?_)
        have hw : r9 = zb (zrg f n) := hw
        subst hw
        have hC := zCs_keep hC hk1
        have hP := zr_keep hP hk1
        clear hk1 hz1 hB ht hvm hw
        refine zt_top (y := 1) (by rw [hrg]; rfl) ?_
        refine lv_if_ne (tgt := 38) hx hb dX6_isSound_33 (by decide) (fun c33 => ?_) (fun c => absurd c (by decide))
        refine lv_iinc (v := nI (k + 1)) (lv' := [(1, .int (nI (k + 1))), (2, .ref h0), (0, .ref o)]) hx hb dX6_isSound_38 hl (k := 2) rfl (nI_1 k) (by decide) rfl (fun ls hl => ?_)
        refine lv_goto (tgt := 2) hx hb dX6_isSound_41 (by decide) ?_
        exact ih (k + 1) (by omega) (by omega) _ _ (hP.sub [0, 1] rfl) hC hS ls (lv_sub hl [2, 0] rfl)
  exact loop (nc + 1) 0 (by omega) (Nat.zero_le _) _ _ hP hE hS ls (lv_sub hl [1, 0] rfl)

set_option maxHeartbeats 4000000 in
set_option maxRecDepth 100000 in
/-- Frames() -/
theorem k_Frames (l : Launch) (dC : Nat → ClassId) (dI : Nat → Nat → Nat) (sz : Nat) (cI : ClassId) (h0 : Nat) : Met l yX2_init wsX2_init ({ frames := 1, cells := 3, slots := 530, locals := 12 }) (va_Pc [.ref h0] (zPcD (dC, dI) [(h0, .inr (2, [.int 0, .null, .int 0, .int 0, .int 0, .null, .null]))] [(cI, .int)] sz)) (va_Qv (fun (_ : Nat × Nat × Nat) => True) (fun u t => va_P (dC, dI) vwCl [(h0, .inr (2, [.int 0, .ref u.1, .int 0, .int 0, .int 0, .ref u.2.1, .ref u.2.2]))] t.heap ∧ va_D (va_A [(h0, .inr (2, [.int 0, .null, .int 0, .int 0, .int 0, .null, .null]))] sz) [(h0, .inr (2, [.int 0, .ref u.1, .int 0, .int 0, .int 0, .ref u.2.1, .ref u.2.2]))]) (va_A [(h0, .inr (2, [.int 0, .null, .int 0, .int 0, .int 0, .null, .null]))] sz)) 3 530 (va_A [(h0, .inr (2, [.int 0, .null, .int 0, .int 0, .int 0, .null, .null]))] sz) := by
  refine Met.ofW (cc := cX2_init) (maxL := 1) (ret := none) (by decide) rfl ?_
  intro p e s m args below meth c s₁ B hml hv
  obtain ⟨rfl, hsz, hP, hK, hD0⟩ := hv
  have hx := B.exec
  have hb := B.bytes
  have hr := B.returns
  have hts := atoms_spec (ws := wsX2_init) B.pre
  have hown : s.vm.findClass RX2 = some m.cls := findClass_of_methodNamed B.named
  have hlocks := B.notSynchronized
  subst hsz
  have hi2 : ∀ w ∈ u_ws RX2 TX2 7, w ∈ wsX2_init := by decide +kernel
  have hD := hD0.self (sz := s.heap.size)
  generalize hAe : va_A [(h0, .inr (2, [.int 0, .null, .int 0, .int 0, .int 0, .null, .null]))] s.heap.size = A at hD ⊢
  have hA : ∀ q : Nat, s.heap.size ≤ q → A q := fun q h => by rw [← hAe]; exact Or.inr h
  have hS : va_S A s.heap s.heap [] := va_S.rf
  have hl := lv_entry ([.ref h0]) (n := 1) (Nat.le_of_ble_eq_true rfl)
  rw [lg_entry_eq]
  generalize (lg_sl ([.ref h0]) ++ List.replicate (1 - (lg_sl ([.ref h0])).length) Slot.unset).toArray = ls at hl ⊢
  have hl : lv_has ls 1 [(0, .ref h0)] := hl
  have hin : meth.name = "<init>" := (name_of_methodNamed B.named B.method).1
  refine lv_aload_n hx hb dX2_init_0 rfl (lv_at hl 0 rfl) ?_
  refine W.objInit hx hb hown (hts (.methodLink RX2 3 objectInit) (List.mem_of_getElem? (i := 1) rfl)) (hts (.instanceMethod objectInit) (List.mem_of_getElem? (i := 2) rfl)) (hts (.code objectInit ⟨#[0xb1]⟩ 1 none) (List.mem_of_getElem? (i := 3) rfl)) rfl (by rw [hml]; exact hl.1) rfl dX2_init_1 (Nat.le_of_ble_eq_true rfl) (Nat.le_of_ble_eq_true rfl) ?_
  refine W.eq (g2 := F0 m 4 ls []) rfl ?_
  refine lv_aload_n hx hb dX2_init_4 rfl (lv_at hl 0 rfl) ?_
  refine lv_bipush (v := 9) hx hb dX2_init_5 (by decide) ?_
  refine va_newa (atype := .int) (ty := .int) (N' := 9) (a0 := (9, .inl (fun _ => 0))) hx hb (hts (.arrayClass .int) (List.mem_of_getElem? (i := 4) rfl)) rfl hK hP hD hS hA (fun _ => rfl) (by decide) (by decide) (Nat.le_of_ble_eq_true rfl) (Nat.le_of_ble_eq_true rfl) (Nat.le_of_ble_eq_true rfl) dX2_init_7 (fun q1 cA H hK hP hD hS => ?_)
  obtain rfl := zI_one hK (i := 0) (j := 1) rfl rfl
  have hK := hK.sub (tys' := [(cI, .int)]) [0] rfl
  have hP : va_P (dC, dI) vwCl [(h0, .inr (2, [.int 0, .null, .int 0, .int 0, .int 0, .null, .null])), (q1, .inl (cI, 9, .inl (fun _ => 0)))] H := hP
  have hD : va_D A [(h0, .inr (2, [.int 0, .null, .int 0, .int 0, .int 0, .null, .null])), (q1, .inl (cI, 9, .inl (fun _ => 0)))] := hD
  refine W.widen (k := 1) (n := 9) (by omega) (by omega) ?_
  refine va_putF (D := (dC, dI)) (ci := 2) (v := .ref q1) (ty := (.array .int)) (C := RX2) (T := TX2) (N := 7) hx hb hts hi2 tyX2 tyX2_ok nmX2 hown hK hP hD hS 0 rfl rfl 1 (by decide) (hts (.fieldLink RX2 9 "Ringtrack$Frames" "underWay" "[I") (List.mem_of_getElem? (i := 5) rfl)) (fun _ h9 => h9) rfl hin rfl (by decide +kernel) rfl rfl (Nat.le_of_ble_eq_true rfl) dX2_init_9 (fun H locs hP hD hS => ?_)
  have hP : va_P (dC, dI) vwCl [(h0, .inr (2, [.int 0, .ref q1, .int 0, .int 0, .int 0, .null, .null])), (q1, .inl (cI, 9, .inl (fun _ => 0)))] H := hP
  have hD : va_D A [(h0, .inr (2, [.int 0, .ref q1, .int 0, .int 0, .int 0, .null, .null])), (q1, .inl (cI, 9, .inl (fun _ => 0)))] := hD
  refine lv_aload_n hx hb dX2_init_12 rfl (lv_at hl 0 rfl) ?_
  refine lv_bipush (v := 9) hx hb dX2_init_13 (by decide) ?_
  refine va_newa (atype := .int) (ty := .int) (N' := 9) (a0 := (9, .inl (fun _ => 0))) hx hb (hts (.arrayClass .int) (List.mem_of_getElem? (i := 4) rfl)) rfl hK hP hD hS hA (fun _ => rfl) (by decide) (by decide) (Nat.le_of_ble_eq_true rfl) (Nat.le_of_ble_eq_true rfl) (Nat.le_of_ble_eq_true rfl) dX2_init_15 (fun q2 cA H hK hP hD hS => ?_)
  obtain rfl := zI_one hK (i := 0) (j := 1) rfl rfl
  have hK := hK.sub (tys' := [(cI, .int)]) [0] rfl
  have hP : va_P (dC, dI) vwCl [(h0, .inr (2, [.int 0, .ref q1, .int 0, .int 0, .int 0, .null, .null])), (q1, .inl (cI, 9, .inl (fun _ => 0))), (q2, .inl (cI, 9, .inl (fun _ => 0)))] H := hP
  have hD : va_D A [(h0, .inr (2, [.int 0, .ref q1, .int 0, .int 0, .int 0, .null, .null])), (q1, .inl (cI, 9, .inl (fun _ => 0))), (q2, .inl (cI, 9, .inl (fun _ => 0)))] := hD
  refine W.widen (k := 2) (n := 18) (by omega) (by omega) ?_
  refine va_putF (D := (dC, dI)) (ci := 2) (v := .ref q2) (ty := (.array .int)) (C := RX2) (T := TX2) (N := 7) hx hb hts hi2 tyX2 tyX2_ok nmX2 hown hK hP hD hS 0 rfl rfl 5 (by decide) (hts (.fieldLink RX2 15 "Ringtrack$Frames" "ticksLeft" "[I") (List.mem_of_getElem? (i := 6) rfl)) (fun _ h9 => h9) rfl hin rfl (by decide +kernel) rfl rfl (Nat.le_of_ble_eq_true rfl) dX2_init_17 (fun H locs hP hD hS => ?_)
  have hP : va_P (dC, dI) vwCl [(h0, .inr (2, [.int 0, .ref q1, .int 0, .int 0, .int 0, .ref q2, .null])), (q1, .inl (cI, 9, .inl (fun _ => 0))), (q2, .inl (cI, 9, .inl (fun _ => 0)))] H := hP
  have hD : va_D A [(h0, .inr (2, [.int 0, .ref q1, .int 0, .int 0, .int 0, .ref q2, .null])), (q1, .inl (cI, 9, .inl (fun _ => 0))), (q2, .inl (cI, 9, .inl (fun _ => 0)))] := hD
  refine lv_aload_n hx hb dX2_init_20 rfl (lv_at hl 0 rfl) ?_
  refine lv_sipush (v := 512) hx hb dX2_init_21 (by decide) ?_
  refine va_newa (atype := .int) (ty := .int) (N' := 512) (a0 := (512, .inl (fun _ => 0))) hx hb (hts (.arrayClass .int) (List.mem_of_getElem? (i := 4) rfl)) rfl hK hP hD hS hA (fun _ => rfl) (by decide) (by decide) (Nat.le_of_ble_eq_true rfl) (Nat.le_of_ble_eq_true rfl) (Nat.le_of_ble_eq_true rfl) dX2_init_24 (fun q3 cA H hK hP hD hS => ?_)
  obtain rfl := zI_one hK (i := 0) (j := 1) rfl rfl
  have hK := hK.sub (tys' := [(cI, .int)]) [0] rfl
  have hP : va_P (dC, dI) vwCl [(h0, .inr (2, [.int 0, .ref q1, .int 0, .int 0, .int 0, .ref q2, .null])), (q1, .inl (cI, 9, .inl (fun _ => 0))), (q2, .inl (cI, 9, .inl (fun _ => 0))), (q3, .inl (cI, 512, .inl (fun _ => 0)))] H := hP
  have hD : va_D A [(h0, .inr (2, [.int 0, .ref q1, .int 0, .int 0, .int 0, .ref q2, .null])), (q1, .inl (cI, 9, .inl (fun _ => 0))), (q2, .inl (cI, 9, .inl (fun _ => 0))), (q3, .inl (cI, 512, .inl (fun _ => 0)))] := hD
  refine W.widen (k := 3) (n := 530) (by omega) (by omega) ?_
  refine va_putF (D := (dC, dI)) (ci := 2) (v := .ref q3) (ty := (.array .int)) (C := RX2) (T := TX2) (N := 7) hx hb hts hi2 tyX2 tyX2_ok nmX2 hown hK hP hD hS 0 rfl rfl 6 (by decide) (hts (.fieldLink RX2 18 "Ringtrack$Frames" "arrived" "[I") (List.mem_of_getElem? (i := 7) rfl)) (fun _ h9 => h9) rfl hin rfl (by decide +kernel) rfl rfl (Nat.le_of_ble_eq_true rfl) dX2_init_26 (fun H locs hP hD hS => ?_)
  have hP : va_P (dC, dI) vwCl [(h0, .inr (2, [.int 0, .ref q1, .int 0, .int 0, .int 0, .ref q2, .ref q3])), (q1, .inl (cI, 9, .inl (fun _ => 0))), (q2, .inl (cI, 9, .inl (fun _ => 0))), (q3, .inl (cI, 512, .inl (fun _ => 0)))] H := hP
  have hD : va_D A [(h0, .inr (2, [.int 0, .ref q1, .int 0, .int 0, .int 0, .ref q2, .ref q3])), (q1, .inl (cI, 9, .inl (fun _ => 0))), (q2, .inl (cI, 9, .inl (fun _ => 0))), (q3, .inl (cI, 512, .inl (fun _ => 0)))] := hD
  exact W.vret hx hb hr (fun t9 ht hW => ⟨⟨(q1, q2, q3), rfl, trivial, by rw [ht]; exact hP.sub [0] rfl, hD.sub [0] (by decide) rfl⟩, hS.F ht⟩) hS.2.2 dX2_init_29

set_option maxHeartbeats 4000000 in
set_option maxRecDepth 100000 in
/-- Ringtrack() -/
theorem k_Ringtrack (l : Launch) (dC : Nat → ClassId) (dI : Nat → Nat → Nat) (sz : Nat) (o : Nat) : Met l yX6_init wsX6_init ({ frames := 2, cells := 6, slots := 605, locals := 32 }) (va_Pc [.ref o] (zPcID (dC, dI) [(o, .inr (6, [.null, .int 0, .null, .int 0, .null, .int 0, .int 0, .int 0, .null]))] [] sz)) (va_Qv (fun (_ : Nat × Nat × Nat × ClassId × ClassId) => True) (fun u t => (va_P (dC, dI) vwCl [(o, .inr (6, [.ref u.1, .int (nI 0), .ref u.2.1, .int (nI 0), .null, .int 40, .int 48, .int 0, .ref u.2.2.1])), (u.1, .inl (u.2.2.2.1, 64, .inl (fun _ => 0))), (u.2.1, .inl (u.2.2.2.2, 4, .inr (.inr (.inr (.inr (fun _ => none))))))] t.heap ∧ va_D (va_A [(o, .inr (6, [.null, .int 0, .null, .int 0, .null, .int 0, .int 0, .int 0, .null]))] sz) [(o, .inr (6, [.ref u.1, .int (nI 0), .ref u.2.1, .int (nI 0), .null, .int 40, .int 48, .int 0, .ref u.2.2.1])), (u.1, .inl (u.2.2.2.1, 64, .inl (fun _ => 0))), (u.2.1, .inl (u.2.2.2.2, 4, .inr (.inr (.inr (.inr (fun _ => none))))))]) ∧ va_K (dC, dI) vwCl [(u.2.2.2.1, .int), (u.2.2.2.2, .object RX0)] t) (va_A [(o, .inr (6, [.null, .int 0, .null, .int 0, .null, .int 0, .int 0, .int 0, .null]))] sz)) 6 605 (va_A [(o, .inr (6, [.null, .int 0, .null, .int 0, .null, .int 0, .int 0, .int 0, .null]))] sz) := by
  refine Met.ofW (cc := cX6_init) (maxL := 1) (ret := none) (by decide) rfl ?_
  intro p e s m args below meth c s₁ B hml hv
  obtain ⟨rfl, hsz, hP, hK, hE, hD0⟩ := hv
  have hx := B.exec
  have hb := B.bytes
  have hr := B.returns
  have hts := atoms_spec (ws := wsX6_init) B.pre
  have hown : s.vm.findClass RX6 = some m.cls := findClass_of_methodNamed B.named
  have hlocks := B.notSynchronized
  subst hsz
  have hi6 : ∀ w ∈ u_ws RX6 TX6 9, w ∈ wsX6_init := by decide +kernel
  have hD := hD0.self (sz := s.heap.size)
  generalize hAe : va_A [(o, .inr (6, [.null, .int 0, .null, .int 0, .null, .int 0, .int 0, .int 0, .null]))] s.heap.size = A at hD ⊢
  have hA : ∀ q : Nat, s.heap.size ≤ q → A q := fun q h => by rw [← hAe]; exact Or.inr h
  have hS : va_S A s.heap s.heap [] := va_S.rf
  have hl := lv_entry ([.ref o]) (n := 1) (Nat.le_of_ble_eq_true rfl)
  rw [lg_entry_eq]
  generalize (lg_sl ([.ref o]) ++ List.replicate (1 - (lg_sl ([.ref o])).length) Slot.unset).toArray = ls at hl ⊢
  have hl : lv_has ls 1 [(0, .ref o)] := hl
  have hin : meth.name = "<init>" := (name_of_methodNamed B.named B.method).1
  have hi2 : ∀ w ∈ u_ws RX2 TX2 7, w ∈ wsX6_init := by decide +kernel
  refine lv_aload_n hx hb dX6_init_0 rfl (lv_at hl 0 rfl) ?_
  refine W.objInit hx hb hown (hts (.methodLink RX6 1 objectInit) (List.mem_of_getElem? (i := 1) rfl)) (hts (.instanceMethod objectInit) (List.mem_of_getElem? (i := 2) rfl)) (hts (.code objectInit ⟨#[0xb1]⟩ 1 none) (List.mem_of_getElem? (i := 3) rfl)) rfl (by rw [hml]; exact hl.1) rfl dX6_init_1 (Nat.le_of_ble_eq_true rfl) (Nat.le_of_ble_eq_true rfl) ?_
  refine W.eq (g2 := F0 m 4 ls []) rfl ?_
  refine lv_aload_n hx hb dX6_init_4 rfl (lv_at hl 0 rfl) ?_
  refine lv_bipush (v := 64) hx hb dX6_init_5 (by decide) ?_
  refine va_newa (atype := .int) (ty := .int) (N' := 64) (a0 := (64, .inl (fun _ => 0))) hx hb (hts (.arrayClass .int) (List.mem_of_getElem? (i := 4) rfl)) rfl hK hP hD hS hA (fun _ => rfl) (by decide) (by decide) (Nat.le_of_ble_eq_true rfl) (Nat.le_of_ble_eq_true rfl) (Nat.le_of_ble_eq_true rfl) dX6_init_7 (fun a0 cA H hK hP hD hS => ?_)
  have hK : va_K (dC, dI) vwCl [(cA, .int)] s := hK
  have hP : va_P (dC, dI) vwCl [(o, .inr (6, [.null, .int 0, .null, .int 0, .null, .int 0, .int 0, .int 0, .null])), (a0, .inl (cA, 64, .inl (fun _ => 0)))] H := hP
  have hD : va_D A [(o, .inr (6, [.null, .int 0, .null, .int 0, .null, .int 0, .int 0, .int 0, .null])), (a0, .inl (cA, 64, .inl (fun _ => 0)))] := hD
  refine W.widen (k := 1) (n := 64) (by omega) (by omega) ?_
  refine va_putF (D := (dC, dI)) (ci := 6) (v := .ref a0) (ty := (.array .int)) (C := RX6) (T := TX6) (N := 9) hx hb hts hi6 tyX6 tyX6_ok nmX6 hown hK hP hD hS 0 rfl rfl 0 (by decide) (hts (.fieldLink RX6 9 "Ringtrack" "typed" "[I") (List.mem_of_getElem? (i := 5) rfl)) (fun _ h9 => h9) rfl hin rfl (by decide +kernel) rfl rfl (Nat.le_of_ble_eq_true rfl) dX6_init_9 (fun H locs hP hD hS => ?_)
  have hP : va_P (dC, dI) vwCl [(o, .inr (6, [.ref a0, .int 0, .null, .int 0, .null, .int 0, .int 0, .int 0, .null])), (a0, .inl (cA, 64, .inl (fun _ => 0)))] H := hP
  have hD : va_D A [(o, .inr (6, [.ref a0, .int 0, .null, .int 0, .null, .int 0, .int 0, .int 0, .null])), (a0, .inl (cA, 64, .inl (fun _ => 0)))] := hD
  refine lv_aload_n hx hb dX6_init_12 rfl (lv_at hl 0 rfl) ?_
  refine lv_iconst (v := 4) hx hb dX6_init_13 (by decide) ?_
  refine va_newq (C := RX0) (N' := 4) hx hb hown (hts (.classLink RX6 13 RX0) (List.mem_of_getElem? (i := 6) rfl)) hE.1 hK hP hD hS hA (by decide) (by decide) (Nat.le_of_ble_eq_true rfl) (Nat.le_of_ble_eq_true rfl) (Nat.le_of_ble_eq_true rfl) dX6_init_14 (fun a1 cC H hK hP hD hS => ?_)
  have hK : va_K (dC, dI) vwCl [(cA, .int), (cC, (.object RX0))] s := hK
  have hP : va_P (dC, dI) vwCl [(o, .inr (6, [.ref a0, .int 0, .null, .int 0, .null, .int 0, .int 0, .int 0, .null])), (a0, .inl (cA, 64, .inl (fun _ => 0))), (a1, .inl (cC, 4, .inr (.inr (.inr (.inr (fun _ => none))))))] H := hP
  have hD : va_D A [(o, .inr (6, [.ref a0, .int 0, .null, .int 0, .null, .int 0, .int 0, .int 0, .null])), (a0, .inl (cA, 64, .inl (fun _ => 0))), (a1, .inl (cC, 4, .inr (.inr (.inr (.inr (fun _ => none))))))] := hD
  refine W.widen (k := 2) (n := 68) (by omega) (by omega) ?_
  refine va_putF (D := (dC, dI)) (ci := 6) (v := .ref a1) (ty := (.array (.object "Ringtrack$Code"))) (C := RX6) (T := TX6) (N := 9) hx hb hts hi6 tyX6 tyX6_ok nmX6 hown hK hP hD hS 0 rfl rfl 2 (by decide) (hts (.fieldLink RX6 15 "Ringtrack" "codes" "[LRingtrack$Code;") (List.mem_of_getElem? (i := 7) rfl)) (fun _ h9 => h9) rfl hin rfl (by decide +kernel) rfl rfl (Nat.le_of_ble_eq_true rfl) dX6_init_17 (fun H locs hP hD hS => ?_)
  have hP : va_P (dC, dI) vwCl [(o, .inr (6, [.ref a0, .int 0, .ref a1, .int 0, .null, .int 0, .int 0, .int 0, .null])), (a0, .inl (cA, 64, .inl (fun _ => 0))), (a1, .inl (cC, 4, .inr (.inr (.inr (.inr (fun _ => none))))))] H := hP
  have hD : va_D A [(o, .inr (6, [.ref a0, .int 0, .ref a1, .int 0, .null, .int 0, .int 0, .int 0, .null])), (a0, .inl (cA, 64, .inl (fun _ => 0))), (a1, .inl (cC, 4, .inr (.inr (.inr (.inr (fun _ => none))))))] := hD
  refine lv_aload_n hx hb dX6_init_20 rfl (lv_at hl 0 rfl) ?_
  refine lv_bipush (v := 40) hx hb dX6_init_21 (by decide) ?_
  refine va_put (D := (dC, dI)) (ci := 6) (v := .int 40) (ty := .int) (C := RX6) (T := TX6) (N := 9) hx hb hts hi6 tyX6 tyX6_ok nmX6 hown hK hP hD hS 0 rfl rfl 5 (by decide) (hts (.fieldLink RX6 19 "Ringtrack" "limit" "I") (List.mem_of_getElem? (i := 8) rfl)) (fun _ h9 => h9) rfl (by decide +kernel) rfl rfl (Nat.le_of_ble_eq_true rfl) dX6_init_23 (fun H locs hP hD hS => ?_)
  have hP : va_P (dC, dI) vwCl [(o, .inr (6, [.ref a0, .int 0, .ref a1, .int 0, .null, .int 40, .int 0, .int 0, .null])), (a0, .inl (cA, 64, .inl (fun _ => 0))), (a1, .inl (cC, 4, .inr (.inr (.inr (.inr (fun _ => none))))))] H := hP
  have hD : va_D A [(o, .inr (6, [.ref a0, .int 0, .ref a1, .int 0, .null, .int 40, .int 0, .int 0, .null])), (a0, .inl (cA, 64, .inl (fun _ => 0))), (a1, .inl (cC, 4, .inr (.inr (.inr (.inr (fun _ => none))))))] := hD
  refine lv_aload_n hx hb dX6_init_26 rfl (lv_at hl 0 rfl) ?_
  refine lv_bipush (v := 48) hx hb dX6_init_27 (by decide) ?_
  refine va_put (D := (dC, dI)) (ci := 6) (v := .int 48) (ty := .int) (C := RX6) (T := TX6) (N := 9) hx hb hts hi6 tyX6 tyX6_ok nmX6 hown hK hP hD hS 0 rfl rfl 6 (by decide) (hts (.fieldLink RX6 23 "Ringtrack" "tolerance" "I") (List.mem_of_getElem? (i := 9) rfl)) (fun _ h9 => h9) rfl (by decide +kernel) rfl rfl (Nat.le_of_ble_eq_true rfl) dX6_init_29 (fun H locs hP hD hS => ?_)
  have hP : va_P (dC, dI) vwCl [(o, .inr (6, [.ref a0, .int 0, .ref a1, .int 0, .null, .int 40, .int 48, .int 0, .null])), (a0, .inl (cA, 64, .inl (fun _ => 0))), (a1, .inl (cC, 4, .inr (.inr (.inr (.inr (fun _ => none))))))] H := hP
  have hD : va_D A [(o, .inr (6, [.ref a0, .int 0, .ref a1, .int 0, .null, .int 40, .int 48, .int 0, .null])), (a0, .inl (cA, 64, .inl (fun _ => 0))), (a1, .inl (cC, 4, .inr (.inr (.inr (.inr (fun _ => none))))))] := hD
  refine lv_aload_n hx hb dX6_init_32 rfl (lv_at hl 0 rfl) ?_
  refine va_new (ci := 2) (fs := [.int 0, .null, .int 0, .int 0, .int 0, .null, .null]) (C := RX2) (T := TX2) (N := 7) hx hb hts hi2 tyX2 tyX2_ok hown (hts (.classLink RX6 26 RX2) (List.mem_of_getElem? (i := 10) rfl)) (hts (.instantiable RX2 7) (List.mem_of_getElem? (i := 11) rfl)) (hts (.initialized RX2) (List.mem_of_getElem? (i := 12) rfl)) hK hP hD hS hA rfl (fun j hj => by rcases (show j = 0 ∨ j = 1 ∨ j = 2 ∨ j = 3 ∨ j = 4 ∨ j = 5 ∨ j = 6 by omega) with rfl | rfl | rfl | rfl | rfl | rfl | rfl <;> rfl) (Nat.le_of_ble_eq_true rfl) (Nat.le_of_ble_eq_true rfl) dX6_init_33 (fun a2 H hP hD hS => ?_)
  have hP : va_P (dC, dI) vwCl [(o, .inr (6, [.ref a0, .int 0, .ref a1, .int 0, .null, .int 40, .int 48, .int 0, .null])), (a0, .inl (cA, 64, .inl (fun _ => 0))), (a1, .inl (cC, 4, .inr (.inr (.inr (.inr (fun _ => none)))))), (a2, .inr (2, [.int 0, .null, .int 0, .int 0, .int 0, .null, .null]))] H := hP
  have hD : va_D A [(o, .inr (6, [.ref a0, .int 0, .ref a1, .int 0, .null, .int 40, .int 48, .int 0, .null])), (a0, .inl (cA, 64, .inl (fun _ => 0))), (a1, .inl (cC, 4, .inr (.inr (.inr (.inr (fun _ => none)))))), (a2, .inr (2, [.int 0, .null, .int 0, .int 0, .int 0, .null, .null]))] := hD
  refine W.widen (k := 3) (n := 75) (by omega) (by omega) ?_
  refine lv_dup hx hb dX6_init_36 rfl ?_
  have hPc := hP.sub (ws' := [(a2, .inr (2, [.int 0, .null, .int 0, .int 0, .int 0, .null, .null]))]) [3] rfl
  have hDc := hD.sub (ws' := [(a2, .inr (2, [.int 0, .null, .int 0, .int 0, .int 0, .null, .null]))]) [3] (by decide) rfl
  have hKc := hK.sub (tys' := [(cA, .int)]) [0] rfl
  have hFc := va_free (wc := [(a2, .inr (2, [.int 0, .null, .int 0, .int 0, .int 0, .null, .null]))]) hD hS hA [3] rfl
  refine va_callv (va_runIN (As := []) (rest := [.ref a2, .ref o]) ⟨hx, hb, hml, hown, hts⟩ (k_Frames l dC dI H.size cA a2) ⟨va_cnB 0 hts gX6_init_X2_init_n28 rfl rfl rfl hE.2 (hts (.initialized RX2) (List.mem_of_getElem? (i := 12) rfl)) (by decide +kernel) ⟨Nat.le_of_ble_eq_true rfl, Nat.le_of_ble_eq_true rfl⟩, rfl, (hts (.instanceMethod yX2_init) (List.mem_of_getElem? (i := 14) rfl))⟩ ⟨zfbD, zpreD hPc hKc hDc⟩ rfl rfl hl.1 rfl (lv_room (Nat.le_of_ble_eq_true rfl)) dX6_init_37 ⟨Nat.le_of_ble_eq_true rfl, Nat.le_of_ble_eq_true rfl⟩) hS (fun q _ h => hFc q h) hFc (fun u9 t9 H1 locs ht hvm hw hB hz1 hk1 hS => ?_)
  try dsimp only at hw
  obtain ⟨hP1, hD1⟩ := hB
  rw [ht] at hP1
  obtain ⟨hP, hD⟩ := va_join (wr := [(o, .inr (6, [.ref a0, .int 0, .ref a1, .int 0, .null, .int 40, .int 48, .int 0, .null])), (a0, .inl (cA, 64, .inl (fun _ => 0))), (a1, .inl (cC, 4, .inr (.inr (.inr (.inr (fun _ => none))))))]) (w1 := [(a2, .inr (2, [.int 0, .ref u9.1, .int 0, .int 0, .int 0, .ref u9.2.1, .ref u9.2.2]))]) hP hD [3] [0, 1, 2] rfl rfl (by decide) (by decide) hk1 hFc hP1 hD1
  clear hPc hDc hFc hP1 hD1 hk1 hz1 ht hvm
  have hP : va_P (dC, dI) vwCl [(o, .inr (6, [.ref a0, .int 0, .ref a1, .int 0, .null, .int 40, .int 48, .int 0, .null])), (a0, .inl (cA, 64, .inl (fun _ => 0))), (a1, .inl (cC, 4, .inr (.inr (.inr (.inr (fun _ => none)))))), (a2, .inr (2, [.int 0, .ref u9.1, .int 0, .int 0, .int 0, .ref u9.2.1, .ref u9.2.2]))] H1 := hP
  have hD : va_D A [(o, .inr (6, [.ref a0, .int 0, .ref a1, .int 0, .null, .int 40, .int 48, .int 0, .null])), (a0, .inl (cA, 64, .inl (fun _ => 0))), (a1, .inl (cC, 4, .inr (.inr (.inr (.inr (fun _ => none)))))), (a2, .inr (2, [.int 0, .ref u9.1, .int 0, .int 0, .int 0, .ref u9.2.1, .ref u9.2.2]))] := hD
  refine W.widen (k := 6) (n := 605) (by omega) (by omega) ?_
  refine va_putF (D := (dC, dI)) (ci := 6) (v := .ref a2) (ty := (.object "Ringtrack$Frames")) (C := RX6) (T := TX6) (N := 9) hx hb hts hi6 tyX6 tyX6_ok nmX6 hown hK hP hD hS 0 rfl rfl 8 (by decide) (hts (.fieldLink RX6 29 "Ringtrack" "frames" "LRingtrack$Frames;") (List.mem_of_getElem? (i := 13) rfl)) (fun _ h9 => h9) rfl hin rfl (by decide +kernel) rfl rfl (Nat.le_of_ble_eq_true rfl) dX6_init_40 (fun H locs hP hD hS => ?_)
  have hP : va_P (dC, dI) vwCl [(o, .inr (6, [.ref a0, .int 0, .ref a1, .int 0, .null, .int 40, .int 48, .int 0, .ref a2])), (a0, .inl (cA, 64, .inl (fun _ => 0))), (a1, .inl (cC, 4, .inr (.inr (.inr (.inr (fun _ => none)))))), (a2, .inr (2, [.int 0, .ref u9.1, .int 0, .int 0, .int 0, .ref u9.2.1, .ref u9.2.2]))] H := hP
  have hD : va_D A [(o, .inr (6, [.ref a0, .int 0, .ref a1, .int 0, .null, .int 40, .int 48, .int 0, .ref a2])), (a0, .inl (cA, 64, .inl (fun _ => 0))), (a1, .inl (cC, 4, .inr (.inr (.inr (.inr (fun _ => none)))))), (a2, .inr (2, [.int 0, .ref u9.1, .int 0, .int 0, .int 0, .ref u9.2.1, .ref u9.2.2]))] := hD
  exact W.vret hx hb hr (fun t9 ht hW => ⟨⟨(a0, a1, a2, cA, cC), rfl, trivial, ⟨by rw [ht]; exact hP.sub [0, 1, 2] rfl, hD.sub [0, 1, 2] (by decide) rfl⟩, va_K.moved hW.alike hK⟩, hS.F ht⟩) hS.2.2 dX6_init_43
