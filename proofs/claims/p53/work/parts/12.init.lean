set_option maxHeartbeats 4000000 in
set_option maxRecDepth 100000 in
/-- Arrays.fill(a, v) -/
theorem k_fill (l : Launch) (dC : Nat → ClassId) (dI : Nat → Nat → Nat) (sz : Nat) (cI : ClassId) (h0 : Nat) (n : Nat) (f : Nat → Int32) (v : Int32) (hn : n < 2 ^ 31) : Met l yJ7_fill_53178 wsJ7_fill_53178 ({ frames := 0, cells := 0, slots := 0, locals := 0 }) (va_Pc [.ref h0, .int v] (zPcD (dC, dI) [(h0, .inl (cI, n, .inl f))] [(cI, .int)] sz)) (va_Qv (fun (_ : Unit) => True) (fun _ t => va_P (dC, dI) vwCl [(h0, .inl (cI, n, .inl (zfl f v n)))] t.heap ∧ va_D (va_A [(h0, .inl (cI, n, .inl f))] sz) [(h0, .inl (cI, n, .inl (zfl f v n)))]) (va_A [(h0, .inl (cI, n, .inl f))] sz)) 0 0 (va_A [(h0, .inl (cI, n, .inl f))] sz) := by
  refine Met.ofW (cc := cJ7_fill_53178) (maxL := 4) (ret := none) (by decide) rfl ?_
  intro p e s m args below meth c s₁ B hml hv
  obtain ⟨rfl, hsz, hP, hK, hD0⟩ := hv
  have hx := B.exec
  have hb := B.bytes
  have hr := B.returns
  have hts := atoms_spec (ws := wsJ7_fill_53178) B.pre
  have hown : s.vm.findClass RJ7 = some m.cls := findClass_of_methodNamed B.named
  have hlocks := B.notSynchronized
  subst hsz
  have hD := hD0.self (sz := s.heap.size)
  generalize hAe : va_A [(h0, .inl (cI, n, .inl f))] s.heap.size = A at hD ⊢
  have hA : ∀ q : Nat, s.heap.size ≤ q → A q := fun q h => by rw [← hAe]; exact Or.inr h
  have hS : va_S A s.heap s.heap [] := va_S.rf
  have hl := lv_entry ([.ref h0, .int v]) (n := 4) (Nat.le_of_ble_eq_true rfl)
  rw [lg_entry_eq]
  generalize (lg_sl ([.ref h0, .int v]) ++ List.replicate (4 - (lg_sl ([.ref h0, .int v])).length) Slot.unset).toArray = ls at hl ⊢
  have hl : lv_has ls 4 [(0, .ref h0), (1, .int v)] := hl
  refine lv_iconst (v := 0) hx hb dJ7_fill_53178_0 (by decide) ?_
  refine lv_istore_n (lv' := [(2, .int 0), (0, .ref h0), (1, .int v)]) hx hb dJ7_fill_53178_1 rfl hl (by decide) rfl (fun ls hl => ?_)
  refine lv_aload_n hx hb dJ7_fill_53178_2 rfl (lv_at hl 1 rfl) ?_
  refine va_alen (v := (nI n)) hx hb hK hP 0 0 rfl rfl rfl dJ7_fill_53178_3 ?_
  refine lv_istore_n (lv' := [(3, .int (nI n)), (2, .int 0), (0, .ref h0), (1, .int v)]) hx hb dJ7_fill_53178_4 rfl hl (by decide) rfl (fun ls hl => ?_)
  rw [← zfl_0 f v] at hP hD
  have hP : va_P (dC, dI) vwCl [(h0, .inl (cI, n, .inl (zfl f v 0)))] s.heap := hP
  have hD : va_D A [(h0, .inl (cI, n, .inl (zfl f v 0)))] := hD
  have loop : ∀ (d : Nat) (k : Nat), n + 1 ≤ k + d → k ≤ n → ∀ (H : Heap) (locs : List Loc), va_P (dC, dI) vwCl [(h0, .inl (cI, n, .inl (zfl f v k)))] H → va_D A [(h0, .inl (cI, n, .inl (zfl f v k)))] → va_S A s.heap H locs → ∀ ls : Array Slot, lv_has ls 4 [(0, .ref h0), (1, .int v), (2, .int (nI k)), (3, .int (nI n))] → W p l e (headSpec wsJ7_fill_53178 ({ frames := 0, cells := 0, slots := 0, locals := 0 })).room s m ([.ref h0, .int v] : List Value).toArray below meth c H locs 0 0 (MQ below (va_Qv (fun (_ : Unit) => True) (fun _ t => va_P (dC, dI) vwCl [(h0, .inl (cI, n, .inl (zfl f v n)))] t.heap ∧ va_D A [(h0, .inl (cI, n, .inl (zfl f v n)))]) A) ([.ref h0, .int v] : List Value).toArray s 0 0 A) (F0 m 5 ls []) := by
    intro d
    induction d with
    | zero => intro k hd hk; exact absurd hd (by omega)
    | succ d ih =>
      intro k hd hk H locs hP hD hS ls hl
      refine lv_iload_n hx hb dJ7_fill_53178_5 rfl (lv_at hl 2 rfl) ?_
      refine lv_iload_n hx hb dJ7_fill_53178_6 rfl (lv_at hl 3 rfl) ?_
      refine lv_icmp_ge (tgt := 20) hx hb dJ7_fill_53178_7 (by decide) (fun c7 => ?_) (fun c7 => ?_)
      · skip
        have hkn : k = n := Nat.le_antisymm hk ((nI_leI hn (by omega)).mp c7)
        rw [hkn] at hP hD
        exact W.vret hx hb hr (fun t9 ht hW => ⟨⟨(), rfl, trivial, by rw [ht]; exact hP, hD⟩, hS.F ht⟩) hS.2.2 dJ7_fill_53178_20
      · skip
        have hkn : k < n := Nat.lt_of_not_le (fun q => c7 ((nI_leI hn (by omega)).mpr q))
        refine lv_aload_n hx hb dJ7_fill_53178_10 rfl (lv_at hl 0 rfl) ?_
        refine lv_iload_n hx hb dJ7_fill_53178_11 rfl (lv_at hl 2 rfl) ?_
        refine lv_iload_n hx hb dJ7_fill_53178_12 rfl (lv_at hl 1 rfl) ?_
        refine va_iast hx hb hK hP hD hS 0 0 rfl rfl (vp_in_nI hkn hn) dJ7_fill_53178_13 (fun H locs hP hD hS => ?_)
        have hP : va_P (dC, dI) vwCl [(h0, .inl (cI, n, .inl (upd (zfl f v k) (nI k).toNatClampNeg v)))] H := hP
        have hD : va_D A [(h0, .inl (cI, n, .inl (upd (zfl f v k) (nI k).toNatClampNeg v)))] := hD
        rw [nI_clamp (by omega), zfl_s] at hP hD
        have hP : va_P (dC, dI) vwCl [(h0, .inl (cI, n, .inl (zfl f v (k + 1))))] H := hP
        have hD : va_D A [(h0, .inl (cI, n, .inl (zfl f v (k + 1))))] := hD
        refine lv_iinc (v := nI (k + 1)) (lv' := [(2, .int (nI (k + 1))), (0, .ref h0), (1, .int v), (3, .int (nI n))]) hx hb dJ7_fill_53178_14 hl (k := 2) rfl (nI_1 k) (by decide) rfl (fun ls hl => ?_)
        refine lv_goto (tgt := 5) hx hb dJ7_fill_53178_17 (by decide) ?_
        exact ih (k + 1) (by omega) (by omega) _ _ hP hD hS ls (lv_sub hl [1, 2, 0, 3] rfl)
  exact loop (n + 1) 0 (by omega) (Nat.zero_le _) _ _ hP hD hS ls (lv_sub hl [2, 3, 1, 0] rfl)

set_option maxHeartbeats 4000000 in
set_option maxRecDepth 100000 in
/-- Code(words) -/
theorem k_Code (l : Launch) (dC : Nat → ClassId) (dI : Nat → Nat → Nat) (sz : Nat) (cI : ClassId) (h0 h1 : Nat) (n : Nat) (f : Nat → Int32) (hn : n < 2 ^ 30) : Met l yX0_init wsX0_init ({ frames := 1, cells := 1, slots := 256, locals := 23 }) (va_Pc [.ref h0, .ref h1] (zPcD (dC, dI) [(h0, .inr (0, [.null, .int 0, .null])), (h1, .inl (cI, n, .inl f))] [(cI, .int)] sz)) (va_Qv (fun (h2 : Nat) => True) (fun h2 t => va_P (dC, dI) vwCl [(h1, .inl (cI, n, .inl f)), (h0, .inr (0, [.ref h1, .int (nI (ztr f n)), .ref h2])), (h2, .inl (cI, 256, .inl (zpl f n)))] t.heap ∧ va_D (va_A [(h0, .inr (0, [.null, .int 0, .null])), (h1, .inl (cI, n, .inl f))] sz) [(h1, .inl (cI, n, .inl f)), (h0, .inr (0, [.ref h1, .int (nI (ztr f n)), .ref h2])), (h2, .inl (cI, 256, .inl (zpl f n)))]) (va_A [(h0, .inr (0, [.null, .int 0, .null])), (h1, .inl (cI, n, .inl f))] sz)) 1 256 (va_A [(h0, .inr (0, [.null, .int 0, .null])), (h1, .inl (cI, n, .inl f))] sz) := by
  refine Met.ofW (cc := cX0_init) (maxL := 6) (ret := none) (by decide) rfl ?_
  intro p e s m args below meth c s₁ B hml hv
  obtain ⟨rfl, hsz, hP, hK, hD0⟩ := hv
  have hx := B.exec
  have hb := B.bytes
  have hr := B.returns
  have hts := atoms_spec (ws := wsX0_init) B.pre
  have hown : s.vm.findClass RX0 = some m.cls := findClass_of_methodNamed B.named
  have hlocks := B.notSynchronized
  subst hsz
  have hi0 : ∀ w ∈ u_ws RX0 TX0 3, w ∈ wsX0_init := by decide +kernel
  have hD := hD0.self (sz := s.heap.size)
  generalize hAe : va_A [(h0, .inr (0, [.null, .int 0, .null])), (h1, .inl (cI, n, .inl f))] s.heap.size = A at hD ⊢
  have hA : ∀ q : Nat, s.heap.size ≤ q → A q := fun q h => by rw [← hAe]; exact Or.inr h
  have hS : va_S A s.heap s.heap [] := va_S.rf
  have hl := lv_entry ([.ref h0, .ref h1]) (n := 6) (Nat.le_of_ble_eq_true rfl)
  rw [lg_entry_eq]
  generalize (lg_sl ([.ref h0, .ref h1]) ++ List.replicate (6 - (lg_sl ([.ref h0, .ref h1])).length) Slot.unset).toArray = ls at hl ⊢
  have hl : lv_has ls 6 [(0, .ref h0), (1, .ref h1)] := hl
  have hin : meth.name = "<init>" := (name_of_methodNamed B.named B.method).1
  have hn1 : n < 2 ^ 31 := by omega
  refine lv_aload_n hx hb dX0_init_0 rfl (lv_at hl 0 rfl) ?_
  refine W.objInit hx hb hown (hts (.methodLink RX0 3 objectInit) (List.mem_of_getElem? (i := 1) rfl)) (hts (.instanceMethod objectInit) (List.mem_of_getElem? (i := 2) rfl)) (hts (.code objectInit ⟨#[0xb1]⟩ 1 none) (List.mem_of_getElem? (i := 3) rfl)) rfl (by rw [hml]; exact hl.1) rfl dX0_init_1 (Nat.le_of_ble_eq_true rfl) (Nat.le_of_ble_eq_true rfl) ?_
  refine W.eq (g2 := F0 m 4 ls []) rfl ?_
  refine lv_aload_n hx hb dX0_init_4 rfl (lv_at hl 0 rfl) ?_
  refine lv_sipush (v := 256) hx hb dX0_init_5 (by decide) ?_
  refine va_newa (atype := .int) (ty := .int) (N' := 256) (a0 := (256, .inl (fun _ => 0))) hx hb (hts (.arrayClass .int) (List.mem_of_getElem? (i := 4) rfl)) rfl hK hP hD hS hA (fun _ => rfl) (by decide) (by decide) (Nat.le_of_ble_eq_true rfl) (Nat.le_of_ble_eq_true rfl) (Nat.le_of_ble_eq_true rfl) dX0_init_8 (fun h2 cA H hK hP hD hS => ?_)
  obtain rfl := zI_one hK (i := 0) (j := 1) rfl rfl
  have hK := hK.sub (tys' := [(cI, .int)]) [0] rfl
  have hP : va_P (dC, dI) vwCl [(h0, .inr (0, [.null, .int 0, .null])), (h1, .inl (cI, n, .inl f)), (h2, .inl (cI, 256, .inl (fun _ => 0)))] H := hP
  have hD : va_D A [(h0, .inr (0, [.null, .int 0, .null])), (h1, .inl (cI, n, .inl f)), (h2, .inl (cI, 256, .inl (fun _ => 0)))] := hD
  refine W.widen (k := 1) (n := 256) (by omega) (by omega) ?_
  refine va_putF (D := (dC, dI)) (ci := 0) (v := .ref h2) (ty := (.array .int)) (C := RX0) (T := TX0) (N := 3) hx hb hts hi0 tyX0 tyX0_ok nmX0 hown hK hP hD hS 0 rfl rfl 2 (by decide) (hts (.fieldLink RX0 9 "Ringtrack$Code" "places" "[I") (List.mem_of_getElem? (i := 5) rfl)) (fun _ h9 => h9) rfl hin rfl (by decide +kernel) rfl rfl (Nat.le_of_ble_eq_true rfl) dX0_init_10 (fun H locs hP hD hS => ?_)
  have hP : va_P (dC, dI) vwCl [(h0, .inr (0, [.null, .int 0, .ref h2])), (h1, .inl (cI, n, .inl f)), (h2, .inl (cI, 256, .inl (fun _ => 0)))] H := hP
  have hD : va_D A [(h0, .inr (0, [.null, .int 0, .ref h2])), (h1, .inl (cI, n, .inl f)), (h2, .inl (cI, 256, .inl (fun _ => 0)))] := hD
  refine lv_aload_n hx hb dX0_init_13 rfl (lv_at hl 0 rfl) ?_
  refine lv_aload_n hx hb dX0_init_14 rfl (lv_at hl 1 rfl) ?_
  refine va_putF (D := (dC, dI)) (ci := 0) (v := .ref h1) (ty := (.array .int)) (C := RX0) (T := TX0) (N := 3) hx hb hts hi0 tyX0 tyX0_ok nmX0 hown hK hP hD hS 0 rfl rfl 0 (by decide) (hts (.fieldLink RX0 15 "Ringtrack$Code" "words" "[I") (List.mem_of_getElem? (i := 6) rfl)) (fun _ h9 => h9) rfl hin rfl (by decide +kernel) rfl rfl (Nat.le_of_ble_eq_true rfl) dX0_init_15 (fun H locs hP hD hS => ?_)
  have hP : va_P (dC, dI) vwCl [(h0, .inr (0, [.ref h1, .int 0, .ref h2])), (h1, .inl (cI, n, .inl f)), (h2, .inl (cI, 256, .inl (fun _ => 0)))] H := hP
  have hD : va_D A [(h0, .inr (0, [.ref h1, .int 0, .ref h2])), (h1, .inl (cI, n, .inl f)), (h2, .inl (cI, 256, .inl (fun _ => 0)))] := hD
  refine lv_aload_n hx hb dX0_init_18 rfl (lv_at hl 0 rfl) ?_
  refine va_get (D := (dC, dI)) (ci := 0) (v := .ref h2) (C := RX0) (T := TX0) (N := 3) hx hb hts hi0 hown hK hP 0 rfl rfl 2 (by decide) (hts (.fieldLink RX0 9 "Ringtrack$Code" "places" "[I") (List.mem_of_getElem? (i := 5) rfl)) (fun _ h9 => h9) rfl dX0_init_19 ?_
  refine lv_iconst (v := (-1)) hx hb dX0_init_22 (by decide) ?_
  have hPc := hP.sub (ws' := [(h2, .inl (cI, 256, .inl (fun _ => 0)))]) [2] rfl
  have hDc := hD.sub (ws' := [(h2, .inl (cI, 256, .inl (fun _ => 0)))]) [2] (by decide) rfl
  have hKc := hK.sub (tys' := [(cI, .int)]) [0] rfl
  have hFc := va_free (wc := [(h2, .inl (cI, 256, .inl (fun _ => 0)))]) hD hS hA [2] rfl
  refine va_callv (va_runS (As := [.ref h2, .int (-1)]) (rest := []) ⟨hx, hb, hml, hown, hts⟩ (k_fill l dC dI H.size cI h2 256 (fun _ => 0) (-1) (by decide)) (va_cwS 2 hts gX0_init_J7_fill_53178 rfl rfl rfl (by decide +kernel) ⟨Nat.le_of_ble_eq_true rfl, Nat.le_of_ble_eq_true rfl⟩) ⟨zfbD, zpreD hPc hKc hDc⟩ rfl rfl hl.1 rfl (lv_room (Nat.le_of_ble_eq_true rfl)) dX0_init_23 ⟨Nat.le_of_ble_eq_true rfl, Nat.le_of_ble_eq_true rfl⟩) hS (fun q _ h => hFc q h) hFc (fun u9 t9 H1 locs ht hvm hw hB hz1 hk1 hS => ?_)
  try dsimp only at hw
  obtain ⟨hP1, hD1⟩ := hB
  rw [ht] at hP1
  obtain ⟨hP, hD⟩ := va_join (wr := [(h0, .inr (0, [.ref h1, .int 0, .ref h2])), (h1, .inl (cI, n, .inl f))]) (w1 := [(h2, .inl (cI, 256, .inl (zfl (fun _ => 0) (-1) 256)))]) hP hD [2] [0, 1] rfl rfl (by decide) (by decide) hk1 hFc hP1 hD1
  clear hPc hDc hFc hP1 hD1 hk1 hz1 ht hvm
  have hP : va_P (dC, dI) vwCl [(h0, .inr (0, [.ref h1, .int 0, .ref h2])), (h1, .inl (cI, n, .inl f)), (h2, .inl (cI, 256, .inl (zfl (fun _ => 0) (-1) 256)))] H1 := hP
  have hD : va_D A [(h0, .inr (0, [.ref h1, .int 0, .ref h2])), (h1, .inl (cI, n, .inl f)), (h2, .inl (cI, 256, .inl (zfl (fun _ => 0) (-1) 256)))] := hD
  refine lv_iconst (v := (-1)) hx hb dX0_init_26 (by decide) ?_
  refine lv_istore_n (lv' := [(2, .int (-1)), (0, .ref h0), (1, .ref h1)]) hx hb dX0_init_27 rfl hl (by decide) rfl (fun ls hl => ?_)
  refine lv_iconst (v := 0) hx hb dX0_init_28 (by decide) ?_
  refine lv_istore_n (lv' := [(3, .int 0), (2, .int (-1)), (0, .ref h0), (1, .ref h1)]) hx hb dX0_init_29 rfl hl (by decide) rfl (fun ls hl => ?_)
  have hP : va_P (dC, dI) vwCl [(h0, .inr (0, [.ref h1, .int 0, .ref h2])), (h1, .inl (cI, n, .inl f)), (h2, .inl (cI, 256, .inl (zpl f 0)))] H1 := hP
  have hD : va_D A [(h0, .inr (0, [.ref h1, .int 0, .ref h2])), (h1, .inl (cI, n, .inl f)), (h2, .inl (cI, 256, .inl (zpl f 0)))] := hD
  have loop : ∀ (d : Nat) (k : Nat), n + 1 ≤ k + d → k ≤ n → ∀ (H : Heap) (locs : List Loc), va_P (dC, dI) vwCl [(h0, .inr (0, [.ref h1, .int 0, .ref h2])), (h1, .inl (cI, n, .inl f)), (h2, .inl (cI, 256, .inl (zpl f k)))] H → va_D A [(h0, .inr (0, [.ref h1, .int 0, .ref h2])), (h1, .inl (cI, n, .inl f)), (h2, .inl (cI, 256, .inl (zpl f k)))] → va_S A s.heap H locs → ∀ ls : Array Slot, lv_has ls 6 [(0, .ref h0), (1, .ref h1), (2, .int (zh (ztr f k))), (3, .int (nI k))] → W p l e (headSpec wsX0_init ({ frames := 1, cells := 1, slots := 256, locals := 23 })).room s m ([.ref h0, .ref h1] : List Value).toArray below meth c H locs 1 256 (MQ below (va_Qv (fun (h2 : Nat) => True) (fun h2 t => va_P (dC, dI) vwCl [(h1, .inl (cI, n, .inl f)), (h0, .inr (0, [.ref h1, .int (nI (ztr f n)), .ref h2])), (h2, .inl (cI, 256, .inl (zpl f n)))] t.heap ∧ va_D A [(h1, .inl (cI, n, .inl f)), (h0, .inr (0, [.ref h1, .int (nI (ztr f n)), .ref h2])), (h2, .inl (cI, 256, .inl (zpl f n)))]) A) ([.ref h0, .ref h1] : List Value).toArray s 1 256 A) (F0 m 30 ls []) := by
    intro d
    induction d with
    | zero => intro k hd hk; exact absurd hd (by omega)
    | succ d ih =>
      intro k hd hk H locs hP hD hS ls hl
      refine lv_iload_n hx hb dX0_init_30 rfl (lv_at hl 3 rfl) ?_
      refine lv_aload_n hx hb dX0_init_31 rfl (lv_at hl 1 rfl) ?_
      refine va_alen (v := (nI n)) hx hb hK hP 1 0 rfl rfl rfl dX0_init_32 ?_
      refine lv_icmp_ge (tgt := 95) hx hb dX0_init_33 (by decide) (fun c33 => ?_) (fun c33 => ?_)
      · skip
        have hkn : k = n := Nat.le_antisymm hk ((nI_leI hn1 (by omega)).mp c33)
        refine lv_aload_n hx hb dX0_init_95 rfl (lv_at hl 0 rfl) ?_
        refine lv_iload_n hx hb dX0_init_96 rfl (lv_at hl 2 rfl) ?_
        refine lv_iconst (v := 1) hx hb dX0_init_97 (by decide) ?_
        refine lv_iadd hx hb dX0_init_98 ?_
        refine zt_top (y := nI (ztr f k)) (zh_1 _) ?_
        refine va_putF (D := (dC, dI)) (ci := 0) (v := .int (nI (ztr f k))) (ty := .int) (C := RX0) (T := TX0) (N := 3) hx hb hts hi0 tyX0 tyX0_ok nmX0 hown hK hP hD hS 0 rfl rfl 1 (by decide) (hts (.fieldLink RX0 24 "Ringtrack$Code" "tracks" "I") (List.mem_of_getElem? (i := 7) rfl)) (fun _ h9 => h9) rfl hin rfl (by decide +kernel) rfl rfl (Nat.le_of_ble_eq_true rfl) dX0_init_99 (fun H locs hP hD hS => ?_)
        have hP : va_P (dC, dI) vwCl [(h0, .inr (0, [.ref h1, .int (nI (ztr f k)), .ref h2])), (h1, .inl (cI, n, .inl f)), (h2, .inl (cI, 256, .inl (zpl f k)))] H := hP
        have hD : va_D A [(h0, .inr (0, [.ref h1, .int (nI (ztr f k)), .ref h2])), (h1, .inl (cI, n, .inl f)), (h2, .inl (cI, 256, .inl (zpl f k)))] := hD
        rw [hkn] at hP hD
        exact W.vret hx hb hr (fun t9 ht hW => ⟨⟨h2, rfl, trivial, by rw [ht]; exact hP.sub [1, 0, 2] rfl, hD.sub [1, 0, 2] (by decide) rfl⟩, hS.F ht⟩) hS.2.2 dX0_init_102
      · skip
        have hkn : k < n := Nat.lt_of_not_le (fun q => c33 ((nI_leI hn1 (by omega)).mpr q))
        refine lv_aload_n hx hb dX0_init_36 rfl (lv_at hl 1 rfl) ?_
        refine lv_iload_n hx hb dX0_init_37 rfl (lv_at hl 3 rfl) ?_
        refine va_iald hx hb hK hP 1 0 rfl rfl (vp_in_nI hkn hn1) dX0_init_38 ?_
        refine zt_top (y := f k) (by rw [nI_clamp (by omega)]) ?_
        refine lv_sipush (v := 255) hx hb dX0_init_39 (by decide) ?_
        refine lv_iand hx hb dX0_init_42 ?_
        refine lv_istore (lv' := [(4, .int ((f k) &&& 255)), (0, .ref h0), (1, .ref h1), (2, .int (zh (ztr f k))), (3, .int (nI k))]) hx hb dX0_init_43 hl (by decide) rfl (fun ls hl => ?_)
        refine lv_aload_n hx hb dX0_init_45 rfl (lv_at hl 1 rfl) ?_
        refine va_get (D := (dC, dI)) (ci := 0) (v := .ref h2) (C := RX0) (T := TX0) (N := 3) hx hb hts hi0 hown hK hP 0 rfl rfl 2 (by decide) (hts (.fieldLink RX0 9 "Ringtrack$Code" "places" "[I") (List.mem_of_getElem? (i := 5) rfl)) (fun _ h9 => h9) rfl dX0_init_46 ?_
        refine lv_iload hx hb dX0_init_49 (lv_at hl 0 rfl) ?_
        refine lv_iload_n hx hb dX0_init_51 rfl (lv_at hl 4 rfl) ?_
        refine va_iast hx hb hK hP hD hS 2 0 rfl rfl (zin255 (f k)) dX0_init_52 (fun H locs hP hD hS => ?_)
        have hP : va_P (dC, dI) vwCl [(h0, .inr (0, [.ref h1, .int 0, .ref h2])), (h1, .inl (cI, n, .inl f)), (h2, .inl (cI, 256, .inl (upd (zpl f k) ((f k) &&& 255).toNatClampNeg (nI k))))] H := hP
        have hD : va_D A [(h0, .inr (0, [.ref h1, .int 0, .ref h2])), (h1, .inl (cI, n, .inl f)), (h2, .inl (cI, 256, .inl (upd (zpl f k) ((f k) &&& 255).toNatClampNeg (nI k))))] := hD
        have hP : va_P (dC, dI) vwCl [(h0, .inr (0, [.ref h1, .int 0, .ref h2])), (h1, .inl (cI, n, .inl f)), (h2, .inl (cI, 256, .inl (zpl f (k + 1))))] H := hP
        have hD : va_D A [(h0, .inr (0, [.ref h1, .int 0, .ref h2])), (h1, .inl (cI, n, .inl f)), (h2, .inl (cI, 256, .inl (zpl f (k + 1))))] := hD
        refine lv_iconst (v := 0) hx hb dX0_init_53 (by decide) ?_
        refine lv_istore (lv' := [(5, .int 0), (4, .int ((f k) &&& 255)), (0, .ref h0), (1, .ref h1), (2, .int (zh (ztr f k))), (3, .int (nI k))]) hx hb dX0_init_54 hl (by decide) rfl (fun ls hl => ?_)
        have hw8 := ztr_le f k
        have inner : ∀ (d2 : Nat) (t : Nat), 9 ≤ t + d2 → t ≤ 8 → ∀ (H : Heap) (locs : List Loc), va_P (dC, dI) vwCl [(h0, .inr (0, [.ref h1, .int 0, .ref h2])), (h1, .inl (cI, n, .inl f)), (h2, .inl (cI, 256, .inl (zpl f (k + 1))))] H → va_D A [(h0, .inr (0, [.ref h1, .int 0, .ref h2])), (h1, .inl (cI, n, .inl f)), (h2, .inl (cI, 256, .inl (zpl f (k + 1))))] → va_S A s.heap H locs → ∀ ls : Array Slot, lv_has ls 6 [(0, .ref h0), (1, .ref h1), (2, .int (zh (ztw (f k &&& 255) (ztr f k) t))), (3, .int (nI k)), (4, .int (f k &&& 255)), (5, .int (nI t))] → W p l e (headSpec wsX0_init ({ frames := 1, cells := 1, slots := 256, locals := 23 })).room s m ([.ref h0, .ref h1] : List Value).toArray below meth c H locs 1 256 (MQ below (va_Qv (fun (h2 : Nat) => True) (fun h2 t => va_P (dC, dI) vwCl [(h1, .inl (cI, n, .inl f)), (h0, .inr (0, [.ref h1, .int (nI (ztr f n)), .ref h2])), (h2, .inl (cI, 256, .inl (zpl f n)))] t.heap ∧ va_D A [(h1, .inl (cI, n, .inl f)), (h0, .inr (0, [.ref h1, .int (nI (ztr f n)), .ref h2])), (h2, .inl (cI, 256, .inl (zpl f n)))]) A) ([.ref h0, .ref h1] : List Value).toArray s 1 256 A) (F0 m 56 ls []) := by
          intro d2
          induction d2 with
          | zero => intro t hd2 ht; exact absurd hd2 (by omega)
          | succ d2 ihe =>
            intro t hd2 ht H locs hP hD hS ls hl
            refine lv_iload hx hb dX0_init_56 (lv_at hl 5 rfl) ?_
            refine lv_bipush (v := 8) hx hb dX0_init_58 (by decide) ?_
            refine zt_top (y := nI 8) (rfl) ?_
            refine lv_icmp_ge (tgt := 89) hx hb dX0_init_60 (by decide) (fun c60 => ?_) (fun c60 => ?_)
            · skip
              have ht8 : t = 8 := Nat.le_antisymm ht ((nI_leI (by decide) (by omega)).mp c60)
              refine lv_iinc (v := nI (k + 1)) (lv' := [(3, .int (nI (k + 1))), (0, .ref h0), (1, .ref h1), (2, .int (zh (ztw (f k &&& 255) (ztr f k) t))), (4, .int (f k &&& 255)), (5, .int (nI t))]) hx hb dX0_init_89 hl (k := 3) rfl (nI_1 k) (by decide) rfl (fun ls hl => ?_)
              refine lv_goto (tgt := 30) hx hb dX0_init_92 (by decide) ?_
              exact ih (k + 1) (by omega) (by omega) _ _ hP hD hS ls (by rw [ht8] at hl; exact lv_sub hl [1, 2, 3, 0] rfl)
            · skip
              have ht8 : t < 8 := Nat.lt_of_not_le (fun q => c60 ((nI_leI (by decide) (by omega)).mpr q))
              refine lv_iload hx hb dX0_init_63 (lv_at hl 4 rfl) ?_
              refine lv_iload hx hb dX0_init_65 (lv_at hl 5 rfl) ?_
              refine lv_ishr hx hb dX0_init_67 ?_
              refine lv_iconst (v := 1) hx hb dX0_init_68 (by decide) ?_
              refine lv_iand hx hb dX0_init_69 ?_
              refine lv_iconst (v := 1) hx hb dX0_init_70 (by decide) ?_
              refine lv_icmp_ne (tgt := 83) hx hb dX0_init_71 (by decide) (fun c71 => ?_) (fun c71 => ?_)
              · skip
                have hwt := ztw_le (f k &&& 255) (ztr f k) hw8 t (by omega)
                have ec : ztw (f k &&& 255) (ztr f k) (t + 1) = ztw (f k &&& 255) (ztr f k) t := if_neg (fun q => absurd (of_decide_eq_true q.1) c71)
                refine lv_iinc (v := nI (t + 1)) (lv' := [(5, .int (nI (t + 1))), (0, .ref h0), (1, .ref h1), (2, .int (zh (ztw (f k &&& 255) (ztr f k) t))), (3, .int (nI k)), (4, .int (f k &&& 255))]) hx hb dX0_init_83 hl (k := 5) rfl (nI_1 t) (by decide) rfl (fun ls hl => ?_)
                refine lv_goto (tgt := 56) hx hb dX0_init_86 (by decide) ?_
                exact ihe (t + 1) (by omega) (by omega) _ _ hP hD hS ls (by rw [ec]; exact lv_sub hl [1, 2, 3, 4, 5, 0] rfl)
              · skip
                have hwt := ztw_le (f k &&& 255) (ztr f k) hw8 t (by omega)
                refine lv_iload hx hb dX0_init_74 (lv_at hl 5 rfl) ?_
                refine lv_iload_n hx hb dX0_init_76 rfl (lv_at hl 2 rfl) ?_
                refine lv_icmp_le (tgt := 83) hx hb dX0_init_77 (by decide) (fun c77 => ?_) (fun c77 => ?_)
                · skip
                  have ec : ztw (f k &&& 255) (ztr f k) (t + 1) = ztw (f k &&& 255) (ztr f k) t := if_neg (fun q => absurd ((zh_le (by omega) (by omega)).mp c77) (by omega))
                  refine lv_iinc (v := nI (t + 1)) (lv' := [(5, .int (nI (t + 1))), (0, .ref h0), (1, .ref h1), (2, .int (zh (ztw (f k &&& 255) (ztr f k) t))), (3, .int (nI k)), (4, .int (f k &&& 255))]) hx hb dX0_init_83 hl (k := 5) rfl (nI_1 t) (by decide) rfl (fun ls hl => ?_)
                  refine lv_goto (tgt := 56) hx hb dX0_init_86 (by decide) ?_
                  exact ihe (t + 1) (by omega) (by omega) _ _ hP hD hS ls (by rw [ec]; exact lv_sub hl [1, 2, 3, 4, 5, 0] rfl)
                · skip
                  have ec : ztw (f k &&& 255) (ztr f k) (t + 1) = t + 1 := if_pos ⟨decide_eq_true c71, Nat.le_of_not_lt (fun q => c77 ((zh_le (by omega) (by omega)).mpr q))⟩
                  refine lv_iload hx hb dX0_init_80 (lv_at hl 5 rfl) ?_
                  refine lv_istore_n (lv' := [(2, .int (nI t)), (0, .ref h0), (1, .ref h1), (3, .int (nI k)), (4, .int (f k &&& 255)), (5, .int (nI t))]) hx hb dX0_init_82 rfl hl (by decide) rfl (fun ls hl => ?_)
                  refine lv_iinc (v := nI (t + 1)) (lv' := [(5, .int (nI (t + 1))), (2, .int (nI t)), (0, .ref h0), (1, .ref h1), (3, .int (nI k)), (4, .int (f k &&& 255))]) hx hb dX0_init_83 hl (k := 5) rfl (nI_1 t) (by decide) rfl (fun ls hl => ?_)
                  refine lv_goto (tgt := 56) hx hb dX0_init_86 (by decide) ?_
                  exact ihe (t + 1) (by omega) (by omega) _ _ hP hD hS ls (by rw [ec, zh_s]; exact lv_sub hl [2, 3, 1, 4, 5, 0] rfl)
        exact inner 9 0 (by omega) (by omega) _ _ hP hD hS ls (lv_sub hl [2, 3, 4, 5, 1, 0] rfl)
  exact loop (n + 1) 0 (by omega) (Nat.zero_le _) _ _ hP hD hS ls (lv_sub hl [2, 3, 1, 0] rfl)
