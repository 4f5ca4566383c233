theorem ztg_rg {f : Nat → Int32} {w : Nat} (h : ztg f w = true) : zrg f w = true := by
  unfold ztg at h
  rw [Bool.and_eq_true, Bool.and_eq_true] at h
  exact h.2.1
theorem zv8 {fr : Nat → Int32} {n : Nat} (h : zrw8 fr n) : ∀ k, k < n → fr k = nI ((fr k).toNatClampNeg) ∧ (fr k).toNatClampNeg < 256 := fun k hk => by
  obtain ⟨v, hv, ev⟩ := h k hk
  have e : (fr k).toNatClampNeg = v := by rw [ev]; exact nI_clamp (by omega)
  exact ⟨by rw [e]; exact ev, by omega⟩
theorem zin8 {x : Int32} (h : ∃ v, v < 256 ∧ x = nI v) : (decide ((0 : Int32) ≤ x) && decide (x ≤ 255)) = true := by
  obtain ⟨v, hv, ev⟩ := h
  rw [ev, decide_eq_true (nI_pos' (by omega)), decide_eq_true (show nI v ≤ (255 : Int32) from nI_le (b := 255) (by omega) (by decide))]
  rfl
section ZT2
variable {p : Program} {l : Launch} {e : Env} {s : State} {m : MethodId} {below : List Frame} {meth : Method} {c : Code} {b L : Nat} {xs : Nat → Int32} {Q : State → Prop}

set_option maxHeartbeats 4000000 in
set_option maxRecDepth 100000 in
/-- a typed ring is made, or refused -/
theorem it_typed (hL : zL p l s m c b L xs) {dC : Nat → ClassId} {dI : Nat → Nat → Nat} {cI cC : ClassId} (hK : va_K (dC, dI) vwCl [(cI, .int), (cC, .object RX0)] s) {X : va_W} {o a0 a1 a2 a3 : Nat} {w nc n : Nat} {ad : Nat → Option Nat} {ft fr : Nat → Int32} {i : Nat} (hnc : nc < 4) (hwm : w ≤ 64) (hM : zM cI nc ad X) (hn4 : 4 ≤ n) (hn16 : n ≤ 16) (h8 : zrw8 fr n) (cn sn : Nat) (hcn : cn + 1000 ≤ 679936) (hsn : sn + 10000 ≤ 7061659) (H : Heap) (locs : List Loc) (hP : va_P (dC, dI) vwCl ([(o, .inr (6, [.ref a0, .int (nI w), .ref a1, .int (nI nc), .null, .int 40, .int 48, .int 0, .ref a2])), (a0, .inl (cI, 64, .inl ft)), (a1, .inl (cC, 4, .inr (.inr (.inr (.inr ad))))), (a3, .inl (cI, 64, .inl fr))] ++ X) H) (hD : va_D (zq s.heap.size) ([(o, .inr (6, [.ref a0, .int (nI w), .ref a1, .int (nI nc), .null, .int 40, .int 48, .int 0, .ref a2])), (a0, .inl (cI, 64, .inl ft)), (a1, .inl (cC, 4, .inr (.inr (.inr (.inr ad))))), (a3, .inl (cI, 64, .inl fr))] ++ X)) (hS : va_S (zq s.heap.size) s.heap H locs) (ls : Array Slot) (hl : lv_has ls 19 [(0, .ref b), (1, .ref o), (2, .int 1), (3, .int (nI nc)), (4, .int (nI i)), (6, .ref a3), (7, .int (nI n))]) (kk : ∀ (nc2 : Nat) (ad2 : Nat → Option Nat) (X2 : va_W) (w2 : Nat) (ft2 : Nat → Int32) (H : Heap) (locs : List Loc) (cn2 sn2 : Nat), nc2 ≤ 4 → w2 ≤ 64 → zM cI nc2 ad2 X2 → cn2 ≤ cn + 300 → sn2 ≤ sn + 3000 → va_P (dC, dI) vwCl ([(o, .inr (6, [.ref a0, .int (nI w2), .ref a1, .int (nI nc2), .null, .int 40, .int 48, .int 0, .ref a2])), (a0, .inl (cI, 64, .inl ft2)), (a1, .inl (cC, 4, .inr (.inr (.inr (.inr ad2)))))] ++ X2) H → va_D (zq s.heap.size) ([(o, .inr (6, [.ref a0, .int (nI w2), .ref a1, .int (nI nc2), .null, .int 40, .int 48, .int 0, .ref a2])), (a0, .inl (cI, 64, .inl ft2)), (a1, .inl (cC, 4, .inr (.inr (.inr (.inr ad2)))))] ++ X2) → va_S (zq s.heap.size) s.heap H locs → ∀ ls : Array Slot, lv_has ls 19 [(0, .ref b), (1, .ref o), (2, .int 1), (3, .int (nI nc2)), (4, .int (nI i))] → W p l e room_1 s m #[Value.ref b] below meth c H locs cn2 sn2 Q (F0 m 1049 ls [])) : W p l e room_1 s m #[Value.ref b] below meth c H locs cn sn Q (F0 m 360 ls []) := by
  have hL0 := hL
  obtain ⟨hx, hb, hml, hown, hts, hX, hbl, hfl, hE, hL260⟩ := hL
  have hA : ∀ q : Nat, s.heap.size ≤ q → zq s.heap.size q := fun q h => h
  have hbA : ¬ zq s.heap.size b := Nat.not_le.mpr hbl
  refine lv_iload_n hx hb dL_law_360 rfl (lv_at hl 2 rfl) ?_
  refine lv_aload_n hx hb dL_law_361 rfl (lv_at hl 1 rfl) ?_
  have hPc := hP.sub (ws' := [(o, .inr (6, [.ref a0, .int (nI w), .ref a1, .int (nI nc), .null, .int 40, .int 48, .int 0, .ref a2]))]) [0] rfl
  have hDc := hD.sub (ws' := [(o, .inr (6, [.ref a0, .int (nI w), .ref a1, .int (nI nc), .null, .int 40, .int 48, .int 0, .ref a2]))]) [0] (by decide) rfl
  have hKc := hK.sub (tys' := [(cI, .int), (cC, (.object RX0))]) [0, 1] rfl
  have hFc := va_free (wc := [(o, .inr (6, [.ref a0, .int (nI w), .ref a1, .int (nI nc), .null, .int 40, .int 48, .int 0, .ref a2]))]) hD hS hA [0] rfl
  refine va_calli (va_runV (As := []) (rest := [.int 1]) ⟨hx, hb, hml, hown, hts⟩ (k_wipe l dC dI H.size cI cC o a0 a1 a2 w nc (fun _ => 0)) (cwV 0 hts gL_law_X6_wipe rfl rfl rfl (by decide +kernel) ⟨Nat.le_of_ble_eq_true rfl, Nat.le_of_ble_eq_true rfl⟩) ⟨zfbD, va_recv hK hP (ci := 6) (q0 := 0) rfl rfl, zpreD hPc hKc hDc⟩ rfl rfl hl.1 rfl (lv_room (Nat.le_of_ble_eq_true rfl)) dL_law_362 ⟨(show cn + 0 ≤ 679936 by omega), (show sn + 0 ≤ 7061659 by omega)⟩) hS (fun q _ h => hFc q h) hFc (fun r9 u9 t9 H1 locs ht hvm hw hB hz1 hk1 hS => ?_)
  try dsimp only at hw
  have hw : r9 = nI w := hw
  subst hw
  obtain ⟨hP1, hD1⟩ := hB
  rw [ht] at hP1
  obtain ⟨hP, hD⟩ := va_joinQ (wr := [(a0, .inl (cI, 64, .inl ft)), (a1, .inl (cC, 4, .inr (.inr (.inr (.inr ad))))), (a3, .inl (cI, 64, .inl fr))]) (w1 := [(o, .inr (6, [.ref a0, .int (nI 0), .ref a1, .int (nI nc), .null, .int 40, .int 48, .int 0, .ref a2]))]) (pl := X) hP hD [0] [1, 2, 3] rfl rfl (by decide) (by decide) hk1 hFc hP1 hD1
  clear hPc hDc hFc hP1 hD1 hk1 hz1 ht hvm
  have hP : va_P (dC, dI) vwCl ([(a0, .inl (cI, 64, .inl ft)), (a1, .inl (cC, 4, .inr (.inr (.inr (.inr ad))))), (a3, .inl (cI, 64, .inl fr)), (o, .inr (6, [.ref a0, .int (nI 0), .ref a1, .int (nI nc), .null, .int 40, .int 48, .int 0, .ref a2]))] ++ X) H1 := hP
  have hD : va_D (zq s.heap.size) ([(a0, .inl (cI, 64, .inl ft)), (a1, .inl (cC, 4, .inr (.inr (.inr (.inr ad))))), (a3, .inl (cI, 64, .inl fr)), (o, .inr (6, [.ref a0, .int (nI 0), .ref a1, .int (nI nc), .null, .int 40, .int 48, .int 0, .ref a2]))] ++ X) := hD
  have hP := hP.part (cx := [(o, .inr (6, [.ref a0, .int (nI 0), .ref a1, .int (nI nc), .null, .int 40, .int 48, .int 0, .ref a2])), (a0, .inl (cI, 64, .inl ft)), (a1, .inl (cC, 4, .inr (.inr (.inr (.inr ad))))), (a3, .inl (cI, 64, .inl fr))]) [3, 0, 1, 2] rfl
  have hD := hD.part (cx := [(o, .inr (6, [.ref a0, .int (nI 0), .ref a1, .int (nI nc), .null, .int 40, .int 48, .int 0, .ref a2])), (a0, .inl (cI, 64, .inl ft)), (a1, .inl (cC, 4, .inr (.inr (.inr (.inr ad))))), (a3, .inl (cI, 64, .inl fr))]) [3, 0, 1, 2] (by decide) rfl
  have hP : va_P (dC, dI) vwCl ([(o, .inr (6, [.ref a0, .int (nI 0), .ref a1, .int (nI nc), .null, .int 40, .int 48, .int 0, .ref a2])), (a0, .inl (cI, 64, .inl ft)), (a1, .inl (cC, 4, .inr (.inr (.inr (.inr ad))))), (a3, .inl (cI, 64, .inl fr))] ++ X) H1 := hP
  have hD : va_D (zq s.heap.size) ([(o, .inr (6, [.ref a0, .int (nI 0), .ref a1, .int (nI nc), .null, .int 40, .int 48, .int 0, .ref a2])), (a0, .inl (cI, 64, .inl ft)), (a1, .inl (cC, 4, .inr (.inr (.inr (.inr ad))))), (a3, .inl (cI, 64, .inl fr))] ++ X) := hD
  refine lv_if_lt (tgt := 372) hx hb dL_law_365 (by decide) (fun c => absurd c (nI_pos (by omega))) (fun c365 => ?_)
  refine lv_iconst (v := 1) hx hb dL_law_368 (by decide) ?_
  refine lv_goto (tgt := 373) hx hb dL_law_369 (by decide) ?_
  refine lv_iand hx hb dL_law_373 ?_
  refine zt_top (y := 1) (z11) ?_
  refine lv_istore_n (lv' := [(2, .int 1), (0, .ref b), (1, .ref o), (3, .int (nI nc)), (4, .int (nI i)), (6, .ref a3), (7, .int (nI n))]) hx hb dL_law_374 rfl hl (by decide) rfl (fun ls hl => ?_)
  refine lv_iload hx hb dL_law_375 (lv_at hl 6 rfl) ?_
  refine lv_iconst (v := 4) hx hb dL_law_377 (by decide) ?_
  refine lv_icmp_lt (tgt := 385) hx hb dL_law_378 (by decide) (fun c => absurd c (nI_nlt (b := 4) hn4 (by omega))) (fun c378 => ?_)
  refine lv_iconst (v := 1) hx hb dL_law_381 (by decide) ?_
  refine lv_goto (tgt := 386) hx hb dL_law_382 (by decide) ?_
  refine lv_istore (lv' := [(12, .int 1), (2, .int 1), (0, .ref b), (1, .ref o), (3, .int (nI nc)), (4, .int (nI i)), (6, .ref a3), (7, .int (nI n))]) hx hb dL_law_386 hl (by decide) rfl (fun ls hl => ?_)
  refine lv_iconst (v := 0) hx hb dL_law_388 (by decide) ?_
  refine lv_istore (lv' := [(13, .int 0), (12, .int 1), (2, .int 1), (0, .ref b), (1, .ref o), (3, .int (nI nc)), (4, .int (nI i)), (6, .ref a3), (7, .int (nI n))]) hx hb dL_law_389 hl (by decide) rfl (fun ls hl => ?_)
  have loop : ∀ (d : Nat) (k : Nat) (ft : Nat → Int32), n + 1 ≤ k + d → k ≤ n → (∀ j, j < k → ft j = fr j) → ∀ (H : Heap) (locs : List Loc), va_P (dC, dI) vwCl ([(o, .inr (6, [.ref a0, .int (nI k), .ref a1, .int (nI nc), .null, .int 40, .int 48, .int 0, .ref a2])), (a0, .inl (cI, 64, .inl ft)), (a1, .inl (cC, 4, .inr (.inr (.inr (.inr ad))))), (a3, .inl (cI, 64, .inl fr))] ++ X) H → va_D (zq s.heap.size) ([(o, .inr (6, [.ref a0, .int (nI k), .ref a1, .int (nI nc), .null, .int 40, .int 48, .int 0, .ref a2])), (a0, .inl (cI, 64, .inl ft)), (a1, .inl (cC, 4, .inr (.inr (.inr (.inr ad))))), (a3, .inl (cI, 64, .inl fr))] ++ X) → va_S (zq s.heap.size) s.heap H locs → ∀ ls : Array Slot, lv_has ls 19 [(0, .ref b), (1, .ref o), (2, .int 1), (3, .int (nI nc)), (4, .int (nI i)), (6, .ref a3), (7, .int (nI n)), (12, .int (zb (zal (fun k => zlP fr n k) k))), (13, .int (nI k))] → W p l e room_1 s m #[Value.ref b] below meth c H locs cn sn Q (F0 m 391 ls []) := by
    intro d
    induction d with
    | zero => intro k ft hd hk hft; exact absurd hd (by omega)
    | succ d ih =>
      intro k ft hd hk hft H locs hP hD hS ls hl
      refine lv_iload hx hb dL_law_391 (lv_at hl 8 rfl) ?_
      refine lv_iload hx hb dL_law_393 (lv_at hl 6 rfl) ?_
      refine lv_icmp_ge (tgt := 510) hx hb dL_law_395 (by decide) (fun c395 => ?_) (fun c395 => ?_)
      · skip
        have hkn : k = n := Nat.le_antisymm hk ((nI_leI (by omega) (by omega)).mp c395)
        rw [hkn] at hP hD hl hft
        rw [zlaw_ring hn4 h8] at hl
        have hl : lv_has ls 19 [(0, .ref b), (1, .ref o), (2, .int 1), (3, .int (nI nc)), (4, .int (nI i)), (6, .ref a3), (7, .int (nI n)), (12, .int (zb (ztg fr n)))] := lv_sub hl [0, 1, 2, 3, 4, 5, 6, 7] rfl
        have htt : ztg ft n = ztg fr n := ztg_congr hft
        have hP : va_P (dC, dI) vwCl ([(o, .inr (6, [.ref a0, .int (nI n), .ref a1, .int (nI nc), .null, .int 40, .int 48, .int 0, .ref a2])), (a0, .inl (cI, 64, .inl ft)), (a1, .inl (cC, 4, .inr (.inr (.inr (.inr ad))))), (a3, .inl (cI, 64, .inl fr))] ++ X) H := hP
        have hD : va_D (zq s.heap.size) ([(o, .inr (6, [.ref a0, .int (nI n), .ref a1, .int (nI nc), .null, .int 40, .int 48, .int 0, .ref a2])), (a0, .inl (cI, 64, .inl ft)), (a1, .inl (cC, 4, .inr (.inr (.inr (.inr ad))))), (a3, .inl (cI, 64, .inl fr))] ++ X) := hD
        by_cases hbt : ztg fr n = true
        · skip
          rw [hbt] at hl
          refine lv_iload_n hx hb dL_law_510 rfl (lv_at hl 2 rfl) ?_
          refine lv_aload_n hx hb dL_law_511 rfl (lv_at hl 1 rfl) ?_
          have hPc := hP.sub (ws' := [(o, .inr (6, [.ref a0, .int (nI n), .ref a1, .int (nI nc), .null, .int 40, .int 48, .int 0, .ref a2])), (a0, .inl (cI, 64, .inl ft)), (a1, .inl (cC, 4, .inr (.inr (.inr (.inr ad)))))]) [0, 1, 2] rfl
          have hDc := hD.sub (ws' := [(o, .inr (6, [.ref a0, .int (nI n), .ref a1, .int (nI nc), .null, .int 40, .int 48, .int 0, .ref a2])), (a0, .inl (cI, 64, .inl ft)), (a1, .inl (cC, 4, .inr (.inr (.inr (.inr ad)))))]) [0, 1, 2] (by decide) rfl
          have hKc := hK.sub (tys' := [(cI, .int), (cC, (.object RX0))]) [0, 1] rfl
          have hFc := va_free (wc := [(o, .inr (6, [.ref a0, .int (nI n), .ref a1, .int (nI nc), .null, .int 40, .int 48, .int 0, .ref a2])), (a0, .inl (cI, 64, .inl ft)), (a1, .inl (cC, 4, .inr (.inr (.inr (.inr ad)))))]) hD hS hA [0, 1, 2] rfl
          refine va_calli (vx_runSW (As := [.ref o]) (rest := [.int 1]) ⟨hx, hb, hml, hown, hts⟩ (w_ring l dC dI H.size cI cC o a0 a1 a2 n nc ad ft (by omega) (htt.trans hbt) hnc) (vx_cwSW 1 hts gL_law_L_ring rfl rfl rfl (by decide +kernel) ⟨Nat.le_of_ble_eq_true rfl, Nat.le_of_ble_eq_true rfl⟩) ⟨zfbD, zpreD hPc hKc hDc⟩ rfl rfl hl.1 rfl (lv_room (Nat.le_of_ble_eq_true rfl)) dL_law_512 ⟨(show cn + 3 ≤ 679936 by omega), (show sn + 323 ≤ 7061659 by omega)⟩) hS (fun q _ h => hFc q h) hFc (fun r9 u9 t9 H1 locs ht hvm hw hB hz1 hk1 hS => ?_)
          try dsimp only at hw
          obtain ⟨h1, h0, h2⟩ := u9
          have hw : r9 = nI nc := hw
          subst hw
          obtain ⟨hP1, hD1⟩ := hB
          rw [ht] at hP1
          obtain ⟨hP, hD⟩ := va_joinQ (wr := [(a3, .inl (cI, 64, .inl fr))]) (w1 := [(o, .inr (6, [.ref a0, .int (nI 0), .ref a1, .int (nI (nc + 1)), .null, .int 40, .int 48, .int 0, .ref a2])), (a0, .inl (cI, 64, .inl ft)), (a1, .inl (cC, 4, .inr (.inr (.inr (.inr (va_up ad nc (some h0))))))), (h1, .inl (cI, n, .inl ft)), (h0, .inr (0, [.ref h1, .int (nI (ztr ft n)), .ref h2])), (h2, .inl (cI, 256, .inl (zpl ft n)))]) (pl := X) hP hD [0, 1, 2] [3] rfl rfl (by decide) (by decide) hk1 hFc hP1 hD1
          clear hPc hDc hFc hP1 hD1 hk1 hz1 ht hvm
          have hP : va_P (dC, dI) vwCl ([(a3, .inl (cI, 64, .inl fr)), (o, .inr (6, [.ref a0, .int (nI 0), .ref a1, .int (nI (nc + 1)), .null, .int 40, .int 48, .int 0, .ref a2])), (a0, .inl (cI, 64, .inl ft)), (a1, .inl (cC, 4, .inr (.inr (.inr (.inr (va_up ad nc (some h0))))))), (h1, .inl (cI, n, .inl ft)), (h0, .inr (0, [.ref h1, .int (nI (ztr ft n)), .ref h2])), (h2, .inl (cI, 256, .inl (zpl ft n)))] ++ X) H1 := hP
          have hD : va_D (zq s.heap.size) ([(a3, .inl (cI, 64, .inl fr)), (o, .inr (6, [.ref a0, .int (nI 0), .ref a1, .int (nI (nc + 1)), .null, .int 40, .int 48, .int 0, .ref a2])), (a0, .inl (cI, 64, .inl ft)), (a1, .inl (cC, 4, .inr (.inr (.inr (.inr (va_up ad nc (some h0))))))), (h1, .inl (cI, n, .inl ft)), (h0, .inr (0, [.ref h1, .int (nI (ztr ft n)), .ref h2])), (h2, .inl (cI, 256, .inl (zpl ft n)))] ++ X) := hD
          have hP := hP.part (cx := [(o, .inr (6, [.ref a0, .int (nI 0), .ref a1, .int (nI (nc + 1)), .null, .int 40, .int 48, .int 0, .ref a2])), (a0, .inl (cI, 64, .inl ft)), (a1, .inl (cC, 4, .inr (.inr (.inr (.inr (va_up ad nc (some h0))))))), (a3, .inl (cI, 64, .inl fr)), (h0, .inr (0, [.ref h1, .int (nI (ztr ft n)), .ref h2])), (h1, .inl (cI, n, .inl ft)), (h2, .inl (cI, 256, .inl (zpl ft n)))]) [1, 2, 3, 0, 5, 4, 6] rfl
          have hD := hD.part (cx := [(o, .inr (6, [.ref a0, .int (nI 0), .ref a1, .int (nI (nc + 1)), .null, .int 40, .int 48, .int 0, .ref a2])), (a0, .inl (cI, 64, .inl ft)), (a1, .inl (cC, 4, .inr (.inr (.inr (.inr (va_up ad nc (some h0))))))), (a3, .inl (cI, 64, .inl fr)), (h0, .inr (0, [.ref h1, .int (nI (ztr ft n)), .ref h2])), (h1, .inl (cI, n, .inl ft)), (h2, .inl (cI, 256, .inl (zpl ft n)))]) [1, 2, 3, 0, 5, 4, 6] (by decide) rfl
          have hP : va_P (dC, dI) vwCl ([(o, .inr (6, [.ref a0, .int (nI 0), .ref a1, .int (nI (nc + 1)), .null, .int 40, .int 48, .int 0, .ref a2])), (a0, .inl (cI, 64, .inl ft)), (a1, .inl (cC, 4, .inr (.inr (.inr (.inr (va_up ad nc (some h0))))))), (a3, .inl (cI, 64, .inl fr)), (h0, .inr (0, [.ref h1, .int (nI (ztr ft n)), .ref h2])), (h1, .inl (cI, n, .inl ft)), (h2, .inl (cI, 256, .inl (zpl ft n)))] ++ X) H1 := hP
          have hD : va_D (zq s.heap.size) ([(o, .inr (6, [.ref a0, .int (nI 0), .ref a1, .int (nI (nc + 1)), .null, .int 40, .int 48, .int 0, .ref a2])), (a0, .inl (cI, 64, .inl ft)), (a1, .inl (cC, 4, .inr (.inr (.inr (.inr (va_up ad nc (some h0))))))), (a3, .inl (cI, 64, .inl fr)), (h0, .inr (0, [.ref h1, .int (nI (ztr ft n)), .ref h2])), (h1, .inl (cI, n, .inl ft)), (h2, .inl (cI, 256, .inl (zpl ft n)))] ++ X) := hD
          rw [ztr_congr hft, zpl_congr hft] at hP hD
          obtain ⟨hP, hD⟩ := z_fn (g := fr) hP hD 5 rfl hft
          have hP : va_P (dC, dI) vwCl ([(o, .inr (6, [.ref a0, .int (nI 0), .ref a1, .int (nI (nc + 1)), .null, .int 40, .int 48, .int 0, .ref a2])), (a0, .inl (cI, 64, .inl ft)), (a1, .inl (cC, 4, .inr (.inr (.inr (.inr (va_up ad nc (some h0))))))), (a3, .inl (cI, 64, .inl fr)), (h0, .inr (0, [.ref h1, .int (nI (ztr fr n)), .ref h2])), (h1, .inl (cI, n, .inl fr)), (h2, .inl (cI, 256, .inl (zpl fr n)))] ++ X) H1 := hP
          have hD : va_D (zq s.heap.size) ([(o, .inr (6, [.ref a0, .int (nI 0), .ref a1, .int (nI (nc + 1)), .null, .int 40, .int 48, .int 0, .ref a2])), (a0, .inl (cI, 64, .inl ft)), (a1, .inl (cC, 4, .inr (.inr (.inr (.inr (va_up ad nc (some h0))))))), (a3, .inl (cI, 64, .inl fr)), (h0, .inr (0, [.ref h1, .int (nI (ztr fr n)), .ref h2])), (h1, .inl (cI, n, .inl fr)), (h2, .inl (cI, 256, .inl (zpl fr n)))] ++ X) := hD
          refine lv_iload hx hb dL_law_515 (lv_at hl 7 rfl) ?_
          refine lv_if_eq (tgt := 524) hx hb dL_law_517 (by decide) (fun c => absurd c (by decide)) (fun c517 => ?_)
          refine lv_iload_n hx hb dL_law_520 rfl (lv_at hl 3 rfl) ?_
          refine lv_goto (tgt := 526) hx hb dL_law_521 (by decide) ?_
          refine lv_icmp_ne (tgt := 533) hx hb dL_law_526 (by decide) (fun c => absurd c (fun q => q rfl)) (fun c526 => ?_)
          refine lv_iconst (v := 1) hx hb dL_law_529 (by decide) ?_
          refine lv_goto (tgt := 534) hx hb dL_law_530 (by decide) ?_
          refine lv_iand hx hb dL_law_534 ?_
          refine zt_top (y := 1) (z11) ?_
          refine lv_istore_n (lv' := [(2, .int 1), (0, .ref b), (1, .ref o), (3, .int (nI nc)), (4, .int (nI i)), (6, .ref a3), (7, .int (nI n)), (12, .int (zb true))]) hx hb dL_law_535 rfl hl (by decide) rfl (fun ls hl => ?_)
          refine lv_iload hx hb dL_law_536 (lv_at hl 7 rfl) ?_
          refine lv_if_eq (tgt := 546) hx hb dL_law_538 (by decide) (fun c => absurd c (by decide)) (fun c538 => ?_)
          refine lv_iload hx hb dL_law_541 (lv_at hl 6 rfl) ?_
          refine lv_goto (tgt := 547) hx hb dL_law_543 (by decide) ?_
          refine lv_istore (lv' := [(7, .int (nI n)), (2, .int 1), (0, .ref b), (1, .ref o), (3, .int (nI nc)), (4, .int (nI i)), (6, .ref a3), (12, .int (zb true))]) hx hb dL_law_547 hl (by decide) rfl (fun ls hl => ?_)
          refine v_all hL0 hK (ad := va_up ad nc (some h0)) (fr := fr) (v := fun k => (fr k).toNatClampNeg) hnc hn4 (by omega) (if_pos rfl) (zv8 h8) (ztg_rg hbt) _ _ (by omega) (by omega) _ _ hP hS ls (lv_sub hl [2, 3, 1, 4, 5, 6, 0] rfl) (fun H locs cn2 sn2 hc2 hs2 hP hS ls hl => ?_)
          exact kk (nc + 1) (va_up ad nc (some h0)) ([(a3, .inl (cI, 64, .inl fr)), (h0, .inr (0, [.ref h1, .int (nI (ztr fr n)), .ref h2])), (h1, .inl (cI, n, .inl fr)), (h2, .inl (cI, 256, .inl (zpl fr n)))] ++ X) 0 ft H locs cn2 sn2 (by omega) (by omega) (zM_add hM (by omega) (ztg_rg hbt)) (by omega) (by omega) hP hD hS ls hl
        · skip
          have hbf : ztg fr n = false := by cases q : ztg fr n; rfl; exact absurd q hbt
          rw [hbf] at hl
          refine lv_iload_n hx hb dL_law_510 rfl (lv_at hl 2 rfl) ?_
          refine lv_aload_n hx hb dL_law_511 rfl (lv_at hl 1 rfl) ?_
          refine va_calli (vx_runSW (As := [.ref o]) (rest := [.int 1]) ⟨hx, hb, hml, hown, hts⟩ (w_ring_bad l dC dI H.size cI cC o a0 a1 a2 n nc ft hfl (by omega) (htt.trans hbf)) (vx_cwSW 1 hts gL_law_L_ring rfl rfl rfl (by decide +kernel) ⟨Nat.le_of_ble_eq_true rfl, Nat.le_of_ble_eq_true rfl⟩) ⟨zfbX, zpreX (hP.sub (ws' := [(o, .inr (6, [.ref a0, .int (nI n), .ref a1, .int (nI nc), .null, .int 40, .int 48, .int 0, .ref a2])), (a0, .inl (cI, 64, .inl ft))]) [0, 1] rfl) (hK.sub (tys' := [(cI, .int), (cC, (.object RX0))]) [0, 1] rfl) hE hS hA⟩ rfl rfl hl.1 rfl (lv_room (Nat.le_of_ble_eq_true rfl)) dL_law_512 ⟨(show cn + 1 ≤ 679936 by omega), (show sn + 6 ≤ 7061659 by omega)⟩) hS (fun q h1 h2 => absurd h2 (Nat.not_le.mpr h1)) (fun q h => hA q (Nat.le_trans hS.1 h)) (fun r9 u9 t9 H1 locs ht hvm hw hB hz1 hk1 hS => ?_)
          have hw : r9 = (-900001) := hw
          subst hw
          have hP := zr_keep hP hk1
          clear hk1 hz1 hB ht hvm hw
          refine lv_iload hx hb dL_law_515 (lv_at hl 7 rfl) ?_
          refine lv_if_eq (tgt := 524) hx hb dL_law_517 (by decide) (fun c517 => ?_) (fun c => absurd (rfl) c)
          refine lv_ldc hx hb hown (hts (.constant RL 17 (-900001)) (List.mem_of_getElem? (i := 3) rfl)) dL_law_524 ?_
          refine lv_icmp_ne (tgt := 533) hx hb dL_law_526 (by decide) (fun c => absurd c (fun q => q rfl)) (fun c526 => ?_)
          refine lv_iconst (v := 1) hx hb dL_law_529 (by decide) ?_
          refine lv_goto (tgt := 534) hx hb dL_law_530 (by decide) ?_
          refine lv_iand hx hb dL_law_534 ?_
          refine zt_top (y := 1) (z11) ?_
          refine lv_istore_n (lv' := [(2, .int 1), (0, .ref b), (1, .ref o), (3, .int (nI nc)), (4, .int (nI i)), (6, .ref a3), (7, .int (nI n)), (12, .int (zb false))]) hx hb dL_law_535 rfl hl (by decide) rfl (fun ls hl => ?_)
          refine lv_iload hx hb dL_law_536 (lv_at hl 7 rfl) ?_
          refine lv_if_eq (tgt := 546) hx hb dL_law_538 (by decide) (fun c538 => ?_) (fun c => absurd (rfl) c)
          refine lv_iconst (v := 0) hx hb dL_law_546 (by decide) ?_
          refine lv_istore (lv' := [(7, .int 0), (2, .int 1), (0, .ref b), (1, .ref o), (3, .int (nI nc)), (4, .int (nI i)), (6, .ref a3), (12, .int (zb false))]) hx hb dL_law_547 hl (by decide) rfl (fun ls hl => ?_)
          refine lv_iload hx hb dL_law_549 (lv_at hl 0 rfl) ?_
          refine lv_if_le (tgt := 1049) hx hb dL_law_551 (by decide) (fun c551 => ?_) (fun c => absurd (by decide) c)
          have kk2 := kk nc ad (([(a3, .inl (cI, 64, .inl fr))] : va_W) ++ X) n ft
          exact kk2 _ _ _ _ (by omega) (by omega) (zM_more hM) (by omega) (by omega) hP hD hS ls (lv_sub hl [2, 3, 1, 4, 5] rfl)
      · skip
        have hkn : k < n := Nat.lt_of_not_le (fun q => c395 ((nI_leI (by omega) (by omega)).mpr q))
        refine lv_aload hx hb dL_law_398 (lv_at hl 5 rfl) ?_
        refine lv_iload hx hb dL_law_400 (lv_at hl 8 rfl) ?_
        refine va_iald hx hb hK hP 3 0 rfl rfl (vp_in_nI (by omega) (by decide)) dL_law_402 ?_
        refine zt_top (y := fr k) (by rw [nI_clamp (by omega)]) ?_
        refine lv_aload hx hb dL_law_403 (lv_at hl 5 rfl) ?_
        refine lv_iload hx hb dL_law_405 (lv_at hl 8 rfl) ?_
        refine lv_iconst (v := 1) hx hb dL_law_407 (by decide) ?_
        refine lv_iadd hx hb dL_law_408 ?_
        refine zt_top (y := nI (k + 1)) (nI_1 k) ?_
        refine lv_iload hx hb dL_law_409 (lv_at hl 6 rfl) ?_
        refine lv_irem hx hb dL_law_411 (nI_ne0 (by omega) (by omega)) ?_
        refine zt_top (y := nI ((k + 1) % n)) (pk_rem (by omega) (by omega) (by omega)) ?_
        refine va_iald hx hb hK hP 3 0 rfl rfl (vp_in_nI (Nat.lt_of_lt_of_le (Nat.mod_lt _ (by omega)) (by omega)) (by decide)) dL_law_412 ?_
        refine zt_top (y := fr ((k + 1) % n)) (by rw [nI_clamp (Nat.lt_of_lt_of_le (Nat.mod_lt _ (by omega)) (by omega))]) ?_
        refine lv_ixor hx hb dL_law_413 ?_
        refine zt_top (y := (fr k ^^^ fr ((k + 1) % n))) (rfl) ?_
        refine lv_istore (lv' := [(14, .int (fr k ^^^ fr ((k + 1) % n))), (0, .ref b), (1, .ref o), (2, .int 1), (3, .int (nI nc)), (4, .int (nI i)), (6, .ref a3), (7, .int (nI n)), (12, .int (zb (zal (fun k => zlP fr n k) k))), (13, .int (nI k))]) hx hb dL_law_414 hl (by decide) rfl (fun ls hl => ?_)
        refine lv_iload hx hb dL_law_416 (lv_at hl 8 rfl) ?_
        refine lv_iload hx hb dL_law_418 (lv_at hl 0 rfl) ?_
        refine lv_if_eq (tgt := 437) hx hb dL_law_420 (by decide) (fun c420 => ?_) (fun c420 => ?_)
        · skip
          have hzp : zap (fr k ^^^ fr ((k + 1) % n)) = false := by unfold zap; rw [decide_eq_false (not_not_intro c420)]; rfl
          refine lv_iconst (v := 0) hx hb dL_law_437 (by decide) ?_
          refine lv_iand hx hb dL_law_438 ?_
          refine zt_top (y := zb (zal (fun k => zlP fr n k) k && zap (fr k ^^^ fr ((k + 1) % n)) && zal (fun j => decide (¬ fr j = fr k)) 0)) (by rw [hzp, zal, Bool.and_true]; exact zb_and (b := false)) ?_
          refine lv_istore (lv' := [(12, .int (zb (zal (fun k => zlP fr n k) k && zap (fr k ^^^ fr ((k + 1) % n)) && zal (fun j => decide (¬ fr j = fr k)) 0))), (14, .int (fr k ^^^ fr ((k + 1) % n))), (0, .ref b), (1, .ref o), (2, .int 1), (3, .int (nI nc)), (4, .int (nI i)), (6, .ref a3), (7, .int (nI n)), (13, .int (nI k))]) hx hb dL_law_439 hl (by decide) rfl (fun ls hl => ?_)
          refine lv_iconst (v := 0) hx hb dL_law_441 (by decide) ?_
          refine lv_istore (lv' := [(15, .int 0), (12, .int (zb (zal (fun k => zlP fr n k) k && zap (fr k ^^^ fr ((k + 1) % n)) && zal (fun j => decide (¬ fr j = fr k)) 0))), (14, .int (fr k ^^^ fr ((k + 1) % n))), (0, .ref b), (1, .ref o), (2, .int 1), (3, .int (nI nc)), (4, .int (nI i)), (6, .ref a3), (7, .int (nI n)), (13, .int (nI k))]) hx hb dL_law_442 hl (by decide) rfl (fun ls hl => ?_)
          have inner : ∀ (d2 : Nat) (j : Nat), k + 1 ≤ j + d2 → j ≤ k → ∀ (H : Heap) (locs : List Loc), va_P (dC, dI) vwCl ([(o, .inr (6, [.ref a0, .int (nI k), .ref a1, .int (nI nc), .null, .int 40, .int 48, .int 0, .ref a2])), (a0, .inl (cI, 64, .inl ft)), (a1, .inl (cC, 4, .inr (.inr (.inr (.inr ad))))), (a3, .inl (cI, 64, .inl fr))] ++ X) H → va_D (zq s.heap.size) ([(o, .inr (6, [.ref a0, .int (nI k), .ref a1, .int (nI nc), .null, .int 40, .int 48, .int 0, .ref a2])), (a0, .inl (cI, 64, .inl ft)), (a1, .inl (cC, 4, .inr (.inr (.inr (.inr ad))))), (a3, .inl (cI, 64, .inl fr))] ++ X) → va_S (zq s.heap.size) s.heap H locs → ∀ ls : Array Slot, lv_has ls 19 [(0, .ref b), (1, .ref o), (2, .int 1), (3, .int (nI nc)), (4, .int (nI i)), (6, .ref a3), (7, .int (nI n)), (12, .int (zb (zal (fun k => zlP fr n k) k && zap (fr k ^^^ fr ((k + 1) % n)) && zal (fun j => decide (¬ fr j = fr k)) j))), (13, .int (nI k)), (15, .int (nI j))] → W p l e room_1 s m #[Value.ref b] below meth c H locs cn sn Q (F0 m 444 ls []) := by
            intro d2
            induction d2 with
            | zero => intro j hd2 hj; exact absurd hd2 (by omega)
            | succ d2 ihe =>
              intro j hd2 hj H locs hP hD hS ls hl
              refine lv_iload hx hb dL_law_444 (lv_at hl 9 rfl) ?_
              refine lv_iload hx hb dL_law_446 (lv_at hl 8 rfl) ?_
              refine lv_icmp_ge (tgt := 480) hx hb dL_law_448 (by decide) (fun c448 => ?_) (fun c448 => ?_)
              · skip
                have hjk : j = k := Nat.le_antisymm hj ((nI_leI (by omega) (by omega)).mp c448)
                rw [hjk, show (zal (fun k => zlP fr n k) k && zap (fr k ^^^ fr ((k + 1) % n)) && zal (fun j => decide (¬ fr j = fr k)) k) = zal (fun k => zlP fr n k) (k + 1) from by rw [Bool.and_assoc]; rfl] at hl
                have hl : lv_has ls 19 [(0, .ref b), (1, .ref o), (2, .int 1), (3, .int (nI nc)), (4, .int (nI i)), (6, .ref a3), (7, .int (nI n)), (12, .int (zb (zal (fun k => zlP fr n k) (k + 1)))), (13, .int (nI k))] := lv_sub hl [0, 1, 2, 3, 4, 5, 6, 7, 8] rfl
                refine lv_iload_n hx hb dL_law_480 rfl (lv_at hl 2 rfl) ?_
                refine lv_aload_n hx hb dL_law_481 rfl (lv_at hl 1 rfl) ?_
                refine lv_aload hx hb dL_law_482 (lv_at hl 5 rfl) ?_
                refine lv_iload hx hb dL_law_484 (lv_at hl 8 rfl) ?_
                refine va_iald hx hb hK hP 3 0 rfl rfl (vp_in_nI (by omega) (by decide)) dL_law_486 ?_
                refine zt_top (y := fr k) (by rw [nI_clamp (by omega)]) ?_
                have hPc := hP.sub (ws' := [(o, .inr (6, [.ref a0, .int (nI k), .ref a1, .int (nI nc), .null, .int 40, .int 48, .int 0, .ref a2])), (a0, .inl (cI, 64, .inl ft))]) [0, 1] rfl
                have hDc := hD.sub (ws' := [(o, .inr (6, [.ref a0, .int (nI k), .ref a1, .int (nI nc), .null, .int 40, .int 48, .int 0, .ref a2])), (a0, .inl (cI, 64, .inl ft))]) [0, 1] (by decide) rfl
                have hKc := hK.sub (tys' := [(cI, .int), (cC, (.object RX0))]) [0, 1] rfl
                have hFc := va_free (wc := [(o, .inr (6, [.ref a0, .int (nI k), .ref a1, .int (nI nc), .null, .int 40, .int 48, .int 0, .ref a2])), (a0, .inl (cI, 64, .inl ft))]) hD hS hA [0, 1] rfl
                refine va_calli (vx_runSW (As := [.ref o, .int (fr k)]) (rest := [.int 1]) ⟨hx, hb, hml, hown, hts⟩ (w_type l dC dI H.size cI cC o a0 a1 a2 k nc ft (fr k) (by omega) (zin8 (h8 k hkn))) (vx_cwSW 2 hts gL_law_L_type rfl rfl rfl (by decide +kernel) ⟨Nat.le_of_ble_eq_true rfl, Nat.le_of_ble_eq_true rfl⟩) ⟨zfbD, zpreD hPc hKc hDc⟩ rfl rfl hl.1 rfl (lv_room (Nat.le_of_ble_eq_true rfl)) dL_law_487 ⟨(show cn + 0 ≤ 679936 by omega), (show sn + 0 ≤ 7061659 by omega)⟩) hS (fun q _ h => hFc q h) hFc (fun r9 u9 t9 H1 locs ht hvm hw hB hz1 hk1 hS => ?_)
                try dsimp only at hw
                have hw : r9 = nI (k + 1) := hw
                subst hw
                obtain ⟨hP1, hD1⟩ := hB
                rw [ht] at hP1
                obtain ⟨hP, hD⟩ := va_joinQ (wr := [(a1, .inl (cC, 4, .inr (.inr (.inr (.inr ad))))), (a3, .inl (cI, 64, .inl fr))]) (w1 := [(o, .inr (6, [.ref a0, .int (nI (k + 1)), .ref a1, .int (nI nc), .null, .int 40, .int 48, .int 0, .ref a2])), (a0, .inl (cI, 64, .inl (upd ft k (fr k))))]) (pl := X) hP hD [0, 1] [2, 3] rfl rfl (by decide) (by decide) hk1 hFc hP1 hD1
                clear hPc hDc hFc hP1 hD1 hk1 hz1 ht hvm
                have hP : va_P (dC, dI) vwCl ([(a1, .inl (cC, 4, .inr (.inr (.inr (.inr ad))))), (a3, .inl (cI, 64, .inl fr)), (o, .inr (6, [.ref a0, .int (nI (k + 1)), .ref a1, .int (nI nc), .null, .int 40, .int 48, .int 0, .ref a2])), (a0, .inl (cI, 64, .inl (upd ft k (fr k))))] ++ X) H1 := hP
                have hD : va_D (zq s.heap.size) ([(a1, .inl (cC, 4, .inr (.inr (.inr (.inr ad))))), (a3, .inl (cI, 64, .inl fr)), (o, .inr (6, [.ref a0, .int (nI (k + 1)), .ref a1, .int (nI nc), .null, .int 40, .int 48, .int 0, .ref a2])), (a0, .inl (cI, 64, .inl (upd ft k (fr k))))] ++ X) := hD
                have hP := hP.part (cx := [(o, .inr (6, [.ref a0, .int (nI (k + 1)), .ref a1, .int (nI nc), .null, .int 40, .int 48, .int 0, .ref a2])), (a0, .inl (cI, 64, .inl (upd ft k (fr k)))), (a1, .inl (cC, 4, .inr (.inr (.inr (.inr ad))))), (a3, .inl (cI, 64, .inl fr))]) [2, 3, 0, 1] rfl
                have hD := hD.part (cx := [(o, .inr (6, [.ref a0, .int (nI (k + 1)), .ref a1, .int (nI nc), .null, .int 40, .int 48, .int 0, .ref a2])), (a0, .inl (cI, 64, .inl (upd ft k (fr k)))), (a1, .inl (cC, 4, .inr (.inr (.inr (.inr ad))))), (a3, .inl (cI, 64, .inl fr))]) [2, 3, 0, 1] (by decide) rfl
                have hP : va_P (dC, dI) vwCl ([(o, .inr (6, [.ref a0, .int (nI (k + 1)), .ref a1, .int (nI nc), .null, .int 40, .int 48, .int 0, .ref a2])), (a0, .inl (cI, 64, .inl (upd ft k (fr k)))), (a1, .inl (cC, 4, .inr (.inr (.inr (.inr ad))))), (a3, .inl (cI, 64, .inl fr))] ++ X) H1 := hP
                have hD : va_D (zq s.heap.size) ([(o, .inr (6, [.ref a0, .int (nI (k + 1)), .ref a1, .int (nI nc), .null, .int 40, .int 48, .int 0, .ref a2])), (a0, .inl (cI, 64, .inl (upd ft k (fr k)))), (a1, .inl (cC, 4, .inr (.inr (.inr (.inr ad))))), (a3, .inl (cI, 64, .inl fr))] ++ X) := hD
                have hft2 : ∀ j, j < k + 1 → upd ft k (fr k) j = fr j := fun j hj => by
                  by_cases q : j = k
                  · rw [q]; exact pk_us
                  · rw [pk_un q]; exact hft j (by omega)
                refine lv_iload hx hb dL_law_490 (lv_at hl 8 rfl) ?_
                refine lv_iconst (v := 1) hx hb dL_law_492 (by decide) ?_
                refine lv_iadd hx hb dL_law_493 ?_
                refine zt_top (y := nI (k + 1)) (nI_1 k) ?_
                refine lv_icmp_ne (tgt := 501) hx hb dL_law_494 (by decide) (fun c => absurd c (fun q => q rfl)) (fun c494 => ?_)
                refine lv_iconst (v := 1) hx hb dL_law_497 (by decide) ?_
                refine lv_goto (tgt := 502) hx hb dL_law_498 (by decide) ?_
                refine lv_iand hx hb dL_law_502 ?_
                refine zt_top (y := 1) (z11) ?_
                refine lv_istore_n (lv' := [(2, .int 1), (0, .ref b), (1, .ref o), (3, .int (nI nc)), (4, .int (nI i)), (6, .ref a3), (7, .int (nI n)), (12, .int (zb (zal (fun k => zlP fr n k) (k + 1)))), (13, .int (nI k))]) hx hb dL_law_503 rfl hl (by decide) rfl (fun ls hl => ?_)
                refine lv_iinc (v := nI (k + 1)) (lv' := [(13, .int (nI (k + 1))), (2, .int 1), (0, .ref b), (1, .ref o), (3, .int (nI nc)), (4, .int (nI i)), (6, .ref a3), (7, .int (nI n)), (12, .int (zb (zal (fun k => zlP fr n k) (k + 1))))]) hx hb dL_law_504 hl (k := 8) rfl (nI_1 k) (by decide) rfl (fun ls hl => ?_)
                refine lv_goto (tgt := 391) hx hb dL_law_507 (by decide) ?_
                exact ih (k + 1) _ (by omega) (by omega) hft2 _ _ hP hD hS ls (lv_sub hl [2, 3, 1, 4, 5, 6, 7, 8, 0] rfl)
              · skip
                have hjk : j < k := Nat.lt_of_not_le (fun q => c448 ((nI_leI (by omega) (by omega)).mpr q))
                refine lv_iload hx hb dL_law_451 (lv_at hl 7 rfl) ?_
                refine lv_aload hx hb dL_law_453 (lv_at hl 5 rfl) ?_
                refine lv_iload hx hb dL_law_455 (lv_at hl 9 rfl) ?_
                refine va_iald hx hb hK hP 3 0 rfl rfl (vp_in_nI (by omega) (by decide)) dL_law_457 ?_
                refine zt_top (y := fr j) (by rw [nI_clamp (by omega)]) ?_
                refine lv_aload hx hb dL_law_458 (lv_at hl 5 rfl) ?_
                refine lv_iload hx hb dL_law_460 (lv_at hl 8 rfl) ?_
                refine va_iald hx hb hK hP 3 0 rfl rfl (vp_in_nI (by omega) (by decide)) dL_law_462 ?_
                refine zt_top (y := fr k) (by rw [nI_clamp (by omega)]) ?_
                refine lv_icmp_eq (tgt := 470) hx hb dL_law_463 (by decide) (fun c463 => ?_) (fun c463 => ?_)
                · skip
                  have ecj : decide (¬ fr j = fr k) = false := decide_eq_false (not_not_intro c463)
                  refine lv_iconst (v := 0) hx hb dL_law_470 (by decide) ?_
                  refine lv_iand hx hb dL_law_471 ?_
                  refine zt_top (y := zb (zal (fun k => zlP fr n k) k && zap (fr k ^^^ fr ((k + 1) % n)) && zal (fun j => decide (¬ fr j = fr k)) (j + 1))) (by rw [zal, ecj, ← Bool.and_assoc]; exact zb_and (b := false)) ?_
                  refine lv_istore (lv' := [(12, .int (zb (zal (fun k => zlP fr n k) k && zap (fr k ^^^ fr ((k + 1) % n)) && zal (fun j => decide (¬ fr j = fr k)) (j + 1)))), (0, .ref b), (1, .ref o), (2, .int 1), (3, .int (nI nc)), (4, .int (nI i)), (6, .ref a3), (7, .int (nI n)), (13, .int (nI k)), (15, .int (nI j))]) hx hb dL_law_472 hl (by decide) rfl (fun ls hl => ?_)
                  refine lv_iinc (v := nI (j + 1)) (lv' := [(15, .int (nI (j + 1))), (12, .int (zb (zal (fun k => zlP fr n k) k && zap (fr k ^^^ fr ((k + 1) % n)) && zal (fun j => decide (¬ fr j = fr k)) (j + 1)))), (0, .ref b), (1, .ref o), (2, .int 1), (3, .int (nI nc)), (4, .int (nI i)), (6, .ref a3), (7, .int (nI n)), (13, .int (nI k))]) hx hb dL_law_474 hl (k := 9) rfl (nI_1 j) (by decide) rfl (fun ls hl => ?_)
                  refine lv_goto (tgt := 444) hx hb dL_law_477 (by decide) ?_
                  exact ihe (j + 1) (by omega) (by omega) _ _ hP hD hS ls (lv_sub hl [2, 3, 4, 5, 6, 7, 8, 1, 9, 0] rfl)
                · skip
                  have ecj : decide (¬ fr j = fr k) = true := decide_eq_true c463
                  refine lv_iconst (v := 1) hx hb dL_law_466 (by decide) ?_
                  refine lv_goto (tgt := 471) hx hb dL_law_467 (by decide) ?_
                  refine lv_iand hx hb dL_law_471 ?_
                  refine zt_top (y := zb (zal (fun k => zlP fr n k) k && zap (fr k ^^^ fr ((k + 1) % n)) && zal (fun j => decide (¬ fr j = fr k)) (j + 1))) (by rw [zal, ecj, ← Bool.and_assoc]; exact zb_and (b := true)) ?_
                  refine lv_istore (lv' := [(12, .int (zb (zal (fun k => zlP fr n k) k && zap (fr k ^^^ fr ((k + 1) % n)) && zal (fun j => decide (¬ fr j = fr k)) (j + 1)))), (0, .ref b), (1, .ref o), (2, .int 1), (3, .int (nI nc)), (4, .int (nI i)), (6, .ref a3), (7, .int (nI n)), (13, .int (nI k)), (15, .int (nI j))]) hx hb dL_law_472 hl (by decide) rfl (fun ls hl => ?_)
                  refine lv_iinc (v := nI (j + 1)) (lv' := [(15, .int (nI (j + 1))), (12, .int (zb (zal (fun k => zlP fr n k) k && zap (fr k ^^^ fr ((k + 1) % n)) && zal (fun j => decide (¬ fr j = fr k)) (j + 1)))), (0, .ref b), (1, .ref o), (2, .int 1), (3, .int (nI nc)), (4, .int (nI i)), (6, .ref a3), (7, .int (nI n)), (13, .int (nI k))]) hx hb dL_law_474 hl (k := 9) rfl (nI_1 j) (by decide) rfl (fun ls hl => ?_)
                  refine lv_goto (tgt := 444) hx hb dL_law_477 (by decide) ?_
                  exact ihe (j + 1) (by omega) (by omega) _ _ hP hD hS ls (lv_sub hl [2, 3, 4, 5, 6, 7, 8, 1, 9, 0] rfl)
          exact inner (k + 1) 0 (by omega) (Nat.zero_le _) _ _ hP hD hS ls (lv_sub hl [3, 4, 5, 6, 7, 8, 9, 1, 10, 0] rfl)
        · skip
          refine lv_iload hx hb dL_law_423 (lv_at hl 0 rfl) ?_
          refine lv_iload hx hb dL_law_425 (lv_at hl 0 rfl) ?_
          refine lv_iconst (v := 1) hx hb dL_law_427 (by decide) ?_
          refine lv_isub hx hb dL_law_428 ?_
          refine lv_iand hx hb dL_law_429 ?_
          refine lv_if_ne (tgt := 437) hx hb dL_law_430 (by decide) (fun c430 => ?_) (fun c430 => ?_)
          · skip
            have hzp : zap (fr k ^^^ fr ((k + 1) % n)) = false := by unfold zap; rw [decide_eq_false c430, Bool.and_false]
            refine lv_iconst (v := 0) hx hb dL_law_437 (by decide) ?_
            refine lv_iand hx hb dL_law_438 ?_
            refine zt_top (y := zb (zal (fun k => zlP fr n k) k && zap (fr k ^^^ fr ((k + 1) % n)) && zal (fun j => decide (¬ fr j = fr k)) 0)) (by rw [hzp, zal, Bool.and_true]; exact zb_and (b := false)) ?_
            refine lv_istore (lv' := [(12, .int (zb (zal (fun k => zlP fr n k) k && zap (fr k ^^^ fr ((k + 1) % n)) && zal (fun j => decide (¬ fr j = fr k)) 0))), (14, .int (fr k ^^^ fr ((k + 1) % n))), (0, .ref b), (1, .ref o), (2, .int 1), (3, .int (nI nc)), (4, .int (nI i)), (6, .ref a3), (7, .int (nI n)), (13, .int (nI k))]) hx hb dL_law_439 hl (by decide) rfl (fun ls hl => ?_)
            refine lv_iconst (v := 0) hx hb dL_law_441 (by decide) ?_
            refine lv_istore (lv' := [(15, .int 0), (12, .int (zb (zal (fun k => zlP fr n k) k && zap (fr k ^^^ fr ((k + 1) % n)) && zal (fun j => decide (¬ fr j = fr k)) 0))), (14, .int (fr k ^^^ fr ((k + 1) % n))), (0, .ref b), (1, .ref o), (2, .int 1), (3, .int (nI nc)), (4, .int (nI i)), (6, .ref a3), (7, .int (nI n)), (13, .int (nI k))]) hx hb dL_law_442 hl (by decide) rfl (fun ls hl => ?_)
            have inner : ∀ (d2 : Nat) (j : Nat), k + 1 ≤ j + d2 → j ≤ k → ∀ (H : Heap) (locs : List Loc), va_P (dC, dI) vwCl ([(o, .inr (6, [.ref a0, .int (nI k), .ref a1, .int (nI nc), .null, .int 40, .int 48, .int 0, .ref a2])), (a0, .inl (cI, 64, .inl ft)), (a1, .inl (cC, 4, .inr (.inr (.inr (.inr ad))))), (a3, .inl (cI, 64, .inl fr))] ++ X) H → va_D (zq s.heap.size) ([(o, .inr (6, [.ref a0, .int (nI k), .ref a1, .int (nI nc), .null, .int 40, .int 48, .int 0, .ref a2])), (a0, .inl (cI, 64, .inl ft)), (a1, .inl (cC, 4, .inr (.inr (.inr (.inr ad))))), (a3, .inl (cI, 64, .inl fr))] ++ X) → va_S (zq s.heap.size) s.heap H locs → ∀ ls : Array Slot, lv_has ls 19 [(0, .ref b), (1, .ref o), (2, .int 1), (3, .int (nI nc)), (4, .int (nI i)), (6, .ref a3), (7, .int (nI n)), (12, .int (zb (zal (fun k => zlP fr n k) k && zap (fr k ^^^ fr ((k + 1) % n)) && zal (fun j => decide (¬ fr j = fr k)) j))), (13, .int (nI k)), (15, .int (nI j))] → W p l e room_1 s m #[Value.ref b] below meth c H locs cn sn Q (F0 m 444 ls []) := by
              intro d2
              induction d2 with
              | zero => intro j hd2 hj; exact absurd hd2 (by omega)
              | succ d2 ihe =>
                intro j hd2 hj H locs hP hD hS ls hl
                refine lv_iload hx hb dL_law_444 (lv_at hl 9 rfl) ?_
                refine lv_iload hx hb dL_law_446 (lv_at hl 8 rfl) ?_
                refine lv_icmp_ge (tgt := 480) hx hb dL_law_448 (by decide) (fun c448 => ?_) (fun c448 => ?_)
                · skip
                  have hjk : j = k := Nat.le_antisymm hj ((nI_leI (by omega) (by omega)).mp c448)
                  rw [hjk, show (zal (fun k => zlP fr n k) k && zap (fr k ^^^ fr ((k + 1) % n)) && zal (fun j => decide (¬ fr j = fr k)) k) = zal (fun k => zlP fr n k) (k + 1) from by rw [Bool.and_assoc]; rfl] at hl
                  have hl : lv_has ls 19 [(0, .ref b), (1, .ref o), (2, .int 1), (3, .int (nI nc)), (4, .int (nI i)), (6, .ref a3), (7, .int (nI n)), (12, .int (zb (zal (fun k => zlP fr n k) (k + 1)))), (13, .int (nI k))] := lv_sub hl [0, 1, 2, 3, 4, 5, 6, 7, 8] rfl
                  refine lv_iload_n hx hb dL_law_480 rfl (lv_at hl 2 rfl) ?_
                  refine lv_aload_n hx hb dL_law_481 rfl (lv_at hl 1 rfl) ?_
                  refine lv_aload hx hb dL_law_482 (lv_at hl 5 rfl) ?_
                  refine lv_iload hx hb dL_law_484 (lv_at hl 8 rfl) ?_
                  refine va_iald hx hb hK hP 3 0 rfl rfl (vp_in_nI (by omega) (by decide)) dL_law_486 ?_
                  refine zt_top (y := fr k) (by rw [nI_clamp (by omega)]) ?_
                  have hPc := hP.sub (ws' := [(o, .inr (6, [.ref a0, .int (nI k), .ref a1, .int (nI nc), .null, .int 40, .int 48, .int 0, .ref a2])), (a0, .inl (cI, 64, .inl ft))]) [0, 1] rfl
                  have hDc := hD.sub (ws' := [(o, .inr (6, [.ref a0, .int (nI k), .ref a1, .int (nI nc), .null, .int 40, .int 48, .int 0, .ref a2])), (a0, .inl (cI, 64, .inl ft))]) [0, 1] (by decide) rfl
                  have hKc := hK.sub (tys' := [(cI, .int), (cC, (.object RX0))]) [0, 1] rfl
                  have hFc := va_free (wc := [(o, .inr (6, [.ref a0, .int (nI k), .ref a1, .int (nI nc), .null, .int 40, .int 48, .int 0, .ref a2])), (a0, .inl (cI, 64, .inl ft))]) hD hS hA [0, 1] rfl
                  refine va_calli (vx_runSW (As := [.ref o, .int (fr k)]) (rest := [.int 1]) ⟨hx, hb, hml, hown, hts⟩ (w_type l dC dI H.size cI cC o a0 a1 a2 k nc ft (fr k) (by omega) (zin8 (h8 k hkn))) (vx_cwSW 2 hts gL_law_L_type rfl rfl rfl (by decide +kernel) ⟨Nat.le_of_ble_eq_true rfl, Nat.le_of_ble_eq_true rfl⟩) ⟨zfbD, zpreD hPc hKc hDc⟩ rfl rfl hl.1 rfl (lv_room (Nat.le_of_ble_eq_true rfl)) dL_law_487 ⟨(show cn + 0 ≤ 679936 by omega), (show sn + 0 ≤ 7061659 by omega)⟩) hS (fun q _ h => hFc q h) hFc (fun r9 u9 t9 H1 locs ht hvm hw hB hz1 hk1 hS => ?_)
                  try dsimp only at hw
                  have hw : r9 = nI (k + 1) := hw
                  subst hw
                  obtain ⟨hP1, hD1⟩ := hB
                  rw [ht] at hP1
                  obtain ⟨hP, hD⟩ := va_joinQ (wr := [(a1, .inl (cC, 4, .inr (.inr (.inr (.inr ad))))), (a3, .inl (cI, 64, .inl fr))]) (w1 := [(o, .inr (6, [.ref a0, .int (nI (k + 1)), .ref a1, .int (nI nc), .null, .int 40, .int 48, .int 0, .ref a2])), (a0, .inl (cI, 64, .inl (upd ft k (fr k))))]) (pl := X) hP hD [0, 1] [2, 3] rfl rfl (by decide) (by decide) hk1 hFc hP1 hD1
                  clear hPc hDc hFc hP1 hD1 hk1 hz1 ht hvm
                  have hP : va_P (dC, dI) vwCl ([(a1, .inl (cC, 4, .inr (.inr (.inr (.inr ad))))), (a3, .inl (cI, 64, .inl fr)), (o, .inr (6, [.ref a0, .int (nI (k + 1)), .ref a1, .int (nI nc), .null, .int 40, .int 48, .int 0, .ref a2])), (a0, .inl (cI, 64, .inl (upd ft k (fr k))))] ++ X) H1 := hP
                  have hD : va_D (zq s.heap.size) ([(a1, .inl (cC, 4, .inr (.inr (.inr (.inr ad))))), (a3, .inl (cI, 64, .inl fr)), (o, .inr (6, [.ref a0, .int (nI (k + 1)), .ref a1, .int (nI nc), .null, .int 40, .int 48, .int 0, .ref a2])), (a0, .inl (cI, 64, .inl (upd ft k (fr k))))] ++ X) := hD
                  have hP := hP.part (cx := [(o, .inr (6, [.ref a0, .int (nI (k + 1)), .ref a1, .int (nI nc), .null, .int 40, .int 48, .int 0, .ref a2])), (a0, .inl (cI, 64, .inl (upd ft k (fr k)))), (a1, .inl (cC, 4, .inr (.inr (.inr (.inr ad))))), (a3, .inl (cI, 64, .inl fr))]) [2, 3, 0, 1] rfl
                  have hD := hD.part (cx := [(o, .inr (6, [.ref a0, .int (nI (k + 1)), .ref a1, .int (nI nc), .null, .int 40, .int 48, .int 0, .ref a2])), (a0, .inl (cI, 64, .inl (upd ft k (fr k)))), (a1, .inl (cC, 4, .inr (.inr (.inr (.inr ad))))), (a3, .inl (cI, 64, .inl fr))]) [2, 3, 0, 1] (by decide) rfl
                  have hP : va_P (dC, dI) vwCl ([(o, .inr (6, [.ref a0, .int (nI (k + 1)), .ref a1, .int (nI nc), .null, .int 40, .int 48, .int 0, .ref a2])), (a0, .inl (cI, 64, .inl (upd ft k (fr k)))), (a1, .inl (cC, 4, .inr (.inr (.inr (.inr ad))))), (a3, .inl (cI, 64, .inl fr))] ++ X) H1 := hP
                  have hD : va_D (zq s.heap.size) ([(o, .inr (6, [.ref a0, .int (nI (k + 1)), .ref a1, .int (nI nc), .null, .int 40, .int 48, .int 0, .ref a2])), (a0, .inl (cI, 64, .inl (upd ft k (fr k)))), (a1, .inl (cC, 4, .inr (.inr (.inr (.inr ad))))), (a3, .inl (cI, 64, .inl fr))] ++ X) := hD
                  have hft2 : ∀ j, j < k + 1 → upd ft k (fr k) j = fr j := fun j hj => by
                    by_cases q : j = k
                    · rw [q]; exact pk_us
                    · rw [pk_un q]; exact hft j (by omega)
                  refine lv_iload hx hb dL_law_490 (lv_at hl 8 rfl) ?_
                  refine lv_iconst (v := 1) hx hb dL_law_492 (by decide) ?_
                  refine lv_iadd hx hb dL_law_493 ?_
                  refine zt_top (y := nI (k + 1)) (nI_1 k) ?_
                  refine lv_icmp_ne (tgt := 501) hx hb dL_law_494 (by decide) (fun c => absurd c (fun q => q rfl)) (fun c494 => ?_)
                  refine lv_iconst (v := 1) hx hb dL_law_497 (by decide) ?_
                  refine lv_goto (tgt := 502) hx hb dL_law_498 (by decide) ?_
                  refine lv_iand hx hb dL_law_502 ?_
                  refine zt_top (y := 1) (z11) ?_
                  refine lv_istore_n (lv' := [(2, .int 1), (0, .ref b), (1, .ref o), (3, .int (nI nc)), (4, .int (nI i)), (6, .ref a3), (7, .int (nI n)), (12, .int (zb (zal (fun k => zlP fr n k) (k + 1)))), (13, .int (nI k))]) hx hb dL_law_503 rfl hl (by decide) rfl (fun ls hl => ?_)
                  refine lv_iinc (v := nI (k + 1)) (lv' := [(13, .int (nI (k + 1))), (2, .int 1), (0, .ref b), (1, .ref o), (3, .int (nI nc)), (4, .int (nI i)), (6, .ref a3), (7, .int (nI n)), (12, .int (zb (zal (fun k => zlP fr n k) (k + 1))))]) hx hb dL_law_504 hl (k := 8) rfl (nI_1 k) (by decide) rfl (fun ls hl => ?_)
                  refine lv_goto (tgt := 391) hx hb dL_law_507 (by decide) ?_
                  exact ih (k + 1) _ (by omega) (by omega) hft2 _ _ hP hD hS ls (lv_sub hl [2, 3, 1, 4, 5, 6, 7, 8, 0] rfl)
                · skip
                  have hjk : j < k := Nat.lt_of_not_le (fun q => c448 ((nI_leI (by omega) (by omega)).mpr q))
                  refine lv_iload hx hb dL_law_451 (lv_at hl 7 rfl) ?_
                  refine lv_aload hx hb dL_law_453 (lv_at hl 5 rfl) ?_
                  refine lv_iload hx hb dL_law_455 (lv_at hl 9 rfl) ?_
                  refine va_iald hx hb hK hP 3 0 rfl rfl (vp_in_nI (by omega) (by decide)) dL_law_457 ?_
                  refine zt_top (y := fr j) (by rw [nI_clamp (by omega)]) ?_
                  refine lv_aload hx hb dL_law_458 (lv_at hl 5 rfl) ?_
                  refine lv_iload hx hb dL_law_460 (lv_at hl 8 rfl) ?_
                  refine va_iald hx hb hK hP 3 0 rfl rfl (vp_in_nI (by omega) (by decide)) dL_law_462 ?_
                  refine zt_top (y := fr k) (by rw [nI_clamp (by omega)]) ?_
                  refine lv_icmp_eq (tgt := 470) hx hb dL_law_463 (by decide) (fun c463 => ?_) (fun c463 => ?_)
                  · skip
                    have ecj : decide (¬ fr j = fr k) = false := decide_eq_false (not_not_intro c463)
                    refine lv_iconst (v := 0) hx hb dL_law_470 (by decide) ?_
                    refine lv_iand hx hb dL_law_471 ?_
                    refine zt_top (y := zb (zal (fun k => zlP fr n k) k && zap (fr k ^^^ fr ((k + 1) % n)) && zal (fun j => decide (¬ fr j = fr k)) (j + 1))) (by rw [zal, ecj, ← Bool.and_assoc]; exact zb_and (b := false)) ?_
                    refine lv_istore (lv' := [(12, .int (zb (zal (fun k => zlP fr n k) k && zap (fr k ^^^ fr ((k + 1) % n)) && zal (fun j => decide (¬ fr j = fr k)) (j + 1)))), (0, .ref b), (1, .ref o), (2, .int 1), (3, .int (nI nc)), (4, .int (nI i)), (6, .ref a3), (7, .int (nI n)), (13, .int (nI k)), (15, .int (nI j))]) hx hb dL_law_472 hl (by decide) rfl (fun ls hl => ?_)
                    refine lv_iinc (v := nI (j + 1)) (lv' := [(15, .int (nI (j + 1))), (12, .int (zb (zal (fun k => zlP fr n k) k && zap (fr k ^^^ fr ((k + 1) % n)) && zal (fun j => decide (¬ fr j = fr k)) (j + 1)))), (0, .ref b), (1, .ref o), (2, .int 1), (3, .int (nI nc)), (4, .int (nI i)), (6, .ref a3), (7, .int (nI n)), (13, .int (nI k))]) hx hb dL_law_474 hl (k := 9) rfl (nI_1 j) (by decide) rfl (fun ls hl => ?_)
                    refine lv_goto (tgt := 444) hx hb dL_law_477 (by decide) ?_
                    exact ihe (j + 1) (by omega) (by omega) _ _ hP hD hS ls (lv_sub hl [2, 3, 4, 5, 6, 7, 8, 1, 9, 0] rfl)
                  · skip
                    have ecj : decide (¬ fr j = fr k) = true := decide_eq_true c463
                    refine lv_iconst (v := 1) hx hb dL_law_466 (by decide) ?_
                    refine lv_goto (tgt := 471) hx hb dL_law_467 (by decide) ?_
                    refine lv_iand hx hb dL_law_471 ?_
                    refine zt_top (y := zb (zal (fun k => zlP fr n k) k && zap (fr k ^^^ fr ((k + 1) % n)) && zal (fun j => decide (¬ fr j = fr k)) (j + 1))) (by rw [zal, ecj, ← Bool.and_assoc]; exact zb_and (b := true)) ?_
                    refine lv_istore (lv' := [(12, .int (zb (zal (fun k => zlP fr n k) k && zap (fr k ^^^ fr ((k + 1) % n)) && zal (fun j => decide (¬ fr j = fr k)) (j + 1)))), (0, .ref b), (1, .ref o), (2, .int 1), (3, .int (nI nc)), (4, .int (nI i)), (6, .ref a3), (7, .int (nI n)), (13, .int (nI k)), (15, .int (nI j))]) hx hb dL_law_472 hl (by decide) rfl (fun ls hl => ?_)
                    refine lv_iinc (v := nI (j + 1)) (lv' := [(15, .int (nI (j + 1))), (12, .int (zb (zal (fun k => zlP fr n k) k && zap (fr k ^^^ fr ((k + 1) % n)) && zal (fun j => decide (¬ fr j = fr k)) (j + 1)))), (0, .ref b), (1, .ref o), (2, .int 1), (3, .int (nI nc)), (4, .int (nI i)), (6, .ref a3), (7, .int (nI n)), (13, .int (nI k))]) hx hb dL_law_474 hl (k := 9) rfl (nI_1 j) (by decide) rfl (fun ls hl => ?_)
                    refine lv_goto (tgt := 444) hx hb dL_law_477 (by decide) ?_
                    exact ihe (j + 1) (by omega) (by omega) _ _ hP hD hS ls (lv_sub hl [2, 3, 4, 5, 6, 7, 8, 1, 9, 0] rfl)
            exact inner (k + 1) 0 (by omega) (Nat.zero_le _) _ _ hP hD hS ls (lv_sub hl [3, 4, 5, 6, 7, 8, 9, 1, 10, 0] rfl)
          · skip
            have hzp : zap (fr k ^^^ fr ((k + 1) % n)) = true := by unfold zap; rw [decide_eq_true c420, decide_eq_true c430]; rfl
            refine lv_iconst (v := 1) hx hb dL_law_433 (by decide) ?_
            refine lv_goto (tgt := 438) hx hb dL_law_434 (by decide) ?_
            refine lv_iand hx hb dL_law_438 ?_
            refine zt_top (y := zb (zal (fun k => zlP fr n k) k && zap (fr k ^^^ fr ((k + 1) % n)) && zal (fun j => decide (¬ fr j = fr k)) 0)) (by rw [hzp, zal, Bool.and_true]; exact zb_and (b := true)) ?_
            refine lv_istore (lv' := [(12, .int (zb (zal (fun k => zlP fr n k) k && zap (fr k ^^^ fr ((k + 1) % n)) && zal (fun j => decide (¬ fr j = fr k)) 0))), (14, .int (fr k ^^^ fr ((k + 1) % n))), (0, .ref b), (1, .ref o), (2, .int 1), (3, .int (nI nc)), (4, .int (nI i)), (6, .ref a3), (7, .int (nI n)), (13, .int (nI k))]) hx hb dL_law_439 hl (by decide) rfl (fun ls hl => ?_)
            refine lv_iconst (v := 0) hx hb dL_law_441 (by decide) ?_
            refine lv_istore (lv' := [(15, .int 0), (12, .int (zb (zal (fun k => zlP fr n k) k && zap (fr k ^^^ fr ((k + 1) % n)) && zal (fun j => decide (¬ fr j = fr k)) 0))), (14, .int (fr k ^^^ fr ((k + 1) % n))), (0, .ref b), (1, .ref o), (2, .int 1), (3, .int (nI nc)), (4, .int (nI i)), (6, .ref a3), (7, .int (nI n)), (13, .int (nI k))]) hx hb dL_law_442 hl (by decide) rfl (fun ls hl => ?_)
            have inner : ∀ (d2 : Nat) (j : Nat), k + 1 ≤ j + d2 → j ≤ k → ∀ (H : Heap) (locs : List Loc), va_P (dC, dI) vwCl ([(o, .inr (6, [.ref a0, .int (nI k), .ref a1, .int (nI nc), .null, .int 40, .int 48, .int 0, .ref a2])), (a0, .inl (cI, 64, .inl ft)), (a1, .inl (cC, 4, .inr (.inr (.inr (.inr ad))))), (a3, .inl (cI, 64, .inl fr))] ++ X) H → va_D (zq s.heap.size) ([(o, .inr (6, [.ref a0, .int (nI k), .ref a1, .int (nI nc), .null, .int 40, .int 48, .int 0, .ref a2])), (a0, .inl (cI, 64, .inl ft)), (a1, .inl (cC, 4, .inr (.inr (.inr (.inr ad))))), (a3, .inl (cI, 64, .inl fr))] ++ X) → va_S (zq s.heap.size) s.heap H locs → ∀ ls : Array Slot, lv_has ls 19 [(0, .ref b), (1, .ref o), (2, .int 1), (3, .int (nI nc)), (4, .int (nI i)), (6, .ref a3), (7, .int (nI n)), (12, .int (zb (zal (fun k => zlP fr n k) k && zap (fr k ^^^ fr ((k + 1) % n)) && zal (fun j => decide (¬ fr j = fr k)) j))), (13, .int (nI k)), (15, .int (nI j))] → W p l e room_1 s m #[Value.ref b] below meth c H locs cn sn Q (F0 m 444 ls []) := by
              intro d2
              induction d2 with
              | zero => intro j hd2 hj; exact absurd hd2 (by omega)
              | succ d2 ihe =>
                intro j hd2 hj H locs hP hD hS ls hl
                refine lv_iload hx hb dL_law_444 (lv_at hl 9 rfl) ?_
                refine lv_iload hx hb dL_law_446 (lv_at hl 8 rfl) ?_
                refine lv_icmp_ge (tgt := 480) hx hb dL_law_448 (by decide) (fun c448 => ?_) (fun c448 => ?_)
                · skip
                  have hjk : j = k := Nat.le_antisymm hj ((nI_leI (by omega) (by omega)).mp c448)
                  rw [hjk, show (zal (fun k => zlP fr n k) k && zap (fr k ^^^ fr ((k + 1) % n)) && zal (fun j => decide (¬ fr j = fr k)) k) = zal (fun k => zlP fr n k) (k + 1) from by rw [Bool.and_assoc]; rfl] at hl
                  have hl : lv_has ls 19 [(0, .ref b), (1, .ref o), (2, .int 1), (3, .int (nI nc)), (4, .int (nI i)), (6, .ref a3), (7, .int (nI n)), (12, .int (zb (zal (fun k => zlP fr n k) (k + 1)))), (13, .int (nI k))] := lv_sub hl [0, 1, 2, 3, 4, 5, 6, 7, 8] rfl
                  refine lv_iload_n hx hb dL_law_480 rfl (lv_at hl 2 rfl) ?_
                  refine lv_aload_n hx hb dL_law_481 rfl (lv_at hl 1 rfl) ?_
                  refine lv_aload hx hb dL_law_482 (lv_at hl 5 rfl) ?_
                  refine lv_iload hx hb dL_law_484 (lv_at hl 8 rfl) ?_
                  refine va_iald hx hb hK hP 3 0 rfl rfl (vp_in_nI (by omega) (by decide)) dL_law_486 ?_
                  refine zt_top (y := fr k) (by rw [nI_clamp (by omega)]) ?_
                  have hPc := hP.sub (ws' := [(o, .inr (6, [.ref a0, .int (nI k), .ref a1, .int (nI nc), .null, .int 40, .int 48, .int 0, .ref a2])), (a0, .inl (cI, 64, .inl ft))]) [0, 1] rfl
                  have hDc := hD.sub (ws' := [(o, .inr (6, [.ref a0, .int (nI k), .ref a1, .int (nI nc), .null, .int 40, .int 48, .int 0, .ref a2])), (a0, .inl (cI, 64, .inl ft))]) [0, 1] (by decide) rfl
                  have hKc := hK.sub (tys' := [(cI, .int), (cC, (.object RX0))]) [0, 1] rfl
                  have hFc := va_free (wc := [(o, .inr (6, [.ref a0, .int (nI k), .ref a1, .int (nI nc), .null, .int 40, .int 48, .int 0, .ref a2])), (a0, .inl (cI, 64, .inl ft))]) hD hS hA [0, 1] rfl
                  refine va_calli (vx_runSW (As := [.ref o, .int (fr k)]) (rest := [.int 1]) ⟨hx, hb, hml, hown, hts⟩ (w_type l dC dI H.size cI cC o a0 a1 a2 k nc ft (fr k) (by omega) (zin8 (h8 k hkn))) (vx_cwSW 2 hts gL_law_L_type rfl rfl rfl (by decide +kernel) ⟨Nat.le_of_ble_eq_true rfl, Nat.le_of_ble_eq_true rfl⟩) ⟨zfbD, zpreD hPc hKc hDc⟩ rfl rfl hl.1 rfl (lv_room (Nat.le_of_ble_eq_true rfl)) dL_law_487 ⟨(show cn + 0 ≤ 679936 by omega), (show sn + 0 ≤ 7061659 by omega)⟩) hS (fun q _ h => hFc q h) hFc (fun r9 u9 t9 H1 locs ht hvm hw hB hz1 hk1 hS => ?_)
                  try dsimp only at hw
                  have hw : r9 = nI (k + 1) := hw
                  subst hw
                  obtain ⟨hP1, hD1⟩ := hB
                  rw [ht] at hP1
                  obtain ⟨hP, hD⟩ := va_joinQ (wr := [(a1, .inl (cC, 4, .inr (.inr (.inr (.inr ad))))), (a3, .inl (cI, 64, .inl fr))]) (w1 := [(o, .inr (6, [.ref a0, .int (nI (k + 1)), .ref a1, .int (nI nc), .null, .int 40, .int 48, .int 0, .ref a2])), (a0, .inl (cI, 64, .inl (upd ft k (fr k))))]) (pl := X) hP hD [0, 1] [2, 3] rfl rfl (by decide) (by decide) hk1 hFc hP1 hD1
                  clear hPc hDc hFc hP1 hD1 hk1 hz1 ht hvm
                  have hP : va_P (dC, dI) vwCl ([(a1, .inl (cC, 4, .inr (.inr (.inr (.inr ad))))), (a3, .inl (cI, 64, .inl fr)), (o, .inr (6, [.ref a0, .int (nI (k + 1)), .ref a1, .int (nI nc), .null, .int 40, .int 48, .int 0, .ref a2])), (a0, .inl (cI, 64, .inl (upd ft k (fr k))))] ++ X) H1 := hP
                  have hD : va_D (zq s.heap.size) ([(a1, .inl (cC, 4, .inr (.inr (.inr (.inr ad))))), (a3, .inl (cI, 64, .inl fr)), (o, .inr (6, [.ref a0, .int (nI (k + 1)), .ref a1, .int (nI nc), .null, .int 40, .int 48, .int 0, .ref a2])), (a0, .inl (cI, 64, .inl (upd ft k (fr k))))] ++ X) := hD
                  have hP := hP.part (cx := [(o, .inr (6, [.ref a0, .int (nI (k + 1)), .ref a1, .int (nI nc), .null, .int 40, .int 48, .int 0, .ref a2])), (a0, .inl (cI, 64, .inl (upd ft k (fr k)))), (a1, .inl (cC, 4, .inr (.inr (.inr (.inr ad))))), (a3, .inl (cI, 64, .inl fr))]) [2, 3, 0, 1] rfl
                  have hD := hD.part (cx := [(o, .inr (6, [.ref a0, .int (nI (k + 1)), .ref a1, .int (nI nc), .null, .int 40, .int 48, .int 0, .ref a2])), (a0, .inl (cI, 64, .inl (upd ft k (fr k)))), (a1, .inl (cC, 4, .inr (.inr (.inr (.inr ad))))), (a3, .inl (cI, 64, .inl fr))]) [2, 3, 0, 1] (by decide) rfl
                  have hP : va_P (dC, dI) vwCl ([(o, .inr (6, [.ref a0, .int (nI (k + 1)), .ref a1, .int (nI nc), .null, .int 40, .int 48, .int 0, .ref a2])), (a0, .inl (cI, 64, .inl (upd ft k (fr k)))), (a1, .inl (cC, 4, .inr (.inr (.inr (.inr ad))))), (a3, .inl (cI, 64, .inl fr))] ++ X) H1 := hP
                  have hD : va_D (zq s.heap.size) ([(o, .inr (6, [.ref a0, .int (nI (k + 1)), .ref a1, .int (nI nc), .null, .int 40, .int 48, .int 0, .ref a2])), (a0, .inl (cI, 64, .inl (upd ft k (fr k)))), (a1, .inl (cC, 4, .inr (.inr (.inr (.inr ad))))), (a3, .inl (cI, 64, .inl fr))] ++ X) := hD
                  have hft2 : ∀ j, j < k + 1 → upd ft k (fr k) j = fr j := fun j hj => by
                    by_cases q : j = k
                    · rw [q]; exact pk_us
                    · rw [pk_un q]; exact hft j (by omega)
                  refine lv_iload hx hb dL_law_490 (lv_at hl 8 rfl) ?_
                  refine lv_iconst (v := 1) hx hb dL_law_492 (by decide) ?_
                  refine lv_iadd hx hb dL_law_493 ?_
                  refine zt_top (y := nI (k + 1)) (nI_1 k) ?_
                  refine lv_icmp_ne (tgt := 501) hx hb dL_law_494 (by decide) (fun c => absurd c (fun q => q rfl)) (fun c494 => ?_)
                  refine lv_iconst (v := 1) hx hb dL_law_497 (by decide) ?_
                  refine lv_goto (tgt := 502) hx hb dL_law_498 (by decide) ?_
                  refine lv_iand hx hb dL_law_502 ?_
                  refine zt_top (y := 1) (z11) ?_
                  refine lv_istore_n (lv' := [(2, .int 1), (0, .ref b), (1, .ref o), (3, .int (nI nc)), (4, .int (nI i)), (6, .ref a3), (7, .int (nI n)), (12, .int (zb (zal (fun k => zlP fr n k) (k + 1)))), (13, .int (nI k))]) hx hb dL_law_503 rfl hl (by decide) rfl (fun ls hl => ?_)
                  refine lv_iinc (v := nI (k + 1)) (lv' := [(13, .int (nI (k + 1))), (2, .int 1), (0, .ref b), (1, .ref o), (3, .int (nI nc)), (4, .int (nI i)), (6, .ref a3), (7, .int (nI n)), (12, .int (zb (zal (fun k => zlP fr n k) (k + 1))))]) hx hb dL_law_504 hl (k := 8) rfl (nI_1 k) (by decide) rfl (fun ls hl => ?_)
                  refine lv_goto (tgt := 391) hx hb dL_law_507 (by decide) ?_
                  exact ih (k + 1) _ (by omega) (by omega) hft2 _ _ hP hD hS ls (lv_sub hl [2, 3, 1, 4, 5, 6, 7, 8, 0] rfl)
                · skip
                  have hjk : j < k := Nat.lt_of_not_le (fun q => c448 ((nI_leI (by omega) (by omega)).mpr q))
                  refine lv_iload hx hb dL_law_451 (lv_at hl 7 rfl) ?_
                  refine lv_aload hx hb dL_law_453 (lv_at hl 5 rfl) ?_
                  refine lv_iload hx hb dL_law_455 (lv_at hl 9 rfl) ?_
                  refine va_iald hx hb hK hP 3 0 rfl rfl (vp_in_nI (by omega) (by decide)) dL_law_457 ?_
                  refine zt_top (y := fr j) (by rw [nI_clamp (by omega)]) ?_
                  refine lv_aload hx hb dL_law_458 (lv_at hl 5 rfl) ?_
                  refine lv_iload hx hb dL_law_460 (lv_at hl 8 rfl) ?_
                  refine va_iald hx hb hK hP 3 0 rfl rfl (vp_in_nI (by omega) (by decide)) dL_law_462 ?_
                  refine zt_top (y := fr k) (by rw [nI_clamp (by omega)]) ?_
                  refine lv_icmp_eq (tgt := 470) hx hb dL_law_463 (by decide) (fun c463 => ?_) (fun c463 => ?_)
                  · skip
                    have ecj : decide (¬ fr j = fr k) = false := decide_eq_false (not_not_intro c463)
                    refine lv_iconst (v := 0) hx hb dL_law_470 (by decide) ?_
                    refine lv_iand hx hb dL_law_471 ?_
                    refine zt_top (y := zb (zal (fun k => zlP fr n k) k && zap (fr k ^^^ fr ((k + 1) % n)) && zal (fun j => decide (¬ fr j = fr k)) (j + 1))) (by rw [zal, ecj, ← Bool.and_assoc]; exact zb_and (b := false)) ?_
                    refine lv_istore (lv' := [(12, .int (zb (zal (fun k => zlP fr n k) k && zap (fr k ^^^ fr ((k + 1) % n)) && zal (fun j => decide (¬ fr j = fr k)) (j + 1)))), (0, .ref b), (1, .ref o), (2, .int 1), (3, .int (nI nc)), (4, .int (nI i)), (6, .ref a3), (7, .int (nI n)), (13, .int (nI k)), (15, .int (nI j))]) hx hb dL_law_472 hl (by decide) rfl (fun ls hl => ?_)
                    refine lv_iinc (v := nI (j + 1)) (lv' := [(15, .int (nI (j + 1))), (12, .int (zb (zal (fun k => zlP fr n k) k && zap (fr k ^^^ fr ((k + 1) % n)) && zal (fun j => decide (¬ fr j = fr k)) (j + 1)))), (0, .ref b), (1, .ref o), (2, .int 1), (3, .int (nI nc)), (4, .int (nI i)), (6, .ref a3), (7, .int (nI n)), (13, .int (nI k))]) hx hb dL_law_474 hl (k := 9) rfl (nI_1 j) (by decide) rfl (fun ls hl => ?_)
                    refine lv_goto (tgt := 444) hx hb dL_law_477 (by decide) ?_
                    exact ihe (j + 1) (by omega) (by omega) _ _ hP hD hS ls (lv_sub hl [2, 3, 4, 5, 6, 7, 8, 1, 9, 0] rfl)
                  · skip
                    have ecj : decide (¬ fr j = fr k) = true := decide_eq_true c463
                    refine lv_iconst (v := 1) hx hb dL_law_466 (by decide) ?_
                    refine lv_goto (tgt := 471) hx hb dL_law_467 (by decide) ?_
                    refine lv_iand hx hb dL_law_471 ?_
                    refine zt_top (y := zb (zal (fun k => zlP fr n k) k && zap (fr k ^^^ fr ((k + 1) % n)) && zal (fun j => decide (¬ fr j = fr k)) (j + 1))) (by rw [zal, ecj, ← Bool.and_assoc]; exact zb_and (b := true)) ?_
                    refine lv_istore (lv' := [(12, .int (zb (zal (fun k => zlP fr n k) k && zap (fr k ^^^ fr ((k + 1) % n)) && zal (fun j => decide (¬ fr j = fr k)) (j + 1)))), (0, .ref b), (1, .ref o), (2, .int 1), (3, .int (nI nc)), (4, .int (nI i)), (6, .ref a3), (7, .int (nI n)), (13, .int (nI k)), (15, .int (nI j))]) hx hb dL_law_472 hl (by decide) rfl (fun ls hl => ?_)
                    refine lv_iinc (v := nI (j + 1)) (lv' := [(15, .int (nI (j + 1))), (12, .int (zb (zal (fun k => zlP fr n k) k && zap (fr k ^^^ fr ((k + 1) % n)) && zal (fun j => decide (¬ fr j = fr k)) (j + 1)))), (0, .ref b), (1, .ref o), (2, .int 1), (3, .int (nI nc)), (4, .int (nI i)), (6, .ref a3), (7, .int (nI n)), (13, .int (nI k))]) hx hb dL_law_474 hl (k := 9) rfl (nI_1 j) (by decide) rfl (fun ls hl => ?_)
                    refine lv_goto (tgt := 444) hx hb dL_law_477 (by decide) ?_
                    exact ihe (j + 1) (by omega) (by omega) _ _ hP hD hS ls (lv_sub hl [2, 3, 4, 5, 6, 7, 8, 1, 9, 0] rfl)
            exact inner (k + 1) 0 (by omega) (Nat.zero_le _) _ _ hP hD hS ls (lv_sub hl [3, 4, 5, 6, 7, 8, 9, 1, 10, 0] rfl)
  exact loop (n + 1) 0 ft (by omega) (Nat.zero_le _) (fun j hj => absurd hj (Nat.not_lt_zero j)) _ _ hP hD hS ls (lv_sub hl [3, 4, 2, 5, 6, 7, 8, 1, 0] rfl)


set_option maxHeartbeats 4000000 in
set_option maxRecDepth 100000 in
/-- an iteration -/
theorem it_all (hL : zL p l s m c b L xs) {dC : Nat → ClassId} {dI : Nat → Nat → Nat} {cI cC : ClassId} (hK : va_K (dC, dI) vwCl [(cI, .int), (cC, .object RX0)] s) {X : va_W} {o a0 a1 a2 : Nat} {w nc : Nat} {ad : Nat → Option Nat} {ft : Nat → Int32} {i : Nat} (hnc : nc ≤ 4) (hwm : w ≤ 64) (hM : zM cI nc ad X) (hi6 : i < 6) (cn sn : Nat) (hcn : cn + 2000 ≤ 679936) (hsn : sn + 20000 ≤ 7061659) (H : Heap) (locs : List Loc) (hP : va_P (dC, dI) vwCl ([(o, .inr (6, [.ref a0, .int (nI w), .ref a1, .int (nI nc), .null, .int 40, .int 48, .int 0, .ref a2])), (a0, .inl (cI, 64, .inl ft)), (a1, .inl (cC, 4, .inr (.inr (.inr (.inr ad)))))] ++ X) H) (hD : va_D (zq s.heap.size) ([(o, .inr (6, [.ref a0, .int (nI w), .ref a1, .int (nI nc), .null, .int 40, .int 48, .int 0, .ref a2])), (a0, .inl (cI, 64, .inl ft)), (a1, .inl (cC, 4, .inr (.inr (.inr (.inr ad)))))] ++ X)) (hS : va_S (zq s.heap.size) s.heap H locs) (ls : Array Slot) (hl : lv_has ls 19 [(0, .ref b), (1, .ref o), (2, .int 1), (3, .int (nI nc)), (4, .int (nI i))]) (kk : ∀ (nc2 : Nat) (ad2 : Nat → Option Nat) (X2 : va_W) (w2 : Nat) (ft2 : Nat → Int32) (H : Heap) (locs : List Loc) (cn2 sn2 : Nat), nc2 ≤ 4 → w2 ≤ 64 → zM cI nc2 ad2 X2 → cn2 ≤ cn + 400 → sn2 ≤ sn + 4000 → va_P (dC, dI) vwCl ([(o, .inr (6, [.ref a0, .int (nI w2), .ref a1, .int (nI nc2), .null, .int 40, .int 48, .int 0, .ref a2])), (a0, .inl (cI, 64, .inl ft2)), (a1, .inl (cC, 4, .inr (.inr (.inr (.inr ad2)))))] ++ X2) H → va_D (zq s.heap.size) ([(o, .inr (6, [.ref a0, .int (nI w2), .ref a1, .int (nI nc2), .null, .int 40, .int 48, .int 0, .ref a2])), (a0, .inl (cI, 64, .inl ft2)), (a1, .inl (cC, 4, .inr (.inr (.inr (.inr ad2)))))] ++ X2) → va_S (zq s.heap.size) s.heap H locs → ∀ ls : Array Slot, lv_has ls 19 [(0, .ref b), (1, .ref o), (2, .int 1), (3, .int (nI nc2)), (4, .int (nI i))] → W p l e room_1 s m #[Value.ref b] below meth c H locs cn2 sn2 Q (F0 m 1049 ls [])) : W p l e room_1 s m #[Value.ref b] below meth c H locs cn sn Q (F0 m 97 ls []) := by
  have hL0 := hL
  obtain ⟨hx, hb, hml, hown, hts, hX, hbl, hfl, hE, hL260⟩ := hL
  have hA : ∀ q : Nat, s.heap.size ≤ q → zq s.heap.size q := fun q h => h
  have hbA : ¬ zq s.heap.size b := Nat.not_le.mpr hbl
  refine lv_aload_n hx hb dL_law_97 rfl (lv_at hl 0 rfl) ?_
  refine lv_iload hx hb dL_law_98 (lv_at hl 4 rfl) ?_
  refine lv_iconst (v := 4) hx hb dL_law_100 (by decide) ?_
  refine zt_top (y := nI 4) (rfl) ?_
  refine va_calli (va_runS (As := [.ref b, .int (nI i), .int (nI 4)]) (rest := []) ⟨hx, hb, hml, hown, hts⟩ (k_in l H.size b L xs i 4 hL260 (by omega) (by omega) (by omega)) (va_cwS 3 hts gL_law_L_in rfl rfl rfl (by decide +kernel) ⟨Nat.le_of_ble_eq_true rfl, Nat.le_of_ble_eq_true rfl⟩) ⟨zfbS, zpreS hX hbl hS⟩ rfl rfl hl.1 rfl (lv_room (Nat.le_of_ble_eq_true rfl)) dL_law_101 ⟨(show cn + 0 ≤ 679936 by omega), (show sn + 0 ≤ 7061659 by omega)⟩) hS (fun q h1 h2 => absurd h2 (Nat.not_le.mpr h1)) (fun q h => hA q (Nat.le_trans hS.1 h)) (fun r9 u9 t9 H1 locs ht hvm hw hB hz1 hk1 hS => ?_)
  have hw2 := hw
  obtain ⟨hkd, hr9⟩ := hw2
  have hr9 : r9 = nI u9 := hr9
  subst hr9
  obtain ⟨kd, ekd⟩ : ∃ z : Nat, z = u9 := ⟨_, rfl⟩
  subst ekd
  have hP := zr_keep hP hk1
  clear hk1 hz1 hB ht hvm hw
  refine lv_istore (lv' := [(5, .int (nI kd)), (0, .ref b), (1, .ref o), (2, .int 1), (3, .int (nI nc)), (4, .int (nI i))]) hx hb dL_law_104 hl (by decide) rfl (fun ls hl => ?_)
  refine lv_bipush (v := 64) hx hb dL_law_106 (by decide) ?_
  refine va_newa (atype := .int) (ty := .int) (N' := 64) (a0 := (64, .inl (fun _ => 0))) hx hb (hts (.arrayClass .int) (List.mem_of_getElem? (i := 4) rfl)) rfl hK hP hD hS hA (fun _ => rfl) (by decide) (by decide) (Nat.le_of_ble_eq_true rfl) (show cn + 1 ≤ 679936 by omega) (show sn + 64 ≤ 7061659 by omega) dL_law_108 (fun a3 cA H hK2 hP hD hS => ?_)
  obtain rfl := zI_one hK2 (i := 0) (j := 2) rfl rfl
  have hP := hP.swap
  have hD := hD.swap
  have hP : va_P (dC, dI) vwCl ([(o, .inr (6, [.ref a0, .int (nI w), .ref a1, .int (nI nc), .null, .int 40, .int 48, .int 0, .ref a2])), (a0, .inl (cI, 64, .inl ft)), (a1, .inl (cC, 4, .inr (.inr (.inr (.inr ad))))), (a3, .inl (cI, 64, .inl (fun _ => 0)))] ++ X) H := hP
  have hD : va_D (zq s.heap.size) ([(o, .inr (6, [.ref a0, .int (nI w), .ref a1, .int (nI nc), .null, .int 40, .int 48, .int 0, .ref a2])), (a0, .inl (cI, 64, .inl ft)), (a1, .inl (cC, 4, .inr (.inr (.inr (.inr ad))))), (a3, .inl (cI, 64, .inl (fun _ => 0)))] ++ X) := hD
  refine lv_astore (lv' := [(6, .ref a3), (5, .int (nI kd)), (0, .ref b), (1, .ref o), (2, .int 1), (3, .int (nI nc)), (4, .int (nI i))]) hx hb dL_law_110 hl (by decide) rfl (fun ls hl => ?_)
  refine lv_iconst (v := 0) hx hb dL_law_112 (by decide) ?_
  refine lv_istore (lv' := [(7, .int 0), (6, .ref a3), (5, .int (nI kd)), (0, .ref b), (1, .ref o), (2, .int 1), (3, .int (nI nc)), (4, .int (nI i))]) hx hb dL_law_113 hl (by decide) rfl (fun ls hl => ?_)
  refine lv_iload hx hb dL_law_115 (lv_at hl 2 rfl) ?_
  refine lv_if_ne (tgt := 194) hx hb dL_law_117 (by decide) (fun c117 => ?_) (fun c117 => ?_)
  · skip
    refine lv_iload_n hx hb dL_law_194 rfl (lv_at hl 6 rfl) ?_
    refine lv_iconst (v := 4) hx hb dL_law_195 (by decide) ?_
    refine lv_icmp_ge (tgt := 549) hx hb dL_law_196 (by decide) (fun c196 => ?_) (fun c196 => ?_)
    · skip
      refine lv_iload hx hb dL_law_549 (lv_at hl 0 rfl) ?_
      refine lv_if_le (tgt := 1049) hx hb dL_law_551 (by decide) (fun c551 => ?_) (fun c => absurd (by decide) c)
      have kk2 := kk nc ad (([(a3, .inl (cI, 64, .inl (fun _ => 0)))] : va_W) ++ X) w ft
      exact kk2 _ _ _ _ (by omega) (by omega) (zM_more hM) (by omega) (by omega) hP hD hS ls (lv_sub hl [3, 4, 5, 6, 7] rfl)
    · skip
      have hnc4 : nc < 4 := Nat.lt_of_not_le (fun q => c196 (nI_le (a := 4) q (by omega)))
      refine it_row hL0 hK (kd := kd) hnc4 hwm hM hi6 _ _ (by omega) (by omega) _ _ hP hD hS ls (lv_sub hl [3, 4, 5, 6, 7, 2, 1, 0] rfl) (fun n fr H locs hn4 hn16 h8 hP hD hS ls hl => ?_)
      exact it_typed hL0 hK hnc4 hwm hM hn4 hn16 h8 _ _ (by omega) (by omega) _ _ hP hD hS ls hl (fun nc2 ad2 X2 w2 ft2 H locs cn2 sn2 q1 q2 q3 q4 q5 q6 q7 q8 ls hl => kk nc2 ad2 X2 w2 ft2 H locs cn2 sn2 q1 q2 q3 (by omega) (by omega) q6 q7 q8 ls hl)
  · skip
    refine lv_iload_n hx hb dL_law_120 rfl (lv_at hl 6 rfl) ?_
    refine lv_iconst (v := 4) hx hb dL_law_121 (by decide) ?_
    refine lv_icmp_ge (tgt := 194) hx hb dL_law_122 (by decide) (fun c122 => ?_) (fun c122 => ?_)
    · skip
      refine lv_iload_n hx hb dL_law_194 rfl (lv_at hl 6 rfl) ?_
      refine lv_iconst (v := 4) hx hb dL_law_195 (by decide) ?_
      refine lv_icmp_ge (tgt := 549) hx hb dL_law_196 (by decide) (fun c196 => ?_) (fun c196 => ?_)
      · skip
        refine lv_iload hx hb dL_law_549 (lv_at hl 0 rfl) ?_
        refine lv_if_le (tgt := 1049) hx hb dL_law_551 (by decide) (fun c551 => ?_) (fun c => absurd (by decide) c)
        have kk2 := kk nc ad (([(a3, .inl (cI, 64, .inl (fun _ => 0)))] : va_W) ++ X) w ft
        exact kk2 _ _ _ _ (by omega) (by omega) (zM_more hM) (by omega) (by omega) hP hD hS ls (lv_sub hl [3, 4, 5, 6, 7] rfl)
      · skip
        have hnc4 : nc < 4 := Nat.lt_of_not_le (fun q => c196 (nI_le (a := 4) q (by omega)))
        refine it_row hL0 hK (kd := kd) hnc4 hwm hM hi6 _ _ (by omega) (by omega) _ _ hP hD hS ls (lv_sub hl [3, 4, 5, 6, 7, 2, 1, 0] rfl) (fun n fr H locs hn4 hn16 h8 hP hD hS ls hl => ?_)
        exact it_typed hL0 hK hnc4 hwm hM hn4 hn16 h8 _ _ (by omega) (by omega) _ _ hP hD hS ls hl (fun nc2 ad2 X2 w2 ft2 H locs cn2 sn2 q1 q2 q3 q4 q5 q6 q7 q8 ls hl => kk nc2 ad2 X2 w2 ft2 H locs cn2 sn2 q1 q2 q3 (by omega) (by omega) q6 q7 q8 ls hl)
    · skip
      have hnc4 : nc < 4 := Nat.lt_of_not_le (fun q => c122 (nI_le (a := 4) q (by omega)))
      exact it_refl hL0 hK (kd := kd) hnc4 hwm hM hi6 _ _ (by omega) (by omega) _ _ hP hD hS ls (lv_sub hl [3, 4, 5, 6, 7, 2, 1, 0] rfl) (fun nc2 ad2 X2 w2 ft2 H locs cn2 sn2 q1 q2 q3 q4 q5 q6 q7 q8 ls hl => kk nc2 ad2 X2 w2 ft2 H locs cn2 sn2 q1 q2 q3 (by omega) (by omega) q6 q7 q8 ls hl)


end ZT2
