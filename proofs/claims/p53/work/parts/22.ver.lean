section ZV
variable {p : Program} {l : Launch} {e : Env} {s : State} {m : MethodId} {below : List Frame} {meth : Method} {c : Code} {b L : Nat} {xs : Nat → Int32} {Q : State → Prop}

set_option maxHeartbeats 4000000 in
set_option maxRecDepth 100000 in
/-- bits and tracks of the ring -/
theorem v_1 (hL : zL p l s m c b L xs) {dC : Nat → ClassId} {dI : Nat → Nat → Nat} {cI cC : ClassId} (hK : va_K (dC, dI) vwCl [(cI, .int), (cC, .object RX0)] s) {X : va_W} {o a0 a1 a2 a3 h0 h1 h2 : Nat} {tc : Int32} {nc n : Nat} {ad : Nat → Option Nat} {ft fr : Nat → Int32} {v : Nat → Nat} {i : Nat} (hnc : nc < 4) (hn4 : 4 ≤ n) (hn : n ≤ 32) (had : ad nc = some h0) (hv : ∀ k, k < n → fr k = nI (v k) ∧ v k < 256) (hrg : zrg fr n = true) (cn sn : Nat) (hcn : cn + 400 ≤ 679936) (hsn : sn + 4000 ≤ 7061659) (H : Heap) (locs : List Loc) (hP : va_P (dC, dI) vwCl ([(o, .inr (6, [.ref a0, .int tc, .ref a1, .int (nI (nc + 1)), .null, .int 40, .int 48, .int 0, .ref a2])), (a0, .inl (cI, 64, .inl ft)), (a1, .inl (cC, 4, .inr (.inr (.inr (.inr ad))))), (a3, .inl (cI, 64, .inl fr)), (h0, .inr (0, [.ref h1, .int (nI (ztr fr n)), .ref h2])), (h1, .inl (cI, n, .inl fr)), (h2, .inl (cI, 256, .inl (zpl fr n)))] ++ X) H) (hS : va_S (zq s.heap.size) s.heap H locs) (ls : Array Slot) (hl : lv_has ls 19 [(0, .ref b), (1, .ref o), (2, .int 1), (3, .int (nI nc)), (4, .int (nI i)), (6, .ref a3), (7, .int (nI n))]) (kk : ∀ (H : Heap) (locs : List Loc) (cn2 sn2 : Nat), cn2 ≤ cn + 0 → sn2 ≤ sn + 0 → va_P (dC, dI) vwCl ([(o, .inr (6, [.ref a0, .int tc, .ref a1, .int (nI (nc + 1)), .null, .int 40, .int 48, .int 0, .ref a2])), (a0, .inl (cI, 64, .inl ft)), (a1, .inl (cC, 4, .inr (.inr (.inr (.inr ad))))), (a3, .inl (cI, 64, .inl fr)), (h0, .inr (0, [.ref h1, .int (nI (ztr fr n)), .ref h2])), (h1, .inl (cI, n, .inl fr)), (h2, .inl (cI, 256, .inl (zpl fr n)))] ++ X) H → va_S (zq s.heap.size) s.heap H locs → ∀ ls : Array Slot, lv_has ls 19 [(0, .ref b), (1, .ref o), (2, .int 1), (3, .int (nI nc)), (4, .int (nI i)), (6, .ref a3), (7, .int (nI n)), (9, .int (nI (ztr fr n)))] → W p l e room_1 s m #[Value.ref b] below meth c H locs cn2 sn2 Q (F0 m 600 ls [])) : W p l e room_1 s m #[Value.ref b] below meth c H locs cn sn Q (F0 m 549 ls []) := by
  obtain ⟨hx, hb, hml, hown, hts, hX, hbl, hfl, hE, hL260⟩ := hL
  have hA : ∀ q : Nat, s.heap.size ≤ q → zq s.heap.size q := fun q h => h
  have hbA : ¬ zq s.heap.size b := Nat.not_le.mpr hbl
  have hB : zob v n < 256 := (zob_lt v 8 n).mpr (fun k hk => (hv k hk).2)
  have hT8 : (ztr fr n) ≤ 8 := ztr_le fr n
  refine lv_iload hx hb dL_law_549 (lv_at hl 6 rfl) ?_
  refine lv_if_le (tgt := 1049) hx hb dL_law_551 (by decide) (fun c => absurd c (nI_nle (by omega) (by omega))) (fun c551 => ?_)
  refine lv_iconst (v := 0) hx hb dL_law_554 (by decide) ?_
  refine lv_istore (lv' := [(8, .int 0), (0, .ref b), (1, .ref o), (2, .int 1), (3, .int (nI nc)), (4, .int (nI i)), (6, .ref a3), (7, .int (nI n))]) hx hb dL_law_555 hl (by decide) rfl (fun ls hl => ?_)
  refine lv_iconst (v := 0) hx hb dL_law_557 (by decide) ?_
  refine lv_istore (lv' := [(9, .int 0), (8, .int 0), (0, .ref b), (1, .ref o), (2, .int 1), (3, .int (nI nc)), (4, .int (nI i)), (6, .ref a3), (7, .int (nI n))]) hx hb dL_law_558 hl (by decide) rfl (fun ls hl => ?_)
  have loop : ∀ (d : Nat) (k : Nat), n + 1 ≤ k + d → k ≤ n → ∀ (H : Heap) (locs : List Loc), va_P (dC, dI) vwCl ([(o, .inr (6, [.ref a0, .int tc, .ref a1, .int (nI (nc + 1)), .null, .int 40, .int 48, .int 0, .ref a2])), (a0, .inl (cI, 64, .inl ft)), (a1, .inl (cC, 4, .inr (.inr (.inr (.inr ad))))), (a3, .inl (cI, 64, .inl fr)), (h0, .inr (0, [.ref h1, .int (nI (ztr fr n)), .ref h2])), (h1, .inl (cI, n, .inl fr)), (h2, .inl (cI, 256, .inl (zpl fr n)))] ++ X) H → va_S (zq s.heap.size) s.heap H locs → ∀ ls : Array Slot, lv_has ls 19 [(0, .ref b), (1, .ref o), (2, .int 1), (3, .int (nI nc)), (4, .int (nI i)), (6, .ref a3), (7, .int (nI n)), (8, .int (nI (zob v k))), (9, .int (nI k))] → W p l e room_1 s m #[Value.ref b] below meth c H locs cn sn Q (F0 m 560 ls []) := by
    intro d
    induction d with
    | zero => intro k hd hk; exact absurd hd (by omega)
    | succ d ih =>
      intro k hd hk H locs hP hS ls hl
      refine lv_iload hx hb dL_law_560 (lv_at hl 8 rfl) ?_
      refine lv_iload hx hb dL_law_562 (lv_at hl 6 rfl) ?_
      refine lv_icmp_ge (tgt := 583) hx hb dL_law_564 (by decide) (fun c564 => ?_) (fun c564 => ?_)
      · skip
        have hkn : k = n := Nat.le_antisymm hk ((nI_leI (by omega) (by omega)).mp c564)
        refine lv_iconst (v := 0) hx hb dL_law_583 (by decide) ?_
        refine lv_istore (lv' := [(9, .int 0), (0, .ref b), (1, .ref o), (2, .int 1), (3, .int (nI nc)), (4, .int (nI i)), (6, .ref a3), (7, .int (nI n)), (8, .int (nI (zob v k)))]) hx hb dL_law_584 hl (by decide) rfl (fun ls hl => ?_)
        have loop2 : ∀ (d2 : Nat) (t : Nat), 9 ≤ t + d2 → t ≤ (ztr fr n) → ∀ (H : Heap) (locs : List Loc), va_P (dC, dI) vwCl ([(o, .inr (6, [.ref a0, .int tc, .ref a1, .int (nI (nc + 1)), .null, .int 40, .int 48, .int 0, .ref a2])), (a0, .inl (cI, 64, .inl ft)), (a1, .inl (cC, 4, .inr (.inr (.inr (.inr ad))))), (a3, .inl (cI, 64, .inl fr)), (h0, .inr (0, [.ref h1, .int (nI (ztr fr n)), .ref h2])), (h1, .inl (cI, n, .inl fr)), (h2, .inl (cI, 256, .inl (zpl fr n)))] ++ X) H → va_S (zq s.heap.size) s.heap H locs → ∀ ls : Array Slot, lv_has ls 19 [(0, .ref b), (1, .ref o), (2, .int 1), (3, .int (nI nc)), (4, .int (nI i)), (6, .ref a3), (7, .int (nI n)), (8, .int (nI (zob v n))), (9, .int (nI t))] → W p l e room_1 s m #[Value.ref b] below meth c H locs cn sn Q (F0 m 586 ls []) := by
          intro d2
          induction d2 with
          | zero => intro t hd2 ht; exact absurd hd2 (by omega)
          | succ d2 ihe =>
            intro t hd2 ht H locs hP hS ls hl
            refine lv_iload hx hb dL_law_586 (lv_at hl 7 rfl) ?_
            refine lv_iload hx hb dL_law_588 (lv_at hl 8 rfl) ?_
            refine lv_ishr hx hb dL_law_590 ?_
            refine zt_top (y := nI (zob v n / 2 ^ t)) (zsh hB (by omega)) ?_
            refine lv_if_eq (tgt := 600) hx hb dL_law_591 (by decide) (fun c591 => ?_) (fun c591 => ?_)
            · skip
              have hz : zob v n / 2 ^ t = 0 := by
                rcases Nat.eq_zero_or_pos (zob v n / 2 ^ t) with q | q
                · exact q
                · exact absurd c591 (nI_ne0 q (Nat.lt_of_le_of_lt (Nat.div_le_self _ _) (by omega)))
              have htt : (ztr fr n) = t := Nat.le_antisymm ((ztr_iff hv (by omega)).mpr ((zob_lt v t n).mp (zsh_0.mp hz))) ht
              rw [← htt] at hl
              exact kk _ _ _ _ (by omega) (by omega) hP hS ls (lv_sub hl [0, 1, 2, 3, 4, 5, 6, 8] rfl)
            · skip
              have htt : t < (ztr fr n) := by
                rcases Nat.lt_or_ge t (ztr fr n) with q | q
                · exact q
                · exact absurd (by rw [zsh_0.mpr ((zob_lt v t n).mpr ((ztr_iff hv (by omega)).mp q))]; exact nI_0) c591
              refine lv_iinc (v := nI (t + 1)) (lv' := [(9, .int (nI (t + 1))), (0, .ref b), (1, .ref o), (2, .int 1), (3, .int (nI nc)), (4, .int (nI i)), (6, .ref a3), (7, .int (nI n)), (8, .int (nI (zob v n)))]) hx hb dL_law_594 hl (k := 8) rfl (nI_1 t) (by decide) rfl (fun ls hl => ?_)
              refine lv_goto (tgt := 586) hx hb dL_law_597 (by decide) ?_
              exact ihe (t + 1) (by omega) (by omega) _ _ hP hS ls (lv_sub hl [1, 2, 3, 4, 5, 6, 7, 8, 0] rfl)
        rw [hkn] at hl
        exact loop2 9 0 (by omega) (Nat.zero_le _) _ _ hP hS ls (lv_sub hl [1, 2, 3, 4, 5, 6, 7, 8, 0] rfl)
      · skip
        have hkn : k < n := Nat.lt_of_not_le (fun q => c564 ((nI_leI (by omega) (by omega)).mpr q))
        refine lv_iload hx hb dL_law_567 (lv_at hl 7 rfl) ?_
        refine lv_aload hx hb dL_law_569 (lv_at hl 5 rfl) ?_
        refine lv_iload hx hb dL_law_571 (lv_at hl 8 rfl) ?_
        refine va_iald hx hb hK hP 3 0 rfl rfl (vp_in_nI (by omega) (by decide)) dL_law_573 ?_
        refine zt_top (y := nI (v k)) (by rw [nI_clamp (by omega)]; exact (hv k hkn).1) ?_
        refine lv_ior hx hb dL_law_574 ?_
        refine zt_top (y := nI (zob v (k + 1))) (fa_or _ _) ?_
        refine lv_istore (lv' := [(8, .int (nI (zob v (k + 1)))), (0, .ref b), (1, .ref o), (2, .int 1), (3, .int (nI nc)), (4, .int (nI i)), (6, .ref a3), (7, .int (nI n)), (9, .int (nI k))]) hx hb dL_law_575 hl (by decide) rfl (fun ls hl => ?_)
        refine lv_iinc (v := nI (k + 1)) (lv' := [(9, .int (nI (k + 1))), (8, .int (nI (zob v (k + 1)))), (0, .ref b), (1, .ref o), (2, .int 1), (3, .int (nI nc)), (4, .int (nI i)), (6, .ref a3), (7, .int (nI n))]) hx hb dL_law_577 hl (k := 8) rfl (nI_1 k) (by decide) rfl (fun ls hl => ?_)
        refine lv_goto (tgt := 560) hx hb dL_law_580 (by decide) ?_
        exact ih (k + 1) (by omega) (by omega) _ _ hP hS ls (lv_sub hl [2, 3, 4, 5, 6, 7, 8, 1, 0] rfl)
  exact loop (n + 1) 0 (by omega) (Nat.zero_le _) _ _ hP hS ls (lv_sub hl [2, 3, 4, 5, 6, 7, 8, 1, 0] rfl)


set_option maxHeartbeats 4000000 in
set_option maxRecDepth 100000 in
/-- words and tracks are told -/
theorem v_2 (hL : zL p l s m c b L xs) {dC : Nat → ClassId} {dI : Nat → Nat → Nat} {cI cC : ClassId} (hK : va_K (dC, dI) vwCl [(cI, .int), (cC, .object RX0)] s) {X : va_W} {o a0 a1 a2 a3 h0 h1 h2 : Nat} {tc : Int32} {nc n : Nat} {ad : Nat → Option Nat} {ft fr : Nat → Int32} {v : Nat → Nat} {i : Nat} (hnc : nc < 4) (hn4 : 4 ≤ n) (hn : n ≤ 32) (had : ad nc = some h0) (hv : ∀ k, k < n → fr k = nI (v k) ∧ v k < 256) (hrg : zrg fr n = true) (cn sn : Nat) (hcn : cn + 400 ≤ 679936) (hsn : sn + 4000 ≤ 7061659) (H : Heap) (locs : List Loc) (hP : va_P (dC, dI) vwCl ([(o, .inr (6, [.ref a0, .int tc, .ref a1, .int (nI (nc + 1)), .null, .int 40, .int 48, .int 0, .ref a2])), (a0, .inl (cI, 64, .inl ft)), (a1, .inl (cC, 4, .inr (.inr (.inr (.inr ad))))), (a3, .inl (cI, 64, .inl fr)), (h0, .inr (0, [.ref h1, .int (nI (ztr fr n)), .ref h2])), (h1, .inl (cI, n, .inl fr)), (h2, .inl (cI, 256, .inl (zpl fr n)))] ++ X) H) (hS : va_S (zq s.heap.size) s.heap H locs) (ls : Array Slot) (hl : lv_has ls 19 [(0, .ref b), (1, .ref o), (2, .int 1), (3, .int (nI nc)), (4, .int (nI i)), (6, .ref a3), (7, .int (nI n)), (9, .int (nI (ztr fr n)))]) (kk : ∀ (H : Heap) (locs : List Loc) (cn2 sn2 : Nat), cn2 ≤ cn + 0 → sn2 ≤ sn + 0 → va_P (dC, dI) vwCl ([(o, .inr (6, [.ref a0, .int tc, .ref a1, .int (nI (nc + 1)), .null, .int 40, .int 48, .int 0, .ref a2])), (a0, .inl (cI, 64, .inl ft)), (a1, .inl (cC, 4, .inr (.inr (.inr (.inr ad))))), (a3, .inl (cI, 64, .inl fr)), (h0, .inr (0, [.ref h1, .int (nI (ztr fr n)), .ref h2])), (h1, .inl (cI, n, .inl fr)), (h2, .inl (cI, 256, .inl (zpl fr n)))] ++ X) H → va_S (zq s.heap.size) s.heap H locs → ∀ ls : Array Slot, lv_has ls 19 [(0, .ref b), (1, .ref o), (2, .int 1), (3, .int (nI nc)), (4, .int (nI i)), (6, .ref a3), (7, .int (nI n)), (9, .int (nI (ztr fr n)))] → W p l e room_1 s m #[Value.ref b] below meth c H locs cn2 sn2 Q (F0 m 628 ls [])) : W p l e room_1 s m #[Value.ref b] below meth c H locs cn sn Q (F0 m 600 ls []) := by
  obtain ⟨hx, hb, hml, hown, hts, hX, hbl, hfl, hE, hL260⟩ := hL
  have hA : ∀ q : Nat, s.heap.size ≤ q → zq s.heap.size q := fun q h => h
  have hbA : ¬ zq s.heap.size b := Nat.not_le.mpr hbl
  have hT8 : (ztr fr n) ≤ 8 := ztr_le fr n
  refine lv_iload_n hx hb dL_law_600 rfl (lv_at hl 2 rfl) ?_
  refine lv_aload_n hx hb dL_law_601 rfl (lv_at hl 1 rfl) ?_
  refine lv_iload_n hx hb dL_law_602 rfl (lv_at hl 3 rfl) ?_
  refine va_calli (vx_runSW (As := [.ref o, .int (nI nc)]) (rest := [.int 1]) ⟨hx, hb, hml, hown, hts⟩ (w_words l dC dI H.size cI cC o a0 a1 a2 tc (nc + 1) ad h0 h1 h2 n (ztr fr n) fr (zpl fr n) nc (by omega) (by omega) had) (vx_cwSW 2 hts gL_law_L_words rfl rfl rfl (by decide +kernel) ⟨Nat.le_of_ble_eq_true rfl, Nat.le_of_ble_eq_true rfl⟩) ⟨zfb, zpre (hP.sub (ws' := [(o, .inr (6, [.ref a0, .int tc, .ref a1, .int (nI (nc + 1)), .null, .int 40, .int 48, .int 0, .ref a2])), (a1, .inl (cC, 4, .inr (.inr (.inr (.inr ad))))), (h0, .inr (0, [.ref h1, .int (nI (ztr fr n)), .ref h2])), (h1, .inl (cI, n, .inl fr)), (h2, .inl (cI, 256, .inl (zpl fr n)))]) [0, 2, 4, 5, 6] rfl) (hK.sub (tys' := [(cI, .int), (cC, (.object RX0))]) [0, 1] rfl)⟩ rfl rfl hl.1 rfl (lv_room (Nat.le_of_ble_eq_true rfl)) dL_law_603 ⟨(show cn + 0 ≤ 679936 by omega), (show sn + 0 ≤ 7061659 by omega)⟩) hS (fun q h1 h2 => absurd h2 (Nat.not_le.mpr h1)) (fun q h => hA q (Nat.le_trans hS.1 h)) (fun r9 u9 t9 H1 locs ht hvm hw hB hz1 hk1 hS => ?_)
  have hw : r9 = nI n := hw
  subst hw
  have hP := zr_keep hP hk1
  clear hk1 hz1 hB ht hvm hw
  refine lv_iload hx hb dL_law_606 (lv_at hl 6 rfl) ?_
  refine lv_icmp_ne (tgt := 625) hx hb dL_law_608 (by decide) (fun c => absurd c (fun q => q rfl)) (fun c608 => ?_)
  refine lv_aload_n hx hb dL_law_611 rfl (lv_at hl 1 rfl) ?_
  refine lv_iload_n hx hb dL_law_612 rfl (lv_at hl 3 rfl) ?_
  refine va_calli (vx_runSW (As := [.ref o, .int (nI nc)]) (rest := [.int 1]) ⟨hx, hb, hml, hown, hts⟩ (w_tracks l dC dI H1.size cI cC o a0 a1 a2 tc (nc + 1) ad h0 h1 h2 n (ztr fr n) fr (zpl fr n) nc (by omega) (by omega) had) (vx_cwSW 2 hts gL_law_L_tracks rfl rfl rfl (by decide +kernel) ⟨Nat.le_of_ble_eq_true rfl, Nat.le_of_ble_eq_true rfl⟩) ⟨zfb, zpre (hP.sub (ws' := [(o, .inr (6, [.ref a0, .int tc, .ref a1, .int (nI (nc + 1)), .null, .int 40, .int 48, .int 0, .ref a2])), (a1, .inl (cC, 4, .inr (.inr (.inr (.inr ad))))), (h0, .inr (0, [.ref h1, .int (nI (ztr fr n)), .ref h2])), (h1, .inl (cI, n, .inl fr)), (h2, .inl (cI, 256, .inl (zpl fr n)))]) [0, 2, 4, 5, 6] rfl) (hK.sub (tys' := [(cI, .int), (cC, (.object RX0))]) [0, 1] rfl)⟩ rfl rfl hl.1 rfl (lv_room (Nat.le_of_ble_eq_true rfl)) dL_law_613 ⟨(show cn + 0 ≤ 679936 by omega), (show sn + 0 ≤ 7061659 by omega)⟩) hS (fun q h1 h2 => absurd h2 (Nat.not_le.mpr h1)) (fun q h => hA q (Nat.le_trans hS.1 h)) (fun r9 u9 t9 H1 locs ht hvm hw hB hz1 hk1 hS => ?_)
  have hw : r9 = nI (ztr fr n) := hw
  subst hw
  have hP := zr_keep hP hk1
  clear hk1 hz1 hB ht hvm hw
  refine lv_iload hx hb dL_law_616 (lv_at hl 7 rfl) ?_
  refine lv_icmp_ne (tgt := 625) hx hb dL_law_618 (by decide) (fun c => absurd c (fun q => q rfl)) (fun c618 => ?_)
  refine lv_iconst (v := 1) hx hb dL_law_621 (by decide) ?_
  refine lv_goto (tgt := 626) hx hb dL_law_622 (by decide) ?_
  refine lv_iand hx hb dL_law_626 ?_
  refine zt_top (y := 1) (z11) ?_
  refine lv_istore_n (lv' := [(2, .int 1), (0, .ref b), (1, .ref o), (3, .int (nI nc)), (4, .int (nI i)), (6, .ref a3), (7, .int (nI n)), (9, .int (nI (ztr fr n)))]) hx hb dL_law_627 rfl hl (by decide) rfl (fun ls hl => ?_)
  exact kk _ _ _ _ (by omega) (by omega) hP hS ls (lv_sub hl [1, 2, 0, 3, 4, 5, 6, 7] rfl)


set_option maxHeartbeats 4000000 in
set_option maxRecDepth 100000 in
/-- each track's changes and turns -/
theorem v_3 (hL : zL p l s m c b L xs) {dC : Nat → ClassId} {dI : Nat → Nat → Nat} {cI cC : ClassId} (hK : va_K (dC, dI) vwCl [(cI, .int), (cC, .object RX0)] s) {X : va_W} {o a0 a1 a2 a3 h0 h1 h2 : Nat} {tc : Int32} {nc n : Nat} {ad : Nat → Option Nat} {ft fr : Nat → Int32} {v : Nat → Nat} {i : Nat} (hnc : nc < 4) (hn4 : 4 ≤ n) (hn : n ≤ 32) (had : ad nc = some h0) (hv : ∀ k, k < n → fr k = nI (v k) ∧ v k < 256) (hrg : zrg fr n = true) (cn sn : Nat) (hcn : cn + 400 ≤ 679936) (hsn : sn + 4000 ≤ 7061659) (H : Heap) (locs : List Loc) (hP : va_P (dC, dI) vwCl ([(o, .inr (6, [.ref a0, .int tc, .ref a1, .int (nI (nc + 1)), .null, .int 40, .int 48, .int 0, .ref a2])), (a0, .inl (cI, 64, .inl ft)), (a1, .inl (cC, 4, .inr (.inr (.inr (.inr ad))))), (a3, .inl (cI, 64, .inl fr)), (h0, .inr (0, [.ref h1, .int (nI (ztr fr n)), .ref h2])), (h1, .inl (cI, n, .inl fr)), (h2, .inl (cI, 256, .inl (zpl fr n)))] ++ X) H) (hS : va_S (zq s.heap.size) s.heap H locs) (ls : Array Slot) (hl : lv_has ls 19 [(0, .ref b), (1, .ref o), (2, .int 1), (3, .int (nI nc)), (4, .int (nI i)), (6, .ref a3), (7, .int (nI n)), (9, .int (nI (ztr fr n)))]) (kk : ∀ (H : Heap) (locs : List Loc) (cn2 sn2 : Nat), cn2 ≤ cn + 0 → sn2 ≤ sn + 0 → va_P (dC, dI) vwCl ([(o, .inr (6, [.ref a0, .int tc, .ref a1, .int (nI (nc + 1)), .null, .int 40, .int 48, .int 0, .ref a2])), (a0, .inl (cI, 64, .inl ft)), (a1, .inl (cC, 4, .inr (.inr (.inr (.inr ad))))), (a3, .inl (cI, 64, .inl fr)), (h0, .inr (0, [.ref h1, .int (nI (ztr fr n)), .ref h2])), (h1, .inl (cI, n, .inl fr)), (h2, .inl (cI, 256, .inl (zpl fr n)))] ++ X) H → va_S (zq s.heap.size) s.heap H locs → ∀ ls : Array Slot, lv_has ls 19 [(0, .ref b), (1, .ref o), (2, .int 1), (3, .int (nI nc)), (4, .int (nI i)), (6, .ref a3), (7, .int (nI n)), (9, .int (nI (ztr fr n))), (10, .int (nI (zlo fr n (ztr fr n)))), (11, .int (nI (zhi fr n (ztr fr n)))), (12, .int (zb (zon fr n (ztr fr n))))] → W p l e room_1 s m #[Value.ref b] below meth c H locs cn2 sn2 Q (F0 m 851 ls [])) : W p l e room_1 s m #[Value.ref b] below meth c H locs cn sn Q (F0 m 628 ls []) := by
  obtain ⟨hx, hb, hml, hown, hts, hX, hbl, hfl, hE, hL260⟩ := hL
  have hA : ∀ q : Nat, s.heap.size ≤ q → zq s.heap.size q := fun q h => h
  have hbA : ¬ zq s.heap.size b := Nat.not_le.mpr hbl
  have hT8 : (ztr fr n) ≤ 8 := ztr_le fr n
  have hT1 : 1 ≤ (ztr fr n) := ztr_pos (by omega) hv hrg
  refine lv_bipush (v := 99) hx hb dL_law_628 (by decide) ?_
  refine lv_istore (lv' := [(10, .int 99), (0, .ref b), (1, .ref o), (2, .int 1), (3, .int (nI nc)), (4, .int (nI i)), (6, .ref a3), (7, .int (nI n)), (9, .int (nI (ztr fr n)))]) hx hb dL_law_630 hl (by decide) rfl (fun ls hl => ?_)
  refine lv_iconst (v := 0) hx hb dL_law_632 (by decide) ?_
  refine lv_istore (lv' := [(11, .int 0), (10, .int 99), (0, .ref b), (1, .ref o), (2, .int 1), (3, .int (nI nc)), (4, .int (nI i)), (6, .ref a3), (7, .int (nI n)), (9, .int (nI (ztr fr n)))]) hx hb dL_law_633 hl (by decide) rfl (fun ls hl => ?_)
  refine lv_iconst (v := 1) hx hb dL_law_635 (by decide) ?_
  refine lv_istore (lv' := [(12, .int 1), (11, .int 0), (10, .int 99), (0, .ref b), (1, .ref o), (2, .int 1), (3, .int (nI nc)), (4, .int (nI i)), (6, .ref a3), (7, .int (nI n)), (9, .int (nI (ztr fr n)))]) hx hb dL_law_636 hl (by decide) rfl (fun ls hl => ?_)
  refine lv_iconst (v := 0) hx hb dL_law_638 (by decide) ?_
  refine lv_istore (lv' := [(13, .int 0), (12, .int 1), (11, .int 0), (10, .int 99), (0, .ref b), (1, .ref o), (2, .int 1), (3, .int (nI nc)), (4, .int (nI i)), (6, .ref a3), (7, .int (nI n)), (9, .int (nI (ztr fr n)))]) hx hb dL_law_639 hl (by decide) rfl (fun ls hl => ?_)
  have loop : ∀ (d : Nat) (t : Nat), (ztr fr n) + 1 ≤ t + d → t ≤ (ztr fr n) → ∀ (H : Heap) (locs : List Loc), va_P (dC, dI) vwCl ([(o, .inr (6, [.ref a0, .int tc, .ref a1, .int (nI (nc + 1)), .null, .int 40, .int 48, .int 0, .ref a2])), (a0, .inl (cI, 64, .inl ft)), (a1, .inl (cC, 4, .inr (.inr (.inr (.inr ad))))), (a3, .inl (cI, 64, .inl fr)), (h0, .inr (0, [.ref h1, .int (nI (ztr fr n)), .ref h2])), (h1, .inl (cI, n, .inl fr)), (h2, .inl (cI, 256, .inl (zpl fr n)))] ++ X) H → va_S (zq s.heap.size) s.heap H locs → ∀ ls : Array Slot, lv_has ls 19 [(0, .ref b), (1, .ref o), (2, .int 1), (3, .int (nI nc)), (4, .int (nI i)), (6, .ref a3), (7, .int (nI n)), (9, .int (nI (ztr fr n))), (10, .int (nI (zlw fr n t))), (11, .int (nI (zhi fr n t))), (12, .int (zb (zal (fun t => zmv fr n t) t))), (13, .int (nI t))] → W p l e room_1 s m #[Value.ref b] below meth c H locs cn sn Q (F0 m 641 ls []) := by
    intro d
    induction d with
    | zero => intro t hd ht; exact absurd hd (by omega)
    | succ d ih =>
      intro t hd ht H locs hP hS ls hl
      refine lv_iload hx hb dL_law_641 (lv_at hl 11 rfl) ?_
      refine lv_iload hx hb dL_law_643 (lv_at hl 7 rfl) ?_
      refine lv_icmp_ge (tgt := 851) hx hb dL_law_645 (by decide) (fun c645 => ?_) (fun c645 => ?_)
      · skip
        have htt : t = (ztr fr n) := Nat.le_antisymm ht ((nI_leI (by omega) (by omega)).mp c645)
        rw [htt, zon_law fr (by omega), show zlw fr n (ztr fr n) = zlo fr n (ztr fr n) from if_neg (by omega)] at hl
        exact kk _ _ _ _ (by omega) (by omega) hP hS ls (lv_sub hl [0, 1, 2, 3, 4, 5, 6, 7, 8, 9, 10] rfl)
      · skip
        have htT : t < (ztr fr n) := Nat.lt_of_not_le (fun q => c645 ((nI_leI (by omega) (by omega)).mpr q))
        refine lv_iconst (v := 0) hx hb dL_law_648 (by decide) ?_
        refine lv_istore (lv' := [(14, .int 0), (0, .ref b), (1, .ref o), (2, .int 1), (3, .int (nI nc)), (4, .int (nI i)), (6, .ref a3), (7, .int (nI n)), (9, .int (nI (ztr fr n))), (10, .int (nI (zlw fr n t))), (11, .int (nI (zhi fr n t))), (12, .int (zb (zal (fun t => zmv fr n t) t))), (13, .int (nI t))]) hx hb dL_law_649 hl (by decide) rfl (fun ls hl => ?_)
        refine lv_iconst (v := 0) hx hb dL_law_651 (by decide) ?_
        refine lv_istore (lv' := [(15, .int 0), (14, .int 0), (0, .ref b), (1, .ref o), (2, .int 1), (3, .int (nI nc)), (4, .int (nI i)), (6, .ref a3), (7, .int (nI n)), (9, .int (nI (ztr fr n))), (10, .int (nI (zlw fr n t))), (11, .int (nI (zhi fr n t))), (12, .int (zb (zal (fun t => zmv fr n t) t))), (13, .int (nI t))]) hx hb dL_law_652 hl (by decide) rfl (fun ls hl => ?_)
        have loopc : ∀ (d2 : Nat) (k : Nat), n + 1 ≤ k + d2 → k ≤ n → ∀ (H : Heap) (locs : List Loc), va_P (dC, dI) vwCl ([(o, .inr (6, [.ref a0, .int tc, .ref a1, .int (nI (nc + 1)), .null, .int 40, .int 48, .int 0, .ref a2])), (a0, .inl (cI, 64, .inl ft)), (a1, .inl (cC, 4, .inr (.inr (.inr (.inr ad))))), (a3, .inl (cI, 64, .inl fr)), (h0, .inr (0, [.ref h1, .int (nI (ztr fr n)), .ref h2])), (h1, .inl (cI, n, .inl fr)), (h2, .inl (cI, 256, .inl (zpl fr n)))] ++ X) H → va_S (zq s.heap.size) s.heap H locs → ∀ ls : Array Slot, lv_has ls 19 [(0, .ref b), (1, .ref o), (2, .int 1), (3, .int (nI nc)), (4, .int (nI i)), (6, .ref a3), (7, .int (nI n)), (9, .int (nI (ztr fr n))), (10, .int (nI (zlw fr n t))), (11, .int (nI (zhi fr n t))), (12, .int (zb (zal (fun t => zmv fr n t) t))), (13, .int (nI t)), (14, .int (nI (zct (fun k => decide (¬ zmk fr k t = zmk fr ((k + 1) % n) t)) k))), (15, .int (nI k))] → W p l e room_1 s m #[Value.ref b] below meth c H locs cn sn Q (F0 m 654 ls []) := by
          intro d2
          induction d2 with
          | zero => intro k hd2 hk; exact absurd hd2 (by omega)
          | succ d2 ihe =>
            intro k hd2 hk H locs hP hS ls hl
            refine lv_iload hx hb dL_law_654 (lv_at hl 13 rfl) ?_
            refine lv_iload hx hb dL_law_656 (lv_at hl 6 rfl) ?_
            refine lv_icmp_ge (tgt := 705) hx hb dL_law_658 (by decide) (fun c658 => ?_) (fun c658 => ?_)
            · skip
              have hkn : k = n := Nat.le_antisymm hk ((nI_leI (by omega) (by omega)).mp c658)
              rw [hkn] at hl
              have hl : lv_has ls 19 [(0, .ref b), (1, .ref o), (2, .int 1), (3, .int (nI nc)), (4, .int (nI i)), (6, .ref a3), (7, .int (nI n)), (9, .int (nI (ztr fr n))), (10, .int (nI (zlw fr n t))), (11, .int (nI (zhi fr n t))), (12, .int (zb (zal (fun t => zmv fr n t) t))), (13, .int (nI t)), (14, .int (nI (zchg fr n t)))] := lv_sub hl [0, 1, 2, 3, 4, 5, 6, 7, 8, 9, 10, 11, 12] rfl
              refine lv_iconst (v := 0) hx hb dL_law_705 (by decide) ?_
              refine lv_istore (lv' := [(15, .int 0), (0, .ref b), (1, .ref o), (2, .int 1), (3, .int (nI nc)), (4, .int (nI i)), (6, .ref a3), (7, .int (nI n)), (9, .int (nI (ztr fr n))), (10, .int (nI (zlw fr n t))), (11, .int (nI (zhi fr n t))), (12, .int (zb (zal (fun t => zmv fr n t) t))), (13, .int (nI t)), (14, .int (nI (zchg fr n t)))]) hx hb dL_law_706 hl (by decide) rfl (fun ls hl => ?_)
              refine lv_iconst (v := 0) hx hb dL_law_708 (by decide) ?_
              refine lv_istore (lv' := [(16, .int 0), (15, .int 0), (0, .ref b), (1, .ref o), (2, .int 1), (3, .int (nI nc)), (4, .int (nI i)), (6, .ref a3), (7, .int (nI n)), (9, .int (nI (ztr fr n))), (10, .int (nI (zlw fr n t))), (11, .int (nI (zhi fr n t))), (12, .int (zb (zal (fun t => zmv fr n t) t))), (13, .int (nI t)), (14, .int (nI (zchg fr n t)))]) hx hb dL_law_709 hl (by decide) rfl (fun ls hl => ?_)
              have loopb : ∀ (d3 : Nat) (y : Nat), n + 1 ≤ y + d3 → y ≤ n → ∀ (H : Heap) (locs : List Loc), va_P (dC, dI) vwCl ([(o, .inr (6, [.ref a0, .int tc, .ref a1, .int (nI (nc + 1)), .null, .int 40, .int 48, .int 0, .ref a2])), (a0, .inl (cI, 64, .inl ft)), (a1, .inl (cC, 4, .inr (.inr (.inr (.inr ad))))), (a3, .inl (cI, 64, .inl fr)), (h0, .inr (0, [.ref h1, .int (nI (ztr fr n)), .ref h2])), (h1, .inl (cI, n, .inl fr)), (h2, .inl (cI, 256, .inl (zpl fr n)))] ++ X) H → va_S (zq s.heap.size) s.heap H locs → ∀ ls : Array Slot, lv_has ls 19 [(0, .ref b), (1, .ref o), (2, .int 1), (3, .int (nI nc)), (4, .int (nI i)), (6, .ref a3), (7, .int (nI n)), (9, .int (nI (ztr fr n))), (10, .int (nI (zlw fr n t))), (11, .int (nI (zhi fr n t))), (12, .int (zb (zal (fun t => zmv fr n t) t))), (13, .int (nI t)), (14, .int (nI (zchg fr n t))), (15, .int (zb (zex (fun b => zft fr n t b) y))), (16, .int (nI y))] → W p l e room_1 s m #[Value.ref b] below meth c H locs cn sn Q (F0 m 711 ls []) := by
                intro d3
                induction d3 with
                | zero => intro y hd3 hy; exact absurd hd3 (by omega)
                | succ d3 ihf =>
                  intro y hd3 hy H locs hP hS ls hl
                  have hc1 := zchg_le fr n t
                  have hc2 := zlw_le fr n t (by omega)
                  have hc3 := zhi_le fr n t
                  refine lv_iload hx hb dL_law_711 (lv_at hl 14 rfl) ?_
                  refine lv_iload hx hb dL_law_713 (lv_at hl 6 rfl) ?_
                  refine lv_icmp_ge (tgt := 786) hx hb dL_law_715 (by decide) (fun c715 => ?_) (fun c715 => ?_)
                  · skip
                    have hyn : y = n := Nat.le_antisymm hy ((nI_leI (by omega) (by omega)).mp c715)
                    rw [hyn] at hl
                    have hl : lv_has ls 19 [(0, .ref b), (1, .ref o), (2, .int 1), (3, .int (nI nc)), (4, .int (nI i)), (6, .ref a3), (7, .int (nI n)), (9, .int (nI (ztr fr n))), (10, .int (nI (zlw fr n t))), (11, .int (nI (zhi fr n t))), (12, .int (zb (zal (fun t => zmv fr n t) t))), (13, .int (nI t)), (14, .int (nI (zchg fr n t))), (15, .int (zb (zmv fr n t)))] := lv_sub hl [0, 1, 2, 3, 4, 5, 6, 7, 8, 9, 10, 11, 12, 13] rfl
                    refine lv_iload hx hb dL_law_786 (lv_at hl 10 rfl) ?_
                    refine lv_iload hx hb dL_law_788 (lv_at hl 13 rfl) ?_
                    refine lv_iand hx hb dL_law_790 ?_
                    refine zt_top (y := zb (zal (fun t => zmv fr n t) (t + 1))) (zb_and) ?_
                    refine lv_istore (lv' := [(12, .int (zb (zal (fun t => zmv fr n t) (t + 1)))), (0, .ref b), (1, .ref o), (2, .int 1), (3, .int (nI nc)), (4, .int (nI i)), (6, .ref a3), (7, .int (nI n)), (9, .int (nI (ztr fr n))), (10, .int (nI (zlw fr n t))), (11, .int (nI (zhi fr n t))), (13, .int (nI t)), (14, .int (nI (zchg fr n t))), (15, .int (zb (zmv fr n t)))]) hx hb dL_law_791 hl (by decide) rfl (fun ls hl => ?_)
                    refine lv_iload hx hb dL_law_793 (lv_at hl 12 rfl) ?_
                    refine lv_iload hx hb dL_law_795 (lv_at hl 9 rfl) ?_
                    refine lv_icmp_ge (tgt := 805) hx hb dL_law_797 (by decide) (fun c797 => ?_) (fun c797 => ?_)
                    · skip
                      have hlw : zlw fr n (t + 1) = zlw fr n t := by rw [← zlw_i fr n t (by omega), if_neg (fun q => absurd ((nI_leI (by omega) (by omega)).mp c797) (by omega))]
                      refine lv_iload hx hb dL_law_805 (lv_at hl 9 rfl) ?_
                      refine zt_top (y := nI (zlw fr n (t + 1))) (by rw [hlw]) ?_
                      refine lv_istore (lv' := [(10, .int (nI (zlw fr n (t + 1)))), (12, .int (zb (zal (fun t => zmv fr n t) (t + 1)))), (0, .ref b), (1, .ref o), (2, .int 1), (3, .int (nI nc)), (4, .int (nI i)), (6, .ref a3), (7, .int (nI n)), (9, .int (nI (ztr fr n))), (11, .int (nI (zhi fr n t))), (13, .int (nI t)), (14, .int (nI (zchg fr n t))), (15, .int (zb (zmv fr n t)))]) hx hb dL_law_807 hl (by decide) rfl (fun ls hl => ?_)
                      refine lv_iload hx hb dL_law_809 (lv_at hl 12 rfl) ?_
                      refine lv_iload hx hb dL_law_811 (lv_at hl 10 rfl) ?_
                      refine lv_icmp_le (tgt := 821) hx hb dL_law_813 (by decide) (fun c813 => ?_) (fun c813 => ?_)
                      · skip
                        have hhi : zhi fr n (t + 1) = zhi fr n t := by rw [← zhi_i2 fr n t, if_neg (fun q => absurd ((nI_leI (by omega) (by omega)).mp c813) (by omega))]
                        refine lv_iload hx hb dL_law_821 (lv_at hl 10 rfl) ?_
                        refine zt_top (y := nI (zhi fr n (t + 1))) (by rw [hhi]) ?_
                        refine lv_istore (lv' := [(11, .int (nI (zhi fr n (t + 1)))), (10, .int (nI (zlw fr n (t + 1)))), (12, .int (zb (zal (fun t => zmv fr n t) (t + 1)))), (0, .ref b), (1, .ref o), (2, .int 1), (3, .int (nI nc)), (4, .int (nI i)), (6, .ref a3), (7, .int (nI n)), (9, .int (nI (ztr fr n))), (13, .int (nI t)), (14, .int (nI (zchg fr n t))), (15, .int (zb (zmv fr n t)))]) hx hb dL_law_823 hl (by decide) rfl (fun ls hl => ?_)
                        refine lv_iload_n hx hb dL_law_825 rfl (lv_at hl 5 rfl) ?_
                        refine lv_aload_n hx hb dL_law_826 rfl (lv_at hl 4 rfl) ?_
                        refine lv_iload_n hx hb dL_law_827 rfl (lv_at hl 6 rfl) ?_
                        refine lv_iload hx hb dL_law_828 (lv_at hl 11 rfl) ?_
                        refine va_calli (vx_runSW (As := [.ref o, .int (nI nc), .int (nI t)]) (rest := [.int 1]) ⟨hx, hb, hml, hown, hts⟩ (w_changes l dC dI H.size cI cC o a0 a1 a2 tc (nc + 1) ad h0 h1 h2 n (ztr fr n) fr (zpl fr n) nc t (by omega) (by omega) had htT (by omega) (by omega)) (vx_cwSW 3 hts gL_law_L_changes rfl rfl rfl (by decide +kernel) ⟨Nat.le_of_ble_eq_true rfl, Nat.le_of_ble_eq_true rfl⟩) ⟨zfbN, zpreN (hP.sub (ws' := [(o, .inr (6, [.ref a0, .int tc, .ref a1, .int (nI (nc + 1)), .null, .int 40, .int 48, .int 0, .ref a2])), (a1, .inl (cC, 4, .inr (.inr (.inr (.inr ad))))), (h0, .inr (0, [.ref h1, .int (nI (ztr fr n)), .ref h2])), (h1, .inl (cI, n, .inl fr)), (h2, .inl (cI, 256, .inl (zpl fr n)))]) [0, 2, 4, 5, 6] rfl) (hK.sub (tys' := [(cI, .int), (cC, (.object RX0))]) [0, 1] rfl) (zX_N hE)⟩ rfl rfl hl.1 rfl (lv_room (Nat.le_of_ble_eq_true rfl)) dL_law_830 ⟨(show cn + 0 ≤ 679936 by omega), (show sn + 0 ≤ 7061659 by omega)⟩) hS (fun q h1 h2 => absurd h2 (Nat.not_le.mpr h1)) (fun q h => hA q (Nat.le_trans hS.1 h)) (fun r9 u9 t9 H1 locs ht hvm hw hB hz1 hk1 hS => ?_)
                        have hw : r9 = nI (zchg fr n t) := hw
                        subst hw
                        have hP := zr_keep hP hk1
                        clear hk1 hz1 hB ht hvm hw
                        refine lv_iload hx hb dL_law_833 (lv_at hl 12 rfl) ?_
                        refine lv_icmp_ne (tgt := 842) hx hb dL_law_835 (by decide) (fun c => absurd c (fun q => q rfl)) (fun c835 => ?_)
                        refine lv_iconst (v := 1) hx hb dL_law_838 (by decide) ?_
                        refine lv_goto (tgt := 843) hx hb dL_law_839 (by decide) ?_
                        refine lv_iand hx hb dL_law_843 ?_
                        refine zt_top (y := 1) (z11) ?_
                        refine lv_istore_n (lv' := [(2, .int 1), (11, .int (nI (zhi fr n (t + 1)))), (10, .int (nI (zlw fr n (t + 1)))), (12, .int (zb (zal (fun t => zmv fr n t) (t + 1)))), (0, .ref b), (1, .ref o), (3, .int (nI nc)), (4, .int (nI i)), (6, .ref a3), (7, .int (nI n)), (9, .int (nI (ztr fr n))), (13, .int (nI t)), (14, .int (nI (zchg fr n t))), (15, .int (zb (zmv fr n t)))]) hx hb dL_law_844 rfl hl (by decide) rfl (fun ls hl => ?_)
                        refine lv_iinc (v := nI (t + 1)) (lv' := [(13, .int (nI (t + 1))), (2, .int 1), (11, .int (nI (zhi fr n (t + 1)))), (10, .int (nI (zlw fr n (t + 1)))), (12, .int (zb (zal (fun t => zmv fr n t) (t + 1)))), (0, .ref b), (1, .ref o), (3, .int (nI nc)), (4, .int (nI i)), (6, .ref a3), (7, .int (nI n)), (9, .int (nI (ztr fr n))), (14, .int (nI (zchg fr n t))), (15, .int (zb (zmv fr n t)))]) hx hb dL_law_845 hl (k := 11) rfl (nI_1 t) (by decide) rfl (fun ls hl => ?_)
                        refine lv_goto (tgt := 641) hx hb dL_law_848 (by decide) ?_
                        exact ih (t + 1) (by omega) (by omega) _ _ hP hS ls (lv_sub hl [5, 6, 1, 7, 8, 9, 10, 11, 3, 2, 4, 0] rfl)
                      · skip
                        have hhi : zhi fr n (t + 1) = zchg fr n t := by rw [← zhi_i2 fr n t, if_pos (Nat.lt_of_not_le (fun q => c813 ((nI_leI (by omega) (by omega)).mpr q)))]
                        refine lv_iload hx hb dL_law_816 (lv_at hl 12 rfl) ?_
                        refine zt_top (y := nI (zhi fr n (t + 1))) (by rw [hhi]) ?_
                        refine lv_goto (tgt := 823) hx hb dL_law_818 (by decide) ?_
                        refine lv_istore (lv' := [(11, .int (nI (zhi fr n (t + 1)))), (10, .int (nI (zlw fr n (t + 1)))), (12, .int (zb (zal (fun t => zmv fr n t) (t + 1)))), (0, .ref b), (1, .ref o), (2, .int 1), (3, .int (nI nc)), (4, .int (nI i)), (6, .ref a3), (7, .int (nI n)), (9, .int (nI (ztr fr n))), (13, .int (nI t)), (14, .int (nI (zchg fr n t))), (15, .int (zb (zmv fr n t)))]) hx hb dL_law_823 hl (by decide) rfl (fun ls hl => ?_)
                        refine lv_iload_n hx hb dL_law_825 rfl (lv_at hl 5 rfl) ?_
                        refine lv_aload_n hx hb dL_law_826 rfl (lv_at hl 4 rfl) ?_
                        refine lv_iload_n hx hb dL_law_827 rfl (lv_at hl 6 rfl) ?_
                        refine lv_iload hx hb dL_law_828 (lv_at hl 11 rfl) ?_
                        refine va_calli (vx_runSW (As := [.ref o, .int (nI nc), .int (nI t)]) (rest := [.int 1]) ⟨hx, hb, hml, hown, hts⟩ (w_changes l dC dI H.size cI cC o a0 a1 a2 tc (nc + 1) ad h0 h1 h2 n (ztr fr n) fr (zpl fr n) nc t (by omega) (by omega) had htT (by omega) (by omega)) (vx_cwSW 3 hts gL_law_L_changes rfl rfl rfl (by decide +kernel) ⟨Nat.le_of_ble_eq_true rfl, Nat.le_of_ble_eq_true rfl⟩) ⟨zfbN, zpreN (hP.sub (ws' := [(o, .inr (6, [.ref a0, .int tc, .ref a1, .int (nI (nc + 1)), .null, .int 40, .int 48, .int 0, .ref a2])), (a1, .inl (cC, 4, .inr (.inr (.inr (.inr ad))))), (h0, .inr (0, [.ref h1, .int (nI (ztr fr n)), .ref h2])), (h1, .inl (cI, n, .inl fr)), (h2, .inl (cI, 256, .inl (zpl fr n)))]) [0, 2, 4, 5, 6] rfl) (hK.sub (tys' := [(cI, .int), (cC, (.object RX0))]) [0, 1] rfl) (zX_N hE)⟩ rfl rfl hl.1 rfl (lv_room (Nat.le_of_ble_eq_true rfl)) dL_law_830 ⟨(show cn + 0 ≤ 679936 by omega), (show sn + 0 ≤ 7061659 by omega)⟩) hS (fun q h1 h2 => absurd h2 (Nat.not_le.mpr h1)) (fun q h => hA q (Nat.le_trans hS.1 h)) (fun r9 u9 t9 H1 locs ht hvm hw hB hz1 hk1 hS => ?_)
                        have hw : r9 = nI (zchg fr n t) := hw
                        subst hw
                        have hP := zr_keep hP hk1
                        clear hk1 hz1 hB ht hvm hw
                        refine lv_iload hx hb dL_law_833 (lv_at hl 12 rfl) ?_
                        refine lv_icmp_ne (tgt := 842) hx hb dL_law_835 (by decide) (fun c => absurd c (fun q => q rfl)) (fun c835 => ?_)
                        refine lv_iconst (v := 1) hx hb dL_law_838 (by decide) ?_
                        refine lv_goto (tgt := 843) hx hb dL_law_839 (by decide) ?_
                        refine lv_iand hx hb dL_law_843 ?_
                        refine zt_top (y := 1) (z11) ?_
                        refine lv_istore_n (lv' := [(2, .int 1), (11, .int (nI (zhi fr n (t + 1)))), (10, .int (nI (zlw fr n (t + 1)))), (12, .int (zb (zal (fun t => zmv fr n t) (t + 1)))), (0, .ref b), (1, .ref o), (3, .int (nI nc)), (4, .int (nI i)), (6, .ref a3), (7, .int (nI n)), (9, .int (nI (ztr fr n))), (13, .int (nI t)), (14, .int (nI (zchg fr n t))), (15, .int (zb (zmv fr n t)))]) hx hb dL_law_844 rfl hl (by decide) rfl (fun ls hl => ?_)
                        refine lv_iinc (v := nI (t + 1)) (lv' := [(13, .int (nI (t + 1))), (2, .int 1), (11, .int (nI (zhi fr n (t + 1)))), (10, .int (nI (zlw fr n (t + 1)))), (12, .int (zb (zal (fun t => zmv fr n t) (t + 1)))), (0, .ref b), (1, .ref o), (3, .int (nI nc)), (4, .int (nI i)), (6, .ref a3), (7, .int (nI n)), (9, .int (nI (ztr fr n))), (14, .int (nI (zchg fr n t))), (15, .int (zb (zmv fr n t)))]) hx hb dL_law_845 hl (k := 11) rfl (nI_1 t) (by decide) rfl (fun ls hl => ?_)
                        refine lv_goto (tgt := 641) hx hb dL_law_848 (by decide) ?_
                        exact ih (t + 1) (by omega) (by omega) _ _ hP hS ls (lv_sub hl [5, 6, 1, 7, 8, 9, 10, 11, 3, 2, 4, 0] rfl)
                    · skip
                      have hlw : zlw fr n (t + 1) = zchg fr n t := by rw [← zlw_i fr n t (by omega), if_pos (Nat.lt_of_not_le (fun q => c797 ((nI_leI (by omega) (by omega)).mpr q)))]
                      refine lv_iload hx hb dL_law_800 (lv_at hl 12 rfl) ?_
                      refine zt_top (y := nI (zlw fr n (t + 1))) (by rw [hlw]) ?_
                      refine lv_goto (tgt := 807) hx hb dL_law_802 (by decide) ?_
                      refine lv_istore (lv' := [(10, .int (nI (zlw fr n (t + 1)))), (12, .int (zb (zal (fun t => zmv fr n t) (t + 1)))), (0, .ref b), (1, .ref o), (2, .int 1), (3, .int (nI nc)), (4, .int (nI i)), (6, .ref a3), (7, .int (nI n)), (9, .int (nI (ztr fr n))), (11, .int (nI (zhi fr n t))), (13, .int (nI t)), (14, .int (nI (zchg fr n t))), (15, .int (zb (zmv fr n t)))]) hx hb dL_law_807 hl (by decide) rfl (fun ls hl => ?_)
                      refine lv_iload hx hb dL_law_809 (lv_at hl 12 rfl) ?_
                      refine lv_iload hx hb dL_law_811 (lv_at hl 10 rfl) ?_
                      refine lv_icmp_le (tgt := 821) hx hb dL_law_813 (by decide) (fun c813 => ?_) (fun c813 => ?_)
                      · skip
                        have hhi : zhi fr n (t + 1) = zhi fr n t := by rw [← zhi_i2 fr n t, if_neg (fun q => absurd ((nI_leI (by omega) (by omega)).mp c813) (by omega))]
                        refine lv_iload hx hb dL_law_821 (lv_at hl 10 rfl) ?_
                        refine zt_top (y := nI (zhi fr n (t + 1))) (by rw [hhi]) ?_
                        refine lv_istore (lv' := [(11, .int (nI (zhi fr n (t + 1)))), (10, .int (nI (zlw fr n (t + 1)))), (12, .int (zb (zal (fun t => zmv fr n t) (t + 1)))), (0, .ref b), (1, .ref o), (2, .int 1), (3, .int (nI nc)), (4, .int (nI i)), (6, .ref a3), (7, .int (nI n)), (9, .int (nI (ztr fr n))), (13, .int (nI t)), (14, .int (nI (zchg fr n t))), (15, .int (zb (zmv fr n t)))]) hx hb dL_law_823 hl (by decide) rfl (fun ls hl => ?_)
                        refine lv_iload_n hx hb dL_law_825 rfl (lv_at hl 5 rfl) ?_
                        refine lv_aload_n hx hb dL_law_826 rfl (lv_at hl 4 rfl) ?_
                        refine lv_iload_n hx hb dL_law_827 rfl (lv_at hl 6 rfl) ?_
                        refine lv_iload hx hb dL_law_828 (lv_at hl 11 rfl) ?_
                        refine va_calli (vx_runSW (As := [.ref o, .int (nI nc), .int (nI t)]) (rest := [.int 1]) ⟨hx, hb, hml, hown, hts⟩ (w_changes l dC dI H.size cI cC o a0 a1 a2 tc (nc + 1) ad h0 h1 h2 n (ztr fr n) fr (zpl fr n) nc t (by omega) (by omega) had htT (by omega) (by omega)) (vx_cwSW 3 hts gL_law_L_changes rfl rfl rfl (by decide +kernel) ⟨Nat.le_of_ble_eq_true rfl, Nat.le_of_ble_eq_true rfl⟩) ⟨zfbN, zpreN (hP.sub (ws' := [(o, .inr (6, [.ref a0, .int tc, .ref a1, .int (nI (nc + 1)), .null, .int 40, .int 48, .int 0, .ref a2])), (a1, .inl (cC, 4, .inr (.inr (.inr (.inr ad))))), (h0, .inr (0, [.ref h1, .int (nI (ztr fr n)), .ref h2])), (h1, .inl (cI, n, .inl fr)), (h2, .inl (cI, 256, .inl (zpl fr n)))]) [0, 2, 4, 5, 6] rfl) (hK.sub (tys' := [(cI, .int), (cC, (.object RX0))]) [0, 1] rfl) (zX_N hE)⟩ rfl rfl hl.1 rfl (lv_room (Nat.le_of_ble_eq_true rfl)) dL_law_830 ⟨(show cn + 0 ≤ 679936 by omega), (show sn + 0 ≤ 7061659 by omega)⟩) hS (fun q h1 h2 => absurd h2 (Nat.not_le.mpr h1)) (fun q h => hA q (Nat.le_trans hS.1 h)) (fun r9 u9 t9 H1 locs ht hvm hw hB hz1 hk1 hS => ?_)
                        have hw : r9 = nI (zchg fr n t) := hw
                        subst hw
                        have hP := zr_keep hP hk1
                        clear hk1 hz1 hB ht hvm hw
                        refine lv_iload hx hb dL_law_833 (lv_at hl 12 rfl) ?_
                        refine lv_icmp_ne (tgt := 842) hx hb dL_law_835 (by decide) (fun c => absurd c (fun q => q rfl)) (fun c835 => ?_)
                        refine lv_iconst (v := 1) hx hb dL_law_838 (by decide) ?_
                        refine lv_goto (tgt := 843) hx hb dL_law_839 (by decide) ?_
                        refine lv_iand hx hb dL_law_843 ?_
                        refine zt_top (y := 1) (z11) ?_
                        refine lv_istore_n (lv' := [(2, .int 1), (11, .int (nI (zhi fr n (t + 1)))), (10, .int (nI (zlw fr n (t + 1)))), (12, .int (zb (zal (fun t => zmv fr n t) (t + 1)))), (0, .ref b), (1, .ref o), (3, .int (nI nc)), (4, .int (nI i)), (6, .ref a3), (7, .int (nI n)), (9, .int (nI (ztr fr n))), (13, .int (nI t)), (14, .int (nI (zchg fr n t))), (15, .int (zb (zmv fr n t)))]) hx hb dL_law_844 rfl hl (by decide) rfl (fun ls hl => ?_)
                        refine lv_iinc (v := nI (t + 1)) (lv' := [(13, .int (nI (t + 1))), (2, .int 1), (11, .int (nI (zhi fr n (t + 1)))), (10, .int (nI (zlw fr n (t + 1)))), (12, .int (zb (zal (fun t => zmv fr n t) (t + 1)))), (0, .ref b), (1, .ref o), (3, .int (nI nc)), (4, .int (nI i)), (6, .ref a3), (7, .int (nI n)), (9, .int (nI (ztr fr n))), (14, .int (nI (zchg fr n t))), (15, .int (zb (zmv fr n t)))]) hx hb dL_law_845 hl (k := 11) rfl (nI_1 t) (by decide) rfl (fun ls hl => ?_)
                        refine lv_goto (tgt := 641) hx hb dL_law_848 (by decide) ?_
                        exact ih (t + 1) (by omega) (by omega) _ _ hP hS ls (lv_sub hl [5, 6, 1, 7, 8, 9, 10, 11, 3, 2, 4, 0] rfl)
                      · skip
                        have hhi : zhi fr n (t + 1) = zchg fr n t := by rw [← zhi_i2 fr n t, if_pos (Nat.lt_of_not_le (fun q => c813 ((nI_leI (by omega) (by omega)).mpr q)))]
                        refine lv_iload hx hb dL_law_816 (lv_at hl 12 rfl) ?_
                        refine zt_top (y := nI (zhi fr n (t + 1))) (by rw [hhi]) ?_
                        refine lv_goto (tgt := 823) hx hb dL_law_818 (by decide) ?_
                        refine lv_istore (lv' := [(11, .int (nI (zhi fr n (t + 1)))), (10, .int (nI (zlw fr n (t + 1)))), (12, .int (zb (zal (fun t => zmv fr n t) (t + 1)))), (0, .ref b), (1, .ref o), (2, .int 1), (3, .int (nI nc)), (4, .int (nI i)), (6, .ref a3), (7, .int (nI n)), (9, .int (nI (ztr fr n))), (13, .int (nI t)), (14, .int (nI (zchg fr n t))), (15, .int (zb (zmv fr n t)))]) hx hb dL_law_823 hl (by decide) rfl (fun ls hl => ?_)
                        refine lv_iload_n hx hb dL_law_825 rfl (lv_at hl 5 rfl) ?_
                        refine lv_aload_n hx hb dL_law_826 rfl (lv_at hl 4 rfl) ?_
                        refine lv_iload_n hx hb dL_law_827 rfl (lv_at hl 6 rfl) ?_
                        refine lv_iload hx hb dL_law_828 (lv_at hl 11 rfl) ?_
                        refine va_calli (vx_runSW (As := [.ref o, .int (nI nc), .int (nI t)]) (rest := [.int 1]) ⟨hx, hb, hml, hown, hts⟩ (w_changes l dC dI H.size cI cC o a0 a1 a2 tc (nc + 1) ad h0 h1 h2 n (ztr fr n) fr (zpl fr n) nc t (by omega) (by omega) had htT (by omega) (by omega)) (vx_cwSW 3 hts gL_law_L_changes rfl rfl rfl (by decide +kernel) ⟨Nat.le_of_ble_eq_true rfl, Nat.le_of_ble_eq_true rfl⟩) ⟨zfbN, zpreN (hP.sub (ws' := [(o, .inr (6, [.ref a0, .int tc, .ref a1, .int (nI (nc + 1)), .null, .int 40, .int 48, .int 0, .ref a2])), (a1, .inl (cC, 4, .inr (.inr (.inr (.inr ad))))), (h0, .inr (0, [.ref h1, .int (nI (ztr fr n)), .ref h2])), (h1, .inl (cI, n, .inl fr)), (h2, .inl (cI, 256, .inl (zpl fr n)))]) [0, 2, 4, 5, 6] rfl) (hK.sub (tys' := [(cI, .int), (cC, (.object RX0))]) [0, 1] rfl) (zX_N hE)⟩ rfl rfl hl.1 rfl (lv_room (Nat.le_of_ble_eq_true rfl)) dL_law_830 ⟨(show cn + 0 ≤ 679936 by omega), (show sn + 0 ≤ 7061659 by omega)⟩) hS (fun q h1 h2 => absurd h2 (Nat.not_le.mpr h1)) (fun q h => hA q (Nat.le_trans hS.1 h)) (fun r9 u9 t9 H1 locs ht hvm hw hB hz1 hk1 hS => ?_)
                        have hw : r9 = nI (zchg fr n t) := hw
                        subst hw
                        have hP := zr_keep hP hk1
                        clear hk1 hz1 hB ht hvm hw
                        refine lv_iload hx hb dL_law_833 (lv_at hl 12 rfl) ?_
                        refine lv_icmp_ne (tgt := 842) hx hb dL_law_835 (by decide) (fun c => absurd c (fun q => q rfl)) (fun c835 => ?_)
                        refine lv_iconst (v := 1) hx hb dL_law_838 (by decide) ?_
                        refine lv_goto (tgt := 843) hx hb dL_law_839 (by decide) ?_
                        refine lv_iand hx hb dL_law_843 ?_
                        refine zt_top (y := 1) (z11) ?_
                        refine lv_istore_n (lv' := [(2, .int 1), (11, .int (nI (zhi fr n (t + 1)))), (10, .int (nI (zlw fr n (t + 1)))), (12, .int (zb (zal (fun t => zmv fr n t) (t + 1)))), (0, .ref b), (1, .ref o), (3, .int (nI nc)), (4, .int (nI i)), (6, .ref a3), (7, .int (nI n)), (9, .int (nI (ztr fr n))), (13, .int (nI t)), (14, .int (nI (zchg fr n t))), (15, .int (zb (zmv fr n t)))]) hx hb dL_law_844 rfl hl (by decide) rfl (fun ls hl => ?_)
                        refine lv_iinc (v := nI (t + 1)) (lv' := [(13, .int (nI (t + 1))), (2, .int 1), (11, .int (nI (zhi fr n (t + 1)))), (10, .int (nI (zlw fr n (t + 1)))), (12, .int (zb (zal (fun t => zmv fr n t) (t + 1)))), (0, .ref b), (1, .ref o), (3, .int (nI nc)), (4, .int (nI i)), (6, .ref a3), (7, .int (nI n)), (9, .int (nI (ztr fr n))), (14, .int (nI (zchg fr n t))), (15, .int (zb (zmv fr n t)))]) hx hb dL_law_845 hl (k := 11) rfl (nI_1 t) (by decide) rfl (fun ls hl => ?_)
                        refine lv_goto (tgt := 641) hx hb dL_law_848 (by decide) ?_
                        exact ih (t + 1) (by omega) (by omega) _ _ hP hS ls (lv_sub hl [5, 6, 1, 7, 8, 9, 10, 11, 3, 2, 4, 0] rfl)
                  · skip
                    have hyn : y < n := Nat.lt_of_not_le (fun q => c715 ((nI_leI (by omega) (by omega)).mpr q))
                    refine lv_iconst (v := 1) hx hb dL_law_718 (by decide) ?_
                    refine lv_istore (lv' := [(17, .int 1), (0, .ref b), (1, .ref o), (2, .int 1), (3, .int (nI nc)), (4, .int (nI i)), (6, .ref a3), (7, .int (nI n)), (9, .int (nI (ztr fr n))), (10, .int (nI (zlw fr n t))), (11, .int (nI (zhi fr n t))), (12, .int (zb (zal (fun t => zmv fr n t) t))), (13, .int (nI t)), (14, .int (nI (zchg fr n t))), (15, .int (zb (zex (fun b => zft fr n t b) y))), (16, .int (nI y))]) hx hb dL_law_719 hl (by decide) rfl (fun ls hl => ?_)
                    refine lv_iconst (v := 0) hx hb dL_law_721 (by decide) ?_
                    refine lv_istore (lv' := [(18, .int 0), (17, .int 1), (0, .ref b), (1, .ref o), (2, .int 1), (3, .int (nI nc)), (4, .int (nI i)), (6, .ref a3), (7, .int (nI n)), (9, .int (nI (ztr fr n))), (10, .int (nI (zlw fr n t))), (11, .int (nI (zhi fr n t))), (12, .int (zb (zal (fun t => zmv fr n t) t))), (13, .int (nI t)), (14, .int (nI (zchg fr n t))), (15, .int (zb (zex (fun b => zft fr n t b) y))), (16, .int (nI y))]) hx hb dL_law_722 hl (by decide) rfl (fun ls hl => ?_)
                    have loopk : ∀ (d4 : Nat) (k : Nat), n + 1 ≤ k + d4 → k ≤ n → ∀ (H : Heap) (locs : List Loc), va_P (dC, dI) vwCl ([(o, .inr (6, [.ref a0, .int tc, .ref a1, .int (nI (nc + 1)), .null, .int 40, .int 48, .int 0, .ref a2])), (a0, .inl (cI, 64, .inl ft)), (a1, .inl (cC, 4, .inr (.inr (.inr (.inr ad))))), (a3, .inl (cI, 64, .inl fr)), (h0, .inr (0, [.ref h1, .int (nI (ztr fr n)), .ref h2])), (h1, .inl (cI, n, .inl fr)), (h2, .inl (cI, 256, .inl (zpl fr n)))] ++ X) H → va_S (zq s.heap.size) s.heap H locs → ∀ ls : Array Slot, lv_has ls 19 [(0, .ref b), (1, .ref o), (2, .int 1), (3, .int (nI nc)), (4, .int (nI i)), (6, .ref a3), (7, .int (nI n)), (9, .int (nI (ztr fr n))), (10, .int (nI (zlw fr n t))), (11, .int (nI (zhi fr n t))), (12, .int (zb (zal (fun t => zmv fr n t) t))), (13, .int (nI t)), (14, .int (nI (zchg fr n t))), (15, .int (zb (zex (fun b => zft fr n t b) y))), (16, .int (nI y)), (17, .int (zb (zal (fun k => decide (zmk fr k t = zmk fr ((k + y) % n) 0)) k))), (18, .int (nI k))] → W p l e room_1 s m #[Value.ref b] below meth c H locs cn sn Q (F0 m 724 ls []) := by
                      intro d4
                      induction d4 with
                      | zero => intro k hd4 hk4; exact absurd hd4 (by omega)
                      | succ d4 ihg =>
                        intro k hd4 hk4 H locs hP hS ls hl
                        refine lv_iload hx hb dL_law_724 (lv_at hl 16 rfl) ?_
                        refine lv_iload hx hb dL_law_726 (lv_at hl 6 rfl) ?_
                        refine lv_icmp_ge (tgt := 773) hx hb dL_law_728 (by decide) (fun c728 => ?_) (fun c728 => ?_)
                        · skip
                          have hkn4 : k = n := Nat.le_antisymm hk4 ((nI_leI (by omega) (by omega)).mp c728)
                          rw [hkn4] at hl
                          have hl : lv_has ls 19 [(0, .ref b), (1, .ref o), (2, .int 1), (3, .int (nI nc)), (4, .int (nI i)), (6, .ref a3), (7, .int (nI n)), (9, .int (nI (ztr fr n))), (10, .int (nI (zlw fr n t))), (11, .int (nI (zhi fr n t))), (12, .int (zb (zal (fun t => zmv fr n t) t))), (13, .int (nI t)), (14, .int (nI (zchg fr n t))), (15, .int (zb (zex (fun b => zft fr n t b) y))), (16, .int (nI y)), (17, .int (zb (zft fr n t y)))] := lv_sub hl [0, 1, 2, 3, 4, 5, 6, 7, 8, 9, 10, 11, 12, 13, 14, 15] rfl
                          refine lv_iload hx hb dL_law_773 (lv_at hl 13 rfl) ?_
                          refine lv_iload hx hb dL_law_775 (lv_at hl 15 rfl) ?_
                          refine lv_ior hx hb dL_law_777 ?_
                          refine zt_top (y := zb (zex (fun b => zft fr n t b) (y + 1))) (zb_or) ?_
                          refine lv_istore (lv' := [(15, .int (zb (zex (fun b => zft fr n t b) (y + 1)))), (0, .ref b), (1, .ref o), (2, .int 1), (3, .int (nI nc)), (4, .int (nI i)), (6, .ref a3), (7, .int (nI n)), (9, .int (nI (ztr fr n))), (10, .int (nI (zlw fr n t))), (11, .int (nI (zhi fr n t))), (12, .int (zb (zal (fun t => zmv fr n t) t))), (13, .int (nI t)), (14, .int (nI (zchg fr n t))), (16, .int (nI y)), (17, .int (zb (zft fr n t y)))]) hx hb dL_law_778 hl (by decide) rfl (fun ls hl => ?_)
                          refine lv_iinc (v := nI (y + 1)) (lv' := [(16, .int (nI (y + 1))), (15, .int (zb (zex (fun b => zft fr n t b) (y + 1)))), (0, .ref b), (1, .ref o), (2, .int 1), (3, .int (nI nc)), (4, .int (nI i)), (6, .ref a3), (7, .int (nI n)), (9, .int (nI (ztr fr n))), (10, .int (nI (zlw fr n t))), (11, .int (nI (zhi fr n t))), (12, .int (zb (zal (fun t => zmv fr n t) t))), (13, .int (nI t)), (14, .int (nI (zchg fr n t))), (17, .int (zb (zft fr n t y)))]) hx hb dL_law_780 hl (k := 14) rfl (nI_1 y) (by decide) rfl (fun ls hl => ?_)
                          refine lv_goto (tgt := 711) hx hb dL_law_783 (by decide) ?_
                          exact ihf (y + 1) (by omega) (by omega) _ _ hP hS ls (lv_sub hl [2, 3, 4, 5, 6, 7, 8, 9, 10, 11, 12, 13, 14, 1, 0] rfl)
                        · skip
                          have hkn4 : k < n := Nat.lt_of_not_le (fun q => c728 ((nI_leI (by omega) (by omega)).mpr q))
                          refine lv_iload hx hb dL_law_731 (lv_at hl 15 rfl) ?_
                          refine lv_aload hx hb dL_law_733 (lv_at hl 5 rfl) ?_
                          refine lv_iload hx hb dL_law_735 (lv_at hl 16 rfl) ?_
                          refine va_iald hx hb hK hP 3 0 rfl rfl (vp_in_nI (by omega) (by decide)) dL_law_737 ?_
                          refine zt_top (y := fr k) (by rw [nI_clamp (by omega)]) ?_
                          refine lv_iload hx hb dL_law_738 (lv_at hl 11 rfl) ?_
                          refine lv_ishr hx hb dL_law_740 ?_
                          refine lv_iconst (v := 1) hx hb dL_law_741 (by decide) ?_
                          refine lv_iand hx hb dL_law_742 ?_
                          refine zt_top (y := zmk fr k t) (rfl) ?_
                          refine lv_aload hx hb dL_law_743 (lv_at hl 5 rfl) ?_
                          refine lv_iload hx hb dL_law_745 (lv_at hl 16 rfl) ?_
                          refine lv_iload hx hb dL_law_747 (lv_at hl 14 rfl) ?_
                          refine lv_iadd hx hb dL_law_749 ?_
                          refine zt_top (y := nI (k + y)) (nI_add k y) ?_
                          refine lv_iload hx hb dL_law_750 (lv_at hl 6 rfl) ?_
                          refine lv_irem hx hb dL_law_752 (nI_ne0 (by omega) (by omega)) ?_
                          refine zt_top (y := nI ((k + y) % n)) (pk_rem (by omega) (by omega) (by omega)) ?_
                          refine va_iald hx hb hK hP 3 0 rfl rfl (vp_in_nI (Nat.lt_of_lt_of_le (Nat.mod_lt _ (by omega)) (by omega)) (by decide)) dL_law_753 ?_
                          refine zt_top (y := fr ((k + y) % n)) (by rw [nI_clamp (Nat.lt_of_lt_of_le (Nat.mod_lt _ (by omega)) (by omega))]) ?_
                          refine lv_iconst (v := 1) hx hb dL_law_754 (by decide) ?_
                          refine lv_iand hx hb dL_law_755 ?_
                          refine zt_top (y := zmk fr ((k + y) % n) 0) ((zmk_0 fr _).symm) ?_
                          refine lv_icmp_ne (tgt := 763) hx hb dL_law_756 (by decide) (fun c756 => ?_) (fun c756 => ?_)
                          · skip
                            have ec : decide (zmk fr k t = zmk fr ((k + y) % n) 0) = false := decide_eq_false c756
                            refine lv_iconst (v := 0) hx hb dL_law_763 (by decide) ?_
                            refine lv_iand hx hb dL_law_764 ?_
                            refine zt_top (y := zb (zal (fun k => decide (zmk fr k t = zmk fr ((k + y) % n) 0)) (k + 1))) (by rw [zal, ec]; exact zb_and (b := false)) ?_
                            refine lv_istore (lv' := [(17, .int (zb (zal (fun k => decide (zmk fr k t = zmk fr ((k + y) % n) 0)) (k + 1)))), (0, .ref b), (1, .ref o), (2, .int 1), (3, .int (nI nc)), (4, .int (nI i)), (6, .ref a3), (7, .int (nI n)), (9, .int (nI (ztr fr n))), (10, .int (nI (zlw fr n t))), (11, .int (nI (zhi fr n t))), (12, .int (zb (zal (fun t => zmv fr n t) t))), (13, .int (nI t)), (14, .int (nI (zchg fr n t))), (15, .int (zb (zex (fun b => zft fr n t b) y))), (16, .int (nI y)), (18, .int (nI k))]) hx hb dL_law_765 hl (by decide) rfl (fun ls hl => ?_)
                            refine lv_iinc (v := nI (k + 1)) (lv' := [(18, .int (nI (k + 1))), (17, .int (zb (zal (fun k => decide (zmk fr k t = zmk fr ((k + y) % n) 0)) (k + 1)))), (0, .ref b), (1, .ref o), (2, .int 1), (3, .int (nI nc)), (4, .int (nI i)), (6, .ref a3), (7, .int (nI n)), (9, .int (nI (ztr fr n))), (10, .int (nI (zlw fr n t))), (11, .int (nI (zhi fr n t))), (12, .int (zb (zal (fun t => zmv fr n t) t))), (13, .int (nI t)), (14, .int (nI (zchg fr n t))), (15, .int (zb (zex (fun b => zft fr n t b) y))), (16, .int (nI y))]) hx hb dL_law_767 hl (k := 16) rfl (nI_1 k) (by decide) rfl (fun ls hl => ?_)
                            refine lv_goto (tgt := 724) hx hb dL_law_770 (by decide) ?_
                            exact ihg (k + 1) (by omega) (by omega) _ _ hP hS ls (lv_sub hl [2, 3, 4, 5, 6, 7, 8, 9, 10, 11, 12, 13, 14, 15, 16, 1, 0] rfl)
                          · skip
                            have ec : decide (zmk fr k t = zmk fr ((k + y) % n) 0) = true := decide_eq_true c756
                            refine lv_iconst (v := 1) hx hb dL_law_759 (by decide) ?_
                            refine lv_goto (tgt := 764) hx hb dL_law_760 (by decide) ?_
                            refine lv_iand hx hb dL_law_764 ?_
                            refine zt_top (y := zb (zal (fun k => decide (zmk fr k t = zmk fr ((k + y) % n) 0)) (k + 1))) (by rw [zal, ec]; exact zb_and (b := true)) ?_
                            refine lv_istore (lv' := [(17, .int (zb (zal (fun k => decide (zmk fr k t = zmk fr ((k + y) % n) 0)) (k + 1)))), (0, .ref b), (1, .ref o), (2, .int 1), (3, .int (nI nc)), (4, .int (nI i)), (6, .ref a3), (7, .int (nI n)), (9, .int (nI (ztr fr n))), (10, .int (nI (zlw fr n t))), (11, .int (nI (zhi fr n t))), (12, .int (zb (zal (fun t => zmv fr n t) t))), (13, .int (nI t)), (14, .int (nI (zchg fr n t))), (15, .int (zb (zex (fun b => zft fr n t b) y))), (16, .int (nI y)), (18, .int (nI k))]) hx hb dL_law_765 hl (by decide) rfl (fun ls hl => ?_)
                            refine lv_iinc (v := nI (k + 1)) (lv' := [(18, .int (nI (k + 1))), (17, .int (zb (zal (fun k => decide (zmk fr k t = zmk fr ((k + y) % n) 0)) (k + 1)))), (0, .ref b), (1, .ref o), (2, .int 1), (3, .int (nI nc)), (4, .int (nI i)), (6, .ref a3), (7, .int (nI n)), (9, .int (nI (ztr fr n))), (10, .int (nI (zlw fr n t))), (11, .int (nI (zhi fr n t))), (12, .int (zb (zal (fun t => zmv fr n t) t))), (13, .int (nI t)), (14, .int (nI (zchg fr n t))), (15, .int (zb (zex (fun b => zft fr n t b) y))), (16, .int (nI y))]) hx hb dL_law_767 hl (k := 16) rfl (nI_1 k) (by decide) rfl (fun ls hl => ?_)
                            refine lv_goto (tgt := 724) hx hb dL_law_770 (by decide) ?_
                            exact ihg (k + 1) (by omega) (by omega) _ _ hP hS ls (lv_sub hl [2, 3, 4, 5, 6, 7, 8, 9, 10, 11, 12, 13, 14, 15, 16, 1, 0] rfl)
                    exact loopk (n + 1) 0 (by omega) (Nat.zero_le _) _ _ hP hS ls (lv_sub hl [2, 3, 4, 5, 6, 7, 8, 9, 10, 11, 12, 13, 14, 15, 16, 1, 0] rfl)
              exact loopb (n + 1) 0 (by omega) (Nat.zero_le _) _ _ hP hS ls (lv_sub hl [2, 3, 4, 5, 6, 7, 8, 9, 10, 11, 12, 13, 14, 1, 0] rfl)
            · skip
              have hkn : k < n := Nat.lt_of_not_le (fun q => c658 ((nI_leI (by omega) (by omega)).mpr q))
              refine lv_iload hx hb dL_law_661 (lv_at hl 12 rfl) ?_
              refine lv_aload hx hb dL_law_663 (lv_at hl 5 rfl) ?_
              refine lv_iload hx hb dL_law_665 (lv_at hl 13 rfl) ?_
              refine va_iald hx hb hK hP 3 0 rfl rfl (vp_in_nI (by omega) (by decide)) dL_law_667 ?_
              refine zt_top (y := fr k) (by rw [nI_clamp (by omega)]) ?_
              refine lv_iload hx hb dL_law_668 (lv_at hl 11 rfl) ?_
              refine lv_ishr hx hb dL_law_670 ?_
              refine lv_iconst (v := 1) hx hb dL_law_671 (by decide) ?_
              refine lv_iand hx hb dL_law_672 ?_
              refine zt_top (y := zmk fr k t) (rfl) ?_
              refine lv_aload hx hb dL_law_673 (lv_at hl 5 rfl) ?_
              refine lv_iload hx hb dL_law_675 (lv_at hl 13 rfl) ?_
              refine lv_iconst (v := 1) hx hb dL_law_677 (by decide) ?_
              refine lv_iadd hx hb dL_law_678 ?_
              refine zt_top (y := nI (k + 1)) (nI_1 k) ?_
              refine lv_iload hx hb dL_law_679 (lv_at hl 6 rfl) ?_
              refine lv_irem hx hb dL_law_681 (nI_ne0 (by omega) (by omega)) ?_
              refine zt_top (y := nI ((k + 1) % n)) (pk_rem (by omega) (by omega) (by omega)) ?_
              refine va_iald hx hb hK hP 3 0 rfl rfl (vp_in_nI (Nat.lt_of_lt_of_le (Nat.mod_lt _ (by omega)) (by omega)) (by decide)) dL_law_682 ?_
              refine zt_top (y := fr ((k + 1) % n)) (by rw [nI_clamp (Nat.lt_of_lt_of_le (Nat.mod_lt _ (by omega)) (by omega))]) ?_
              refine lv_iload hx hb dL_law_683 (lv_at hl 11 rfl) ?_
              refine lv_ishr hx hb dL_law_685 ?_
              refine lv_iconst (v := 1) hx hb dL_law_686 (by decide) ?_
              refine lv_iand hx hb dL_law_687 ?_
              refine zt_top (y := zmk fr ((k + 1) % n) t) (rfl) ?_
              refine lv_icmp_ne (tgt := 695) hx hb dL_law_688 (by decide) (fun c688 => ?_) (fun c688 => ?_)
              · skip
                have ec := zct_t (p := (fun k => decide (¬ zmk fr k t = zmk fr ((k + 1) % n) t))) (n := k) (decide_eq_true c688)
                refine lv_iconst (v := 1) hx hb dL_law_695 (by decide) ?_
                refine lv_iadd hx hb dL_law_696 ?_
                refine zt_top (y := nI (zct (fun k => decide (¬ zmk fr k t = zmk fr ((k + 1) % n) t)) (k + 1))) (by rw [ec]; exact nI_1 _) ?_
                refine lv_istore (lv' := [(14, .int (nI (zct (fun k => decide (¬ zmk fr k t = zmk fr ((k + 1) % n) t)) (k + 1)))), (0, .ref b), (1, .ref o), (2, .int 1), (3, .int (nI nc)), (4, .int (nI i)), (6, .ref a3), (7, .int (nI n)), (9, .int (nI (ztr fr n))), (10, .int (nI (zlw fr n t))), (11, .int (nI (zhi fr n t))), (12, .int (zb (zal (fun t => zmv fr n t) t))), (13, .int (nI t)), (15, .int (nI k))]) hx hb dL_law_697 hl (by decide) rfl (fun ls hl => ?_)
                refine lv_iinc (v := nI (k + 1)) (lv' := [(15, .int (nI (k + 1))), (14, .int (nI (zct (fun k => decide (¬ zmk fr k t = zmk fr ((k + 1) % n) t)) (k + 1)))), (0, .ref b), (1, .ref o), (2, .int 1), (3, .int (nI nc)), (4, .int (nI i)), (6, .ref a3), (7, .int (nI n)), (9, .int (nI (ztr fr n))), (10, .int (nI (zlw fr n t))), (11, .int (nI (zhi fr n t))), (12, .int (zb (zal (fun t => zmv fr n t) t))), (13, .int (nI t))]) hx hb dL_law_699 hl (k := 13) rfl (nI_1 k) (by decide) rfl (fun ls hl => ?_)
                refine lv_goto (tgt := 654) hx hb dL_law_702 (by decide) ?_
                exact ihe (k + 1) (by omega) (by omega) _ _ hP hS ls (lv_sub hl [2, 3, 4, 5, 6, 7, 8, 9, 10, 11, 12, 13, 1, 0] rfl)
              · skip
                have ec := zct_f (p := (fun k => decide (¬ zmk fr k t = zmk fr ((k + 1) % n) t))) (n := k) (decide_eq_false (not_not_intro c688))
                refine lv_iconst (v := 0) hx hb dL_law_691 (by decide) ?_
                refine lv_goto (tgt := 696) hx hb dL_law_692 (by decide) ?_
                refine lv_iadd hx hb dL_law_696 ?_
                refine zt_top (y := nI (zct (fun k => decide (¬ zmk fr k t = zmk fr ((k + 1) % n) t)) (k + 1))) (by rw [ec]; exact Int32.add_zero _) ?_
                refine lv_istore (lv' := [(14, .int (nI (zct (fun k => decide (¬ zmk fr k t = zmk fr ((k + 1) % n) t)) (k + 1)))), (0, .ref b), (1, .ref o), (2, .int 1), (3, .int (nI nc)), (4, .int (nI i)), (6, .ref a3), (7, .int (nI n)), (9, .int (nI (ztr fr n))), (10, .int (nI (zlw fr n t))), (11, .int (nI (zhi fr n t))), (12, .int (zb (zal (fun t => zmv fr n t) t))), (13, .int (nI t)), (15, .int (nI k))]) hx hb dL_law_697 hl (by decide) rfl (fun ls hl => ?_)
                refine lv_iinc (v := nI (k + 1)) (lv' := [(15, .int (nI (k + 1))), (14, .int (nI (zct (fun k => decide (¬ zmk fr k t = zmk fr ((k + 1) % n) t)) (k + 1)))), (0, .ref b), (1, .ref o), (2, .int 1), (3, .int (nI nc)), (4, .int (nI i)), (6, .ref a3), (7, .int (nI n)), (9, .int (nI (ztr fr n))), (10, .int (nI (zlw fr n t))), (11, .int (nI (zhi fr n t))), (12, .int (zb (zal (fun t => zmv fr n t) t))), (13, .int (nI t))]) hx hb dL_law_699 hl (k := 13) rfl (nI_1 k) (by decide) rfl (fun ls hl => ?_)
                refine lv_goto (tgt := 654) hx hb dL_law_702 (by decide) ?_
                exact ihe (k + 1) (by omega) (by omega) _ _ hP hS ls (lv_sub hl [2, 3, 4, 5, 6, 7, 8, 9, 10, 11, 12, 13, 1, 0] rfl)
        exact loopc (n + 1) 0 (by omega) (Nat.zero_le _) _ _ hP hS ls (lv_sub hl [2, 3, 4, 5, 6, 7, 8, 9, 10, 11, 12, 13, 1, 0] rfl)
  exact loop ((ztr fr n) + 1) 0 (by omega) (Nat.zero_le _) _ _ hP hS ls (lv_sub hl [4, 5, 6, 7, 8, 9, 10, 11, 3, 2, 1, 0] rfl)


end ZV
