/-! what the launch and the tables give: the statics that a throw reads, texts, words that keep by themselves, pairs that aren't castable -/
def zIAE : String := "java/lang/IllegalArgumentException"
def zISE : String := "java/lang/IllegalStateException"
def zUOE : String := "java/lang/UnsupportedOperationException"
def zIOB : String := "java/lang/IndexOutOfBoundsException"
def zNSE : String := "java/util/NoSuchElementException"
def zTx : List (Nat × String) := [(39, "a word is 0 to 255"), (58, "what is typed is no ring"), (76, "bits are 2 to 6"), (387, "no such code"), (92, "no such place"), (103, "the code has no such word"), (109, "no such track"), (120, "a disc is off by 0 to 40"), (389, "there is no disc")]
def zD : List Cond := [.methodLinkNest RX0 36 yX6_modulo "Ringtrack", .methodLinkNest RX6 28 yX2_init "Ringtrack", .declares (Bundle.initS "java/lang/RuntimeException"), .declares (Bundle.initS "java/lang/Exception"), .declares (Bundle.initS Bundle.tN), .castable "java/lang/IllegalArgumentException" "java/lang/IllegalArgumentException", .castable "java/lang/UnsupportedOperationException" "java/lang/UnsupportedOperationException", .castable "java/lang/IndexOutOfBoundsException" "java/lang/IndexOutOfBoundsException", .castable "java/util/NoSuchElementException" "java/util/NoSuchElementException"]
def zPr : List (String × String) := [("java/lang/IllegalArgumentException", "java/lang/IndexOutOfBoundsException"), ("java/util/NoSuchElementException", "java/lang/IndexOutOfBoundsException"), ("java/util/NoSuchElementException", "java/lang/IllegalArgumentException")]
def zwm : Cond → Bool
  | .declares _ => true
  | .castable _ _ => true
  | .methodLinkNest _ _ _ _ => true
  | _ => false
theorem zw_warm {w : Cond} (hw : zwm w = true) {s U : State} (hW : s.WarmedH U.vm) (h : va_Nw w s) : va_Nw w U := by
  cases w <;> first | exact va_Nw.warmD hW h | exact va_Nw.warmC hW h | exact va_Nw.warmM hW h | (exact absurd hw (by decide)) | (simp [zwm] at hw)
theorem zD_ok : ∀ w ∈ zD, zwm w = true := by decide +kernel
theorem zD_ot : ∀ w ∈ zD, w.onTables = true := by decide +kernel
def zX (A : Nat → Prop) (U : State) (H : Heap) : Prop := (vx_Zq Bundle.tN "UNASSIGNED_STACK" Bundle.steD A U H ∧ vx_Zq Bundle.tN "SUPPRESSED_SENTINEL" Bundle.listD A U H) ∧ (∀ q ∈ zTx, ∃ a : Nat, vk_R RX6 q.1 q.2 a U) ∧ (∀ w ∈ zD, va_Nw w U) ∧ (∀ q ∈ zPr, va_Nc q.1 q.2 U)
theorem zX_cal {A : Nat → Prop} {U : State} {H : Heap} {g : JFrame} {mk : MethodId} {a : Array Value} (h : zX A U H) : zX A (U.calling g mk a) H :=
  ⟨⟨vx_Zq.moved (u := U) (U := U.calling g mk a) (Vm.Alike.refl U.vm) h.1.1, vx_Zq.moved (u := U) (U := U.calling g mk a) (Vm.Alike.refl U.vm) h.1.2⟩,
    fun q hq => by obtain ⟨x, hx⟩ := h.2.1 q hq; exact ⟨x, vk_R.same (u := U) (U := U.calling g mk a) rfl hx⟩,
    fun w hw => va_Nw.same (zD_ot w hw) (u := U) (U := U.calling g mk a) rfl (h.2.2.1 w hw), fun q hq => va_Nc.moved (u := U) (U := U.calling g mk a) (Vm.Alike.refl U.vm) (h.2.2.2 q hq)⟩
theorem zX_warm {A : Nat → Prop} {s U : State} {H : Heap} (hW : s.WarmedH U.vm) (h : zX A s H) : zX A U H :=
  ⟨⟨vx_Zq.moved hW.alike h.1.1, vx_Zq.moved hW.alike h.1.2⟩, fun q hq => by obtain ⟨x, hx⟩ := h.2.1 q hq; exact ⟨x, vk_R.warm hW hx⟩, fun w hw => zw_warm (zD_ok w hw) hW (h.2.2.1 w hw), fun q hq => va_Nc.moved hW.alike (h.2.2.2 q hq)⟩
theorem zX_kept {A : Nat → Prop} {s : State} {H0 H : Heap} {locs : List Loc} (h : zX A s H0) (hS : va_S A H0 H locs) : zX A s H := ⟨⟨h.1.1.kept hS.2.1, h.1.2.kept hS.2.1⟩, h.2⟩
theorem zX_narrow {A B : Nat → Prop} {s : State} {H : Heap} (h : zX A s H) (hAB : ∀ q, B q → A q) : zX B s H := ⟨⟨h.1.1.narrow hAB, h.1.2.narrow hAB⟩, h.2⟩
theorem zX_N {A : Nat → Prop} {s : State} {H : Heap} (h : zX A s H) : zN s := h.2.2.1 _ (List.mem_of_getElem? (i := 0) rfl)
/-- a method's start with all that -/
abbrev zPcX (D : va_G) (ws : va_W) (tys : List (ClassId × FieldType)) (sz : Nat) : State → Prop := fun U => U.heap.size = sz ∧ va_P D vwCl ws U.heap ∧ va_K D vwCl tys U ∧ zX (zq sz) U U.heap
theorem zfbX {av : List Value} {D : va_G} {ws : va_W} {tys : List (ClassId × FieldType)} {sz : Nat} : FrameBlind (va_Pc av (zPcX D ws tys sz)) := fun a U g mk q => by
  obtain ⟨q0, q1, qP, qK, qE⟩ := q
  exact ⟨q0, q1, qP, va_K.moved (u := U) (U := U.calling g mk a) (Vm.Alike.refl U.vm) qK, zX_cal qE⟩
theorem zpreX {av : List Value} {D : va_G} {ws : va_W} {tys : List (ClassId × FieldType)} {s : State} {A : Nat → Prop} {H : Heap} {locs : List Loc} (hP : va_P D vwCl ws H) (hK : va_K D vwCl tys s) (hE : zX A s s.heap) (hS : va_S A s.heap H locs) (hA : ∀ q : Nat, s.heap.size ≤ q → A q) : ∀ U : State, U.heap = H → s.WarmedH U.vm → va_Pc av (zPcX D ws tys H.size) av.toArray U := fun U hU hW => ⟨rfl, by rw [hU], by rw [hU]; exact hP, va_K.moved hW.alike hK, by rw [hU]; exact zX_warm hW (zX_narrow (zX_kept hE hS) (fun q hq => hA q (Nat.le_trans hS.1 hq)))⟩
/-- what a method throws, and nothing else -/
abbrev zXC (E0 : String) (sz : Nat) : String → State → State → Prop := vx_X (fun _ : Unit => True) (fun E _ _ => E = E0) (zq sz)
abbrev zNoQ : Array Value → State → Outcome → State → Prop := fun _ _ _ _ => False
section ZC
variable {p : Program} {l : Launch} {e : Env} {R : Room} {s : State} {m : MethodId} {args : Array Value} {below : List Frame} {meth : Method} {c : Code} {H : Heap} {locs : List Loc} {cells slots : Nat} {Q : State → Prop}
theorem z_callx {pc : Nat} {ls : Array Slot} {st0 rest : List Value} {a : Array Value} {E : String} {A : Nat → Prop} (hr : vx_Run p l e R s m args below meth c H locs cells slots 1 6 (F0 m pc ls st0) rest (zNoQ a) (zXC E H.size) (zq H.size)) (hS : va_S A s.heap H locs) (hA : ∀ q : Nat, s.heap.size ≤ q → A q)
    (kx : ∀ (ce : Cell) (q9 : Addr) (H1 : Heap) (locs1 : List Loc), H.size ≤ H1.size → (∀ q : Nat, q < H.size → H1[q]? = H[q]?) → va_S A s.heap H1 locs1 → H1[q9]? = some ce → ce.vm = .none → s.vm.findClass E = some ce.cls → vx_W p l e R s m args below meth c H1 locs1 (cells + 1) (slots + 6) Q (F0 m pc ls rest) q9) : W p l e R s m args below meth c H locs cells slots Q (F0 m pc ls st0) := by
  intro T hT X
  rcases hr T hT X with ⟨v, st₀, t, T', L, h0, X', hL, e1, e2, hF, st⟩ | ⟨q, st₀, t, T', L, E1, ce, h0, X', hL, e1, e2, ⟨u, hp, hb, hF⟩, hce, hcv, hcl, st⟩
  · exact hF.elim
  · cases hb
    obtain ⟨k1, k2, k3⟩ := vx_keep (A0 := A) h0 e1 hS (fun q h1 h2 => absurd h2 (Nat.not_le.mpr h1)) (fun q h => hA q (Nat.le_trans hS.1 h)) hL hF
    obtain ⟨t2, a1, b1⟩ := kx ce q T'.heap (locs ++ L) k1 (fun q h => k2 q h (Nat.not_le.mpr h)) k3 (by rw [e1]; exact hce) hcv hcl T' rfl X'
    exact ⟨t2, st.trans a1, b1⟩
theorem z_out {pc : Nat} {ls : Array Slot} {rest : List Value} {E : String} {ce : Cell} {q : Addr} (hnt : ∀ x ∈ c.exceptionTable.toList, False) (hlocks : meth.locks = false) (hcell : H[q]? = some ce) (hv : ce.vm = .none) (hcl : s.vm.findClass E = some ce.cls) (hS : va_S (zq s.heap.size) s.heap H locs) (hc : cells ≤ 1) (hs : slots ≤ 6) :
    vx_W p l e R s m args below meth c H locs cells slots (vx_MQ below zNoQ (zXC E s.heap.size) args s 1 6 (zq s.heap.size)) (F0 m pc ls rest) q :=
  vx_out (fun x hx => (hnt x hx).elim) hlocks hcell hv hcl (fun t ht _ => ⟨(), trivial, rfl, hS.F ht⟩) hS.2.2 hc hs
theorem z_hx {E : String} (hS : va_S (zq s.heap.size) s.heap H locs) : ∀ t : State, s.vm.Alike t.vm → H.size ≤ t.heap.size → (∀ q : Nat, q < H.size → t.heap[q]? = H[q]?) → zXC E s.heap.size E s t := fun t _ hz hq => ⟨(), trivial, rfl, Nat.le_trans hS.1 hz, fun q h1 h2 => by rw [hq q (Nat.lt_of_lt_of_le h1 hS.1)]; exact hS.2.1 q h1 h2⟩
end ZC
theorem zr_keep2 {D : va_G} {cl : List vw_C} {ws : va_W} {H H1 : Heap} (hP : va_P D cl ws H) (hk : ∀ q : Nat, q < H.size → H1[q]? = H[q]?) : va_P D cl ws H1 := hP.kept (fun k x hx => hk x.1 ((hP k x hx).lt))
theorem zg_of {s : State} {args : Array Value} {L : List Cond} (h1 : ∀ w ∈ L.filter goodWord, w.before args s = true) (h2 : ∀ w ∈ L.filter (fun w => !goodWord w), w ∈ zD) (h : ∀ w ∈ zD, va_Nw w s) : ∀ w ∈ L, w.before args s = true := vx_hat h1 h2 (fun w hw => va_Nw.use (zD_ot w hw) (h w hw))
theorem zg_IAE : ∀ w ∈ (vx_atS RX6 41 "java/lang/IllegalArgumentException" ["java/lang/RuntimeException", "java/lang/Exception"]).filter (fun w => !goodWord w), w ∈ zD := by decide +kernel
theorem zg_UOE : ∀ w ∈ (vx_atS RX6 60 "java/lang/UnsupportedOperationException" ["java/lang/RuntimeException", "java/lang/Exception"]).filter (fun w => !goodWord w), w ∈ zD := by decide +kernel
theorem zg_IOB : ∀ w ∈ (vx_atS RX6 275 "java/lang/IndexOutOfBoundsException" ["java/lang/RuntimeException", "java/lang/Exception"]).filter (fun w => !goodWord w), w ∈ zD := by decide +kernel
theorem zg_NSE : ∀ w ∈ (zNat RX6 105).filter (fun w => !goodWord w), w ∈ zD := by decide +kernel
theorem zo_IAE : ∀ w ∈ Cond.classLink RX6 37 "java/lang/IllegalArgumentException" :: Cond.initialized "java/lang/IllegalArgumentException" :: vx_atS RX6 41 "java/lang/IllegalArgumentException" ["java/lang/RuntimeException", "java/lang/Exception"], vx_ot w = true := by decide +kernel
theorem zo_UOE : ∀ w ∈ Cond.classLink RX6 56 "java/lang/UnsupportedOperationException" :: Cond.initialized "java/lang/UnsupportedOperationException" :: vx_atS RX6 60 "java/lang/UnsupportedOperationException" ["java/lang/RuntimeException", "java/lang/Exception"], vx_ot w = true := by decide +kernel
theorem zo_IOB : ∀ w ∈ Cond.classLink RX6 271 "java/lang/IndexOutOfBoundsException" :: Cond.initialized "java/lang/IndexOutOfBoundsException" :: vx_atS RX6 275 "java/lang/IndexOutOfBoundsException" ["java/lang/RuntimeException", "java/lang/Exception"], vx_ot w = true := by decide +kernel
theorem zo_NSE : ∀ w ∈ Cond.classLink RX6 101 "java/util/NoSuchElementException" :: Cond.initialized "java/util/NoSuchElementException" :: zNat RX6 105, vx_ot w = true := by decide +kernel
