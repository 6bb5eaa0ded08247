/-! ===== new cells, returns, contracts, calls ===== -/
section TKN
variable {G : tkG} {C : tkC} {d mc ms pc pc' : Nat} {ls : List (Option tkV)} {st : List tkV} {Q : Option tkV → tkH → Prop}
variable {n : Nat} {T : Nat → Nat × Nat} {I : Nat → Nat → Int32} {L : Nat → Nat → Int64} {P : Nat → Nat → Option Nat}
theorem tk_dflt (B : Nat) (ty : FieldType) (h : ty = .int ∨ ty = .long ∨ ty = .boolean ∨ tkisr ty = true) : defaultValue ty = tkfv B ty 0 0 none := by
  rcases h with rfl | rfl | rfl | h
  · rfl
  · rfl
  · rfl
  · rw [tkfv_r h]
    cases ty <;> first | (cases h; done) | rfl
def tkall (c N : Nat) : Bool := (List.range N).all fun k => decide (tkfty c k = .int ∨ tkfty c k = .long ∨ tkfty c k = .boolean) || tkisr (tkfty c k)
/-- what 'new' needs of the tables -/
def tkNw (own : String) (idx c N : Nat) : Prop := ∃ r : vw_C, vwCl[c]? = some r ∧ r.2.2 = N ∧ Cond.classLink own idx r.1 ∈ tk_tbl ∧ Cond.instantiable r.1 N ∈ tk_tbl ∧ Cond.initialized r.1 ∈ tk_tbl ∧ tkall c N = true
theorem tk_new {idx c N : Nat} (hd : tkD C pc (.new idx) 3 pc') (hf : tkNw C.1.cls idx c N) (kk : tkX G C d mc ms pc' ls (vR n :: st) (n + 1, va_up T n (c + 1, N), va_up I n (fun _ => 0), va_up L n (fun _ => 0), va_up P n (fun _ => none)) Q) : tkX G C d (mc + 1) (ms + N) pc ls st (n, T, I, L, P) Q := by
  obtain ⟨hd, rfl⟩ := hd
  obtain ⟨r, hc, rfl, hw1, hw2, hw3, hall⟩ := hf
  refine tkX_i ?_
  intro p l e R s m args below meth c0 H locs cells slots Z LS A LL Rp
  obtain ⟨E, hF, MC, MS, hB1, hB2, hB3, hB4, hB5⟩ := A
  obtain ⟨hc11, hin, hty, hnm, hdecl⟩ := tk_cls hc
  have hts := E.2.2.2.2.2.1
  have hKn := E.2.2.2.2.2.2.2.2.2.2.1.1.1 c _ hc
  refine W.newcK E.1 E.2.1 E.2.2.2.2.1 (hts _ hw1) (hts _ hw2) (hts _ hw3) rfl hd (by omega) (by omega) hKn.2.1 Rp.1 fun H1 kC hkC e1 z1 o1 => ?_
  refine tkX_e kk p l e R s m args below meth c0 H1 locs (cells + 1) (slots + r.2.2) Z LS ⟨E, hF.new Rp.1 z1 o1, MC, MS, by omega, by omega, hB3, hB4, hB5⟩ LL (Rp.new z1 o1 (Or.inl ⟨by show c + 1 < 20; omega, r, hc, ?_⟩))
  refine (u_born (tkfty c) hts hin hKn hkC e1 hty).to (fun k hk => tk_dflt _ _ ?_)
  have h1 := List.all_eq_true.mp hall k (List.mem_range.mpr hk)
  rw [Bool.or_eq_true, decide_eq_true_eq] at h1
  rcases h1 with (h1 | h1 | h1) | h1
  · exact Or.inl h1
  · exact Or.inr (Or.inl h1)
  · exact Or.inr (Or.inr (Or.inl h1))
  · exact Or.inr (Or.inr (Or.inr h1))
theorem tk_newaG {t len : Nat} {at0 : ArrayType} (hd : tkD C pc (.newarray at0) 2 pc') (hty : newarray.typeOf at0 = tkaty t) (h20 : 20 ≤ t) (h28 : t < 28) (hw : Cond.arrayClass (tkaty t) ∈ tk_tbl) (hnar : tkaty t = .int ∨ tkaty t = .long ∨ tkaty t = .boolean) (hlen : len ≤ 100000)
    (kk : tkX G C d mc ms pc' ls (vR n :: st) (n + 1, va_up T n (t, len), va_up I n (fun _ => 0), va_up L n (fun _ => 0), va_up P n (fun _ => none)) Q) : tkX G C d (mc + 1) (ms + len) pc ls (vI (nI len) :: st) (n, T, I, L, P) Q := by
  obtain ⟨hd, rfl⟩ := hd
  refine tkX_i ?_
  intro p l e R s m args below meth c0 H locs cells slots Z LS A LL Rp
  obtain ⟨E, hF, MC, MS, hB1, hB2, hB3, hB4, hB5⟩ := A
  have hts := E.2.2.2.2.2.1
  have hRA := tk_tys E.2.2.2.2.2.2.2.2.2.2.1 h20 h28
  have hcb : componentBytes (newarray.typeOf at0) ≤ 8 := by rw [hty]; rcases hnar with h | h | h <;> rw [h] <;> decide
  refine va_newaK (N := len) E.1 E.2.1 (by rw [hty]; exact hts _ hw) rfl hd rfl (nI_pos (by omega)) (nI_clamp (by omega)) (Nat.le_trans (Nat.mul_le_mul_left _ hcb) (by omega)) (by omega) (by omega) Rp.1 fun H1 cA e1 z1 o1 hAr hNm => ?_
  have hcA : cA = G.2.2.2.1 t := by
    rw [hty] at hNm
    have h2 := hRA.2
    rcases hnar with h | h | h <;> rw [h] at h2 hNm <;> exact Option.some.inj (hNm.symm.trans h2)
  subst hcA
  refine tkX_e kk p l e R s m args below meth c0 H1 locs (cells + 1) (slots + len) Z LS ⟨E, hF.new Rp.1 z1 o1, MC, MS, by omega, by omega, hB3, hB4, hB5⟩ LL (Rp.new z1 o1 (Or.inr ⟨h20, h28, ?_⟩))
  rw [e1, hty, tk_dflt G.1 (tkaty t) (by rcases hnar with h | h | h <;> rw [h] <;> simp)]
theorem tk_anew {idx t len : Nat} {D : String} (hd : tkD C pc (.anewarray idx) 3 pc') (h23 : 23 ≤ t) (h28 : t < 28) (hD : tkaty t = .object D) (hw1 : Cond.classLink C.1.cls idx D ∈ tk_tbl) (hw2 : Cond.arrayOver (.object D) ∈ tkNst) (hlen : len ≤ 100000)
    (kk : tkX G C d mc ms pc' ls (vR n :: st) (n + 1, va_up T n (t, len), va_up I n (fun _ => 0), va_up L n (fun _ => 0), va_up P n (fun _ => none)) Q) : tkX G C d (mc + 1) (ms + len) pc ls (vI (nI len) :: st) (n, T, I, L, P) Q := by
  obtain ⟨hd, rfl⟩ := hd
  refine tkX_i ?_
  intro p l e R s m args below meth c0 H locs cells slots Z LS A LL Rp
  obtain ⟨E, hF, MC, MS, hB1, hB2, hB3, hB4, hB5⟩ := A
  have hts := E.2.2.2.2.2.1
  have hRA := (tk_tys E.2.2.2.2.2.2.2.2.2.2.1 (by omega) h28).2
  rw [hD] at hRA
  obtain ⟨kA0, comp0, -, -, -, hfa⟩ := hRA
  have hcl : (nI len).toNatClampNeg = len := nI_clamp (by omega)
  refine W.anew E.1 E.2.1 E.2.2.2.2.1 (hts _ hw1) (va_AO.use (E.2.2.2.2.2.2.2.2.2.2.1.2 _ hw2)) rfl hd rfl (nI_pos (by omega)) (by rw [hcl]; omega) (by omega) (by rw [hcl]; omega) fun cA kA comp h1 h2 h3 h4 => ?_
  have hcA : cA = G.2.2.2.1 t := Option.some.inj (h1.symm.trans hfa)
  subst hcA
  have hsz : (H : Heap).size = G.1 + n := Rp.1
  rw [hcl]
  have z1 : (H.push { cls := G.2.2.2.1 t, slots := Array.replicate len .null, vm := .none } : Heap).size = G.1 + n + 1 := by rw [Array.size_push, hsz]
  have o1 : ∀ q : Nat, q < G.1 + n → (H.push { cls := G.2.2.2.1 t, slots := Array.replicate len .null, vm := .none } : Heap)[q]? = H[q]? := fun q hq => by rw [Array.getElem?_push, if_neg (by rw [hsz]; omega)]
  rw [hsz]
  refine tkX_e kk p l e R s m args below meth c0 _ locs (cells + 1) (slots + len) Z LS ⟨E, hF.new Rp.1 z1 o1, MC, MS, by omega, by omega, hB3, hB4, hB5⟩ LL (Rp.new z1 o1 (Or.inr ⟨by show 20 ≤ t; omega, h28, ?_⟩))
  rw [← hsz, Array.getElem?_push_size]
  refine congrArg some ?_
  have hir : tkisr (tkaty t) = true := by rw [hD]; rfl
  rw [show (fun j => tkfv G.1 (tkaty (t, len).1) ((fun _ => (0 : Int32)) j) ((fun _ => (0 : Int64)) j) ((fun _ => (none : Option Nat)) j)) = (fun _ : Nat => Value.null) from funext fun j => tkfv_r hir _ _ _]
  show _ = ({ cls := G.2.2.2.1 t, slots := Array.ofFn (n := len) fun _ => Value.null, vm := .none } : Cell)
  congr 1
  apply Array.ext
  · simp
  · intro j h1 h2
    simp
/-- returns -/
theorem tk_return {h : tkH} (hd : tkD C pc .return_ 1 pc') (hn : C.2.2.2 = none) (hq : Q none h) : tkX G C d mc ms pc ls [] h Q := by
  refine tkX_i ?_
  intro p l e R s m args below meth c0 H locs cells slots Z LS A LL Rp
  obtain ⟨E, hF, MC, MS, hB1, hB2, hB3, hB4, hB5⟩ := A
  exact hB5 none h H locs cells slots LS pc hd.1 hn hq Rp hF (by omega) (by omega)
theorem tk_ireturnG {h : tkH} {x : Int32} {ty : FieldType} (hd : tkD C pc .ireturn 1 pc') (hn : C.2.2.2 = some ty) (hx : narrow ty (.int x) = .int x) (hq : Q (some (vI x)) h) : tkX G C d mc ms pc ls [vI x] h Q := by
  refine tkX_i ?_
  intro p l e R s m args below meth c0 H locs cells slots Z LS A LL Rp
  obtain ⟨E, hF, MC, MS, hB1, hB2, hB3, hB4, hB5⟩ := A
  exact hB5 (some (vI x)) h H locs cells slots LS pc hd.1 ⟨ty, hn, hx⟩ hq Rp hF (by omega) (by omega)
theorem tk_ireturn {h : tkH} {x : Int32} (hd : tkD C pc .ireturn 1 pc') (hn : C.2.2.2 = some .int) (hq : Q (some (vI x)) h) : tkX G C d mc ms pc ls [vI x] h Q := tk_ireturnG hd hn rfl hq
theorem tk_lreturn {h : tkH} {x : Int64} (hd : tkD C pc .lreturn 1 pc') (hn : C.2.2.2 = some .long) (hq : Q (some (vL x)) h) : tkX G C d mc ms pc ls [vL x] h Q := by
  refine tkX_i ?_
  intro p l e R s m args below meth c0 H locs cells slots Z LS A LL Rp
  obtain ⟨E, hF, MC, MS, hB1, hB2, hB3, hB4, hB5⟩ := A
  exact hB5 (some (vL x)) h H locs cells slots LS pc hd.1 hn hq Rp hF (by omega) (by omega)
theorem tk_areturn {h : tkH} {a : Nat} {ty : FieldType} (hd : tkD C pc .areturn 1 pc') (hn : C.2.2.2 = some ty) (hty : (∃ n, ty = .object n) ∨ ∃ t, ty = .array t) (hq : Q (some (vR a)) h) : tkX G C d mc ms pc ls [vR a] h Q := by
  refine tkX_i ?_
  intro p l e R s m args below meth c0 H locs cells slots Z LS A LL Rp
  obtain ⟨E, hF, MC, MS, hB1, hB2, hB3, hB4, hB5⟩ := A
  exact hB5 (some (vR a)) h H locs cells slots LS pc hd.1 ⟨ty, hn, hty⟩ hq Rp hF (by omega) (by omega)
/-- truth as an int -/
def tkb (b : Bool) : Int32 := if b then 1 else 0
theorem tkb_nar (b : Bool) : narrow .boolean (.int (tkb b)) = .int (tkb b) := by cases b <;> decide +kernel
theorem tkb_1 : tkb true = 1 := rfl
theorem tkb_0 : tkb false = 0 := rfl
theorem tkb_eq0 (b : Bool) : tkb b = 0 ↔ b = false := by cases b <;> decide +kernel
theorem tk_zreturn {h : tkH} {b : Bool} (hd : tkD C pc .ireturn 1 pc') (hn : C.2.2.2 = some .boolean) (hq : Q (some (vI (tkb b))) h) : tkX G C d mc ms pc ls [vI (tkb b)] h Q := tk_ireturnG hd hn (tkb_nar b) hq
end TKN
/-- a contract: from these arguments and this heap, with d frames, mc cells and ms slots, the method returns with Q -/
def tkPc (G : tkG) (as : List tkV) (h : tkH) : Array Value → State → Prop := fun v U => v = (as.map (tkv G)).toArray ∧ tkRep G h U.heap ∧ tkK G U
def tkQc (G : tkG) (Q : Option tkV → tkH → Prop) : Array Value → State → Outcome → State → Prop := fun _ s o t => ∃ (r : Option tkV) (h : tkH), o = .returned (r.map (tkv G)) ∧ Q r h ∧ tkRep G h t.heap ∧ s.heap.size ≤ t.heap.size ∧ ∀ q : Nat, q < G.1 → t.heap[q]? = s.heap[q]?
def tkRm (d mc ms : Nat) : Room := { frames := d, cells := mc, slots := ms, locals := 60 * d }
def tkM (G : tkG) (C : tkC) (d mc ms : Nat) (as : List tkV) (h : tkH) (Q : Option tkV → tkH → Prop) : Prop :=
  ∀ l : Launch, Met l C.1 (Cond.code C.1 C.2.1 C.2.2.1 C.2.2.2 :: tk_tbl) (tkRm d mc ms) (tkPc G as h) (tkQc G Q) mc ms (fun q => G.1 ≤ q)
/-- exact answers -/
def tkF (r : Option tkV) (h : tkH) : Option tkV → tkH → Prop := fun r' h' => r' = r ∧ h' = h
theorem tkPc_blind (G : tkG) (as : List tkV) (h : tkH) : FrameBlind (tkPc G as h) := fun _ _ _ _ q => ⟨q.1, q.2.1, q.2.2.calling⟩
def tkent : List tkV → List (Option tkV)
  | [] => []
  | .inl x :: t => some (.inl x) :: tkent t
  | .inr (.inl x) :: t => some (.inr (.inl x)) :: none :: tkent t
  | .inr (.inr x) :: t => some (.inr (.inr x)) :: tkent t
theorem tkent_len (G : tkG) (as : List tkV) : (lg_sl (as.map (tkv G))).length = (tkent as).length := by
  induction as with
  | nil => rfl
  | cons a t ih =>
    rcases a with x | x | x | x
    · simp [lg_sl, tkent, tkv, Value.category] at ih ⊢; exact ih
    · simp [lg_sl, tkent, tkv, Value.category] at ih ⊢; exact ih
    · cases x <;> (simp [lg_sl, tkent, tkv, tkr, Value.category] at ih ⊢; exact ih)
    · simp [lg_sl, tkent, tkv, Value.category] at ih ⊢; exact ih
theorem tkent_in (G : tkG) (as : List tkV) (i j : Nat) (k : Nat) (v : tkV) (h : (tkent as ++ List.replicate k none)[j]? = some (some v)) : (i + j, tkv G v) ∈ lv_args i (as.map (tkv G)) := by
  induction as generalizing i j with
  | nil =>
    exfalso
    simp only [tkent, List.nil_append] at h
    rw [List.getElem?_replicate] at h
    split at h <;> cases h
  | cons a t ih =>
    rcases a with x | x | x | x
    · cases j with
      | zero => simp only [tkent, List.cons_append, List.getElem?_cons_zero, Option.some.injEq] at h; subst h; exact List.mem_cons_self
      | succ j =>
        have := ih (i + 1) j (by simpa [tkent] using h)
        rw [show i + 1 + j = i + (j + 1) by omega] at this
        exact List.mem_cons_of_mem _ this
    · cases j with
      | zero => simp only [tkent, List.cons_append, List.getElem?_cons_zero, Option.some.injEq] at h; subst h; exact List.mem_cons_self
      | succ j =>
        cases j with
        | zero => simp [tkent] at h
        | succ j =>
          have := ih (i + 2) j (by simpa [tkent] using h)
          rw [show i + 2 + j = i + (j + 1 + 1) by omega] at this
          exact List.mem_cons_of_mem _ this
    · cases j with
      | zero => simp only [tkent, List.cons_append, List.getElem?_cons_zero, Option.some.injEq] at h; subst h; exact List.mem_cons_self
      | succ j =>
        have := ih (i + 1) j (by simpa [tkent] using h)
        rw [show i + 1 + j = i + (j + 1) by omega] at this
        cases x <;> exact List.mem_cons_of_mem _ this
    · cases j with
      | zero => simp only [tkent, List.cons_append, List.getElem?_cons_zero, Option.some.injEq] at h; subst h; exact List.mem_cons_self
      | succ j =>
        have := ih (i + 1) j (by simpa [tkent] using h)
        rw [show i + 1 + j = i + (j + 1) by omega] at this
        exact List.mem_cons_of_mem _ this
theorem tk_entry {G : tkG} {C : tkC} {as : List tkV} (hl : (tkent as).length ≤ C.2.2.1) : tkLS G C ((lg_sl (as.map (tkv G)) ++ List.replicate (C.2.2.1 - (lg_sl (as.map (tkv G))).length) Slot.unset).toArray) (tkent as ++ List.replicate (C.2.2.1 - (tkent as).length) none) := by
  have h0 := lv_entry (as.map (tkv G)) (n := C.2.2.1) (by rw [tkent_len]; exact hl)
  refine ⟨by rw [List.length_append, List.length_replicate]; omega, h0.1, h0.2.1, fun q hq => ?_⟩
  obtain ⟨j, v, hj, rfl⟩ := tkll_inv hq
  exact h0.2.2 _ (tkent_in G as 0 j _ v hj)
/-- a contract out of the walk from the method's entry -/
theorem tkM.of {G : tkG} {C : tkC} {d mc ms : Nat} {as : List tkV} {h : tkH} {Q : Option tkV → tkH → Prop} {ls : List (Option tkV)} (hy : plainName C.1.cls = true) (hlaw : C.1.cls ≠ "TownKnowsLaw") (hl : (tkent as).length ≤ C.2.2.1) (hls : tkent as ++ List.replicate (C.2.2.1 - (tkent as).length) none = ls) (k : tkX G C d mc ms 0 ls [] h Q) : tkM G C d mc ms as h Q := by
  subst hls
  intro l
  refine Met.ofW (cc := C.2.1) (maxL := C.2.2.1) (ret := C.2.2.2) hy rfl ?_
  intro p e s m args below meth c s₁ B hml hv
  obtain ⟨rfl, hRp, hK⟩ := hv
  have hts := atoms_spec (ws := Cond.code C.1 C.2.1 C.2.2.1 C.2.2.2 :: tk_tbl) B.pre
  have hown : s.vm.findClass C.1.cls = some m.cls := findClass_of_methodNamed B.named
  have hlocks := B.notSynchronized
  have hin : meth.name = C.1.name := (name_of_methodNamed B.named B.method).1
  rw [lg_entry_eq]
  have hsz : (s.heap : Heap).size = G.1 + h.1 := hRp.1
  refine tkX_e k p l e _ s m _ below meth c s.heap [] 0 0 _ _ ⟨⟨B.exec, B.bytes, hml, B.returns, hown, fun w hw => hts w (List.mem_cons_of_mem _ hw), hlocks, hin, Nat.le_refl _, Nat.le_refl _, hK, fun e => absurd e hlaw⟩, ⟨by rw [hsz]; exact Nat.le_add_right _ _, Nat.le_refl _, fun _ _ => rfl, fun _ h => by cases h⟩, mc, ms, by omega, by omega, Nat.le_refl _, Nat.le_refl _, ?_⟩ (tk_entry hl) hRp
  intro r h' H' locs' cells' slots' LS' pc hdec hrn hq hRp' hF' hc hs
  refine W.widen hc hs ?_
  have hfin : ∀ t : State, t.heap = H' → s.WarmedH t.vm → tkQc G Q (as.map (tkv G)).toArray s (.returned (r.map (tkv G))) t := fun t ht _ => ⟨r, h', rfl, hq, by rw [ht]; exact hRp', by rw [ht]; exact hF'.2.1, by rw [ht]; exact hF'.2.2.1⟩
  rcases r with _ | x | x | x | x
  · exact W.vret B.exec B.bytes (B.returns.trans hrn) hfin hF'.2.2.2 hdec
  · obtain ⟨ty, h1, h2⟩ := hrn
    exact W.zret B.exec B.bytes (B.returns.trans h1) h2 hfin hF'.2.2.2 hdec
  · exact W.lret B.exec B.bytes (B.returns.trans hrn) hfin hF'.2.2.2 hdec
  · obtain ⟨ty, h1, h2⟩ := hrn
    exact W.aret B.exec B.bytes (B.returns.trans h1) h2 (by cases x with
      | none => exact Or.inl rfl
      | some a => exact Or.inr ⟨_, rfl⟩) hfin hF'.2.2.2 hdec
  · obtain ⟨ty, h1, h2⟩ := hrn
    exact W.aret B.exec B.bytes (B.returns.trans h1) h2 (Or.inr ⟨_, rfl⟩) hfin hF'.2.2.2 hdec
/-- what a call needs of the tables -/
def tkLk (own : String) (idx : Nat) (C' : tkC) (k : Nat) : Prop := Cond.methodLink own idx C'.1 ∈ tk_tbl ∧ Cond.initialized C'.1.cls ∈ tk_tbl ∧ Cond.code C'.1 C'.2.1 C'.2.2.1 C'.2.2.2 ∈ tk_tbl ∧ (C'.1.cls ≠ "java/lang/invoke/MethodHandle" ∧ C'.1.cls ≠ "java/lang/invoke/VarHandle" ∧ (parseMethodDescriptor C'.1.desc).map (fun d => d.parameters.length) = some k) ∧ C'.2.2.1 ≤ 40
def tkLn (own : String) (idx : Nat) (C' : tkC) (k : Nat) : Prop := (∃ host, Cond.methodLinkNest own idx C'.1 host ∈ tkNst) ∧ Cond.initialized C'.1.cls ∈ tk_tbl ∧ Cond.code C'.1 C'.2.1 C'.2.2.1 C'.2.2.2 ∈ tk_tbl ∧ (C'.1.cls ≠ "java/lang/invoke/MethodHandle" ∧ C'.1.cls ≠ "java/lang/invoke/VarHandle" ∧ (parseMethodDescriptor C'.1.desc).map (fun d => d.parameters.length) = some k) ∧ C'.2.2.1 ≤ 40
theorem tk_good : GoodIn tk_tbl tk_tbl := fun w h => ⟨h, good_of_word (List.mem_filter.mp h).2⟩
theorem tk_goodC {C' : tkC} (h : Cond.code C'.1 C'.2.1 C'.2.2.1 C'.2.2.2 ∈ tk_tbl) : GoodIn tk_tbl (Cond.code C'.1 C'.2.1 C'.2.2.1 C'.2.2.2 :: tk_tbl) := fun w hw => by
  rcases List.mem_cons.mp hw with rfl | hw
  · exact tk_good _ h
  · exact tk_good _ hw
def tkcat (v : tkV) : Nat := match v with
  | .inr (.inl _) => 2
  | _ => 1
theorem tkcat_eq (G : tkG) (v : tkV) : (tkv G v).category = tkcat v := by
  rcases v with x | x | x | x
  · rfl
  · rfl
  · cases x <;> rfl
  · rfl
theorem tkcat_sum (G : tkG) (st : List tkV) : ((st.map (tkv G)).map fun v => v.category).sum = (st.map tkcat).sum := by
  rw [List.map_map]
  congr 1
  exact List.map_congr_left fun v _ => tkcat_eq G v
section TKC
variable {G : tkG} {C C' : tkC} {d d' mc ms mc' ms' mr sr pc pc' idx k : Nat} {ls : List (Option tkV)} {as rest : List tkV} {h : tkH} {Q Q' : Option tkV → tkH → Prop}
/-- the end of every call -/
theorem tk_after {p : Program} {l : Launch} {e : Env} {R : Room} {s : State} {m : MethodId} {args : Array Value} {below : List Frame} {meth : Method} {c : Code} {H : Heap} {locs : List Loc} {cells slots : Nat} {Z : State → Prop} {LS : Array Slot} {a : Array Value} {MC MS : Nat} {st0 : List Value}
    (E : tkE G C d p R s m args meth c) (hF : tkFr G s H locs) (hMC : cells + (mc' + mr) ≤ MC) (hMS : slots + (ms' + sr) ≤ MS) (hB3 : MC ≤ R.cells) (hB4 : MS ≤ R.slots) (hB5 : tkRet G C Q p l e R s m args below meth c Z MC MS) (LL : tkLS G C LS ls)
    (kk : ∀ r h1, Q' r h1 → tkX G C d mr sr (pc + 3) ls (r.toList ++ rest) h1 Q)
    (run : CallRun p l e R s m args below meth c H locs cells slots mc' ms' (F0 m pc LS st0) (rest.map (tkv G)) (tkQc G Q' a) (fun q => G.1 ≤ q)) : W p l e R s m args below meth c H locs cells slots Z (F0 m pc LS st0) := by
  intro T hT X
  obtain ⟨v, st₀, t, T', L', h0, X', hL, e1, ⟨r, h1, hr, hq, hRp, hsz, hfr⟩, go⟩ := run T hT X
  have hv : v = r.map (tkv G) := Outcome.returned.inj hr
  subst hv
  have hstk : (r.map (tkv G)).toList ++ rest.map (tkv G) = (r.toList ++ rest).map (tkv G) := by cases r <;> rfl
  rw [h0] at hsz hfr
  obtain ⟨t2, a1, b1⟩ := tkX_e (kk r h1 hq) p l e R s m args below meth c t.heap (locs ++ L') (cells + mc') (slots + ms') Z LS ⟨E, ⟨hF.1, Nat.le_trans hF.2.1 hsz, fun q hq => (hfr q hq).trans (hF.2.2.1 q hq), fun l hl => by
    rcases List.mem_append.mp hl with h | h
    · exact hF.2.2.2 l h
    · exact hL l h⟩, MC, MS, by omega, by omega, hB3, hB4, hB5⟩ LL hRp T' e1 X'
  refine ⟨t2, go t2 ?_, b1⟩
  rw [hstk]
  exact a1
theorem tk_cb {R : Room} {s : State} {args : Array Value} {p : Program} {m : MethodId} {meth : Method} {c : Code} (E : tkE G C d p R s m args meth c) (hl : tkLk C.1.cls idx C' k) (hdd : d' + 1 ≤ d) : CallB R s args C.1.cls idx C'.1 C'.2.1 C'.2.2.1 C'.2.2.2 (Cond.code C'.1 C'.2.1 C'.2.2.1 C'.2.2.2 :: tk_tbl) (tkRm d' mc' ms') mc' ms' k := by
  obtain ⟨h1, h2, h3, h4, h5⟩ := hl
  have hts := E.2.2.2.2.2.1
  refine callB_of k hts (tk_goodC h3) rfl rfl rfl (hts _ h2) (hts _ h1) h4 ⟨Nat.le_trans hdd E.2.2.2.2.2.2.2.2.1, Nat.le_trans ?_ E.2.2.2.2.2.2.2.2.2.1⟩
  show 8 + (C'.2.2.1 + 11) + 60 * d' ≤ 60 * d
  omega
theorem tk_cn {R : Room} {s : State} {args : Array Value} {p : Program} {m : MethodId} {meth : Method} {c : Code} (E : tkE G C d p R s m args meth c) (hl : tkLn C.1.cls idx C' k) (hdd : d' + 1 ≤ d) : ∃ host, va_CN R s args C.1.cls idx C'.1 host C'.2.1 C'.2.2.1 C'.2.2.2 (Cond.code C'.1 C'.2.1 C'.2.2.1 C'.2.2.2 :: tk_tbl) (tkRm d' mc' ms') mc' ms' k := by
  obtain ⟨⟨host, h1⟩, h2, h3, h4, h5⟩ := hl
  have hts := E.2.2.2.2.2.1
  refine ⟨host, va_cnB k hts (tk_goodC h3) rfl rfl rfl (E.2.2.2.2.2.2.2.2.2.2.1.2 _ h1) (hts _ h2) h4 ⟨Nat.le_trans hdd E.2.2.2.2.2.2.2.2.1, Nat.le_trans ?_ E.2.2.2.2.2.2.2.2.2.1⟩⟩
  show 8 + (C'.2.2.1 + 11) + 60 * d' ≤ 60 * d
  omega
theorem tk_runC {p : Program} {l : Launch} {e : Env} {R : Room} {s : State} {m : MethodId} {args : Array Value} {below : List Frame} {meth : Method} {c : Code} {H : Heap} {locs : List Loc} {cells slots mc ms : Nat} {g : JFrame} {rest : List Value} {Qa : State → Outcome → State → Prop} {free : Addr → Prop} (h : va_Run p l e R s m args below meth c H locs cells slots mc ms g rest Qa free) : CallRun p l e R s m args below meth c H locs cells slots mc ms g rest Qa free := by
  intro T hT X
  obtain ⟨v, st₀, t, T', L, h0, X', hL, e1, e2, hq, st⟩ := h T hT X
  exact ⟨v, st₀, t, T', L, h0, X', hL, e1, hq, st⟩
theorem tk_pcS {s : State} {H : Heap} (hK : tkK G s) (Rp : tkRep G h H) : PreS s H (tkPc G as h) (as.map (tkv G)) := ⟨tkPc_blind G as h, fun U hU hW => ⟨rfl, by rw [hU]; exact Rp, hK.warm hW⟩⟩
theorem tk_callS (hd : tkD C pc (.invokestatic idx) 3 pc') (hl : tkLk C.1.cls idx C' k) (hs : Cond.static C'.1 ∈ tk_tbl) (hM : tkM G C' d' mc' ms' as h Q') (hk : as.length = k) (hr : (rest.map tkcat).sum ≤ 8) (hdd : d' + 1 ≤ d)
    (kk : ∀ r h1, Q' r h1 → tkX G C d mr sr pc' ls (r.toList ++ rest) h1 Q) : tkX G C d (mc' + mr) (ms' + sr) pc ls (as.reverse ++ rest) h Q := by
  obtain ⟨hd, rfl⟩ := hd
  refine tkX_i ?_
  intro p l e R s m args below meth c0 H locs cells slots Z LS A LL Rp
  obtain ⟨E, hF, MC, MS, hB1, hB2, hB3, hB4, hB5⟩ := A
  refine tk_after (a := (as.map (tkv G)).toArray) E hF hB1 hB2 hB3 hB4 hB5 LL kk ?_
  exact W.runS (cc := C.2.1) (nL := C.2.2.1) (Ts := tk_tbl) ⟨E.1, E.2.1, E.2.2.1, E.2.2.2.2.1, E.2.2.2.2.2.1⟩ (hM l) ⟨tk_cb E hl hdd, E.2.2.2.2.2.1 _ hs⟩ (tk_pcS E.2.2.2.2.2.2.2.2.2.2.1 Rp) rfl (by rw [List.length_map]; exact hk) LL.2.1 (by show List.map (tkv G) _ = _; rw [List.map_append, List.map_reverse]) (lv_room (by rw [tkcat_sum]; exact hr)) hd ⟨by omega, by omega⟩
theorem tk_callSN (hd : tkD C pc (.invokestatic idx) 3 pc') (hl : tkLn C.1.cls idx C' k) (hs : Cond.static C'.1 ∈ tk_tbl) (hM : tkM G C' d' mc' ms' as h Q') (hk : as.length = k) (hr : (rest.map tkcat).sum ≤ 8) (hdd : d' + 1 ≤ d)
    (kk : ∀ r h1, Q' r h1 → tkX G C d mr sr pc' ls (r.toList ++ rest) h1 Q) : tkX G C d (mc' + mr) (ms' + sr) pc ls (as.reverse ++ rest) h Q := by
  obtain ⟨hd, rfl⟩ := hd
  refine tkX_i ?_
  intro p l e R s m args below meth c0 H locs cells slots Z LS A LL Rp
  obtain ⟨E, hF, MC, MS, hB1, hB2, hB3, hB4, hB5⟩ := A
  obtain ⟨host, hcn⟩ := tk_cn (mc' := mc') (ms' := ms') E hl hdd
  refine tk_after (a := (as.map (tkv G)).toArray) E hF hB1 hB2 hB3 hB4 hB5 LL kk (tk_runC ?_)
  exact va_runSN (cc := C.2.1) (nL := C.2.2.1) (Ts := tk_tbl) ⟨E.1, E.2.1, E.2.2.1, E.2.2.2.2.1, E.2.2.2.2.2.1⟩ (hM l) ⟨hcn, E.2.2.2.2.2.1 _ hs, trivial⟩ (tk_pcS E.2.2.2.2.2.2.2.2.2.2.1 Rp) rfl (by rw [List.length_map]; exact hk) LL.2.1 (by show List.map (tkv G) _ = _; rw [List.map_append, List.map_reverse]) (lv_room (by rw [tkcat_sum]; exact hr)) hd ⟨by omega, by omega⟩
theorem tk_callI {a : Nat} (hd : tkD C pc (.invokespecial idx) 3 pc') (hl : tkLk C.1.cls idx C' k) (hs : Cond.instanceMethod C'.1 ∈ tk_tbl) (hi : C'.1.name = "<init>" ∧ C'.2.2.2 = none) (hM : tkM G C' d' mc' ms' (vR a :: as) h Q') (hk : as.length = k) (hr : (rest.map tkcat).sum ≤ 8) (hdd : d' + 1 ≤ d)
    (kk : ∀ r h1, Q' r h1 → tkX G C d mr sr pc' ls (r.toList ++ rest) h1 Q) : tkX G C d (mc' + mr) (ms' + sr) pc ls (as.reverse ++ vR a :: rest) h Q := by
  obtain ⟨hd, rfl⟩ := hd
  refine tkX_i ?_
  intro p l e R s m args below meth c0 H locs cells slots Z LS A LL Rp
  obtain ⟨E, hF, MC, MS, hB1, hB2, hB3, hB4, hB5⟩ := A
  have hcb := tk_cb (mc' := mc') (ms' := ms') E hl hdd
  have hM := hM l
  rw [hi.2] at hcb hM
  refine tk_after (a := (Value.ref (G.1 + a) :: as.map (tkv G)).toArray) E hF hB1 hB2 hB3 hB4 hB5 LL kk ?_
  exact W.runI (cc := C.2.1) (nL := C.2.2.1) (Ts := tk_tbl) (As := as.map (tkv G)) (b := G.1 + a) ⟨E.1, E.2.1, E.2.2.1, E.2.2.2.2.1, E.2.2.2.2.2.1⟩ hM ⟨hcb, hi.1, E.2.2.2.2.2.1 _ hs⟩ (tk_pcS (as := vR a :: as) E.2.2.2.2.2.2.2.2.2.2.1 Rp) rfl (by rw [List.length_map]; exact hk) LL.2.1 (by show List.map (tkv G) _ = _; rw [List.map_append, List.map_reverse]; rfl) (lv_room (by rw [tkcat_sum]; exact hr)) hd ⟨by omega, by omega⟩
theorem tk_callIN {a : Nat} (hd : tkD C pc (.invokespecial idx) 3 pc') (hl : tkLn C.1.cls idx C' k) (hs : Cond.instanceMethod C'.1 ∈ tk_tbl) (hi : C'.1.name = "<init>" ∧ C'.2.2.2 = none) (hM : tkM G C' d' mc' ms' (vR a :: as) h Q') (hk : as.length = k) (hr : (rest.map tkcat).sum ≤ 8) (hdd : d' + 1 ≤ d)
    (kk : ∀ r h1, Q' r h1 → tkX G C d mr sr pc' ls (r.toList ++ rest) h1 Q) : tkX G C d (mc' + mr) (ms' + sr) pc ls (as.reverse ++ vR a :: rest) h Q := by
  obtain ⟨hd, rfl⟩ := hd
  refine tkX_i ?_
  intro p l e R s m args below meth c0 H locs cells slots Z LS A LL Rp
  obtain ⟨E, hF, MC, MS, hB1, hB2, hB3, hB4, hB5⟩ := A
  obtain ⟨host, hcn⟩ := tk_cn (mc' := mc') (ms' := ms') E hl hdd
  have hM := hM l
  rw [hi.2] at hcn hM
  refine tk_after (a := (Value.ref (G.1 + a) :: as.map (tkv G)).toArray) E hF hB1 hB2 hB3 hB4 hB5 LL kk (tk_runC ?_)
  exact va_runIN (cc := C.2.1) (nL := C.2.2.1) (Ts := tk_tbl) (As := as.map (tkv G)) (b := G.1 + a) ⟨E.1, E.2.1, E.2.2.1, E.2.2.2.2.1, E.2.2.2.2.2.1⟩ hM ⟨hcn, hi.1, E.2.2.2.2.2.1 _ hs⟩ (tk_pcS (as := vR a :: as) E.2.2.2.2.2.2.2.2.2.2.1 Rp) rfl (by rw [List.length_map]; exact hk) LL.2.1 (by show List.map (tkv G) _ = _; rw [List.map_append, List.map_reverse]; rfl) (lv_room (by rw [tkcat_sum]; exact hr)) hd ⟨by omega, by omega⟩
theorem tk_callV {a c : Nat} (hd : tkD C pc (.invokevirtual idx) 3 pc') (hl : tkLk C.1.cls idx C' k) (hs : Cond.instanceMethod C'.1 ∈ tk_tbl ∧ Cond.selects C'.1.cls C'.1 C'.1 ∈ tk_tbl) (hc : ∃ r : vw_C, vwCl[c]? = some r ∧ r.1 = C'.1.cls) (ht : (h.2.1 a).1 = c + 1) (hM : tkM G C' d' mc' ms' (vR a :: as) h Q') (hk : as.length = k) (hr : (rest.map tkcat).sum ≤ 8) (hdd : d' + 1 ≤ d)
    (kk : ∀ r h1, Q' r h1 → tkX G C d mr sr pc' ls (r.toList ++ rest) h1 Q) : tkX G C d (mc' + mr) (ms' + sr) pc ls (as.reverse ++ vR a :: rest) h Q := by
  obtain ⟨hd, rfl⟩ := hd
  refine tkX_i ?_
  intro p l e R s m args below meth c0 H locs cells slots Z LS A LL Rp
  obtain ⟨E, hF, MC, MS, hB1, hB2, hB3, hB4, hB5⟩ := A
  refine tk_after (a := (Value.ref (G.1 + a) :: as.map (tkv G)).toArray) E hF hB1 hB2 hB3 hB4 hB5 LL kk ?_
  obtain ⟨r, hr1, hr2⟩ := hc
  have hc11 := (tk_cls hr1).1
  have hrecv : ∃ cellB : Cell, H[G.1 + a]? = some cellB ∧ cellB.vm.isStatics = false ∧ s.vm.findClass C'.1.cls = some cellB.cls := by
    obtain ⟨-, hat⟩ := Rp.2 a (by omega)
    rcases hat with ⟨-, r', hr', cell, q1, q2, q3, q4⟩ | ⟨h20, -⟩
    · rw [ht, Nat.add_sub_cancel] at hr' q2
      refine ⟨cell, q1, by rw [q3]; rfl, ?_⟩
      rw [q2, ← hr2]
      exact (E.2.2.2.2.2.2.2.2.2.2.1.1.1 c r hr1).2.1
    · exfalso; omega
  have hp := tk_pcS (as := vR a :: as) E.2.2.2.2.2.2.2.2.2.2.1 Rp
  exact W.runV (cc := C.2.1) (nL := C.2.2.1) (Ts := tk_tbl) (As := as.map (tkv G)) (b := G.1 + a) (C := C'.1.cls) ⟨E.1, E.2.1, E.2.2.1, E.2.2.2.2.1, E.2.2.2.2.2.1⟩ (hM l) ⟨tk_cb E hl hdd, E.2.2.2.2.2.1 _ hs.1, E.2.2.2.2.2.1 _ hs.2⟩ ⟨hp.1, hrecv, hp.2⟩ rfl (by rw [List.length_map]; exact hk) LL.2.1 (by show List.map (tkv G) _ = _; rw [List.map_append, List.map_reverse]; rfl) (lv_room (by rw [tkcat_sum]; exact hr)) hd ⟨by omega, by omega⟩
theorem tk_objInit {a : Nat} {rest : List tkV} (hd : tkD C pc (.invokespecial idx) 3 pc') (hl : Cond.methodLink C.1.cls idx objectInit ∈ tk_tbl) (hr : (rest.map tkcat).sum ≤ 8) (hdd : 1 ≤ d) (kk : tkX G C d mc ms pc' ls rest h Q) : tkX G C d mc ms pc ls (vR a :: rest) h Q := by
  obtain ⟨hd, rfl⟩ := hd
  refine tk_pure (fun {p l e R s m args below meth c H locs cells slots Z LS} E LL w => ?_) kk
  have hts := E.2.2.2.2.2.1
  refine W.objInit E.1 E.2.1 E.2.2.2.2.1 (hts _ hl) (hts _ tk_oi1) (hts _ tk_oi2) rfl (by rw [E.2.2.1]; exact LL.2.1) rfl hd (Nat.le_trans hdd E.2.2.2.2.2.2.2.2.1) ?_ w
  have h8 := tkcat_sum G rest
  have h9 : 60 * d ≤ R.locals := E.2.2.2.2.2.2.2.2.2.1
  show 2 * 0 + _ + 12 ≤ _
  omega
end TKC
