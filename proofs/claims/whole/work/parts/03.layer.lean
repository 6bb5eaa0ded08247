/-! ===== the layer: values, heaps and frames without the machine's own words ===== -/
abbrev tkV : Type := Int32 ⊕ Int64 ⊕ Option Nat ⊕ Unit
abbrev vI (x : Int32) : tkV := .inl x
abbrev vL (x : Int64) : tkV := .inr (.inl x)
abbrev vO (r : Option Nat) : tkV := .inr (.inr (.inl r))
abbrev vR (a : Nat) : tkV := .inr (.inr (.inl (some a)))
abbrev vS : tkV := .inr (.inr (.inr ()))
/-- where the cells begin; the script's cell; the classes' numbers and slots; the array classes; the script -/
abbrev tkG : Type := Nat × Nat × va_G × (Nat → ClassId) × Nat × (Nat → Int32)
/-- a method: its name, its bytes, its locals, what it answers -/
abbrev tkC : Type := MethodName × ByteArray × Nat × Option FieldType
/-- a heap: how many cells; of each its tag and length; its ints, longs, references -/
abbrev tkH : Type := Nat × (Nat → Nat × Nat) × (Nat → Nat → Int32) × (Nat → Nat → Int64) × (Nat → Nat → Option Nat)
def tkr (B : Nat) (r : Option Nat) : Value := match r with
  | none => .null
  | some a => .ref (B + a)
def tkv (G : tkG) (v : tkV) : Value := match v with
  | .inl x => .int x
  | .inr (.inl x) => .long x
  | .inr (.inr (.inl r)) => tkr G.1 r
  | .inr (.inr (.inr _)) => .ref G.2.1
def tkaty (t : Nat) : FieldType := match t with
  | 20 => .int
  | 21 => .long
  | 22 => .boolean
  | 23 => .object "TownKnows$Row"
  | 24 => .object "TownKnows$Pact"
  | 25 => .object "TownKnows$Picture"
  | 26 => .object "TownKnows$Town"
  | _ => .object "TownKnows$Sheet"
def tkfty (c k : Nat) : FieldType := match c with
  | 0 => tyX0 k
  | 1 => tyX1 k
  | 2 => tyX2 k
  | 3 => tyX3 k
  | 4 => tyX4 k
  | 5 => tyX5 k
  | 6 => tyX6 k
  | 7 => tyX8 k
  | 8 => tyX9 k
  | 9 => tyX10 k
  | _ => tyX11 k
def tkfv (B : Nat) (ty : FieldType) (i : Int32) (l : Int64) (r : Option Nat) : Value := match ty with
  | .int => .int i
  | .boolean => .int i
  | .long => .long l
  | _ => tkr B r
def tkat (G : tkG) (t : Nat × Nat) (fi : Nat → Int32) (fl : Nat → Int64) (fp : Nat → Option Nat) (q : Nat) (H : Heap) : Prop :=
  (t.1 < 20 ∧ ∃ r : vw_C, vwCl[t.1 - 1]? = some r ∧ t_OB q (G.2.2.1.1 (t.1 - 1)) r.2.2 (G.2.2.1.2 (t.1 - 1)) H (fun k => tkfv G.1 (tkfty (t.1 - 1) k) (fi k) (fl k) (fp k))) ∨
  (20 ≤ t.1 ∧ t.1 < 28 ∧ H[q]? = some (arrV (G.2.2.2.1 t.1) t.2 (fun j => tkfv G.1 (tkaty t.1) (fi j) (fl j) (fp j))))
def tkRep (G : tkG) (h : tkH) (H : Heap) : Prop := H.size = G.1 + h.1 ∧ ∀ a : Nat, (h.2.1 a).1 ≠ 0 → a < h.1 ∧ tkat G (h.2.1 a) (h.2.2.1 a) (h.2.2.2.1 a) (h.2.2.2.2 a) (G.1 + a) H
def tkTys (G : tkG) : List (ClassId × FieldType) := (List.range 8).map fun j => (G.2.2.2.1 (20 + j), tkaty (20 + j))
def tkK (G : tkG) (s : State) : Prop := va_K G.2.2.1 vwCl (tkTys G) s ∧ ∀ w ∈ tkNst, va_Nw w s
theorem tkNst_kind : ∀ w ∈ tkNst, (∃ a i x h, w = Cond.methodLinkNest a i x h) ∨ (∃ a b, w = Cond.castable a b) ∨ ∃ C, w = Cond.arrayOver (.object C) := by
  intro w hw
  simp only [tkNst, List.mem_cons, List.not_mem_nil, or_false] at hw
  rcases hw with rfl | rfl | rfl | rfl | rfl | rfl | rfl | rfl | rfl | rfl | rfl | rfl | rfl | rfl | rfl | rfl | rfl | rfl <;> first | exact Or.inl ⟨_, _, _, _, rfl⟩ | exact Or.inr (Or.inl ⟨_, _, rfl⟩) | exact Or.inr (Or.inr ⟨_, rfl⟩)
theorem tkK.warm {G : tkG} {s U : State} (hW : s.WarmedH U.vm) (h : tkK G s) : tkK G U := by
  refine ⟨va_K.moved hW.alike h.1, fun w hw => ?_⟩
  have h1 := h.2 w hw
  rcases tkNst_kind w hw with ⟨a, i, x, y, rfl⟩ | ⟨a, b, rfl⟩ | ⟨D, rfl⟩
  · exact va_Nw.warmM hW h1
  · exact va_Nw.warmC hW h1
  · exact va_AO.moved hW.alike h1
theorem tkK.calling {G : tkG} {U : State} {g : JFrame} {mk : MethodId} {a : Array Value} (h : tkK G U) : tkK G (U.calling g mk a) := by
  refine ⟨va_K.moved (u := U) (U := U.calling g mk a) (Vm.Alike.refl U.vm) h.1, fun w hw => ?_⟩
  have h1 := h.2 w hw
  rcases tkNst_kind w hw with ⟨_, i, x, y, rfl⟩ | ⟨_, b, rfl⟩ | ⟨D, rfl⟩
  · exact va_Nw.same rfl (rfl : U.vm = (U.calling g mk a).vm) h1
  · exact va_Nw.same rfl (rfl : U.vm = (U.calling g mk a).vm) h1
  · exact va_AO.moved (u := U) (U := U.calling g mk a) (Vm.Alike.refl U.vm) h1
def tkE (G : tkG) (C : tkC) (d : Nat) (p : Program) (R : Room) (s : State) (m : MethodId) (args : Array Value) (meth : Method) (c : Code) : Prop :=
  p.tables.exec = Jvm.exec ∧ c.code = C.2.1 ∧ c.maxLocals = C.2.2.1 ∧ meth.sig.returnType = C.2.2.2 ∧ s.vm.findClass C.1.cls = some m.cls ∧ (∀ w ∈ tk_tbl, w.before args s = true) ∧ meth.locks = false ∧ meth.name = C.1.name ∧ d ≤ R.frames ∧ 60 * d ≤ R.locals ∧ tkK G s ∧ (C.1.cls = "TownKnowsLaw" → va_X G.2.1 G.2.2.2.2.1 G.2.2.2.2.2 s s.heap ∧ G.2.1 < G.1)
def tkFr (G : tkG) (s : State) (H : Heap) (locs : List Loc) : Prop := G.1 ≤ s.heap.size ∧ s.heap.size ≤ H.size ∧ (∀ q : Nat, q < G.1 → H[q]? = s.heap[q]?) ∧ ∀ l ∈ locs, G.1 ≤ l.base
def tkll (G : tkG) : Nat → List (Option tkV) → List (Nat × Value)
  | _, [] => []
  | i, none :: t => tkll G (i + 1) t
  | i, some v :: t => (i, tkv G v) :: tkll G (i + 1) t
def tkLS (G : tkG) (C : tkC) (LS : Array Slot) (ls : List (Option tkV)) : Prop := ls.length = C.2.2.1 ∧ lv_has LS C.2.2.1 (tkll G 0 ls)
def tkRI (r : Option tkV) : Instr := match r with
  | none => .return_
  | some (.inl _) => .ireturn
  | some (.inr (.inl _)) => .lreturn
  | some _ => .areturn
def tkRN (C : tkC) (r : Option tkV) : Prop := match r with
  | none => C.2.2.2 = none
  | some (.inl v) => ∃ ty, C.2.2.2 = some ty ∧ narrow ty (.int v) = .int v
  | some (.inr (.inl _)) => C.2.2.2 = some .long
  | some _ => ∃ rt, C.2.2.2 = some rt ∧ ((∃ n, rt = .object n) ∨ ∃ t, rt = .array t)
def tkRet (G : tkG) (C : tkC) (Q : Option tkV → tkH → Prop) (p : Program) (l : Launch) (e : Env) (R : Room) (s : State) (m : MethodId) (args : Array Value) (below : List Frame) (meth : Method) (c : Code) (Z : State → Prop) (MC MS : Nat) : Prop :=
  ∀ (r : Option tkV) (h : tkH) (H : Heap) (locs : List Loc) (cells slots : Nat) (LS : Array Slot) (pc : Nat), decode C.2.1 pc = .ok (tkRI r, 1) → tkRN C r → Q r h → tkRep G h H → tkFr G s H locs → cells ≤ MC → slots ≤ MS →
    W p l e R s m args below meth c H locs cells slots Z (F0 m pc LS (r.toList.map (tkv G)))
def tkA (G : tkG) (C : tkC) (d mc ms : Nat) (Q : Option tkV → tkH → Prop) (p : Program) (l : Launch) (e : Env) (R : Room) (s : State) (m : MethodId) (args : Array Value) (below : List Frame) (meth : Method) (c : Code) (H : Heap) (locs : List Loc) (cells slots : Nat) (Z : State → Prop) : Prop :=
  tkE G C d p R s m args meth c ∧ tkFr G s H locs ∧ ∃ MC MS : Nat, cells + mc ≤ MC ∧ slots + ms ≤ MS ∧ MC ≤ R.cells ∧ MS ≤ R.slots ∧ tkRet G C Q p l e R s m args below meth c Z MC MS
/-- from this frame and heap the method comes to a return with Q -/
def tkX0 (G : tkG) (C : tkC) (d mc ms pc : Nat) (ls : List (Option tkV)) (st : List tkV) (h : tkH) (Q : Option tkV → tkH → Prop) : Prop :=
  ∀ (p : Program) (l : Launch) (e : Env) (R : Room) (s : State) (m : MethodId) (args : Array Value) (below : List Frame) (meth : Method) (c : Code) (H : Heap) (locs : List Loc) (cells slots : Nat) (Z : State → Prop) (LS : Array Slot),
    tkA G C d mc ms Q p l e R s m args below meth c H locs cells slots Z → tkLS G C LS ls → tkRep G h H → W p l e R s m args below meth c H locs cells slots Z (F0 m pc LS (st.map (tkv G)))
/-- the same under a seal (a unifier does not look behind it) -/
theorem tkX_ex : ∃ X : tkG → tkC → Nat → Nat → Nat → Nat → List (Option tkV) → List tkV → tkH → (Option tkV → tkH → Prop) → Prop, ∀ G C d mc ms pc ls st h Q, X G C d mc ms pc ls st h Q ↔ tkX0 G C d mc ms pc ls st h Q := ⟨tkX0, fun _ _ _ _ _ _ _ _ _ _ => Iff.rfl⟩
noncomputable def tkX : tkG → tkC → Nat → Nat → Nat → Nat → List (Option tkV) → List tkV → tkH → (Option tkV → tkH → Prop) → Prop := Classical.choose tkX_ex
theorem tkX_i {G : tkG} {C : tkC} {d mc ms pc : Nat} {ls : List (Option tkV)} {st : List tkV} {h : tkH} {Q : Option tkV → tkH → Prop} (k : tkX0 G C d mc ms pc ls st h Q) : tkX G C d mc ms pc ls st h Q := (Classical.choose_spec tkX_ex G C d mc ms pc ls st h Q).mpr k
theorem tkX_e {G : tkG} {C : tkC} {d mc ms pc : Nat} {ls : List (Option tkV)} {st : List tkV} {h : tkH} {Q : Option tkV → tkH → Prop} (k : tkX G C d mc ms pc ls st h Q) : tkX0 G C d mc ms pc ls st h Q := (Classical.choose_spec tkX_ex G C d mc ms pc ls st h Q).mp k
def tkD (C : tkC) (pc : Nat) (i : Instr) (n pc' : Nat) : Prop := decode C.2.1 pc = .ok (i, n) ∧ pc + n = pc'
def tkJ (C : tkC) (pc : Nat) (i : Int → Instr) (tgt pc' : Nat) : Prop := ∃ off : Int, decode C.2.1 pc = .ok (i off, 3) ∧ (pc : Int) + off = (tgt : Int) ∧ pc + 3 = pc'
theorem tkll_mem {G : tkG} {i j : Nat} {ls : List (Option tkV)} {v : tkV} (h : ls[j]? = some (some v)) : (i + j, tkv G v) ∈ tkll G i ls := by
  induction ls generalizing i j with
  | nil => simp at h
  | cons a t ih =>
    cases j with
    | zero =>
      simp at h
      subst h
      simp [tkll]
    | succ j =>
      simp at h
      have := ih (i := i + 1) h
      rw [show i + 1 + j = i + (j + 1) by omega] at this
      cases a with
      | none => simpa [tkll] using this
      | some w => simp only [tkll]; exact List.mem_cons_of_mem _ this
theorem tkll_inv {G : tkG} {i : Nat} {ls : List (Option tkV)} {q : Nat × Value} (h : q ∈ tkll G i ls) : ∃ j v, ls[j]? = some (some v) ∧ q = (i + j, tkv G v) := by
  induction ls generalizing i with
  | nil => simp [tkll] at h
  | cons a t ih =>
    cases a with
    | none =>
      obtain ⟨j, v, h1, h2⟩ := ih (by simpa [tkll] using h)
      exact ⟨j + 1, v, by simpa using h1, by rw [h2]; congr 1; omega⟩
    | some w =>
      simp only [tkll, List.mem_cons] at h
      rcases h with rfl | h
      · exact ⟨0, w, by simp, by simp⟩
      · obtain ⟨j, v, h1, h2⟩ := ih h
        exact ⟨j + 1, v, by simpa using h1, by rw [h2]; congr 1; omega⟩
theorem tkLS.at {G : tkG} {C : tkC} {LS : Array Slot} {ls : List (Option tkV)} (h : tkLS G C LS ls) {j : Nat} {v : tkV} (hv : ls[j]? = some (some v)) : LS[j]? = some (.val (tkv G v)) := by
  have := h.2.2.2 _ (tkll_mem (G := G) (i := 0) hv)
  simpa using this
def tkNL (a : Option tkV) : Bool := match a with
  | some (.inr (.inl _)) => false
  | _ => true
def tk1 (v : tkV) : Bool := match v with
  | .inr (.inl _) => false
  | _ => true
theorem tk1_cat {G : tkG} {v : tkV} (h : tk1 v = true) : (tkv G v).category = 1 := by
  rcases v with x | x | x | x
  · rfl
  · cases h
  · cases x <;> rfl
  · rfl
theorem tk2_cat {G : tkG} {v : tkV} (h : (tkv G v).category = 2) : tk1 v = false := by
  rcases v with x | x | x | x
  · cases h
  · rfl
  · cases x <;> cases h
  · cases h
theorem tkLS.set1 {G : tkG} {C : tkC} {LS LS' : Array Slot} {ls : List (Option tkV)} {i : Nat} {v : tkV} (h : tkLS G C LS ls) (hi : i < ls.length) (hp : ∀ j a, j + 1 = i → ls[j]? = some a → tkNL a = true)
    (h' : lv_has LS' C.2.2.1 ((i, tkv G v) :: (tkll G 0 ls).filter (fun q => !(q.1 == i) && !(q.1 + 1 == i && q.2.category == 2)))) : tkLS G C LS' (ls.set i (some v)) := by
  refine ⟨by rw [List.length_set]; exact h.1, h'.1, h'.2.1, fun q hq => ?_⟩
  obtain ⟨j, w, hj, rfl⟩ := tkll_inv hq
  simp only [Nat.zero_add]
  by_cases hji : i = j
  · subst hji
    rw [List.getElem?_set_self hi] at hj
    obtain rfl := Option.some.inj (Option.some.inj hj)
    exact h'.2.2 _ List.mem_cons_self
  · rw [List.getElem?_set_ne hji] at hj
    refine h'.2.2 (j, tkv G w) (List.mem_cons_of_mem _ (List.mem_filter.mpr ⟨by simpa using tkll_mem (G := G) (i := 0) hj, ?_⟩))
    have h1 : ¬ j = i := fun e => hji e.symm
    by_cases h2 : j + 1 = i
    · have h3 := hp j _ h2 hj
      have h4 : ¬ (tkv G w).category = 2 := fun e => by
        have := tk2_cat e
        rcases w with x | x | x | x <;> simp [tk1, tkNL] at this h3
      simp [h1, h4]
    · simp [h1, h2]
theorem tkLS.set2 {G : tkG} {C : tkC} {LS LS' : Array Slot} {ls : List (Option tkV)} {i : Nat} {v : tkV} (h : tkLS G C LS ls) (hi : i < ls.length) (hp : ∀ j a, j + 1 = i → ls[j]? = some a → tkNL a = true)
    (h' : lv_has LS' C.2.2.1 ((i, tkv G v) :: (tkll G 0 ls).filter (fun q => !(q.1 == i) && (!(q.1 == i + 1) && !(q.1 + 1 == i && q.2.category == 2))))) : tkLS G C LS' ((ls.set i (some v)).set (i + 1) none) := by
  refine ⟨by rw [List.length_set, List.length_set]; exact h.1, h'.1, h'.2.1, fun q hq => ?_⟩
  obtain ⟨j, w, hj, rfl⟩ := tkll_inv hq
  simp only [Nat.zero_add]
  by_cases hj1 : i + 1 = j
  · subst hj1
    by_cases hl : i + 1 < (ls.set i (some v)).length
    · rw [List.getElem?_set_self hl] at hj
      cases hj
    · rw [List.getElem?_eq_none (by rw [List.length_set]; omega)] at hj
      cases hj
  · rw [List.getElem?_set_ne hj1] at hj
    by_cases hji : i = j
    · subst hji
      rw [List.getElem?_set_self hi] at hj
      obtain rfl := Option.some.inj (Option.some.inj hj)
      exact h'.2.2 _ List.mem_cons_self
    · rw [List.getElem?_set_ne hji] at hj
      refine h'.2.2 (j, tkv G w) (List.mem_cons_of_mem _ (List.mem_filter.mpr ⟨by simpa using tkll_mem (G := G) (i := 0) hj, ?_⟩))
      have h1 : ¬ j = i := fun e => hji e.symm
      have h0 : ¬ j = i + 1 := fun e => hj1 e.symm
      by_cases h2 : j + 1 = i
      · have h3 := hp j _ h2 hj
        have h4 : ¬ (tkv G w).category = 2 := fun e => by
          have := tk2_cat e
          rcases w with x | x | x | x <;> simp [tk1, tkNL] at this h3
        simp [h1, h0, h4]
      · simp [h1, h0, h2]
section TKP
variable {G : tkG} {C : tkC} {d mc ms pc pc' : Nat} {ls ls' : List (Option tkV)} {st st' : List tkV} {h : tkH} {Q : Option tkV → tkH → Prop}
theorem tk_pure (go : ∀ {p : Program} {l : Launch} {e : Env} {R : Room} {s : State} {m : MethodId} {args : Array Value} {below : List Frame} {meth : Method} {c : Code} {H : Heap} {locs : List Loc} {cells slots : Nat} {Z : State → Prop} {LS : Array Slot},
      tkE G C d p R s m args meth c → tkLS G C LS ls → W p l e R s m args below meth c H locs cells slots Z (F0 m pc' LS (st'.map (tkv G))) → W p l e R s m args below meth c H locs cells slots Z (F0 m pc LS (st.map (tkv G))))
    (k : tkX G C d mc ms pc' ls st' h Q) : tkX G C d mc ms pc ls st h Q := by
  refine tkX_i ?_
  intro p l e R s m args below meth c H locs cells slots Z LS A L Rp
  exact go A.1 L (tkX_e k p l e R s m args below meth c H locs cells slots Z LS A L Rp)
theorem tk_pure2 {P1 P2 : Prop} {pc1 pc2 : Nat} {st1 st2 : List tkV} (go : ∀ {p : Program} {l : Launch} {e : Env} {R : Room} {s : State} {m : MethodId} {args : Array Value} {below : List Frame} {meth : Method} {c : Code} {H : Heap} {locs : List Loc} {cells slots : Nat} {Z : State → Prop} {LS : Array Slot},
      tkE G C d p R s m args meth c → tkLS G C LS ls → (P1 → W p l e R s m args below meth c H locs cells slots Z (F0 m pc1 LS (st1.map (tkv G)))) → (P2 → W p l e R s m args below meth c H locs cells slots Z (F0 m pc2 LS (st2.map (tkv G)))) → W p l e R s m args below meth c H locs cells slots Z (F0 m pc LS (st.map (tkv G))))
    (k1 : P1 → tkX G C d mc ms pc1 ls st1 h Q) (k2 : P2 → tkX G C d mc ms pc2 ls st2 h Q) : tkX G C d mc ms pc ls st h Q := by
  refine tkX_i ?_
  intro p l e R s m args below meth c H locs cells slots Z LS A L Rp
  exact go A.1 L (fun q => tkX_e (k1 q) p l e R s m args below meth c H locs cells slots Z LS A L Rp) (fun q => tkX_e (k2 q) p l e R s m args below meth c H locs cells slots Z LS A L Rp)
theorem tk_store (go : ∀ {p : Program} {l : Launch} {e : Env} {R : Room} {s : State} {m : MethodId} {args : Array Value} {below : List Frame} {meth : Method} {c : Code} {H : Heap} {locs : List Loc} {cells slots : Nat} {Z : State → Prop} {LS : Array Slot},
      tkE G C d p R s m args meth c → tkLS G C LS ls → (∀ LS' : Array Slot, tkLS G C LS' ls' → W p l e R s m args below meth c H locs cells slots Z (F0 m pc' LS' (st'.map (tkv G)))) → W p l e R s m args below meth c H locs cells slots Z (F0 m pc LS (st.map (tkv G))))
    (k : tkX G C d mc ms pc' ls' st' h Q) : tkX G C d mc ms pc ls st h Q := by
  refine tkX_i ?_
  intro p l e R s m args below meth c H locs cells slots Z LS A L Rp
  exact go A.1 L (fun LS' L' => tkX_e k p l e R s m args below meth c H locs cells slots Z LS' A L' Rp)
end TKP
def jshl (x : Int64) (y : Int32) : Int64 := x <<< (y.toInt64 &&& 63)
def jshr (x : Int64) (y : Int32) : Int64 := x >>> (y.toInt64 &&& 63)
def jushr (x : Int64) (y : Int32) : Int64 := (x.toUInt64 >>> (y.toInt64.toUInt64 &&& Int64.toUInt64 63)).toInt64
def kshl (x y : Int32) : Int32 := x <<< (y &&& 31)
def kshr (x y : Int32) : Int32 := x >>> (y &&& 31)
def kushr (x y : Int32) : Int32 := (x.toUInt32 >>> (y.toUInt32 &&& Int32.toUInt32 31)).toInt32
section TKR
variable {G : tkG} {C : tkC} {d mc ms pc pc' : Nat} {ls : List (Option tkV)} {st : List tkV} {h : tkH} {Q : Option tkV → tkH → Prop}
theorem tk_iadd {x y : Int32} (hd : tkD C pc .iadd 1 pc') (k : tkX G C d mc ms pc' ls (vI (x + y) :: st) h Q) : tkX G C d mc ms pc ls (vI y :: vI x :: st) h Q := by
  obtain ⟨hd, rfl⟩ := hd
  exact tk_pure (fun E L w => lv_iadd E.1 E.2.1 hd w) k
theorem tk_isub {x y : Int32} (hd : tkD C pc .isub 1 pc') (k : tkX G C d mc ms pc' ls (vI (x - y) :: st) h Q) : tkX G C d mc ms pc ls (vI y :: vI x :: st) h Q := by
  obtain ⟨hd, rfl⟩ := hd
  exact tk_pure (fun E L w => lv_isub E.1 E.2.1 hd w) k
theorem tk_imul {x y : Int32} (hd : tkD C pc .imul 1 pc') (k : tkX G C d mc ms pc' ls (vI (x * y) :: st) h Q) : tkX G C d mc ms pc ls (vI y :: vI x :: st) h Q := by
  obtain ⟨hd, rfl⟩ := hd
  exact tk_pure (fun E L w => lv_imul E.1 E.2.1 hd w) k
theorem tk_iand {x y : Int32} (hd : tkD C pc .iand 1 pc') (k : tkX G C d mc ms pc' ls (vI (x &&& y) :: st) h Q) : tkX G C d mc ms pc ls (vI y :: vI x :: st) h Q := by
  obtain ⟨hd, rfl⟩ := hd
  exact tk_pure (fun E L w => lv_iand E.1 E.2.1 hd w) k
theorem tk_ior {x y : Int32} (hd : tkD C pc .ior 1 pc') (k : tkX G C d mc ms pc' ls (vI (x ||| y) :: st) h Q) : tkX G C d mc ms pc ls (vI y :: vI x :: st) h Q := by
  obtain ⟨hd, rfl⟩ := hd
  exact tk_pure (fun E L w => lv_ior E.1 E.2.1 hd w) k
theorem tk_ishl {x y : Int32} (hd : tkD C pc .ishl 1 pc') (k : tkX G C d mc ms pc' ls (vI (kshl x y) :: st) h Q) : tkX G C d mc ms pc ls (vI y :: vI x :: st) h Q := by
  obtain ⟨hd, rfl⟩ := hd
  exact tk_pure (fun E L w => lv_ishl E.1 E.2.1 hd w) k
theorem tk_ishr {x y : Int32} (hd : tkD C pc .ishr 1 pc') (k : tkX G C d mc ms pc' ls (vI (kshr x y) :: st) h Q) : tkX G C d mc ms pc ls (vI y :: vI x :: st) h Q := by
  obtain ⟨hd, rfl⟩ := hd
  exact tk_pure (fun E L w => lv_ishr E.1 E.2.1 hd w) k
theorem tk_iushr {x y : Int32} (hd : tkD C pc .iushr 1 pc') (k : tkX G C d mc ms pc' ls (vI (kushr x y) :: st) h Q) : tkX G C d mc ms pc ls (vI y :: vI x :: st) h Q := by
  obtain ⟨hd, rfl⟩ := hd
  exact tk_pure (fun E L w => lv_iushr E.1 E.2.1 hd rfl w) k
theorem tk_idiv {x y : Int32} (hd : tkD C pc .idiv 1 pc') (hne : ¬ y = 0) (k : tkX G C d mc ms pc' ls (vI (x / y) :: st) h Q) : tkX G C d mc ms pc ls (vI y :: vI x :: st) h Q := by
  obtain ⟨hd, rfl⟩ := hd
  exact tk_pure (fun E L w => lv_idiv E.1 E.2.1 hd hne w) k
theorem tk_irem {x y : Int32} (hd : tkD C pc .irem 1 pc') (hne : ¬ y = 0) (k : tkX G C d mc ms pc' ls (vI (x - x / y * y) :: st) h Q) : tkX G C d mc ms pc ls (vI y :: vI x :: st) h Q := by
  obtain ⟨hd, rfl⟩ := hd
  exact tk_pure (fun E L w => lv_irem E.1 E.2.1 hd hne w) k
theorem tk_iaddN {a b : Nat} (hd : tkD C pc .iadd 1 pc') (k : tkX G C d mc ms pc' ls (vI (nI (a + b)) :: st) h Q) : tkX G C d mc ms pc ls (vI (nI b) :: vI (nI a) :: st) h Q := tk_iadd hd (by rw [nI_add]; exact k)
theorem tk_imulN {a b : Nat} (hd : tkD C pc .imul 1 pc') (k : tkX G C d mc ms pc' ls (vI (nI (a * b)) :: st) h Q) : tkX G C d mc ms pc ls (vI (nI b) :: vI (nI a) :: st) h Q := tk_imul hd (by rw [pk_mul]; exact k)
theorem tk_isubN {a b : Nat} (hd : tkD C pc .isub 1 pc') (hab : b ≤ a) (k : tkX G C d mc ms pc' ls (vI (nI (a - b)) :: st) h Q) : tkX G C d mc ms pc ls (vI (nI b) :: vI (nI a) :: st) h Q := tk_isub hd (by rw [pk_sub hab]; exact k)
theorem tk_idivN {a b : Nat} (hd : tkD C pc .idiv 1 pc') (ha : a < 2 ^ 31) (h0 : 0 < b) (hb : b < 2 ^ 31) (k : tkX G C d mc ms pc' ls (vI (nI (a / b)) :: st) h Q) : tkX G C d mc ms pc ls (vI (nI b) :: vI (nI a) :: st) h Q := tk_idiv hd (nI_ne0 h0 hb) (by rw [pk_div ha h0 hb]; exact k)
theorem tk_iremN {a b : Nat} (hd : tkD C pc .irem 1 pc') (ha : a < 2 ^ 31) (h0 : 0 < b) (hb : b < 2 ^ 31) (k : tkX G C d mc ms pc' ls (vI (nI (a % b)) :: st) h Q) : tkX G C d mc ms pc ls (vI (nI b) :: vI (nI a) :: st) h Q := tk_irem hd (nI_ne0 h0 hb) (by rw [pk_rem ha h0 hb]; exact k)
theorem tk_ladd {x y : Int64} (hd : tkD C pc .ladd 1 pc') (k : tkX G C d mc ms pc' ls (vL (x + y) :: st) h Q) : tkX G C d mc ms pc ls (vL y :: vL x :: st) h Q := by
  obtain ⟨hd, rfl⟩ := hd
  exact tk_pure (fun E L w => lv_ladd E.1 E.2.1 hd w) k
theorem tk_lsub {x y : Int64} (hd : tkD C pc .lsub 1 pc') (k : tkX G C d mc ms pc' ls (vL (x - y) :: st) h Q) : tkX G C d mc ms pc ls (vL y :: vL x :: st) h Q := by
  obtain ⟨hd, rfl⟩ := hd
  exact tk_pure (fun E L w => lv_lsub E.1 E.2.1 hd w) k
theorem tk_land {x y : Int64} (hd : tkD C pc .land 1 pc') (k : tkX G C d mc ms pc' ls (vL (x &&& y) :: st) h Q) : tkX G C d mc ms pc ls (vL y :: vL x :: st) h Q := by
  obtain ⟨hd, rfl⟩ := hd
  exact tk_pure (fun E L w => lv_land E.1 E.2.1 hd w) k
theorem tk_lor {x y : Int64} (hd : tkD C pc .lor 1 pc') (k : tkX G C d mc ms pc' ls (vL (x ||| y) :: st) h Q) : tkX G C d mc ms pc ls (vL y :: vL x :: st) h Q := by
  obtain ⟨hd, rfl⟩ := hd
  exact tk_pure (fun E L w => lv_lor E.1 E.2.1 hd w) k
theorem tk_lxor {x y : Int64} (hd : tkD C pc .lxor 1 pc') (k : tkX G C d mc ms pc' ls (vL (x ^^^ y) :: st) h Q) : tkX G C d mc ms pc ls (vL y :: vL x :: st) h Q := by
  obtain ⟨hd, rfl⟩ := hd
  exact tk_pure (fun E L w => lv_lxor E.1 E.2.1 hd w) k
theorem tk_lneg {x : Int64} (hd : tkD C pc .lneg 1 pc') (k : tkX G C d mc ms pc' ls (vL (-x) :: st) h Q) : tkX G C d mc ms pc ls (vL x :: st) h Q := by
  obtain ⟨hd, rfl⟩ := hd
  exact tk_pure (fun E L w => lv_lneg E.1 E.2.1 hd w) k
theorem tk_lshl {x : Int64} {y : Int32} (hd : tkD C pc .lshl 1 pc') (k : tkX G C d mc ms pc' ls (vL (jshl x y) :: st) h Q) : tkX G C d mc ms pc ls (vI y :: vL x :: st) h Q := by
  obtain ⟨hd, rfl⟩ := hd
  exact tk_pure (fun E L w => lv_lshl E.1 E.2.1 hd rfl w) k
theorem tk_lshr {x : Int64} {y : Int32} (hd : tkD C pc .lshr 1 pc') (k : tkX G C d mc ms pc' ls (vL (jshr x y) :: st) h Q) : tkX G C d mc ms pc ls (vI y :: vL x :: st) h Q := by
  obtain ⟨hd, rfl⟩ := hd
  exact tk_pure (fun E L w => lv_lshr E.1 E.2.1 hd rfl w) k
theorem tk_lushr {x : Int64} {y : Int32} (hd : tkD C pc .lushr 1 pc') (k : tkX G C d mc ms pc' ls (vL (jushr x y) :: st) h Q) : tkX G C d mc ms pc ls (vI y :: vL x :: st) h Q := by
  obtain ⟨hd, rfl⟩ := hd
  exact tk_pure (fun E L w => lv_lushr E.1 E.2.1 hd rfl w) k
theorem tk_i2l {x : Int32} (hd : tkD C pc .i2l 1 pc') (k : tkX G C d mc ms pc' ls (vL x.toInt64 :: st) h Q) : tkX G C d mc ms pc ls (vI x :: st) h Q := by
  obtain ⟨hd, rfl⟩ := hd
  exact tk_pure (fun E L w => lv_i2l E.1 E.2.1 hd rfl w) k
theorem tk_l2i {x : Int64} (hd : tkD C pc .l2i 1 pc') (k : tkX G C d mc ms pc' ls (vI x.toInt32 :: st) h Q) : tkX G C d mc ms pc ls (vL x :: st) h Q := by
  obtain ⟨hd, rfl⟩ := hd
  exact tk_pure (fun E L w => lv_l2i E.1 E.2.1 hd rfl w) k
theorem tk_i2b {x : Int32} (hd : tkD C pc .i2b 1 pc') (k : tkX G C d mc ms pc' ls (vI x.toInt8.toInt32 :: st) h Q) : tkX G C d mc ms pc ls (vI x :: st) h Q := by
  obtain ⟨hd, rfl⟩ := hd
  exact tk_pure (fun E L w => lv_i2b E.1 E.2.1 hd rfl w) k
theorem tk_i2s {x : Int32} (hd : tkD C pc .i2s 1 pc') (k : tkX G C d mc ms pc' ls (vI x.toInt16.toInt32 :: st) h Q) : tkX G C d mc ms pc ls (vI x :: st) h Q := by
  obtain ⟨hd, rfl⟩ := hd
  exact tk_pure (fun E L w => lv_i2s E.1 E.2.1 hd rfl w) k
theorem tk_lcmp {x y : Int64} (hd : tkD C pc .lcmp 1 pc') (k : tkX G C d mc ms pc' ls (vI (lg_cmp x y) :: st) h Q) : tkX G C d mc ms pc ls (vL y :: vL x :: st) h Q := by
  obtain ⟨hd, rfl⟩ := hd
  exact tk_pure (fun E L w => W.lcmp E.1 E.2.1 hd w) k
theorem tk_dup {v : tkV} (hd : tkD C pc .dup 1 pc') (h1 : tk1 v = true) (k : tkX G C d mc ms pc' ls (v :: v :: st) h Q) : tkX G C d mc ms pc ls (v :: st) h Q := by
  obtain ⟨hd, rfl⟩ := hd
  exact tk_pure (fun E L w => lv_dup E.1 E.2.1 hd (tk1_cat h1) w) k
theorem tk_pop {v : tkV} (hd : tkD C pc .pop 1 pc') (h1 : tk1 v = true) (k : tkX G C d mc ms pc' ls (st) h Q) : tkX G C d mc ms pc ls (v :: st) h Q := by
  obtain ⟨hd, rfl⟩ := hd
  exact tk_pure (fun E L w => lv_pop E.1 E.2.1 hd (tk1_cat h1) w) k
theorem tk_dup2 {v u : tkV} (hd : tkD C pc .dup2 1 pc') (h1 : tk1 v = true) (h2 : tk1 u = true) (k : tkX G C d mc ms pc' ls (v :: u :: v :: u :: st) h Q) : tkX G C d mc ms pc ls (v :: u :: st) h Q := by
  obtain ⟨hd, rfl⟩ := hd
  exact tk_pure (fun E L w => lv_dup2_11 E.1 E.2.1 hd (tk1_cat h1) (tk1_cat h2) w) k
theorem tk_dup2L {x : Int64} (hd : tkD C pc .dup2 1 pc') (k : tkX G C d mc ms pc' ls (vL x :: vL x :: st) h Q) : tkX G C d mc ms pc ls (vL x :: st) h Q := by
  obtain ⟨hd, rfl⟩ := hd
  exact tk_pure (fun E L w => lv_dup2_2 E.1 E.2.1 hd rfl w) k
theorem tk_iconst {n : Int} {v : Int32} (hd : tkD C pc (.iconst n) 1 pc') (hv : Int32.ofInt n = v) (k : tkX G C d mc ms pc' ls (vI v :: st) h Q) : tkX G C d mc ms pc ls (st) h Q := by
  obtain ⟨hd, rfl⟩ := hd
  exact tk_pure (fun E L w => lv_iconst E.1 E.2.1 hd hv w) k
theorem tk_bipush {n : Int} {v : Int32} (hd : tkD C pc (.bipush n) 2 pc') (hv : (Int8.ofInt n).toInt32 = v) (k : tkX G C d mc ms pc' ls (vI v :: st) h Q) : tkX G C d mc ms pc ls (st) h Q := by
  obtain ⟨hd, rfl⟩ := hd
  exact tk_pure (fun E L w => lv_bipush E.1 E.2.1 hd hv w) k
theorem tk_sipush {n : Int} {v : Int32} (hd : tkD C pc (.sipush n) 3 pc') (hv : (Int16.ofInt n).toInt32 = v) (k : tkX G C d mc ms pc' ls (vI v :: st) h Q) : tkX G C d mc ms pc ls (st) h Q := by
  obtain ⟨hd, rfl⟩ := hd
  exact tk_pure (fun E L w => lv_sipush E.1 E.2.1 hd hv w) k
theorem tk_lconst {n : Fin 2} {v : Int64} (hd : tkD C pc (.lconst n) 1 pc') (hv : Int64.ofNat (n : Nat) = v) (k : tkX G C d mc ms pc' ls (vL v :: st) h Q) : tkX G C d mc ms pc ls (st) h Q := by
  obtain ⟨hd, rfl⟩ := hd
  exact tk_pure (fun E L w => lv_lconst E.1 E.2.1 hd hv w) k
theorem tk_ldc {n : Nat} {v : Int32} (hd : tkD C pc (.ldc n) 2 pc') (hw : Cond.constant C.1.cls n v ∈ tk_tbl) (k : tkX G C d mc ms pc' ls (vI v :: st) h Q) : tkX G C d mc ms pc ls (st) h Q := by
  obtain ⟨hd, rfl⟩ := hd
  exact tk_pure (fun E L w => lv_ldc E.1 E.2.1 E.2.2.2.2.1 (E.2.2.2.2.2.1 _ hw) hd w) k
theorem tk_ldcw {n : Nat} {v : Int32} (hd : tkD C pc (.ldc_w n) 3 pc') (hw : Cond.constant C.1.cls n v ∈ tk_tbl) (k : tkX G C d mc ms pc' ls (vI v :: st) h Q) : tkX G C d mc ms pc ls (st) h Q := by
  obtain ⟨hd, rfl⟩ := hd
  exact tk_pure (fun E L w => lv_ldcw E.1 E.2.1 E.2.2.2.2.1 (E.2.2.2.2.2.1 _ hw) hd w) k
theorem tk_ldc2 {n : Nat} {v : Int64} (hd : tkD C pc (.ldc2_w n) 3 pc') (hw : Cond.constantLong C.1.cls n v ∈ tk_tbl) (k : tkX G C d mc ms pc' ls (vL v :: st) h Q) : tkX G C d mc ms pc ls (st) h Q := by
  obtain ⟨hd, rfl⟩ := hd
  exact tk_pure (fun E L w => lv_ldc2 E.1 E.2.1 E.2.2.2.2.1 (E.2.2.2.2.2.1 _ hw) hd w) k
theorem tk_goto {tgt : Nat} (hd : tkJ C pc .goto tgt pc') (k : tkX G C d mc ms tgt ls st h Q) : tkX G C d mc ms pc ls st h Q := by
  obtain ⟨off, hd, ht, rfl⟩ := hd
  exact tk_pure (fun E L w => lv_goto E.1 E.2.1 hd ht w) k
theorem tk_if_eq {x : Int32} {tgt : Nat} (hd : tkJ C pc (.ifCond .eq) tgt pc') (kt : x = 0 → tkX G C d mc ms tgt ls st h Q) (kf : ¬ x = 0 → tkX G C d mc ms pc' ls st h Q) : tkX G C d mc ms pc ls (vI x :: st) h Q := by
  obtain ⟨off, hd, ht, rfl⟩ := hd
  exact tk_pure2 (fun E L w1 w2 => lv_if_eq E.1 E.2.1 hd ht w1 w2) kt kf
theorem tk_if_ne {x : Int32} {tgt : Nat} (hd : tkJ C pc (.ifCond .ne) tgt pc') (kt : ¬ x = 0 → tkX G C d mc ms tgt ls st h Q) (kf : x = 0 → tkX G C d mc ms pc' ls st h Q) : tkX G C d mc ms pc ls (vI x :: st) h Q := by
  obtain ⟨off, hd, ht, rfl⟩ := hd
  exact tk_pure2 (fun E L w1 w2 => lv_if_ne E.1 E.2.1 hd ht w1 w2) kt kf
theorem tk_if_lt {x : Int32} {tgt : Nat} (hd : tkJ C pc (.ifCond .lt) tgt pc') (kt : x < 0 → tkX G C d mc ms tgt ls st h Q) (kf : ¬ x < 0 → tkX G C d mc ms pc' ls st h Q) : tkX G C d mc ms pc ls (vI x :: st) h Q := by
  obtain ⟨off, hd, ht, rfl⟩ := hd
  exact tk_pure2 (fun E L w1 w2 => lv_if_lt E.1 E.2.1 hd ht w1 w2) kt kf
theorem tk_if_ge {x : Int32} {tgt : Nat} (hd : tkJ C pc (.ifCond .ge) tgt pc') (kt : 0 ≤ x → tkX G C d mc ms tgt ls st h Q) (kf : ¬ 0 ≤ x → tkX G C d mc ms pc' ls st h Q) : tkX G C d mc ms pc ls (vI x :: st) h Q := by
  obtain ⟨off, hd, ht, rfl⟩ := hd
  exact tk_pure2 (fun E L w1 w2 => lv_if_ge E.1 E.2.1 hd ht w1 w2) kt kf
theorem tk_if_gt {x : Int32} {tgt : Nat} (hd : tkJ C pc (.ifCond .gt) tgt pc') (kt : 0 < x → tkX G C d mc ms tgt ls st h Q) (kf : ¬ 0 < x → tkX G C d mc ms pc' ls st h Q) : tkX G C d mc ms pc ls (vI x :: st) h Q := by
  obtain ⟨off, hd, ht, rfl⟩ := hd
  exact tk_pure2 (fun E L w1 w2 => lv_if_gt E.1 E.2.1 hd ht w1 w2) kt kf
theorem tk_if_le {x : Int32} {tgt : Nat} (hd : tkJ C pc (.ifCond .le) tgt pc') (kt : x ≤ 0 → tkX G C d mc ms tgt ls st h Q) (kf : ¬ x ≤ 0 → tkX G C d mc ms pc' ls st h Q) : tkX G C d mc ms pc ls (vI x :: st) h Q := by
  obtain ⟨off, hd, ht, rfl⟩ := hd
  exact tk_pure2 (fun E L w1 w2 => lv_if_le E.1 E.2.1 hd ht w1 w2) kt kf
theorem tk_icmp_eq {x y : Int32} {tgt : Nat} (hd : tkJ C pc (.if_icmp .eq) tgt pc') (kt : x = y → tkX G C d mc ms tgt ls st h Q) (kf : ¬ x = y → tkX G C d mc ms pc' ls st h Q) : tkX G C d mc ms pc ls (vI y :: vI x :: st) h Q := by
  obtain ⟨off, hd, ht, rfl⟩ := hd
  exact tk_pure2 (fun E L w1 w2 => lv_icmp_eq E.1 E.2.1 hd ht w1 w2) kt kf
theorem tk_icmp_ne {x y : Int32} {tgt : Nat} (hd : tkJ C pc (.if_icmp .ne) tgt pc') (kt : ¬ x = y → tkX G C d mc ms tgt ls st h Q) (kf : x = y → tkX G C d mc ms pc' ls st h Q) : tkX G C d mc ms pc ls (vI y :: vI x :: st) h Q := by
  obtain ⟨off, hd, ht, rfl⟩ := hd
  exact tk_pure2 (fun E L w1 w2 => lv_icmp_ne E.1 E.2.1 hd ht w1 w2) kt kf
theorem tk_icmp_lt {x y : Int32} {tgt : Nat} (hd : tkJ C pc (.if_icmp .lt) tgt pc') (kt : x < y → tkX G C d mc ms tgt ls st h Q) (kf : ¬ x < y → tkX G C d mc ms pc' ls st h Q) : tkX G C d mc ms pc ls (vI y :: vI x :: st) h Q := by
  obtain ⟨off, hd, ht, rfl⟩ := hd
  exact tk_pure2 (fun E L w1 w2 => lv_icmp_lt E.1 E.2.1 hd ht w1 w2) kt kf
theorem tk_icmp_ge {x y : Int32} {tgt : Nat} (hd : tkJ C pc (.if_icmp .ge) tgt pc') (kt : y ≤ x → tkX G C d mc ms tgt ls st h Q) (kf : ¬ y ≤ x → tkX G C d mc ms pc' ls st h Q) : tkX G C d mc ms pc ls (vI y :: vI x :: st) h Q := by
  obtain ⟨off, hd, ht, rfl⟩ := hd
  exact tk_pure2 (fun E L w1 w2 => lv_icmp_ge E.1 E.2.1 hd ht w1 w2) kt kf
theorem tk_icmp_gt {x y : Int32} {tgt : Nat} (hd : tkJ C pc (.if_icmp .gt) tgt pc') (kt : y < x → tkX G C d mc ms tgt ls st h Q) (kf : ¬ y < x → tkX G C d mc ms pc' ls st h Q) : tkX G C d mc ms pc ls (vI y :: vI x :: st) h Q := by
  obtain ⟨off, hd, ht, rfl⟩ := hd
  exact tk_pure2 (fun E L w1 w2 => lv_icmp_gt E.1 E.2.1 hd ht w1 w2) kt kf
theorem tk_icmp_le {x y : Int32} {tgt : Nat} (hd : tkJ C pc (.if_icmp .le) tgt pc') (kt : x ≤ y → tkX G C d mc ms tgt ls st h Q) (kf : ¬ x ≤ y → tkX G C d mc ms pc' ls st h Q) : tkX G C d mc ms pc ls (vI y :: vI x :: st) h Q := by
  obtain ⟨off, hd, ht, rfl⟩ := hd
  exact tk_pure2 (fun E L w1 w2 => lv_icmp_le E.1 E.2.1 hd ht w1 w2) kt kf
theorem tk_icmp_eqN {a b : Nat} {tgt : Nat} (hd : tkJ C pc (.if_icmp .eq) tgt pc') (ha : a < 2 ^ 31) (hb : b < 2 ^ 31) (kt : a = b → tkX G C d mc ms tgt ls st h Q) (kf : a ≠ b → tkX G C d mc ms pc' ls st h Q) : tkX G C d mc ms pc ls (vI (nI b) :: vI (nI a) :: st) h Q := tk_icmp_eq hd (fun q => kt ((nI_eq ha hb).mp q)) (fun q => kf (fun e => q ((nI_eq ha hb).mpr e)))
theorem tk_icmp_neN {a b : Nat} {tgt : Nat} (hd : tkJ C pc (.if_icmp .ne) tgt pc') (ha : a < 2 ^ 31) (hb : b < 2 ^ 31) (kt : a ≠ b → tkX G C d mc ms tgt ls st h Q) (kf : a = b → tkX G C d mc ms pc' ls st h Q) : tkX G C d mc ms pc ls (vI (nI b) :: vI (nI a) :: st) h Q := tk_icmp_ne hd (fun q => kt (fun e => q ((nI_eq ha hb).mpr e))) (fun q => kf ((nI_eq ha hb).mp q))
theorem tk_icmp_ltN {a b : Nat} {tgt : Nat} (hd : tkJ C pc (.if_icmp .lt) tgt pc') (ha : a < 2 ^ 31) (hb : b < 2 ^ 31) (kt : a < b → tkX G C d mc ms tgt ls st h Q) (kf : b ≤ a → tkX G C d mc ms pc' ls st h Q) : tkX G C d mc ms pc ls (vI (nI b) :: vI (nI a) :: st) h Q := tk_icmp_lt hd (fun q => kt ((nI_ltI ha hb).mp q)) (fun q => kf (Nat.le_of_not_lt (fun e => q ((nI_ltI ha hb).mpr e))))
theorem tk_icmp_geN {a b : Nat} {tgt : Nat} (hd : tkJ C pc (.if_icmp .ge) tgt pc') (ha : a < 2 ^ 31) (hb : b < 2 ^ 31) (kt : b ≤ a → tkX G C d mc ms tgt ls st h Q) (kf : a < b → tkX G C d mc ms pc' ls st h Q) : tkX G C d mc ms pc ls (vI (nI b) :: vI (nI a) :: st) h Q := tk_icmp_ge hd (fun q => kt ((nI_leI hb ha).mp q)) (fun q => kf (Nat.lt_of_not_le (fun e => q ((nI_leI hb ha).mpr e))))
theorem tk_icmp_gtN {a b : Nat} {tgt : Nat} (hd : tkJ C pc (.if_icmp .gt) tgt pc') (ha : a < 2 ^ 31) (hb : b < 2 ^ 31) (kt : b < a → tkX G C d mc ms tgt ls st h Q) (kf : a ≤ b → tkX G C d mc ms pc' ls st h Q) : tkX G C d mc ms pc ls (vI (nI b) :: vI (nI a) :: st) h Q := tk_icmp_gt hd (fun q => kt ((nI_ltI hb ha).mp q)) (fun q => kf (Nat.le_of_not_lt (fun e => q ((nI_ltI hb ha).mpr e))))
theorem tk_icmp_leN {a b : Nat} {tgt : Nat} (hd : tkJ C pc (.if_icmp .le) tgt pc') (ha : a < 2 ^ 31) (hb : b < 2 ^ 31) (kt : a ≤ b → tkX G C d mc ms tgt ls st h Q) (kf : b < a → tkX G C d mc ms pc' ls st h Q) : tkX G C d mc ms pc ls (vI (nI b) :: vI (nI a) :: st) h Q := tk_icmp_le hd (fun q => kt ((nI_leI ha hb).mp q)) (fun q => kf (Nat.lt_of_not_le (fun e => q ((nI_leI ha hb).mpr e))))
theorem tk_iloadn {k : Fin 4} {i : Nat} {x : Int32} (hd : tkD C pc (.iload_n k) 1 pc') (hi : (k : Nat) = i) (hv : ls[i]? = some (some (vI x))) (k : tkX G C d mc ms pc' ls (vI x :: st) h Q) : tkX G C d mc ms pc ls st h Q := by
  obtain ⟨hd, rfl⟩ := hd
  exact tk_pure (fun E L w => lv_iload_n E.1 E.2.1 hd hi (L.at hv) w) k
theorem tk_iload {i : Nat} {x : Int32} (hd : tkD C pc (.iload i) 2 pc') (hv : ls[i]? = some (some (vI x))) (k : tkX G C d mc ms pc' ls (vI x :: st) h Q) : tkX G C d mc ms pc ls st h Q := by
  obtain ⟨hd, rfl⟩ := hd
  exact tk_pure (fun E L w => lv_iload E.1 E.2.1 hd (L.at hv) w) k
theorem tk_istoren {k : Fin 4} {i : Nat} {x : Int32} (hd : tkD C pc (.istore_n k) 1 pc') (hi : (k : Nat) = i) (hl : i < ls.length) (hp : ∀ j a, j + 1 = i → ls[j]? = some a → tkNL a = true) (k : tkX G C d mc ms pc' (ls.set i (some (vI x))) st h Q) : tkX G C d mc ms pc ls (vI x :: st) h Q := by
  obtain ⟨hd, rfl⟩ := hd
  exact tk_store (fun E L w => lv_istore_n E.1 E.2.1 hd hi L.2 (by rw [← L.1]; exact hl) rfl (fun LS' h' => w LS' (L.set1 (v := vI x) hl hp h'))) k
theorem tk_istore {i : Nat} {x : Int32} (hd : tkD C pc (.istore i) 2 pc') (hl : i < ls.length) (hp : ∀ j a, j + 1 = i → ls[j]? = some a → tkNL a = true) (k : tkX G C d mc ms pc' (ls.set i (some (vI x))) st h Q) : tkX G C d mc ms pc ls (vI x :: st) h Q := by
  obtain ⟨hd, rfl⟩ := hd
  exact tk_store (fun E L w => lv_istore E.1 E.2.1 hd L.2 (by rw [← L.1]; exact hl) rfl (fun LS' h' => w LS' (L.set1 (v := vI x) hl hp h'))) k
theorem tk_lloadn {k : Fin 4} {i : Nat} {x : Int64} (hd : tkD C pc (.lload_n k) 1 pc') (hi : (k : Nat) = i) (hv : ls[i]? = some (some (vL x))) (k : tkX G C d mc ms pc' ls (vL x :: st) h Q) : tkX G C d mc ms pc ls st h Q := by
  obtain ⟨hd, rfl⟩ := hd
  exact tk_pure (fun E L w => lv_lload_n E.1 E.2.1 hd hi (L.at hv) w) k
theorem tk_lload {i : Nat} {x : Int64} (hd : tkD C pc (.lload i) 2 pc') (hv : ls[i]? = some (some (vL x))) (k : tkX G C d mc ms pc' ls (vL x :: st) h Q) : tkX G C d mc ms pc ls st h Q := by
  obtain ⟨hd, rfl⟩ := hd
  exact tk_pure (fun E L w => lv_lload E.1 E.2.1 hd (L.at hv) w) k
theorem tk_lstoren {k : Fin 4} {i : Nat} {x : Int64} (hd : tkD C pc (.lstore_n k) 1 pc') (hi : (k : Nat) = i) (hl : i + 1 < ls.length) (hp : ∀ j a, j + 1 = i → ls[j]? = some a → tkNL a = true) (k : tkX G C d mc ms pc' ((ls.set i (some (vL x))).set (i + 1) none) st h Q) : tkX G C d mc ms pc ls (vL x :: st) h Q := by
  obtain ⟨hd, rfl⟩ := hd
  exact tk_store (fun E L w => lv_lstore_n E.1 E.2.1 hd hi L.2 (by rw [← L.1]; exact hl) rfl (fun LS' h' => w LS' (L.set2 (v := vL x) (by omega) hp h'))) k
theorem tk_lstore {i : Nat} {x : Int64} (hd : tkD C pc (.lstore i) 2 pc') (hl : i + 1 < ls.length) (hp : ∀ j a, j + 1 = i → ls[j]? = some a → tkNL a = true) (k : tkX G C d mc ms pc' ((ls.set i (some (vL x))).set (i + 1) none) st h Q) : tkX G C d mc ms pc ls (vL x :: st) h Q := by
  obtain ⟨hd, rfl⟩ := hd
  exact tk_store (fun E L w => lv_lstore E.1 E.2.1 hd L.2 (by rw [← L.1]; exact hl) rfl (fun LS' h' => w LS' (L.set2 (v := vL x) (by omega) hp h'))) k
theorem tk_aloadn {k : Fin 4} {i : Nat} {x : Nat} (hd : tkD C pc (.aload_n k) 1 pc') (hi : (k : Nat) = i) (hv : ls[i]? = some (some (vR x))) (k : tkX G C d mc ms pc' ls (vR x :: st) h Q) : tkX G C d mc ms pc ls st h Q := by
  obtain ⟨hd, rfl⟩ := hd
  exact tk_pure (fun E L w => lv_aload_n E.1 E.2.1 hd hi (L.at hv) w) k
theorem tk_aload {i : Nat} {x : Nat} (hd : tkD C pc (.aload i) 2 pc') (hv : ls[i]? = some (some (vR x))) (k : tkX G C d mc ms pc' ls (vR x :: st) h Q) : tkX G C d mc ms pc ls st h Q := by
  obtain ⟨hd, rfl⟩ := hd
  exact tk_pure (fun E L w => lv_aload E.1 E.2.1 hd (L.at hv) w) k
theorem tk_astoren {k : Fin 4} {i : Nat} {x : Nat} (hd : tkD C pc (.astore_n k) 1 pc') (hi : (k : Nat) = i) (hl : i < ls.length) (hp : ∀ j a, j + 1 = i → ls[j]? = some a → tkNL a = true) (k : tkX G C d mc ms pc' (ls.set i (some (vR x))) st h Q) : tkX G C d mc ms pc ls (vR x :: st) h Q := by
  obtain ⟨hd, rfl⟩ := hd
  exact tk_store (fun E L w => lv_astore_n E.1 E.2.1 hd hi L.2 (by rw [← L.1]; exact hl) rfl (fun LS' h' => w LS' (L.set1 (v := vR x) hl hp h'))) k
theorem tk_astore {i : Nat} {x : Nat} (hd : tkD C pc (.astore i) 2 pc') (hl : i < ls.length) (hp : ∀ j a, j + 1 = i → ls[j]? = some a → tkNL a = true) (k : tkX G C d mc ms pc' (ls.set i (some (vR x))) st h Q) : tkX G C d mc ms pc ls (vR x :: st) h Q := by
  obtain ⟨hd, rfl⟩ := hd
  exact tk_store (fun E L w => lv_astore E.1 E.2.1 hd L.2 (by rw [← L.1]; exact hl) rfl (fun LS' h' => w LS' (L.set1 (v := vR x) hl hp h'))) k
theorem tk_iinc {i : Nat} {n : Int} {x v : Int32} (hd : tkD C pc (.iinc i n) 3 pc') (hl : i < ls.length) (hv : ls[i]? = some (some (vI x))) (hxv : x + Int32.ofInt n = v) (hp : ∀ j a, j + 1 = i → ls[j]? = some a → tkNL a = true) (k : tkX G C d mc ms pc' (ls.set i (some (vI v))) st h Q) : tkX G C d mc ms pc ls st h Q := by
  obtain ⟨hd, rfl⟩ := hd
  refine tk_store (fun E L w => ?_) k
  obtain ⟨k0, hk0⟩ := List.getElem?_of_mem (show (i, Value.int x) ∈ tkll G 0 ls by have h9 := tkll_mem (G := G) (i := 0) hv; rw [Nat.zero_add] at h9; exact h9)
  exact lv_iinc E.1 E.2.1 hd L.2 hk0 hxv (by rw [← L.1]; exact hl) rfl (fun LS' h' => w LS' (L.set1 (v := vI v) hl hp h'))
theorem tk_hp {l : List (Option tkV)} {j0 : Nat} {a : Option tkV} (hj : l[j0]? = some a) (hn : tkNL a = true) : ∀ j b, j + 1 = j0 + 1 → l[j]? = some b → tkNL b = true := by
  intro j b e q
  obtain rfl : j = j0 := by omega
  rw [hj] at q
  exact Option.some.inj q ▸ hn
theorem tk_len {l : List (Option tkV)} {i : Nat} {a : Option tkV} (hj : l[i]? = some a) : i < l.length := (List.getElem?_eq_some_iff.mp hj).1
theorem tk_iload0 {x : Int32} {t : List (Option tkV)} (hd : tkD C pc (.iload_n 0) 1 pc') (k : tkX G C d mc ms pc' (some (vI x) :: t) (vI x :: st) h Q) : tkX G C d mc ms pc (some (vI x) :: t) st h Q := tk_iloadn hd rfl rfl k
theorem tk_istore0 {o : Option tkV} {x : Int32} {t : List (Option tkV)} (hd : tkD C pc (.istore_n 0) 1 pc') (k : tkX G C d mc ms pc' (some (vI x) :: t) st h Q) : tkX G C d mc ms pc (o :: t) (vI x :: st) h Q := tk_istoren hd rfl (tk_len rfl) (fun j a e => by omega) k
theorem tk_lload0 {x : Int64} {t : List (Option tkV)} (hd : tkD C pc (.lload_n 0) 1 pc') (k : tkX G C d mc ms pc' (some (vL x) :: t) (vL x :: st) h Q) : tkX G C d mc ms pc (some (vL x) :: t) st h Q := tk_lloadn hd rfl rfl k
theorem tk_lstore0 {o o2 : Option tkV} {x : Int64} {t : List (Option tkV)} (hd : tkD C pc (.lstore_n 0) 1 pc') (k : tkX G C d mc ms pc' (some (vL x) :: none :: t) st h Q) : tkX G C d mc ms pc (o :: o2 :: t) (vL x :: st) h Q := tk_lstoren hd rfl (tk_len rfl) (fun j a e => by omega) k
theorem tk_aload0 {x : Nat} {t : List (Option tkV)} (hd : tkD C pc (.aload_n 0) 1 pc') (k : tkX G C d mc ms pc' (some (vR x) :: t) (vR x :: st) h Q) : tkX G C d mc ms pc (some (vR x) :: t) st h Q := tk_aloadn hd rfl rfl k
theorem tk_astore0 {o : Option tkV} {x : Nat} {t : List (Option tkV)} (hd : tkD C pc (.astore_n 0) 1 pc') (k : tkX G C d mc ms pc' (some (vR x) :: t) st h Q) : tkX G C d mc ms pc (o :: t) (vR x :: st) h Q := tk_astoren hd rfl (tk_len rfl) (fun j a e => by omega) k
theorem tk_iinc0 {n : Int} {x v : Int32} {t : List (Option tkV)} (hd : tkD C pc (.iinc 0 n) 3 pc') (hxv : x + Int32.ofInt n = v) (k : tkX G C d mc ms pc' (some (vI v) :: t) st h Q) : tkX G C d mc ms pc (some (vI x) :: t) st h Q := tk_iinc hd (tk_len rfl) rfl hxv (fun j a e => by omega) k
theorem tk_iload1 {a0 : Option tkV} {x : Int32} {t : List (Option tkV)} (hd : tkD C pc (.iload_n 1) 1 pc') (k : tkX G C d mc ms pc' (a0 :: some (vI x) :: t) (vI x :: st) h Q) : tkX G C d mc ms pc (a0 :: some (vI x) :: t) st h Q := tk_iloadn hd rfl rfl k
theorem tk_istore1 {a0 : Option tkV} {o : Option tkV} {x : Int32} {t : List (Option tkV)} (hd : tkD C pc (.istore_n 1) 1 pc') (hn : tkNL a0 = true) (k : tkX G C d mc ms pc' (a0 :: some (vI x) :: t) st h Q) : tkX G C d mc ms pc (a0 :: o :: t) (vI x :: st) h Q := tk_istoren hd rfl (tk_len rfl) (tk_hp (j0 := 0) rfl hn) k
theorem tk_lload1 {a0 : Option tkV} {x : Int64} {t : List (Option tkV)} (hd : tkD C pc (.lload_n 1) 1 pc') (k : tkX G C d mc ms pc' (a0 :: some (vL x) :: t) (vL x :: st) h Q) : tkX G C d mc ms pc (a0 :: some (vL x) :: t) st h Q := tk_lloadn hd rfl rfl k
theorem tk_lstore1 {a0 : Option tkV} {o o2 : Option tkV} {x : Int64} {t : List (Option tkV)} (hd : tkD C pc (.lstore_n 1) 1 pc') (hn : tkNL a0 = true) (k : tkX G C d mc ms pc' (a0 :: some (vL x) :: none :: t) st h Q) : tkX G C d mc ms pc (a0 :: o :: o2 :: t) (vL x :: st) h Q := tk_lstoren hd rfl (tk_len rfl) (tk_hp (j0 := 0) rfl hn) k
theorem tk_aload1 {a0 : Option tkV} {x : Nat} {t : List (Option tkV)} (hd : tkD C pc (.aload_n 1) 1 pc') (k : tkX G C d mc ms pc' (a0 :: some (vR x) :: t) (vR x :: st) h Q) : tkX G C d mc ms pc (a0 :: some (vR x) :: t) st h Q := tk_aloadn hd rfl rfl k
theorem tk_astore1 {a0 : Option tkV} {o : Option tkV} {x : Nat} {t : List (Option tkV)} (hd : tkD C pc (.astore_n 1) 1 pc') (hn : tkNL a0 = true) (k : tkX G C d mc ms pc' (a0 :: some (vR x) :: t) st h Q) : tkX G C d mc ms pc (a0 :: o :: t) (vR x :: st) h Q := tk_astoren hd rfl (tk_len rfl) (tk_hp (j0 := 0) rfl hn) k
theorem tk_iinc1 {a0 : Option tkV} {n : Int} {x v : Int32} {t : List (Option tkV)} (hd : tkD C pc (.iinc 1 n) 3 pc') (hxv : x + Int32.ofInt n = v) (hn : tkNL a0 = true) (k : tkX G C d mc ms pc' (a0 :: some (vI v) :: t) st h Q) : tkX G C d mc ms pc (a0 :: some (vI x) :: t) st h Q := tk_iinc hd (tk_len rfl) rfl hxv (tk_hp (j0 := 0) rfl hn) k
theorem tk_iload2 {a0 a1 : Option tkV} {x : Int32} {t : List (Option tkV)} (hd : tkD C pc (.iload_n 2) 1 pc') (k : tkX G C d mc ms pc' (a0 :: a1 :: some (vI x) :: t) (vI x :: st) h Q) : tkX G C d mc ms pc (a0 :: a1 :: some (vI x) :: t) st h Q := tk_iloadn hd rfl rfl k
theorem tk_istore2 {a0 a1 : Option tkV} {o : Option tkV} {x : Int32} {t : List (Option tkV)} (hd : tkD C pc (.istore_n 2) 1 pc') (hn : tkNL a1 = true) (k : tkX G C d mc ms pc' (a0 :: a1 :: some (vI x) :: t) st h Q) : tkX G C d mc ms pc (a0 :: a1 :: o :: t) (vI x :: st) h Q := tk_istoren hd rfl (tk_len rfl) (tk_hp (j0 := 1) rfl hn) k
theorem tk_lload2 {a0 a1 : Option tkV} {x : Int64} {t : List (Option tkV)} (hd : tkD C pc (.lload_n 2) 1 pc') (k : tkX G C d mc ms pc' (a0 :: a1 :: some (vL x) :: t) (vL x :: st) h Q) : tkX G C d mc ms pc (a0 :: a1 :: some (vL x) :: t) st h Q := tk_lloadn hd rfl rfl k
theorem tk_lstore2 {a0 a1 : Option tkV} {o o2 : Option tkV} {x : Int64} {t : List (Option tkV)} (hd : tkD C pc (.lstore_n 2) 1 pc') (hn : tkNL a1 = true) (k : tkX G C d mc ms pc' (a0 :: a1 :: some (vL x) :: none :: t) st h Q) : tkX G C d mc ms pc (a0 :: a1 :: o :: o2 :: t) (vL x :: st) h Q := tk_lstoren hd rfl (tk_len rfl) (tk_hp (j0 := 1) rfl hn) k
theorem tk_aload2 {a0 a1 : Option tkV} {x : Nat} {t : List (Option tkV)} (hd : tkD C pc (.aload_n 2) 1 pc') (k : tkX G C d mc ms pc' (a0 :: a1 :: some (vR x) :: t) (vR x :: st) h Q) : tkX G C d mc ms pc (a0 :: a1 :: some (vR x) :: t) st h Q := tk_aloadn hd rfl rfl k
theorem tk_astore2 {a0 a1 : Option tkV} {o : Option tkV} {x : Nat} {t : List (Option tkV)} (hd : tkD C pc (.astore_n 2) 1 pc') (hn : tkNL a1 = true) (k : tkX G C d mc ms pc' (a0 :: a1 :: some (vR x) :: t) st h Q) : tkX G C d mc ms pc (a0 :: a1 :: o :: t) (vR x :: st) h Q := tk_astoren hd rfl (tk_len rfl) (tk_hp (j0 := 1) rfl hn) k
theorem tk_iinc2 {a0 a1 : Option tkV} {n : Int} {x v : Int32} {t : List (Option tkV)} (hd : tkD C pc (.iinc 2 n) 3 pc') (hxv : x + Int32.ofInt n = v) (hn : tkNL a1 = true) (k : tkX G C d mc ms pc' (a0 :: a1 :: some (vI v) :: t) st h Q) : tkX G C d mc ms pc (a0 :: a1 :: some (vI x) :: t) st h Q := tk_iinc hd (tk_len rfl) rfl hxv (tk_hp (j0 := 1) rfl hn) k
theorem tk_iload3 {a0 a1 a2 : Option tkV} {x : Int32} {t : List (Option tkV)} (hd : tkD C pc (.iload_n 3) 1 pc') (k : tkX G C d mc ms pc' (a0 :: a1 :: a2 :: some (vI x) :: t) (vI x :: st) h Q) : tkX G C d mc ms pc (a0 :: a1 :: a2 :: some (vI x) :: t) st h Q := tk_iloadn hd rfl rfl k
theorem tk_istore3 {a0 a1 a2 : Option tkV} {o : Option tkV} {x : Int32} {t : List (Option tkV)} (hd : tkD C pc (.istore_n 3) 1 pc') (hn : tkNL a2 = true) (k : tkX G C d mc ms pc' (a0 :: a1 :: a2 :: some (vI x) :: t) st h Q) : tkX G C d mc ms pc (a0 :: a1 :: a2 :: o :: t) (vI x :: st) h Q := tk_istoren hd rfl (tk_len rfl) (tk_hp (j0 := 2) rfl hn) k
theorem tk_lload3 {a0 a1 a2 : Option tkV} {x : Int64} {t : List (Option tkV)} (hd : tkD C pc (.lload_n 3) 1 pc') (k : tkX G C d mc ms pc' (a0 :: a1 :: a2 :: some (vL x) :: t) (vL x :: st) h Q) : tkX G C d mc ms pc (a0 :: a1 :: a2 :: some (vL x) :: t) st h Q := tk_lloadn hd rfl rfl k
theorem tk_lstore3 {a0 a1 a2 : Option tkV} {o o2 : Option tkV} {x : Int64} {t : List (Option tkV)} (hd : tkD C pc (.lstore_n 3) 1 pc') (hn : tkNL a2 = true) (k : tkX G C d mc ms pc' (a0 :: a1 :: a2 :: some (vL x) :: none :: t) st h Q) : tkX G C d mc ms pc (a0 :: a1 :: a2 :: o :: o2 :: t) (vL x :: st) h Q := tk_lstoren hd rfl (tk_len rfl) (tk_hp (j0 := 2) rfl hn) k
theorem tk_aload3 {a0 a1 a2 : Option tkV} {x : Nat} {t : List (Option tkV)} (hd : tkD C pc (.aload_n 3) 1 pc') (k : tkX G C d mc ms pc' (a0 :: a1 :: a2 :: some (vR x) :: t) (vR x :: st) h Q) : tkX G C d mc ms pc (a0 :: a1 :: a2 :: some (vR x) :: t) st h Q := tk_aloadn hd rfl rfl k
theorem tk_astore3 {a0 a1 a2 : Option tkV} {o : Option tkV} {x : Nat} {t : List (Option tkV)} (hd : tkD C pc (.astore_n 3) 1 pc') (hn : tkNL a2 = true) (k : tkX G C d mc ms pc' (a0 :: a1 :: a2 :: some (vR x) :: t) st h Q) : tkX G C d mc ms pc (a0 :: a1 :: a2 :: o :: t) (vR x :: st) h Q := tk_astoren hd rfl (tk_len rfl) (tk_hp (j0 := 2) rfl hn) k
theorem tk_iinc3 {a0 a1 a2 : Option tkV} {n : Int} {x v : Int32} {t : List (Option tkV)} (hd : tkD C pc (.iinc 3 n) 3 pc') (hxv : x + Int32.ofInt n = v) (hn : tkNL a2 = true) (k : tkX G C d mc ms pc' (a0 :: a1 :: a2 :: some (vI v) :: t) st h Q) : tkX G C d mc ms pc (a0 :: a1 :: a2 :: some (vI x) :: t) st h Q := tk_iinc hd (tk_len rfl) rfl hxv (tk_hp (j0 := 2) rfl hn) k
theorem tk_iload4 {a0 a1 a2 a3 : Option tkV} {x : Int32} {t : List (Option tkV)} (hd : tkD C pc (.iload 4) 2 pc') (k : tkX G C d mc ms pc' (a0 :: a1 :: a2 :: a3 :: some (vI x) :: t) (vI x :: st) h Q) : tkX G C d mc ms pc (a0 :: a1 :: a2 :: a3 :: some (vI x) :: t) st h Q := tk_iload hd rfl k
theorem tk_istore4 {a0 a1 a2 a3 : Option tkV} {o : Option tkV} {x : Int32} {t : List (Option tkV)} (hd : tkD C pc (.istore 4) 2 pc') (hn : tkNL a3 = true) (k : tkX G C d mc ms pc' (a0 :: a1 :: a2 :: a3 :: some (vI x) :: t) st h Q) : tkX G C d mc ms pc (a0 :: a1 :: a2 :: a3 :: o :: t) (vI x :: st) h Q := tk_istore hd (tk_len rfl) (tk_hp (j0 := 3) rfl hn) k
theorem tk_lload4 {a0 a1 a2 a3 : Option tkV} {x : Int64} {t : List (Option tkV)} (hd : tkD C pc (.lload 4) 2 pc') (k : tkX G C d mc ms pc' (a0 :: a1 :: a2 :: a3 :: some (vL x) :: t) (vL x :: st) h Q) : tkX G C d mc ms pc (a0 :: a1 :: a2 :: a3 :: some (vL x) :: t) st h Q := tk_lload hd rfl k
theorem tk_lstore4 {a0 a1 a2 a3 : Option tkV} {o o2 : Option tkV} {x : Int64} {t : List (Option tkV)} (hd : tkD C pc (.lstore 4) 2 pc') (hn : tkNL a3 = true) (k : tkX G C d mc ms pc' (a0 :: a1 :: a2 :: a3 :: some (vL x) :: none :: t) st h Q) : tkX G C d mc ms pc (a0 :: a1 :: a2 :: a3 :: o :: o2 :: t) (vL x :: st) h Q := tk_lstore hd (tk_len rfl) (tk_hp (j0 := 3) rfl hn) k
theorem tk_aload4 {a0 a1 a2 a3 : Option tkV} {x : Nat} {t : List (Option tkV)} (hd : tkD C pc (.aload 4) 2 pc') (k : tkX G C d mc ms pc' (a0 :: a1 :: a2 :: a3 :: some (vR x) :: t) (vR x :: st) h Q) : tkX G C d mc ms pc (a0 :: a1 :: a2 :: a3 :: some (vR x) :: t) st h Q := tk_aload hd rfl k
theorem tk_astore4 {a0 a1 a2 a3 : Option tkV} {o : Option tkV} {x : Nat} {t : List (Option tkV)} (hd : tkD C pc (.astore 4) 2 pc') (hn : tkNL a3 = true) (k : tkX G C d mc ms pc' (a0 :: a1 :: a2 :: a3 :: some (vR x) :: t) st h Q) : tkX G C d mc ms pc (a0 :: a1 :: a2 :: a3 :: o :: t) (vR x :: st) h Q := tk_astore hd (tk_len rfl) (tk_hp (j0 := 3) rfl hn) k
theorem tk_iinc4 {a0 a1 a2 a3 : Option tkV} {n : Int} {x v : Int32} {t : List (Option tkV)} (hd : tkD C pc (.iinc 4 n) 3 pc') (hxv : x + Int32.ofInt n = v) (hn : tkNL a3 = true) (k : tkX G C d mc ms pc' (a0 :: a1 :: a2 :: a3 :: some (vI v) :: t) st h Q) : tkX G C d mc ms pc (a0 :: a1 :: a2 :: a3 :: some (vI x) :: t) st h Q := tk_iinc hd (tk_len rfl) rfl hxv (tk_hp (j0 := 3) rfl hn) k
theorem tk_iload5 {a0 a1 a2 a3 a4 : Option tkV} {x : Int32} {t : List (Option tkV)} (hd : tkD C pc (.iload 5) 2 pc') (k : tkX G C d mc ms pc' (a0 :: a1 :: a2 :: a3 :: a4 :: some (vI x) :: t) (vI x :: st) h Q) : tkX G C d mc ms pc (a0 :: a1 :: a2 :: a3 :: a4 :: some (vI x) :: t) st h Q := tk_iload hd rfl k
theorem tk_istore5 {a0 a1 a2 a3 a4 : Option tkV} {o : Option tkV} {x : Int32} {t : List (Option tkV)} (hd : tkD C pc (.istore 5) 2 pc') (hn : tkNL a4 = true) (k : tkX G C d mc ms pc' (a0 :: a1 :: a2 :: a3 :: a4 :: some (vI x) :: t) st h Q) : tkX G C d mc ms pc (a0 :: a1 :: a2 :: a3 :: a4 :: o :: t) (vI x :: st) h Q := tk_istore hd (tk_len rfl) (tk_hp (j0 := 4) rfl hn) k
theorem tk_lload5 {a0 a1 a2 a3 a4 : Option tkV} {x : Int64} {t : List (Option tkV)} (hd : tkD C pc (.lload 5) 2 pc') (k : tkX G C d mc ms pc' (a0 :: a1 :: a2 :: a3 :: a4 :: some (vL x) :: t) (vL x :: st) h Q) : tkX G C d mc ms pc (a0 :: a1 :: a2 :: a3 :: a4 :: some (vL x) :: t) st h Q := tk_lload hd rfl k
theorem tk_lstore5 {a0 a1 a2 a3 a4 : Option tkV} {o o2 : Option tkV} {x : Int64} {t : List (Option tkV)} (hd : tkD C pc (.lstore 5) 2 pc') (hn : tkNL a4 = true) (k : tkX G C d mc ms pc' (a0 :: a1 :: a2 :: a3 :: a4 :: some (vL x) :: none :: t) st h Q) : tkX G C d mc ms pc (a0 :: a1 :: a2 :: a3 :: a4 :: o :: o2 :: t) (vL x :: st) h Q := tk_lstore hd (tk_len rfl) (tk_hp (j0 := 4) rfl hn) k
theorem tk_aload5 {a0 a1 a2 a3 a4 : Option tkV} {x : Nat} {t : List (Option tkV)} (hd : tkD C pc (.aload 5) 2 pc') (k : tkX G C d mc ms pc' (a0 :: a1 :: a2 :: a3 :: a4 :: some (vR x) :: t) (vR x :: st) h Q) : tkX G C d mc ms pc (a0 :: a1 :: a2 :: a3 :: a4 :: some (vR x) :: t) st h Q := tk_aload hd rfl k
theorem tk_astore5 {a0 a1 a2 a3 a4 : Option tkV} {o : Option tkV} {x : Nat} {t : List (Option tkV)} (hd : tkD C pc (.astore 5) 2 pc') (hn : tkNL a4 = true) (k : tkX G C d mc ms pc' (a0 :: a1 :: a2 :: a3 :: a4 :: some (vR x) :: t) st h Q) : tkX G C d mc ms pc (a0 :: a1 :: a2 :: a3 :: a4 :: o :: t) (vR x :: st) h Q := tk_astore hd (tk_len rfl) (tk_hp (j0 := 4) rfl hn) k
theorem tk_iinc5 {a0 a1 a2 a3 a4 : Option tkV} {n : Int} {x v : Int32} {t : List (Option tkV)} (hd : tkD C pc (.iinc 5 n) 3 pc') (hxv : x + Int32.ofInt n = v) (hn : tkNL a4 = true) (k : tkX G C d mc ms pc' (a0 :: a1 :: a2 :: a3 :: a4 :: some (vI v) :: t) st h Q) : tkX G C d mc ms pc (a0 :: a1 :: a2 :: a3 :: a4 :: some (vI x) :: t) st h Q := tk_iinc hd (tk_len rfl) rfl hxv (tk_hp (j0 := 4) rfl hn) k
theorem tk_iload6 {a0 a1 a2 a3 a4 a5 : Option tkV} {x : Int32} {t : List (Option tkV)} (hd : tkD C pc (.iload 6) 2 pc') (k : tkX G C d mc ms pc' (a0 :: a1 :: a2 :: a3 :: a4 :: a5 :: some (vI x) :: t) (vI x :: st) h Q) : tkX G C d mc ms pc (a0 :: a1 :: a2 :: a3 :: a4 :: a5 :: some (vI x) :: t) st h Q := tk_iload hd rfl k
theorem tk_istore6 {a0 a1 a2 a3 a4 a5 : Option tkV} {o : Option tkV} {x : Int32} {t : List (Option tkV)} (hd : tkD C pc (.istore 6) 2 pc') (hn : tkNL a5 = true) (k : tkX G C d mc ms pc' (a0 :: a1 :: a2 :: a3 :: a4 :: a5 :: some (vI x) :: t) st h Q) : tkX G C d mc ms pc (a0 :: a1 :: a2 :: a3 :: a4 :: a5 :: o :: t) (vI x :: st) h Q := tk_istore hd (tk_len rfl) (tk_hp (j0 := 5) rfl hn) k
theorem tk_lload6 {a0 a1 a2 a3 a4 a5 : Option tkV} {x : Int64} {t : List (Option tkV)} (hd : tkD C pc (.lload 6) 2 pc') (k : tkX G C d mc ms pc' (a0 :: a1 :: a2 :: a3 :: a4 :: a5 :: some (vL x) :: t) (vL x :: st) h Q) : tkX G C d mc ms pc (a0 :: a1 :: a2 :: a3 :: a4 :: a5 :: some (vL x) :: t) st h Q := tk_lload hd rfl k
theorem tk_lstore6 {a0 a1 a2 a3 a4 a5 : Option tkV} {o o2 : Option tkV} {x : Int64} {t : List (Option tkV)} (hd : tkD C pc (.lstore 6) 2 pc') (hn : tkNL a5 = true) (k : tkX G C d mc ms pc' (a0 :: a1 :: a2 :: a3 :: a4 :: a5 :: some (vL x) :: none :: t) st h Q) : tkX G C d mc ms pc (a0 :: a1 :: a2 :: a3 :: a4 :: a5 :: o :: o2 :: t) (vL x :: st) h Q := tk_lstore hd (tk_len rfl) (tk_hp (j0 := 5) rfl hn) k
theorem tk_aload6 {a0 a1 a2 a3 a4 a5 : Option tkV} {x : Nat} {t : List (Option tkV)} (hd : tkD C pc (.aload 6) 2 pc') (k : tkX G C d mc ms pc' (a0 :: a1 :: a2 :: a3 :: a4 :: a5 :: some (vR x) :: t) (vR x :: st) h Q) : tkX G C d mc ms pc (a0 :: a1 :: a2 :: a3 :: a4 :: a5 :: some (vR x) :: t) st h Q := tk_aload hd rfl k
theorem tk_astore6 {a0 a1 a2 a3 a4 a5 : Option tkV} {o : Option tkV} {x : Nat} {t : List (Option tkV)} (hd : tkD C pc (.astore 6) 2 pc') (hn : tkNL a5 = true) (k : tkX G C d mc ms pc' (a0 :: a1 :: a2 :: a3 :: a4 :: a5 :: some (vR x) :: t) st h Q) : tkX G C d mc ms pc (a0 :: a1 :: a2 :: a3 :: a4 :: a5 :: o :: t) (vR x :: st) h Q := tk_astore hd (tk_len rfl) (tk_hp (j0 := 5) rfl hn) k
theorem tk_iinc6 {a0 a1 a2 a3 a4 a5 : Option tkV} {n : Int} {x v : Int32} {t : List (Option tkV)} (hd : tkD C pc (.iinc 6 n) 3 pc') (hxv : x + Int32.ofInt n = v) (hn : tkNL a5 = true) (k : tkX G C d mc ms pc' (a0 :: a1 :: a2 :: a3 :: a4 :: a5 :: some (vI v) :: t) st h Q) : tkX G C d mc ms pc (a0 :: a1 :: a2 :: a3 :: a4 :: a5 :: some (vI x) :: t) st h Q := tk_iinc hd (tk_len rfl) rfl hxv (tk_hp (j0 := 5) rfl hn) k
theorem tk_iload7 {a0 a1 a2 a3 a4 a5 a6 : Option tkV} {x : Int32} {t : List (Option tkV)} (hd : tkD C pc (.iload 7) 2 pc') (k : tkX G C d mc ms pc' (a0 :: a1 :: a2 :: a3 :: a4 :: a5 :: a6 :: some (vI x) :: t) (vI x :: st) h Q) : tkX G C d mc ms pc (a0 :: a1 :: a2 :: a3 :: a4 :: a5 :: a6 :: some (vI x) :: t) st h Q := tk_iload hd rfl k
theorem tk_istore7 {a0 a1 a2 a3 a4 a5 a6 : Option tkV} {o : Option tkV} {x : Int32} {t : List (Option tkV)} (hd : tkD C pc (.istore 7) 2 pc') (hn : tkNL a6 = true) (k : tkX G C d mc ms pc' (a0 :: a1 :: a2 :: a3 :: a4 :: a5 :: a6 :: some (vI x) :: t) st h Q) : tkX G C d mc ms pc (a0 :: a1 :: a2 :: a3 :: a4 :: a5 :: a6 :: o :: t) (vI x :: st) h Q := tk_istore hd (tk_len rfl) (tk_hp (j0 := 6) rfl hn) k
theorem tk_lload7 {a0 a1 a2 a3 a4 a5 a6 : Option tkV} {x : Int64} {t : List (Option tkV)} (hd : tkD C pc (.lload 7) 2 pc') (k : tkX G C d mc ms pc' (a0 :: a1 :: a2 :: a3 :: a4 :: a5 :: a6 :: some (vL x) :: t) (vL x :: st) h Q) : tkX G C d mc ms pc (a0 :: a1 :: a2 :: a3 :: a4 :: a5 :: a6 :: some (vL x) :: t) st h Q := tk_lload hd rfl k
theorem tk_lstore7 {a0 a1 a2 a3 a4 a5 a6 : Option tkV} {o o2 : Option tkV} {x : Int64} {t : List (Option tkV)} (hd : tkD C pc (.lstore 7) 2 pc') (hn : tkNL a6 = true) (k : tkX G C d mc ms pc' (a0 :: a1 :: a2 :: a3 :: a4 :: a5 :: a6 :: some (vL x) :: none :: t) st h Q) : tkX G C d mc ms pc (a0 :: a1 :: a2 :: a3 :: a4 :: a5 :: a6 :: o :: o2 :: t) (vL x :: st) h Q := tk_lstore hd (tk_len rfl) (tk_hp (j0 := 6) rfl hn) k
theorem tk_aload7 {a0 a1 a2 a3 a4 a5 a6 : Option tkV} {x : Nat} {t : List (Option tkV)} (hd : tkD C pc (.aload 7) 2 pc') (k : tkX G C d mc ms pc' (a0 :: a1 :: a2 :: a3 :: a4 :: a5 :: a6 :: some (vR x) :: t) (vR x :: st) h Q) : tkX G C d mc ms pc (a0 :: a1 :: a2 :: a3 :: a4 :: a5 :: a6 :: some (vR x) :: t) st h Q := tk_aload hd rfl k
theorem tk_astore7 {a0 a1 a2 a3 a4 a5 a6 : Option tkV} {o : Option tkV} {x : Nat} {t : List (Option tkV)} (hd : tkD C pc (.astore 7) 2 pc') (hn : tkNL a6 = true) (k : tkX G C d mc ms pc' (a0 :: a1 :: a2 :: a3 :: a4 :: a5 :: a6 :: some (vR x) :: t) st h Q) : tkX G C d mc ms pc (a0 :: a1 :: a2 :: a3 :: a4 :: a5 :: a6 :: o :: t) (vR x :: st) h Q := tk_astore hd (tk_len rfl) (tk_hp (j0 := 6) rfl hn) k
theorem tk_iinc7 {a0 a1 a2 a3 a4 a5 a6 : Option tkV} {n : Int} {x v : Int32} {t : List (Option tkV)} (hd : tkD C pc (.iinc 7 n) 3 pc') (hxv : x + Int32.ofInt n = v) (hn : tkNL a6 = true) (k : tkX G C d mc ms pc' (a0 :: a1 :: a2 :: a3 :: a4 :: a5 :: a6 :: some (vI v) :: t) st h Q) : tkX G C d mc ms pc (a0 :: a1 :: a2 :: a3 :: a4 :: a5 :: a6 :: some (vI x) :: t) st h Q := tk_iinc hd (tk_len rfl) rfl hxv (tk_hp (j0 := 6) rfl hn) k
theorem tk_iload8 {a0 a1 a2 a3 a4 a5 a6 a7 : Option tkV} {x : Int32} {t : List (Option tkV)} (hd : tkD C pc (.iload 8) 2 pc') (k : tkX G C d mc ms pc' (a0 :: a1 :: a2 :: a3 :: a4 :: a5 :: a6 :: a7 :: some (vI x) :: t) (vI x :: st) h Q) : tkX G C d mc ms pc (a0 :: a1 :: a2 :: a3 :: a4 :: a5 :: a6 :: a7 :: some (vI x) :: t) st h Q := tk_iload hd rfl k
theorem tk_istore8 {a0 a1 a2 a3 a4 a5 a6 a7 : Option tkV} {o : Option tkV} {x : Int32} {t : List (Option tkV)} (hd : tkD C pc (.istore 8) 2 pc') (hn : tkNL a7 = true) (k : tkX G C d mc ms pc' (a0 :: a1 :: a2 :: a3 :: a4 :: a5 :: a6 :: a7 :: some (vI x) :: t) st h Q) : tkX G C d mc ms pc (a0 :: a1 :: a2 :: a3 :: a4 :: a5 :: a6 :: a7 :: o :: t) (vI x :: st) h Q := tk_istore hd (tk_len rfl) (tk_hp (j0 := 7) rfl hn) k
theorem tk_lload8 {a0 a1 a2 a3 a4 a5 a6 a7 : Option tkV} {x : Int64} {t : List (Option tkV)} (hd : tkD C pc (.lload 8) 2 pc') (k : tkX G C d mc ms pc' (a0 :: a1 :: a2 :: a3 :: a4 :: a5 :: a6 :: a7 :: some (vL x) :: t) (vL x :: st) h Q) : tkX G C d mc ms pc (a0 :: a1 :: a2 :: a3 :: a4 :: a5 :: a6 :: a7 :: some (vL x) :: t) st h Q := tk_lload hd rfl k
theorem tk_lstore8 {a0 a1 a2 a3 a4 a5 a6 a7 : Option tkV} {o o2 : Option tkV} {x : Int64} {t : List (Option tkV)} (hd : tkD C pc (.lstore 8) 2 pc') (hn : tkNL a7 = true) (k : tkX G C d mc ms pc' (a0 :: a1 :: a2 :: a3 :: a4 :: a5 :: a6 :: a7 :: some (vL x) :: none :: t) st h Q) : tkX G C d mc ms pc (a0 :: a1 :: a2 :: a3 :: a4 :: a5 :: a6 :: a7 :: o :: o2 :: t) (vL x :: st) h Q := tk_lstore hd (tk_len rfl) (tk_hp (j0 := 7) rfl hn) k
theorem tk_aload8 {a0 a1 a2 a3 a4 a5 a6 a7 : Option tkV} {x : Nat} {t : List (Option tkV)} (hd : tkD C pc (.aload 8) 2 pc') (k : tkX G C d mc ms pc' (a0 :: a1 :: a2 :: a3 :: a4 :: a5 :: a6 :: a7 :: some (vR x) :: t) (vR x :: st) h Q) : tkX G C d mc ms pc (a0 :: a1 :: a2 :: a3 :: a4 :: a5 :: a6 :: a7 :: some (vR x) :: t) st h Q := tk_aload hd rfl k
theorem tk_astore8 {a0 a1 a2 a3 a4 a5 a6 a7 : Option tkV} {o : Option tkV} {x : Nat} {t : List (Option tkV)} (hd : tkD C pc (.astore 8) 2 pc') (hn : tkNL a7 = true) (k : tkX G C d mc ms pc' (a0 :: a1 :: a2 :: a3 :: a4 :: a5 :: a6 :: a7 :: some (vR x) :: t) st h Q) : tkX G C d mc ms pc (a0 :: a1 :: a2 :: a3 :: a4 :: a5 :: a6 :: a7 :: o :: t) (vR x :: st) h Q := tk_astore hd (tk_len rfl) (tk_hp (j0 := 7) rfl hn) k
theorem tk_iinc8 {a0 a1 a2 a3 a4 a5 a6 a7 : Option tkV} {n : Int} {x v : Int32} {t : List (Option tkV)} (hd : tkD C pc (.iinc 8 n) 3 pc') (hxv : x + Int32.ofInt n = v) (hn : tkNL a7 = true) (k : tkX G C d mc ms pc' (a0 :: a1 :: a2 :: a3 :: a4 :: a5 :: a6 :: a7 :: some (vI v) :: t) st h Q) : tkX G C d mc ms pc (a0 :: a1 :: a2 :: a3 :: a4 :: a5 :: a6 :: a7 :: some (vI x) :: t) st h Q := tk_iinc hd (tk_len rfl) rfl hxv (tk_hp (j0 := 7) rfl hn) k
theorem tk_iload9 {a0 a1 a2 a3 a4 a5 a6 a7 a8 : Option tkV} {x : Int32} {t : List (Option tkV)} (hd : tkD C pc (.iload 9) 2 pc') (k : tkX G C d mc ms pc' (a0 :: a1 :: a2 :: a3 :: a4 :: a5 :: a6 :: a7 :: a8 :: some (vI x) :: t) (vI x :: st) h Q) : tkX G C d mc ms pc (a0 :: a1 :: a2 :: a3 :: a4 :: a5 :: a6 :: a7 :: a8 :: some (vI x) :: t) st h Q := tk_iload hd rfl k
theorem tk_istore9 {a0 a1 a2 a3 a4 a5 a6 a7 a8 : Option tkV} {o : Option tkV} {x : Int32} {t : List (Option tkV)} (hd : tkD C pc (.istore 9) 2 pc') (hn : tkNL a8 = true) (k : tkX G C d mc ms pc' (a0 :: a1 :: a2 :: a3 :: a4 :: a5 :: a6 :: a7 :: a8 :: some (vI x) :: t) st h Q) : tkX G C d mc ms pc (a0 :: a1 :: a2 :: a3 :: a4 :: a5 :: a6 :: a7 :: a8 :: o :: t) (vI x :: st) h Q := tk_istore hd (tk_len rfl) (tk_hp (j0 := 8) rfl hn) k
theorem tk_lload9 {a0 a1 a2 a3 a4 a5 a6 a7 a8 : Option tkV} {x : Int64} {t : List (Option tkV)} (hd : tkD C pc (.lload 9) 2 pc') (k : tkX G C d mc ms pc' (a0 :: a1 :: a2 :: a3 :: a4 :: a5 :: a6 :: a7 :: a8 :: some (vL x) :: t) (vL x :: st) h Q) : tkX G C d mc ms pc (a0 :: a1 :: a2 :: a3 :: a4 :: a5 :: a6 :: a7 :: a8 :: some (vL x) :: t) st h Q := tk_lload hd rfl k
theorem tk_lstore9 {a0 a1 a2 a3 a4 a5 a6 a7 a8 : Option tkV} {o o2 : Option tkV} {x : Int64} {t : List (Option tkV)} (hd : tkD C pc (.lstore 9) 2 pc') (hn : tkNL a8 = true) (k : tkX G C d mc ms pc' (a0 :: a1 :: a2 :: a3 :: a4 :: a5 :: a6 :: a7 :: a8 :: some (vL x) :: none :: t) st h Q) : tkX G C d mc ms pc (a0 :: a1 :: a2 :: a3 :: a4 :: a5 :: a6 :: a7 :: a8 :: o :: o2 :: t) (vL x :: st) h Q := tk_lstore hd (tk_len rfl) (tk_hp (j0 := 8) rfl hn) k
theorem tk_aload9 {a0 a1 a2 a3 a4 a5 a6 a7 a8 : Option tkV} {x : Nat} {t : List (Option tkV)} (hd : tkD C pc (.aload 9) 2 pc') (k : tkX G C d mc ms pc' (a0 :: a1 :: a2 :: a3 :: a4 :: a5 :: a6 :: a7 :: a8 :: some (vR x) :: t) (vR x :: st) h Q) : tkX G C d mc ms pc (a0 :: a1 :: a2 :: a3 :: a4 :: a5 :: a6 :: a7 :: a8 :: some (vR x) :: t) st h Q := tk_aload hd rfl k
theorem tk_astore9 {a0 a1 a2 a3 a4 a5 a6 a7 a8 : Option tkV} {o : Option tkV} {x : Nat} {t : List (Option tkV)} (hd : tkD C pc (.astore 9) 2 pc') (hn : tkNL a8 = true) (k : tkX G C d mc ms pc' (a0 :: a1 :: a2 :: a3 :: a4 :: a5 :: a6 :: a7 :: a8 :: some (vR x) :: t) st h Q) : tkX G C d mc ms pc (a0 :: a1 :: a2 :: a3 :: a4 :: a5 :: a6 :: a7 :: a8 :: o :: t) (vR x :: st) h Q := tk_astore hd (tk_len rfl) (tk_hp (j0 := 8) rfl hn) k
theorem tk_iinc9 {a0 a1 a2 a3 a4 a5 a6 a7 a8 : Option tkV} {n : Int} {x v : Int32} {t : List (Option tkV)} (hd : tkD C pc (.iinc 9 n) 3 pc') (hxv : x + Int32.ofInt n = v) (hn : tkNL a8 = true) (k : tkX G C d mc ms pc' (a0 :: a1 :: a2 :: a3 :: a4 :: a5 :: a6 :: a7 :: a8 :: some (vI v) :: t) st h Q) : tkX G C d mc ms pc (a0 :: a1 :: a2 :: a3 :: a4 :: a5 :: a6 :: a7 :: a8 :: some (vI x) :: t) st h Q := tk_iinc hd (tk_len rfl) rfl hxv (tk_hp (j0 := 8) rfl hn) k
theorem tk_iload10 {a0 a1 a2 a3 a4 a5 a6 a7 a8 a9 : Option tkV} {x : Int32} {t : List (Option tkV)} (hd : tkD C pc (.iload 10) 2 pc') (k : tkX G C d mc ms pc' (a0 :: a1 :: a2 :: a3 :: a4 :: a5 :: a6 :: a7 :: a8 :: a9 :: some (vI x) :: t) (vI x :: st) h Q) : tkX G C d mc ms pc (a0 :: a1 :: a2 :: a3 :: a4 :: a5 :: a6 :: a7 :: a8 :: a9 :: some (vI x) :: t) st h Q := tk_iload hd rfl k
theorem tk_istore10 {a0 a1 a2 a3 a4 a5 a6 a7 a8 a9 : Option tkV} {o : Option tkV} {x : Int32} {t : List (Option tkV)} (hd : tkD C pc (.istore 10) 2 pc') (hn : tkNL a9 = true) (k : tkX G C d mc ms pc' (a0 :: a1 :: a2 :: a3 :: a4 :: a5 :: a6 :: a7 :: a8 :: a9 :: some (vI x) :: t) st h Q) : tkX G C d mc ms pc (a0 :: a1 :: a2 :: a3 :: a4 :: a5 :: a6 :: a7 :: a8 :: a9 :: o :: t) (vI x :: st) h Q := tk_istore hd (tk_len rfl) (tk_hp (j0 := 9) rfl hn) k
theorem tk_lload10 {a0 a1 a2 a3 a4 a5 a6 a7 a8 a9 : Option tkV} {x : Int64} {t : List (Option tkV)} (hd : tkD C pc (.lload 10) 2 pc') (k : tkX G C d mc ms pc' (a0 :: a1 :: a2 :: a3 :: a4 :: a5 :: a6 :: a7 :: a8 :: a9 :: some (vL x) :: t) (vL x :: st) h Q) : tkX G C d mc ms pc (a0 :: a1 :: a2 :: a3 :: a4 :: a5 :: a6 :: a7 :: a8 :: a9 :: some (vL x) :: t) st h Q := tk_lload hd rfl k
theorem tk_lstore10 {a0 a1 a2 a3 a4 a5 a6 a7 a8 a9 : Option tkV} {o o2 : Option tkV} {x : Int64} {t : List (Option tkV)} (hd : tkD C pc (.lstore 10) 2 pc') (hn : tkNL a9 = true) (k : tkX G C d mc ms pc' (a0 :: a1 :: a2 :: a3 :: a4 :: a5 :: a6 :: a7 :: a8 :: a9 :: some (vL x) :: none :: t) st h Q) : tkX G C d mc ms pc (a0 :: a1 :: a2 :: a3 :: a4 :: a5 :: a6 :: a7 :: a8 :: a9 :: o :: o2 :: t) (vL x :: st) h Q := tk_lstore hd (tk_len rfl) (tk_hp (j0 := 9) rfl hn) k
theorem tk_aload10 {a0 a1 a2 a3 a4 a5 a6 a7 a8 a9 : Option tkV} {x : Nat} {t : List (Option tkV)} (hd : tkD C pc (.aload 10) 2 pc') (k : tkX G C d mc ms pc' (a0 :: a1 :: a2 :: a3 :: a4 :: a5 :: a6 :: a7 :: a8 :: a9 :: some (vR x) :: t) (vR x :: st) h Q) : tkX G C d mc ms pc (a0 :: a1 :: a2 :: a3 :: a4 :: a5 :: a6 :: a7 :: a8 :: a9 :: some (vR x) :: t) st h Q := tk_aload hd rfl k
theorem tk_astore10 {a0 a1 a2 a3 a4 a5 a6 a7 a8 a9 : Option tkV} {o : Option tkV} {x : Nat} {t : List (Option tkV)} (hd : tkD C pc (.astore 10) 2 pc') (hn : tkNL a9 = true) (k : tkX G C d mc ms pc' (a0 :: a1 :: a2 :: a3 :: a4 :: a5 :: a6 :: a7 :: a8 :: a9 :: some (vR x) :: t) st h Q) : tkX G C d mc ms pc (a0 :: a1 :: a2 :: a3 :: a4 :: a5 :: a6 :: a7 :: a8 :: a9 :: o :: t) (vR x :: st) h Q := tk_astore hd (tk_len rfl) (tk_hp (j0 := 9) rfl hn) k
theorem tk_iinc10 {a0 a1 a2 a3 a4 a5 a6 a7 a8 a9 : Option tkV} {n : Int} {x v : Int32} {t : List (Option tkV)} (hd : tkD C pc (.iinc 10 n) 3 pc') (hxv : x + Int32.ofInt n = v) (hn : tkNL a9 = true) (k : tkX G C d mc ms pc' (a0 :: a1 :: a2 :: a3 :: a4 :: a5 :: a6 :: a7 :: a8 :: a9 :: some (vI v) :: t) st h Q) : tkX G C d mc ms pc (a0 :: a1 :: a2 :: a3 :: a4 :: a5 :: a6 :: a7 :: a8 :: a9 :: some (vI x) :: t) st h Q := tk_iinc hd (tk_len rfl) rfl hxv (tk_hp (j0 := 9) rfl hn) k
theorem tk_iload11 {a0 a1 a2 a3 a4 a5 a6 a7 a8 a9 a10 : Option tkV} {x : Int32} {t : List (Option tkV)} (hd : tkD C pc (.iload 11) 2 pc') (k : tkX G C d mc ms pc' (a0 :: a1 :: a2 :: a3 :: a4 :: a5 :: a6 :: a7 :: a8 :: a9 :: a10 :: some (vI x) :: t) (vI x :: st) h Q) : tkX G C d mc ms pc (a0 :: a1 :: a2 :: a3 :: a4 :: a5 :: a6 :: a7 :: a8 :: a9 :: a10 :: some (vI x) :: t) st h Q := tk_iload hd rfl k
theorem tk_istore11 {a0 a1 a2 a3 a4 a5 a6 a7 a8 a9 a10 : Option tkV} {o : Option tkV} {x : Int32} {t : List (Option tkV)} (hd : tkD C pc (.istore 11) 2 pc') (hn : tkNL a10 = true) (k : tkX G C d mc ms pc' (a0 :: a1 :: a2 :: a3 :: a4 :: a5 :: a6 :: a7 :: a8 :: a9 :: a10 :: some (vI x) :: t) st h Q) : tkX G C d mc ms pc (a0 :: a1 :: a2 :: a3 :: a4 :: a5 :: a6 :: a7 :: a8 :: a9 :: a10 :: o :: t) (vI x :: st) h Q := tk_istore hd (tk_len rfl) (tk_hp (j0 := 10) rfl hn) k
theorem tk_lload11 {a0 a1 a2 a3 a4 a5 a6 a7 a8 a9 a10 : Option tkV} {x : Int64} {t : List (Option tkV)} (hd : tkD C pc (.lload 11) 2 pc') (k : tkX G C d mc ms pc' (a0 :: a1 :: a2 :: a3 :: a4 :: a5 :: a6 :: a7 :: a8 :: a9 :: a10 :: some (vL x) :: t) (vL x :: st) h Q) : tkX G C d mc ms pc (a0 :: a1 :: a2 :: a3 :: a4 :: a5 :: a6 :: a7 :: a8 :: a9 :: a10 :: some (vL x) :: t) st h Q := tk_lload hd rfl k
theorem tk_lstore11 {a0 a1 a2 a3 a4 a5 a6 a7 a8 a9 a10 : Option tkV} {o o2 : Option tkV} {x : Int64} {t : List (Option tkV)} (hd : tkD C pc (.lstore 11) 2 pc') (hn : tkNL a10 = true) (k : tkX G C d mc ms pc' (a0 :: a1 :: a2 :: a3 :: a4 :: a5 :: a6 :: a7 :: a8 :: a9 :: a10 :: some (vL x) :: none :: t) st h Q) : tkX G C d mc ms pc (a0 :: a1 :: a2 :: a3 :: a4 :: a5 :: a6 :: a7 :: a8 :: a9 :: a10 :: o :: o2 :: t) (vL x :: st) h Q := tk_lstore hd (tk_len rfl) (tk_hp (j0 := 10) rfl hn) k
theorem tk_aload11 {a0 a1 a2 a3 a4 a5 a6 a7 a8 a9 a10 : Option tkV} {x : Nat} {t : List (Option tkV)} (hd : tkD C pc (.aload 11) 2 pc') (k : tkX G C d mc ms pc' (a0 :: a1 :: a2 :: a3 :: a4 :: a5 :: a6 :: a7 :: a8 :: a9 :: a10 :: some (vR x) :: t) (vR x :: st) h Q) : tkX G C d mc ms pc (a0 :: a1 :: a2 :: a3 :: a4 :: a5 :: a6 :: a7 :: a8 :: a9 :: a10 :: some (vR x) :: t) st h Q := tk_aload hd rfl k
theorem tk_astore11 {a0 a1 a2 a3 a4 a5 a6 a7 a8 a9 a10 : Option tkV} {o : Option tkV} {x : Nat} {t : List (Option tkV)} (hd : tkD C pc (.astore 11) 2 pc') (hn : tkNL a10 = true) (k : tkX G C d mc ms pc' (a0 :: a1 :: a2 :: a3 :: a4 :: a5 :: a6 :: a7 :: a8 :: a9 :: a10 :: some (vR x) :: t) st h Q) : tkX G C d mc ms pc (a0 :: a1 :: a2 :: a3 :: a4 :: a5 :: a6 :: a7 :: a8 :: a9 :: a10 :: o :: t) (vR x :: st) h Q := tk_astore hd (tk_len rfl) (tk_hp (j0 := 10) rfl hn) k
theorem tk_iinc11 {a0 a1 a2 a3 a4 a5 a6 a7 a8 a9 a10 : Option tkV} {n : Int} {x v : Int32} {t : List (Option tkV)} (hd : tkD C pc (.iinc 11 n) 3 pc') (hxv : x + Int32.ofInt n = v) (hn : tkNL a10 = true) (k : tkX G C d mc ms pc' (a0 :: a1 :: a2 :: a3 :: a4 :: a5 :: a6 :: a7 :: a8 :: a9 :: a10 :: some (vI v) :: t) st h Q) : tkX G C d mc ms pc (a0 :: a1 :: a2 :: a3 :: a4 :: a5 :: a6 :: a7 :: a8 :: a9 :: a10 :: some (vI x) :: t) st h Q := tk_iinc hd (tk_len rfl) rfl hxv (tk_hp (j0 := 10) rfl hn) k
theorem tk_iload12 {a0 a1 a2 a3 a4 a5 a6 a7 a8 a9 a10 a11 : Option tkV} {x : Int32} {t : List (Option tkV)} (hd : tkD C pc (.iload 12) 2 pc') (k : tkX G C d mc ms pc' (a0 :: a1 :: a2 :: a3 :: a4 :: a5 :: a6 :: a7 :: a8 :: a9 :: a10 :: a11 :: some (vI x) :: t) (vI x :: st) h Q) : tkX G C d mc ms pc (a0 :: a1 :: a2 :: a3 :: a4 :: a5 :: a6 :: a7 :: a8 :: a9 :: a10 :: a11 :: some (vI x) :: t) st h Q := tk_iload hd rfl k
theorem tk_istore12 {a0 a1 a2 a3 a4 a5 a6 a7 a8 a9 a10 a11 : Option tkV} {o : Option tkV} {x : Int32} {t : List (Option tkV)} (hd : tkD C pc (.istore 12) 2 pc') (hn : tkNL a11 = true) (k : tkX G C d mc ms pc' (a0 :: a1 :: a2 :: a3 :: a4 :: a5 :: a6 :: a7 :: a8 :: a9 :: a10 :: a11 :: some (vI x) :: t) st h Q) : tkX G C d mc ms pc (a0 :: a1 :: a2 :: a3 :: a4 :: a5 :: a6 :: a7 :: a8 :: a9 :: a10 :: a11 :: o :: t) (vI x :: st) h Q := tk_istore hd (tk_len rfl) (tk_hp (j0 := 11) rfl hn) k
theorem tk_lload12 {a0 a1 a2 a3 a4 a5 a6 a7 a8 a9 a10 a11 : Option tkV} {x : Int64} {t : List (Option tkV)} (hd : tkD C pc (.lload 12) 2 pc') (k : tkX G C d mc ms pc' (a0 :: a1 :: a2 :: a3 :: a4 :: a5 :: a6 :: a7 :: a8 :: a9 :: a10 :: a11 :: some (vL x) :: t) (vL x :: st) h Q) : tkX G C d mc ms pc (a0 :: a1 :: a2 :: a3 :: a4 :: a5 :: a6 :: a7 :: a8 :: a9 :: a10 :: a11 :: some (vL x) :: t) st h Q := tk_lload hd rfl k
theorem tk_lstore12 {a0 a1 a2 a3 a4 a5 a6 a7 a8 a9 a10 a11 : Option tkV} {o o2 : Option tkV} {x : Int64} {t : List (Option tkV)} (hd : tkD C pc (.lstore 12) 2 pc') (hn : tkNL a11 = true) (k : tkX G C d mc ms pc' (a0 :: a1 :: a2 :: a3 :: a4 :: a5 :: a6 :: a7 :: a8 :: a9 :: a10 :: a11 :: some (vL x) :: none :: t) st h Q) : tkX G C d mc ms pc (a0 :: a1 :: a2 :: a3 :: a4 :: a5 :: a6 :: a7 :: a8 :: a9 :: a10 :: a11 :: o :: o2 :: t) (vL x :: st) h Q := tk_lstore hd (tk_len rfl) (tk_hp (j0 := 11) rfl hn) k
theorem tk_aload12 {a0 a1 a2 a3 a4 a5 a6 a7 a8 a9 a10 a11 : Option tkV} {x : Nat} {t : List (Option tkV)} (hd : tkD C pc (.aload 12) 2 pc') (k : tkX G C d mc ms pc' (a0 :: a1 :: a2 :: a3 :: a4 :: a5 :: a6 :: a7 :: a8 :: a9 :: a10 :: a11 :: some (vR x) :: t) (vR x :: st) h Q) : tkX G C d mc ms pc (a0 :: a1 :: a2 :: a3 :: a4 :: a5 :: a6 :: a7 :: a8 :: a9 :: a10 :: a11 :: some (vR x) :: t) st h Q := tk_aload hd rfl k
theorem tk_astore12 {a0 a1 a2 a3 a4 a5 a6 a7 a8 a9 a10 a11 : Option tkV} {o : Option tkV} {x : Nat} {t : List (Option tkV)} (hd : tkD C pc (.astore 12) 2 pc') (hn : tkNL a11 = true) (k : tkX G C d mc ms pc' (a0 :: a1 :: a2 :: a3 :: a4 :: a5 :: a6 :: a7 :: a8 :: a9 :: a10 :: a11 :: some (vR x) :: t) st h Q) : tkX G C d mc ms pc (a0 :: a1 :: a2 :: a3 :: a4 :: a5 :: a6 :: a7 :: a8 :: a9 :: a10 :: a11 :: o :: t) (vR x :: st) h Q := tk_astore hd (tk_len rfl) (tk_hp (j0 := 11) rfl hn) k
theorem tk_iinc12 {a0 a1 a2 a3 a4 a5 a6 a7 a8 a9 a10 a11 : Option tkV} {n : Int} {x v : Int32} {t : List (Option tkV)} (hd : tkD C pc (.iinc 12 n) 3 pc') (hxv : x + Int32.ofInt n = v) (hn : tkNL a11 = true) (k : tkX G C d mc ms pc' (a0 :: a1 :: a2 :: a3 :: a4 :: a5 :: a6 :: a7 :: a8 :: a9 :: a10 :: a11 :: some (vI v) :: t) st h Q) : tkX G C d mc ms pc (a0 :: a1 :: a2 :: a3 :: a4 :: a5 :: a6 :: a7 :: a8 :: a9 :: a10 :: a11 :: some (vI x) :: t) st h Q := tk_iinc hd (tk_len rfl) rfl hxv (tk_hp (j0 := 11) rfl hn) k
theorem tk_iload13 {a0 a1 a2 a3 a4 a5 a6 a7 a8 a9 a10 a11 a12 : Option tkV} {x : Int32} {t : List (Option tkV)} (hd : tkD C pc (.iload 13) 2 pc') (k : tkX G C d mc ms pc' (a0 :: a1 :: a2 :: a3 :: a4 :: a5 :: a6 :: a7 :: a8 :: a9 :: a10 :: a11 :: a12 :: some (vI x) :: t) (vI x :: st) h Q) : tkX G C d mc ms pc (a0 :: a1 :: a2 :: a3 :: a4 :: a5 :: a6 :: a7 :: a8 :: a9 :: a10 :: a11 :: a12 :: some (vI x) :: t) st h Q := tk_iload hd rfl k
theorem tk_istore13 {a0 a1 a2 a3 a4 a5 a6 a7 a8 a9 a10 a11 a12 : Option tkV} {o : Option tkV} {x : Int32} {t : List (Option tkV)} (hd : tkD C pc (.istore 13) 2 pc') (hn : tkNL a12 = true) (k : tkX G C d mc ms pc' (a0 :: a1 :: a2 :: a3 :: a4 :: a5 :: a6 :: a7 :: a8 :: a9 :: a10 :: a11 :: a12 :: some (vI x) :: t) st h Q) : tkX G C d mc ms pc (a0 :: a1 :: a2 :: a3 :: a4 :: a5 :: a6 :: a7 :: a8 :: a9 :: a10 :: a11 :: a12 :: o :: t) (vI x :: st) h Q := tk_istore hd (tk_len rfl) (tk_hp (j0 := 12) rfl hn) k
theorem tk_lload13 {a0 a1 a2 a3 a4 a5 a6 a7 a8 a9 a10 a11 a12 : Option tkV} {x : Int64} {t : List (Option tkV)} (hd : tkD C pc (.lload 13) 2 pc') (k : tkX G C d mc ms pc' (a0 :: a1 :: a2 :: a3 :: a4 :: a5 :: a6 :: a7 :: a8 :: a9 :: a10 :: a11 :: a12 :: some (vL x) :: t) (vL x :: st) h Q) : tkX G C d mc ms pc (a0 :: a1 :: a2 :: a3 :: a4 :: a5 :: a6 :: a7 :: a8 :: a9 :: a10 :: a11 :: a12 :: some (vL x) :: t) st h Q := tk_lload hd rfl k
theorem tk_lstore13 {a0 a1 a2 a3 a4 a5 a6 a7 a8 a9 a10 a11 a12 : Option tkV} {o o2 : Option tkV} {x : Int64} {t : List (Option tkV)} (hd : tkD C pc (.lstore 13) 2 pc') (hn : tkNL a12 = true) (k : tkX G C d mc ms pc' (a0 :: a1 :: a2 :: a3 :: a4 :: a5 :: a6 :: a7 :: a8 :: a9 :: a10 :: a11 :: a12 :: some (vL x) :: none :: t) st h Q) : tkX G C d mc ms pc (a0 :: a1 :: a2 :: a3 :: a4 :: a5 :: a6 :: a7 :: a8 :: a9 :: a10 :: a11 :: a12 :: o :: o2 :: t) (vL x :: st) h Q := tk_lstore hd (tk_len rfl) (tk_hp (j0 := 12) rfl hn) k
theorem tk_aload13 {a0 a1 a2 a3 a4 a5 a6 a7 a8 a9 a10 a11 a12 : Option tkV} {x : Nat} {t : List (Option tkV)} (hd : tkD C pc (.aload 13) 2 pc') (k : tkX G C d mc ms pc' (a0 :: a1 :: a2 :: a3 :: a4 :: a5 :: a6 :: a7 :: a8 :: a9 :: a10 :: a11 :: a12 :: some (vR x) :: t) (vR x :: st) h Q) : tkX G C d mc ms pc (a0 :: a1 :: a2 :: a3 :: a4 :: a5 :: a6 :: a7 :: a8 :: a9 :: a10 :: a11 :: a12 :: some (vR x) :: t) st h Q := tk_aload hd rfl k
theorem tk_astore13 {a0 a1 a2 a3 a4 a5 a6 a7 a8 a9 a10 a11 a12 : Option tkV} {o : Option tkV} {x : Nat} {t : List (Option tkV)} (hd : tkD C pc (.astore 13) 2 pc') (hn : tkNL a12 = true) (k : tkX G C d mc ms pc' (a0 :: a1 :: a2 :: a3 :: a4 :: a5 :: a6 :: a7 :: a8 :: a9 :: a10 :: a11 :: a12 :: some (vR x) :: t) st h Q) : tkX G C d mc ms pc (a0 :: a1 :: a2 :: a3 :: a4 :: a5 :: a6 :: a7 :: a8 :: a9 :: a10 :: a11 :: a12 :: o :: t) (vR x :: st) h Q := tk_astore hd (tk_len rfl) (tk_hp (j0 := 12) rfl hn) k
theorem tk_iinc13 {a0 a1 a2 a3 a4 a5 a6 a7 a8 a9 a10 a11 a12 : Option tkV} {n : Int} {x v : Int32} {t : List (Option tkV)} (hd : tkD C pc (.iinc 13 n) 3 pc') (hxv : x + Int32.ofInt n = v) (hn : tkNL a12 = true) (k : tkX G C d mc ms pc' (a0 :: a1 :: a2 :: a3 :: a4 :: a5 :: a6 :: a7 :: a8 :: a9 :: a10 :: a11 :: a12 :: some (vI v) :: t) st h Q) : tkX G C d mc ms pc (a0 :: a1 :: a2 :: a3 :: a4 :: a5 :: a6 :: a7 :: a8 :: a9 :: a10 :: a11 :: a12 :: some (vI x) :: t) st h Q := tk_iinc hd (tk_len rfl) rfl hxv (tk_hp (j0 := 12) rfl hn) k
theorem tk_iload14 {a0 a1 a2 a3 a4 a5 a6 a7 a8 a9 a10 a11 a12 a13 : Option tkV} {x : Int32} {t : List (Option tkV)} (hd : tkD C pc (.iload 14) 2 pc') (k : tkX G C d mc ms pc' (a0 :: a1 :: a2 :: a3 :: a4 :: a5 :: a6 :: a7 :: a8 :: a9 :: a10 :: a11 :: a12 :: a13 :: some (vI x) :: t) (vI x :: st) h Q) : tkX G C d mc ms pc (a0 :: a1 :: a2 :: a3 :: a4 :: a5 :: a6 :: a7 :: a8 :: a9 :: a10 :: a11 :: a12 :: a13 :: some (vI x) :: t) st h Q := tk_iload hd rfl k
theorem tk_istore14 {a0 a1 a2 a3 a4 a5 a6 a7 a8 a9 a10 a11 a12 a13 : Option tkV} {o : Option tkV} {x : Int32} {t : List (Option tkV)} (hd : tkD C pc (.istore 14) 2 pc') (hn : tkNL a13 = true) (k : tkX G C d mc ms pc' (a0 :: a1 :: a2 :: a3 :: a4 :: a5 :: a6 :: a7 :: a8 :: a9 :: a10 :: a11 :: a12 :: a13 :: some (vI x) :: t) st h Q) : tkX G C d mc ms pc (a0 :: a1 :: a2 :: a3 :: a4 :: a5 :: a6 :: a7 :: a8 :: a9 :: a10 :: a11 :: a12 :: a13 :: o :: t) (vI x :: st) h Q := tk_istore hd (tk_len rfl) (tk_hp (j0 := 13) rfl hn) k
theorem tk_lload14 {a0 a1 a2 a3 a4 a5 a6 a7 a8 a9 a10 a11 a12 a13 : Option tkV} {x : Int64} {t : List (Option tkV)} (hd : tkD C pc (.lload 14) 2 pc') (k : tkX G C d mc ms pc' (a0 :: a1 :: a2 :: a3 :: a4 :: a5 :: a6 :: a7 :: a8 :: a9 :: a10 :: a11 :: a12 :: a13 :: some (vL x) :: t) (vL x :: st) h Q) : tkX G C d mc ms pc (a0 :: a1 :: a2 :: a3 :: a4 :: a5 :: a6 :: a7 :: a8 :: a9 :: a10 :: a11 :: a12 :: a13 :: some (vL x) :: t) st h Q := tk_lload hd rfl k
theorem tk_lstore14 {a0 a1 a2 a3 a4 a5 a6 a7 a8 a9 a10 a11 a12 a13 : Option tkV} {o o2 : Option tkV} {x : Int64} {t : List (Option tkV)} (hd : tkD C pc (.lstore 14) 2 pc') (hn : tkNL a13 = true) (k : tkX G C d mc ms pc' (a0 :: a1 :: a2 :: a3 :: a4 :: a5 :: a6 :: a7 :: a8 :: a9 :: a10 :: a11 :: a12 :: a13 :: some (vL x) :: none :: t) st h Q) : tkX G C d mc ms pc (a0 :: a1 :: a2 :: a3 :: a4 :: a5 :: a6 :: a7 :: a8 :: a9 :: a10 :: a11 :: a12 :: a13 :: o :: o2 :: t) (vL x :: st) h Q := tk_lstore hd (tk_len rfl) (tk_hp (j0 := 13) rfl hn) k
theorem tk_aload14 {a0 a1 a2 a3 a4 a5 a6 a7 a8 a9 a10 a11 a12 a13 : Option tkV} {x : Nat} {t : List (Option tkV)} (hd : tkD C pc (.aload 14) 2 pc') (k : tkX G C d mc ms pc' (a0 :: a1 :: a2 :: a3 :: a4 :: a5 :: a6 :: a7 :: a8 :: a9 :: a10 :: a11 :: a12 :: a13 :: some (vR x) :: t) (vR x :: st) h Q) : tkX G C d mc ms pc (a0 :: a1 :: a2 :: a3 :: a4 :: a5 :: a6 :: a7 :: a8 :: a9 :: a10 :: a11 :: a12 :: a13 :: some (vR x) :: t) st h Q := tk_aload hd rfl k
theorem tk_astore14 {a0 a1 a2 a3 a4 a5 a6 a7 a8 a9 a10 a11 a12 a13 : Option tkV} {o : Option tkV} {x : Nat} {t : List (Option tkV)} (hd : tkD C pc (.astore 14) 2 pc') (hn : tkNL a13 = true) (k : tkX G C d mc ms pc' (a0 :: a1 :: a2 :: a3 :: a4 :: a5 :: a6 :: a7 :: a8 :: a9 :: a10 :: a11 :: a12 :: a13 :: some (vR x) :: t) st h Q) : tkX G C d mc ms pc (a0 :: a1 :: a2 :: a3 :: a4 :: a5 :: a6 :: a7 :: a8 :: a9 :: a10 :: a11 :: a12 :: a13 :: o :: t) (vR x :: st) h Q := tk_astore hd (tk_len rfl) (tk_hp (j0 := 13) rfl hn) k
theorem tk_iinc14 {a0 a1 a2 a3 a4 a5 a6 a7 a8 a9 a10 a11 a12 a13 : Option tkV} {n : Int} {x v : Int32} {t : List (Option tkV)} (hd : tkD C pc (.iinc 14 n) 3 pc') (hxv : x + Int32.ofInt n = v) (hn : tkNL a13 = true) (k : tkX G C d mc ms pc' (a0 :: a1 :: a2 :: a3 :: a4 :: a5 :: a6 :: a7 :: a8 :: a9 :: a10 :: a11 :: a12 :: a13 :: some (vI v) :: t) st h Q) : tkX G C d mc ms pc (a0 :: a1 :: a2 :: a3 :: a4 :: a5 :: a6 :: a7 :: a8 :: a9 :: a10 :: a11 :: a12 :: a13 :: some (vI x) :: t) st h Q := tk_iinc hd (tk_len rfl) rfl hxv (tk_hp (j0 := 13) rfl hn) k
theorem tk_iload15 {a0 a1 a2 a3 a4 a5 a6 a7 a8 a9 a10 a11 a12 a13 a14 : Option tkV} {x : Int32} {t : List (Option tkV)} (hd : tkD C pc (.iload 15) 2 pc') (k : tkX G C d mc ms pc' (a0 :: a1 :: a2 :: a3 :: a4 :: a5 :: a6 :: a7 :: a8 :: a9 :: a10 :: a11 :: a12 :: a13 :: a14 :: some (vI x) :: t) (vI x :: st) h Q) : tkX G C d mc ms pc (a0 :: a1 :: a2 :: a3 :: a4 :: a5 :: a6 :: a7 :: a8 :: a9 :: a10 :: a11 :: a12 :: a13 :: a14 :: some (vI x) :: t) st h Q := tk_iload hd rfl k
theorem tk_istore15 {a0 a1 a2 a3 a4 a5 a6 a7 a8 a9 a10 a11 a12 a13 a14 : Option tkV} {o : Option tkV} {x : Int32} {t : List (Option tkV)} (hd : tkD C pc (.istore 15) 2 pc') (hn : tkNL a14 = true) (k : tkX G C d mc ms pc' (a0 :: a1 :: a2 :: a3 :: a4 :: a5 :: a6 :: a7 :: a8 :: a9 :: a10 :: a11 :: a12 :: a13 :: a14 :: some (vI x) :: t) st h Q) : tkX G C d mc ms pc (a0 :: a1 :: a2 :: a3 :: a4 :: a5 :: a6 :: a7 :: a8 :: a9 :: a10 :: a11 :: a12 :: a13 :: a14 :: o :: t) (vI x :: st) h Q := tk_istore hd (tk_len rfl) (tk_hp (j0 := 14) rfl hn) k
theorem tk_lload15 {a0 a1 a2 a3 a4 a5 a6 a7 a8 a9 a10 a11 a12 a13 a14 : Option tkV} {x : Int64} {t : List (Option tkV)} (hd : tkD C pc (.lload 15) 2 pc') (k : tkX G C d mc ms pc' (a0 :: a1 :: a2 :: a3 :: a4 :: a5 :: a6 :: a7 :: a8 :: a9 :: a10 :: a11 :: a12 :: a13 :: a14 :: some (vL x) :: t) (vL x :: st) h Q) : tkX G C d mc ms pc (a0 :: a1 :: a2 :: a3 :: a4 :: a5 :: a6 :: a7 :: a8 :: a9 :: a10 :: a11 :: a12 :: a13 :: a14 :: some (vL x) :: t) st h Q := tk_lload hd rfl k
theorem tk_lstore15 {a0 a1 a2 a3 a4 a5 a6 a7 a8 a9 a10 a11 a12 a13 a14 : Option tkV} {o o2 : Option tkV} {x : Int64} {t : List (Option tkV)} (hd : tkD C pc (.lstore 15) 2 pc') (hn : tkNL a14 = true) (k : tkX G C d mc ms pc' (a0 :: a1 :: a2 :: a3 :: a4 :: a5 :: a6 :: a7 :: a8 :: a9 :: a10 :: a11 :: a12 :: a13 :: a14 :: some (vL x) :: none :: t) st h Q) : tkX G C d mc ms pc (a0 :: a1 :: a2 :: a3 :: a4 :: a5 :: a6 :: a7 :: a8 :: a9 :: a10 :: a11 :: a12 :: a13 :: a14 :: o :: o2 :: t) (vL x :: st) h Q := tk_lstore hd (tk_len rfl) (tk_hp (j0 := 14) rfl hn) k
theorem tk_aload15 {a0 a1 a2 a3 a4 a5 a6 a7 a8 a9 a10 a11 a12 a13 a14 : Option tkV} {x : Nat} {t : List (Option tkV)} (hd : tkD C pc (.aload 15) 2 pc') (k : tkX G C d mc ms pc' (a0 :: a1 :: a2 :: a3 :: a4 :: a5 :: a6 :: a7 :: a8 :: a9 :: a10 :: a11 :: a12 :: a13 :: a14 :: some (vR x) :: t) (vR x :: st) h Q) : tkX G C d mc ms pc (a0 :: a1 :: a2 :: a3 :: a4 :: a5 :: a6 :: a7 :: a8 :: a9 :: a10 :: a11 :: a12 :: a13 :: a14 :: some (vR x) :: t) st h Q := tk_aload hd rfl k
theorem tk_astore15 {a0 a1 a2 a3 a4 a5 a6 a7 a8 a9 a10 a11 a12 a13 a14 : Option tkV} {o : Option tkV} {x : Nat} {t : List (Option tkV)} (hd : tkD C pc (.astore 15) 2 pc') (hn : tkNL a14 = true) (k : tkX G C d mc ms pc' (a0 :: a1 :: a2 :: a3 :: a4 :: a5 :: a6 :: a7 :: a8 :: a9 :: a10 :: a11 :: a12 :: a13 :: a14 :: some (vR x) :: t) st h Q) : tkX G C d mc ms pc (a0 :: a1 :: a2 :: a3 :: a4 :: a5 :: a6 :: a7 :: a8 :: a9 :: a10 :: a11 :: a12 :: a13 :: a14 :: o :: t) (vR x :: st) h Q := tk_astore hd (tk_len rfl) (tk_hp (j0 := 14) rfl hn) k
theorem tk_iinc15 {a0 a1 a2 a3 a4 a5 a6 a7 a8 a9 a10 a11 a12 a13 a14 : Option tkV} {n : Int} {x v : Int32} {t : List (Option tkV)} (hd : tkD C pc (.iinc 15 n) 3 pc') (hxv : x + Int32.ofInt n = v) (hn : tkNL a14 = true) (k : tkX G C d mc ms pc' (a0 :: a1 :: a2 :: a3 :: a4 :: a5 :: a6 :: a7 :: a8 :: a9 :: a10 :: a11 :: a12 :: a13 :: a14 :: some (vI v) :: t) st h Q) : tkX G C d mc ms pc (a0 :: a1 :: a2 :: a3 :: a4 :: a5 :: a6 :: a7 :: a8 :: a9 :: a10 :: a11 :: a12 :: a13 :: a14 :: some (vI x) :: t) st h Q := tk_iinc hd (tk_len rfl) rfl hxv (tk_hp (j0 := 14) rfl hn) k
theorem tk_iload16 {a0 a1 a2 a3 a4 a5 a6 a7 a8 a9 a10 a11 a12 a13 a14 a15 : Option tkV} {x : Int32} {t : List (Option tkV)} (hd : tkD C pc (.iload 16) 2 pc') (k : tkX G C d mc ms pc' (a0 :: a1 :: a2 :: a3 :: a4 :: a5 :: a6 :: a7 :: a8 :: a9 :: a10 :: a11 :: a12 :: a13 :: a14 :: a15 :: some (vI x) :: t) (vI x :: st) h Q) : tkX G C d mc ms pc (a0 :: a1 :: a2 :: a3 :: a4 :: a5 :: a6 :: a7 :: a8 :: a9 :: a10 :: a11 :: a12 :: a13 :: a14 :: a15 :: some (vI x) :: t) st h Q := tk_iload hd rfl k
theorem tk_istore16 {a0 a1 a2 a3 a4 a5 a6 a7 a8 a9 a10 a11 a12 a13 a14 a15 : Option tkV} {o : Option tkV} {x : Int32} {t : List (Option tkV)} (hd : tkD C pc (.istore 16) 2 pc') (hn : tkNL a15 = true) (k : tkX G C d mc ms pc' (a0 :: a1 :: a2 :: a3 :: a4 :: a5 :: a6 :: a7 :: a8 :: a9 :: a10 :: a11 :: a12 :: a13 :: a14 :: a15 :: some (vI x) :: t) st h Q) : tkX G C d mc ms pc (a0 :: a1 :: a2 :: a3 :: a4 :: a5 :: a6 :: a7 :: a8 :: a9 :: a10 :: a11 :: a12 :: a13 :: a14 :: a15 :: o :: t) (vI x :: st) h Q := tk_istore hd (tk_len rfl) (tk_hp (j0 := 15) rfl hn) k
theorem tk_lload16 {a0 a1 a2 a3 a4 a5 a6 a7 a8 a9 a10 a11 a12 a13 a14 a15 : Option tkV} {x : Int64} {t : List (Option tkV)} (hd : tkD C pc (.lload 16) 2 pc') (k : tkX G C d mc ms pc' (a0 :: a1 :: a2 :: a3 :: a4 :: a5 :: a6 :: a7 :: a8 :: a9 :: a10 :: a11 :: a12 :: a13 :: a14 :: a15 :: some (vL x) :: t) (vL x :: st) h Q) : tkX G C d mc ms pc (a0 :: a1 :: a2 :: a3 :: a4 :: a5 :: a6 :: a7 :: a8 :: a9 :: a10 :: a11 :: a12 :: a13 :: a14 :: a15 :: some (vL x) :: t) st h Q := tk_lload hd rfl k
theorem tk_lstore16 {a0 a1 a2 a3 a4 a5 a6 a7 a8 a9 a10 a11 a12 a13 a14 a15 : Option tkV} {o o2 : Option tkV} {x : Int64} {t : List (Option tkV)} (hd : tkD C pc (.lstore 16) 2 pc') (hn : tkNL a15 = true) (k : tkX G C d mc ms pc' (a0 :: a1 :: a2 :: a3 :: a4 :: a5 :: a6 :: a7 :: a8 :: a9 :: a10 :: a11 :: a12 :: a13 :: a14 :: a15 :: some (vL x) :: none :: t) st h Q) : tkX G C d mc ms pc (a0 :: a1 :: a2 :: a3 :: a4 :: a5 :: a6 :: a7 :: a8 :: a9 :: a10 :: a11 :: a12 :: a13 :: a14 :: a15 :: o :: o2 :: t) (vL x :: st) h Q := tk_lstore hd (tk_len rfl) (tk_hp (j0 := 15) rfl hn) k
theorem tk_aload16 {a0 a1 a2 a3 a4 a5 a6 a7 a8 a9 a10 a11 a12 a13 a14 a15 : Option tkV} {x : Nat} {t : List (Option tkV)} (hd : tkD C pc (.aload 16) 2 pc') (k : tkX G C d mc ms pc' (a0 :: a1 :: a2 :: a3 :: a4 :: a5 :: a6 :: a7 :: a8 :: a9 :: a10 :: a11 :: a12 :: a13 :: a14 :: a15 :: some (vR x) :: t) (vR x :: st) h Q) : tkX G C d mc ms pc (a0 :: a1 :: a2 :: a3 :: a4 :: a5 :: a6 :: a7 :: a8 :: a9 :: a10 :: a11 :: a12 :: a13 :: a14 :: a15 :: some (vR x) :: t) st h Q := tk_aload hd rfl k
theorem tk_astore16 {a0 a1 a2 a3 a4 a5 a6 a7 a8 a9 a10 a11 a12 a13 a14 a15 : Option tkV} {o : Option tkV} {x : Nat} {t : List (Option tkV)} (hd : tkD C pc (.astore 16) 2 pc') (hn : tkNL a15 = true) (k : tkX G C d mc ms pc' (a0 :: a1 :: a2 :: a3 :: a4 :: a5 :: a6 :: a7 :: a8 :: a9 :: a10 :: a11 :: a12 :: a13 :: a14 :: a15 :: some (vR x) :: t) st h Q) : tkX G C d mc ms pc (a0 :: a1 :: a2 :: a3 :: a4 :: a5 :: a6 :: a7 :: a8 :: a9 :: a10 :: a11 :: a12 :: a13 :: a14 :: a15 :: o :: t) (vR x :: st) h Q := tk_astore hd (tk_len rfl) (tk_hp (j0 := 15) rfl hn) k
theorem tk_iinc16 {a0 a1 a2 a3 a4 a5 a6 a7 a8 a9 a10 a11 a12 a13 a14 a15 : Option tkV} {n : Int} {x v : Int32} {t : List (Option tkV)} (hd : tkD C pc (.iinc 16 n) 3 pc') (hxv : x + Int32.ofInt n = v) (hn : tkNL a15 = true) (k : tkX G C d mc ms pc' (a0 :: a1 :: a2 :: a3 :: a4 :: a5 :: a6 :: a7 :: a8 :: a9 :: a10 :: a11 :: a12 :: a13 :: a14 :: a15 :: some (vI v) :: t) st h Q) : tkX G C d mc ms pc (a0 :: a1 :: a2 :: a3 :: a4 :: a5 :: a6 :: a7 :: a8 :: a9 :: a10 :: a11 :: a12 :: a13 :: a14 :: a15 :: some (vI x) :: t) st h Q := tk_iinc hd (tk_len rfl) rfl hxv (tk_hp (j0 := 15) rfl hn) k
theorem tk_iload17 {a0 a1 a2 a3 a4 a5 a6 a7 a8 a9 a10 a11 a12 a13 a14 a15 a16 : Option tkV} {x : Int32} {t : List (Option tkV)} (hd : tkD C pc (.iload 17) 2 pc') (k : tkX G C d mc ms pc' (a0 :: a1 :: a2 :: a3 :: a4 :: a5 :: a6 :: a7 :: a8 :: a9 :: a10 :: a11 :: a12 :: a13 :: a14 :: a15 :: a16 :: some (vI x) :: t) (vI x :: st) h Q) : tkX G C d mc ms pc (a0 :: a1 :: a2 :: a3 :: a4 :: a5 :: a6 :: a7 :: a8 :: a9 :: a10 :: a11 :: a12 :: a13 :: a14 :: a15 :: a16 :: some (vI x) :: t) st h Q := tk_iload hd rfl k
theorem tk_istore17 {a0 a1 a2 a3 a4 a5 a6 a7 a8 a9 a10 a11 a12 a13 a14 a15 a16 : Option tkV} {o : Option tkV} {x : Int32} {t : List (Option tkV)} (hd : tkD C pc (.istore 17) 2 pc') (hn : tkNL a16 = true) (k : tkX G C d mc ms pc' (a0 :: a1 :: a2 :: a3 :: a4 :: a5 :: a6 :: a7 :: a8 :: a9 :: a10 :: a11 :: a12 :: a13 :: a14 :: a15 :: a16 :: some (vI x) :: t) st h Q) : tkX G C d mc ms pc (a0 :: a1 :: a2 :: a3 :: a4 :: a5 :: a6 :: a7 :: a8 :: a9 :: a10 :: a11 :: a12 :: a13 :: a14 :: a15 :: a16 :: o :: t) (vI x :: st) h Q := tk_istore hd (tk_len rfl) (tk_hp (j0 := 16) rfl hn) k
theorem tk_lload17 {a0 a1 a2 a3 a4 a5 a6 a7 a8 a9 a10 a11 a12 a13 a14 a15 a16 : Option tkV} {x : Int64} {t : List (Option tkV)} (hd : tkD C pc (.lload 17) 2 pc') (k : tkX G C d mc ms pc' (a0 :: a1 :: a2 :: a3 :: a4 :: a5 :: a6 :: a7 :: a8 :: a9 :: a10 :: a11 :: a12 :: a13 :: a14 :: a15 :: a16 :: some (vL x) :: t) (vL x :: st) h Q) : tkX G C d mc ms pc (a0 :: a1 :: a2 :: a3 :: a4 :: a5 :: a6 :: a7 :: a8 :: a9 :: a10 :: a11 :: a12 :: a13 :: a14 :: a15 :: a16 :: some (vL x) :: t) st h Q := tk_lload hd rfl k
theorem tk_lstore17 {a0 a1 a2 a3 a4 a5 a6 a7 a8 a9 a10 a11 a12 a13 a14 a15 a16 : Option tkV} {o o2 : Option tkV} {x : Int64} {t : List (Option tkV)} (hd : tkD C pc (.lstore 17) 2 pc') (hn : tkNL a16 = true) (k : tkX G C d mc ms pc' (a0 :: a1 :: a2 :: a3 :: a4 :: a5 :: a6 :: a7 :: a8 :: a9 :: a10 :: a11 :: a12 :: a13 :: a14 :: a15 :: a16 :: some (vL x) :: none :: t) st h Q) : tkX G C d mc ms pc (a0 :: a1 :: a2 :: a3 :: a4 :: a5 :: a6 :: a7 :: a8 :: a9 :: a10 :: a11 :: a12 :: a13 :: a14 :: a15 :: a16 :: o :: o2 :: t) (vL x :: st) h Q := tk_lstore hd (tk_len rfl) (tk_hp (j0 := 16) rfl hn) k
theorem tk_aload17 {a0 a1 a2 a3 a4 a5 a6 a7 a8 a9 a10 a11 a12 a13 a14 a15 a16 : Option tkV} {x : Nat} {t : List (Option tkV)} (hd : tkD C pc (.aload 17) 2 pc') (k : tkX G C d mc ms pc' (a0 :: a1 :: a2 :: a3 :: a4 :: a5 :: a6 :: a7 :: a8 :: a9 :: a10 :: a11 :: a12 :: a13 :: a14 :: a15 :: a16 :: some (vR x) :: t) (vR x :: st) h Q) : tkX G C d mc ms pc (a0 :: a1 :: a2 :: a3 :: a4 :: a5 :: a6 :: a7 :: a8 :: a9 :: a10 :: a11 :: a12 :: a13 :: a14 :: a15 :: a16 :: some (vR x) :: t) st h Q := tk_aload hd rfl k
theorem tk_astore17 {a0 a1 a2 a3 a4 a5 a6 a7 a8 a9 a10 a11 a12 a13 a14 a15 a16 : Option tkV} {o : Option tkV} {x : Nat} {t : List (Option tkV)} (hd : tkD C pc (.astore 17) 2 pc') (hn : tkNL a16 = true) (k : tkX G C d mc ms pc' (a0 :: a1 :: a2 :: a3 :: a4 :: a5 :: a6 :: a7 :: a8 :: a9 :: a10 :: a11 :: a12 :: a13 :: a14 :: a15 :: a16 :: some (vR x) :: t) st h Q) : tkX G C d mc ms pc (a0 :: a1 :: a2 :: a3 :: a4 :: a5 :: a6 :: a7 :: a8 :: a9 :: a10 :: a11 :: a12 :: a13 :: a14 :: a15 :: a16 :: o :: t) (vR x :: st) h Q := tk_astore hd (tk_len rfl) (tk_hp (j0 := 16) rfl hn) k
theorem tk_iinc17 {a0 a1 a2 a3 a4 a5 a6 a7 a8 a9 a10 a11 a12 a13 a14 a15 a16 : Option tkV} {n : Int} {x v : Int32} {t : List (Option tkV)} (hd : tkD C pc (.iinc 17 n) 3 pc') (hxv : x + Int32.ofInt n = v) (hn : tkNL a16 = true) (k : tkX G C d mc ms pc' (a0 :: a1 :: a2 :: a3 :: a4 :: a5 :: a6 :: a7 :: a8 :: a9 :: a10 :: a11 :: a12 :: a13 :: a14 :: a15 :: a16 :: some (vI v) :: t) st h Q) : tkX G C d mc ms pc (a0 :: a1 :: a2 :: a3 :: a4 :: a5 :: a6 :: a7 :: a8 :: a9 :: a10 :: a11 :: a12 :: a13 :: a14 :: a15 :: a16 :: some (vI x) :: t) st h Q := tk_iinc hd (tk_len rfl) rfl hxv (tk_hp (j0 := 16) rfl hn) k
theorem tk_iload18 {a0 a1 a2 a3 a4 a5 a6 a7 a8 a9 a10 a11 a12 a13 a14 a15 a16 a17 : Option tkV} {x : Int32} {t : List (Option tkV)} (hd : tkD C pc (.iload 18) 2 pc') (k : tkX G C d mc ms pc' (a0 :: a1 :: a2 :: a3 :: a4 :: a5 :: a6 :: a7 :: a8 :: a9 :: a10 :: a11 :: a12 :: a13 :: a14 :: a15 :: a16 :: a17 :: some (vI x) :: t) (vI x :: st) h Q) : tkX G C d mc ms pc (a0 :: a1 :: a2 :: a3 :: a4 :: a5 :: a6 :: a7 :: a8 :: a9 :: a10 :: a11 :: a12 :: a13 :: a14 :: a15 :: a16 :: a17 :: some (vI x) :: t) st h Q := tk_iload hd rfl k
theorem tk_istore18 {a0 a1 a2 a3 a4 a5 a6 a7 a8 a9 a10 a11 a12 a13 a14 a15 a16 a17 : Option tkV} {o : Option tkV} {x : Int32} {t : List (Option tkV)} (hd : tkD C pc (.istore 18) 2 pc') (hn : tkNL a17 = true) (k : tkX G C d mc ms pc' (a0 :: a1 :: a2 :: a3 :: a4 :: a5 :: a6 :: a7 :: a8 :: a9 :: a10 :: a11 :: a12 :: a13 :: a14 :: a15 :: a16 :: a17 :: some (vI x) :: t) st h Q) : tkX G C d mc ms pc (a0 :: a1 :: a2 :: a3 :: a4 :: a5 :: a6 :: a7 :: a8 :: a9 :: a10 :: a11 :: a12 :: a13 :: a14 :: a15 :: a16 :: a17 :: o :: t) (vI x :: st) h Q := tk_istore hd (tk_len rfl) (tk_hp (j0 := 17) rfl hn) k
theorem tk_lload18 {a0 a1 a2 a3 a4 a5 a6 a7 a8 a9 a10 a11 a12 a13 a14 a15 a16 a17 : Option tkV} {x : Int64} {t : List (Option tkV)} (hd : tkD C pc (.lload 18) 2 pc') (k : tkX G C d mc ms pc' (a0 :: a1 :: a2 :: a3 :: a4 :: a5 :: a6 :: a7 :: a8 :: a9 :: a10 :: a11 :: a12 :: a13 :: a14 :: a15 :: a16 :: a17 :: some (vL x) :: t) (vL x :: st) h Q) : tkX G C d mc ms pc (a0 :: a1 :: a2 :: a3 :: a4 :: a5 :: a6 :: a7 :: a8 :: a9 :: a10 :: a11 :: a12 :: a13 :: a14 :: a15 :: a16 :: a17 :: some (vL x) :: t) st h Q := tk_lload hd rfl k
theorem tk_lstore18 {a0 a1 a2 a3 a4 a5 a6 a7 a8 a9 a10 a11 a12 a13 a14 a15 a16 a17 : Option tkV} {o o2 : Option tkV} {x : Int64} {t : List (Option tkV)} (hd : tkD C pc (.lstore 18) 2 pc') (hn : tkNL a17 = true) (k : tkX G C d mc ms pc' (a0 :: a1 :: a2 :: a3 :: a4 :: a5 :: a6 :: a7 :: a8 :: a9 :: a10 :: a11 :: a12 :: a13 :: a14 :: a15 :: a16 :: a17 :: some (vL x) :: none :: t) st h Q) : tkX G C d mc ms pc (a0 :: a1 :: a2 :: a3 :: a4 :: a5 :: a6 :: a7 :: a8 :: a9 :: a10 :: a11 :: a12 :: a13 :: a14 :: a15 :: a16 :: a17 :: o :: o2 :: t) (vL x :: st) h Q := tk_lstore hd (tk_len rfl) (tk_hp (j0 := 17) rfl hn) k
theorem tk_aload18 {a0 a1 a2 a3 a4 a5 a6 a7 a8 a9 a10 a11 a12 a13 a14 a15 a16 a17 : Option tkV} {x : Nat} {t : List (Option tkV)} (hd : tkD C pc (.aload 18) 2 pc') (k : tkX G C d mc ms pc' (a0 :: a1 :: a2 :: a3 :: a4 :: a5 :: a6 :: a7 :: a8 :: a9 :: a10 :: a11 :: a12 :: a13 :: a14 :: a15 :: a16 :: a17 :: some (vR x) :: t) (vR x :: st) h Q) : tkX G C d mc ms pc (a0 :: a1 :: a2 :: a3 :: a4 :: a5 :: a6 :: a7 :: a8 :: a9 :: a10 :: a11 :: a12 :: a13 :: a14 :: a15 :: a16 :: a17 :: some (vR x) :: t) st h Q := tk_aload hd rfl k
theorem tk_astore18 {a0 a1 a2 a3 a4 a5 a6 a7 a8 a9 a10 a11 a12 a13 a14 a15 a16 a17 : Option tkV} {o : Option tkV} {x : Nat} {t : List (Option tkV)} (hd : tkD C pc (.astore 18) 2 pc') (hn : tkNL a17 = true) (k : tkX G C d mc ms pc' (a0 :: a1 :: a2 :: a3 :: a4 :: a5 :: a6 :: a7 :: a8 :: a9 :: a10 :: a11 :: a12 :: a13 :: a14 :: a15 :: a16 :: a17 :: some (vR x) :: t) st h Q) : tkX G C d mc ms pc (a0 :: a1 :: a2 :: a3 :: a4 :: a5 :: a6 :: a7 :: a8 :: a9 :: a10 :: a11 :: a12 :: a13 :: a14 :: a15 :: a16 :: a17 :: o :: t) (vR x :: st) h Q := tk_astore hd (tk_len rfl) (tk_hp (j0 := 17) rfl hn) k
theorem tk_iinc18 {a0 a1 a2 a3 a4 a5 a6 a7 a8 a9 a10 a11 a12 a13 a14 a15 a16 a17 : Option tkV} {n : Int} {x v : Int32} {t : List (Option tkV)} (hd : tkD C pc (.iinc 18 n) 3 pc') (hxv : x + Int32.ofInt n = v) (hn : tkNL a17 = true) (k : tkX G C d mc ms pc' (a0 :: a1 :: a2 :: a3 :: a4 :: a5 :: a6 :: a7 :: a8 :: a9 :: a10 :: a11 :: a12 :: a13 :: a14 :: a15 :: a16 :: a17 :: some (vI v) :: t) st h Q) : tkX G C d mc ms pc (a0 :: a1 :: a2 :: a3 :: a4 :: a5 :: a6 :: a7 :: a8 :: a9 :: a10 :: a11 :: a12 :: a13 :: a14 :: a15 :: a16 :: a17 :: some (vI x) :: t) st h Q := tk_iinc hd (tk_len rfl) rfl hxv (tk_hp (j0 := 17) rfl hn) k
theorem tk_iload19 {a0 a1 a2 a3 a4 a5 a6 a7 a8 a9 a10 a11 a12 a13 a14 a15 a16 a17 a18 : Option tkV} {x : Int32} {t : List (Option tkV)} (hd : tkD C pc (.iload 19) 2 pc') (k : tkX G C d mc ms pc' (a0 :: a1 :: a2 :: a3 :: a4 :: a5 :: a6 :: a7 :: a8 :: a9 :: a10 :: a11 :: a12 :: a13 :: a14 :: a15 :: a16 :: a17 :: a18 :: some (vI x) :: t) (vI x :: st) h Q) : tkX G C d mc ms pc (a0 :: a1 :: a2 :: a3 :: a4 :: a5 :: a6 :: a7 :: a8 :: a9 :: a10 :: a11 :: a12 :: a13 :: a14 :: a15 :: a16 :: a17 :: a18 :: some (vI x) :: t) st h Q := tk_iload hd rfl k
theorem tk_istore19 {a0 a1 a2 a3 a4 a5 a6 a7 a8 a9 a10 a11 a12 a13 a14 a15 a16 a17 a18 : Option tkV} {o : Option tkV} {x : Int32} {t : List (Option tkV)} (hd : tkD C pc (.istore 19) 2 pc') (hn : tkNL a18 = true) (k : tkX G C d mc ms pc' (a0 :: a1 :: a2 :: a3 :: a4 :: a5 :: a6 :: a7 :: a8 :: a9 :: a10 :: a11 :: a12 :: a13 :: a14 :: a15 :: a16 :: a17 :: a18 :: some (vI x) :: t) st h Q) : tkX G C d mc ms pc (a0 :: a1 :: a2 :: a3 :: a4 :: a5 :: a6 :: a7 :: a8 :: a9 :: a10 :: a11 :: a12 :: a13 :: a14 :: a15 :: a16 :: a17 :: a18 :: o :: t) (vI x :: st) h Q := tk_istore hd (tk_len rfl) (tk_hp (j0 := 18) rfl hn) k
theorem tk_lload19 {a0 a1 a2 a3 a4 a5 a6 a7 a8 a9 a10 a11 a12 a13 a14 a15 a16 a17 a18 : Option tkV} {x : Int64} {t : List (Option tkV)} (hd : tkD C pc (.lload 19) 2 pc') (k : tkX G C d mc ms pc' (a0 :: a1 :: a2 :: a3 :: a4 :: a5 :: a6 :: a7 :: a8 :: a9 :: a10 :: a11 :: a12 :: a13 :: a14 :: a15 :: a16 :: a17 :: a18 :: some (vL x) :: t) (vL x :: st) h Q) : tkX G C d mc ms pc (a0 :: a1 :: a2 :: a3 :: a4 :: a5 :: a6 :: a7 :: a8 :: a9 :: a10 :: a11 :: a12 :: a13 :: a14 :: a15 :: a16 :: a17 :: a18 :: some (vL x) :: t) st h Q := tk_lload hd rfl k
theorem tk_lstore19 {a0 a1 a2 a3 a4 a5 a6 a7 a8 a9 a10 a11 a12 a13 a14 a15 a16 a17 a18 : Option tkV} {o o2 : Option tkV} {x : Int64} {t : List (Option tkV)} (hd : tkD C pc (.lstore 19) 2 pc') (hn : tkNL a18 = true) (k : tkX G C d mc ms pc' (a0 :: a1 :: a2 :: a3 :: a4 :: a5 :: a6 :: a7 :: a8 :: a9 :: a10 :: a11 :: a12 :: a13 :: a14 :: a15 :: a16 :: a17 :: a18 :: some (vL x) :: none :: t) st h Q) : tkX G C d mc ms pc (a0 :: a1 :: a2 :: a3 :: a4 :: a5 :: a6 :: a7 :: a8 :: a9 :: a10 :: a11 :: a12 :: a13 :: a14 :: a15 :: a16 :: a17 :: a18 :: o :: o2 :: t) (vL x :: st) h Q := tk_lstore hd (tk_len rfl) (tk_hp (j0 := 18) rfl hn) k
theorem tk_aload19 {a0 a1 a2 a3 a4 a5 a6 a7 a8 a9 a10 a11 a12 a13 a14 a15 a16 a17 a18 : Option tkV} {x : Nat} {t : List (Option tkV)} (hd : tkD C pc (.aload 19) 2 pc') (k : tkX G C d mc ms pc' (a0 :: a1 :: a2 :: a3 :: a4 :: a5 :: a6 :: a7 :: a8 :: a9 :: a10 :: a11 :: a12 :: a13 :: a14 :: a15 :: a16 :: a17 :: a18 :: some (vR x) :: t) (vR x :: st) h Q) : tkX G C d mc ms pc (a0 :: a1 :: a2 :: a3 :: a4 :: a5 :: a6 :: a7 :: a8 :: a9 :: a10 :: a11 :: a12 :: a13 :: a14 :: a15 :: a16 :: a17 :: a18 :: some (vR x) :: t) st h Q := tk_aload hd rfl k
theorem tk_astore19 {a0 a1 a2 a3 a4 a5 a6 a7 a8 a9 a10 a11 a12 a13 a14 a15 a16 a17 a18 : Option tkV} {o : Option tkV} {x : Nat} {t : List (Option tkV)} (hd : tkD C pc (.astore 19) 2 pc') (hn : tkNL a18 = true) (k : tkX G C d mc ms pc' (a0 :: a1 :: a2 :: a3 :: a4 :: a5 :: a6 :: a7 :: a8 :: a9 :: a10 :: a11 :: a12 :: a13 :: a14 :: a15 :: a16 :: a17 :: a18 :: some (vR x) :: t) st h Q) : tkX G C d mc ms pc (a0 :: a1 :: a2 :: a3 :: a4 :: a5 :: a6 :: a7 :: a8 :: a9 :: a10 :: a11 :: a12 :: a13 :: a14 :: a15 :: a16 :: a17 :: a18 :: o :: t) (vR x :: st) h Q := tk_astore hd (tk_len rfl) (tk_hp (j0 := 18) rfl hn) k
theorem tk_iinc19 {a0 a1 a2 a3 a4 a5 a6 a7 a8 a9 a10 a11 a12 a13 a14 a15 a16 a17 a18 : Option tkV} {n : Int} {x v : Int32} {t : List (Option tkV)} (hd : tkD C pc (.iinc 19 n) 3 pc') (hxv : x + Int32.ofInt n = v) (hn : tkNL a18 = true) (k : tkX G C d mc ms pc' (a0 :: a1 :: a2 :: a3 :: a4 :: a5 :: a6 :: a7 :: a8 :: a9 :: a10 :: a11 :: a12 :: a13 :: a14 :: a15 :: a16 :: a17 :: a18 :: some (vI v) :: t) st h Q) : tkX G C d mc ms pc (a0 :: a1 :: a2 :: a3 :: a4 :: a5 :: a6 :: a7 :: a8 :: a9 :: a10 :: a11 :: a12 :: a13 :: a14 :: a15 :: a16 :: a17 :: a18 :: some (vI x) :: t) st h Q := tk_iinc hd (tk_len rfl) rfl hxv (tk_hp (j0 := 18) rfl hn) k
theorem tk_iload20 {a0 a1 a2 a3 a4 a5 a6 a7 a8 a9 a10 a11 a12 a13 a14 a15 a16 a17 a18 a19 : Option tkV} {x : Int32} {t : List (Option tkV)} (hd : tkD C pc (.iload 20) 2 pc') (k : tkX G C d mc ms pc' (a0 :: a1 :: a2 :: a3 :: a4 :: a5 :: a6 :: a7 :: a8 :: a9 :: a10 :: a11 :: a12 :: a13 :: a14 :: a15 :: a16 :: a17 :: a18 :: a19 :: some (vI x) :: t) (vI x :: st) h Q) : tkX G C d mc ms pc (a0 :: a1 :: a2 :: a3 :: a4 :: a5 :: a6 :: a7 :: a8 :: a9 :: a10 :: a11 :: a12 :: a13 :: a14 :: a15 :: a16 :: a17 :: a18 :: a19 :: some (vI x) :: t) st h Q := tk_iload hd rfl k
theorem tk_istore20 {a0 a1 a2 a3 a4 a5 a6 a7 a8 a9 a10 a11 a12 a13 a14 a15 a16 a17 a18 a19 : Option tkV} {o : Option tkV} {x : Int32} {t : List (Option tkV)} (hd : tkD C pc (.istore 20) 2 pc') (hn : tkNL a19 = true) (k : tkX G C d mc ms pc' (a0 :: a1 :: a2 :: a3 :: a4 :: a5 :: a6 :: a7 :: a8 :: a9 :: a10 :: a11 :: a12 :: a13 :: a14 :: a15 :: a16 :: a17 :: a18 :: a19 :: some (vI x) :: t) st h Q) : tkX G C d mc ms pc (a0 :: a1 :: a2 :: a3 :: a4 :: a5 :: a6 :: a7 :: a8 :: a9 :: a10 :: a11 :: a12 :: a13 :: a14 :: a15 :: a16 :: a17 :: a18 :: a19 :: o :: t) (vI x :: st) h Q := tk_istore hd (tk_len rfl) (tk_hp (j0 := 19) rfl hn) k
theorem tk_lload20 {a0 a1 a2 a3 a4 a5 a6 a7 a8 a9 a10 a11 a12 a13 a14 a15 a16 a17 a18 a19 : Option tkV} {x : Int64} {t : List (Option tkV)} (hd : tkD C pc (.lload 20) 2 pc') (k : tkX G C d mc ms pc' (a0 :: a1 :: a2 :: a3 :: a4 :: a5 :: a6 :: a7 :: a8 :: a9 :: a10 :: a11 :: a12 :: a13 :: a14 :: a15 :: a16 :: a17 :: a18 :: a19 :: some (vL x) :: t) (vL x :: st) h Q) : tkX G C d mc ms pc (a0 :: a1 :: a2 :: a3 :: a4 :: a5 :: a6 :: a7 :: a8 :: a9 :: a10 :: a11 :: a12 :: a13 :: a14 :: a15 :: a16 :: a17 :: a18 :: a19 :: some (vL x) :: t) st h Q := tk_lload hd rfl k
theorem tk_lstore20 {a0 a1 a2 a3 a4 a5 a6 a7 a8 a9 a10 a11 a12 a13 a14 a15 a16 a17 a18 a19 : Option tkV} {o o2 : Option tkV} {x : Int64} {t : List (Option tkV)} (hd : tkD C pc (.lstore 20) 2 pc') (hn : tkNL a19 = true) (k : tkX G C d mc ms pc' (a0 :: a1 :: a2 :: a3 :: a4 :: a5 :: a6 :: a7 :: a8 :: a9 :: a10 :: a11 :: a12 :: a13 :: a14 :: a15 :: a16 :: a17 :: a18 :: a19 :: some (vL x) :: none :: t) st h Q) : tkX G C d mc ms pc (a0 :: a1 :: a2 :: a3 :: a4 :: a5 :: a6 :: a7 :: a8 :: a9 :: a10 :: a11 :: a12 :: a13 :: a14 :: a15 :: a16 :: a17 :: a18 :: a19 :: o :: o2 :: t) (vL x :: st) h Q := tk_lstore hd (tk_len rfl) (tk_hp (j0 := 19) rfl hn) k
theorem tk_aload20 {a0 a1 a2 a3 a4 a5 a6 a7 a8 a9 a10 a11 a12 a13 a14 a15 a16 a17 a18 a19 : Option tkV} {x : Nat} {t : List (Option tkV)} (hd : tkD C pc (.aload 20) 2 pc') (k : tkX G C d mc ms pc' (a0 :: a1 :: a2 :: a3 :: a4 :: a5 :: a6 :: a7 :: a8 :: a9 :: a10 :: a11 :: a12 :: a13 :: a14 :: a15 :: a16 :: a17 :: a18 :: a19 :: some (vR x) :: t) (vR x :: st) h Q) : tkX G C d mc ms pc (a0 :: a1 :: a2 :: a3 :: a4 :: a5 :: a6 :: a7 :: a8 :: a9 :: a10 :: a11 :: a12 :: a13 :: a14 :: a15 :: a16 :: a17 :: a18 :: a19 :: some (vR x) :: t) st h Q := tk_aload hd rfl k
theorem tk_astore20 {a0 a1 a2 a3 a4 a5 a6 a7 a8 a9 a10 a11 a12 a13 a14 a15 a16 a17 a18 a19 : Option tkV} {o : Option tkV} {x : Nat} {t : List (Option tkV)} (hd : tkD C pc (.astore 20) 2 pc') (hn : tkNL a19 = true) (k : tkX G C d mc ms pc' (a0 :: a1 :: a2 :: a3 :: a4 :: a5 :: a6 :: a7 :: a8 :: a9 :: a10 :: a11 :: a12 :: a13 :: a14 :: a15 :: a16 :: a17 :: a18 :: a19 :: some (vR x) :: t) st h Q) : tkX G C d mc ms pc (a0 :: a1 :: a2 :: a3 :: a4 :: a5 :: a6 :: a7 :: a8 :: a9 :: a10 :: a11 :: a12 :: a13 :: a14 :: a15 :: a16 :: a17 :: a18 :: a19 :: o :: t) (vR x :: st) h Q := tk_astore hd (tk_len rfl) (tk_hp (j0 := 19) rfl hn) k
theorem tk_iinc20 {a0 a1 a2 a3 a4 a5 a6 a7 a8 a9 a10 a11 a12 a13 a14 a15 a16 a17 a18 a19 : Option tkV} {n : Int} {x v : Int32} {t : List (Option tkV)} (hd : tkD C pc (.iinc 20 n) 3 pc') (hxv : x + Int32.ofInt n = v) (hn : tkNL a19 = true) (k : tkX G C d mc ms pc' (a0 :: a1 :: a2 :: a3 :: a4 :: a5 :: a6 :: a7 :: a8 :: a9 :: a10 :: a11 :: a12 :: a13 :: a14 :: a15 :: a16 :: a17 :: a18 :: a19 :: some (vI v) :: t) st h Q) : tkX G C d mc ms pc (a0 :: a1 :: a2 :: a3 :: a4 :: a5 :: a6 :: a7 :: a8 :: a9 :: a10 :: a11 :: a12 :: a13 :: a14 :: a15 :: a16 :: a17 :: a18 :: a19 :: some (vI x) :: t) st h Q := tk_iinc hd (tk_len rfl) rfl hxv (tk_hp (j0 := 19) rfl hn) k
theorem tk_iload21 {a0 a1 a2 a3 a4 a5 a6 a7 a8 a9 a10 a11 a12 a13 a14 a15 a16 a17 a18 a19 a20 : Option tkV} {x : Int32} {t : List (Option tkV)} (hd : tkD C pc (.iload 21) 2 pc') (k : tkX G C d mc ms pc' (a0 :: a1 :: a2 :: a3 :: a4 :: a5 :: a6 :: a7 :: a8 :: a9 :: a10 :: a11 :: a12 :: a13 :: a14 :: a15 :: a16 :: a17 :: a18 :: a19 :: a20 :: some (vI x) :: t) (vI x :: st) h Q) : tkX G C d mc ms pc (a0 :: a1 :: a2 :: a3 :: a4 :: a5 :: a6 :: a7 :: a8 :: a9 :: a10 :: a11 :: a12 :: a13 :: a14 :: a15 :: a16 :: a17 :: a18 :: a19 :: a20 :: some (vI x) :: t) st h Q := tk_iload hd rfl k
theorem tk_istore21 {a0 a1 a2 a3 a4 a5 a6 a7 a8 a9 a10 a11 a12 a13 a14 a15 a16 a17 a18 a19 a20 : Option tkV} {o : Option tkV} {x : Int32} {t : List (Option tkV)} (hd : tkD C pc (.istore 21) 2 pc') (hn : tkNL a20 = true) (k : tkX G C d mc ms pc' (a0 :: a1 :: a2 :: a3 :: a4 :: a5 :: a6 :: a7 :: a8 :: a9 :: a10 :: a11 :: a12 :: a13 :: a14 :: a15 :: a16 :: a17 :: a18 :: a19 :: a20 :: some (vI x) :: t) st h Q) : tkX G C d mc ms pc (a0 :: a1 :: a2 :: a3 :: a4 :: a5 :: a6 :: a7 :: a8 :: a9 :: a10 :: a11 :: a12 :: a13 :: a14 :: a15 :: a16 :: a17 :: a18 :: a19 :: a20 :: o :: t) (vI x :: st) h Q := tk_istore hd (tk_len rfl) (tk_hp (j0 := 20) rfl hn) k
theorem tk_lload21 {a0 a1 a2 a3 a4 a5 a6 a7 a8 a9 a10 a11 a12 a13 a14 a15 a16 a17 a18 a19 a20 : Option tkV} {x : Int64} {t : List (Option tkV)} (hd : tkD C pc (.lload 21) 2 pc') (k : tkX G C d mc ms pc' (a0 :: a1 :: a2 :: a3 :: a4 :: a5 :: a6 :: a7 :: a8 :: a9 :: a10 :: a11 :: a12 :: a13 :: a14 :: a15 :: a16 :: a17 :: a18 :: a19 :: a20 :: some (vL x) :: t) (vL x :: st) h Q) : tkX G C d mc ms pc (a0 :: a1 :: a2 :: a3 :: a4 :: a5 :: a6 :: a7 :: a8 :: a9 :: a10 :: a11 :: a12 :: a13 :: a14 :: a15 :: a16 :: a17 :: a18 :: a19 :: a20 :: some (vL x) :: t) st h Q := tk_lload hd rfl k
theorem tk_lstore21 {a0 a1 a2 a3 a4 a5 a6 a7 a8 a9 a10 a11 a12 a13 a14 a15 a16 a17 a18 a19 a20 : Option tkV} {o o2 : Option tkV} {x : Int64} {t : List (Option tkV)} (hd : tkD C pc (.lstore 21) 2 pc') (hn : tkNL a20 = true) (k : tkX G C d mc ms pc' (a0 :: a1 :: a2 :: a3 :: a4 :: a5 :: a6 :: a7 :: a8 :: a9 :: a10 :: a11 :: a12 :: a13 :: a14 :: a15 :: a16 :: a17 :: a18 :: a19 :: a20 :: some (vL x) :: none :: t) st h Q) : tkX G C d mc ms pc (a0 :: a1 :: a2 :: a3 :: a4 :: a5 :: a6 :: a7 :: a8 :: a9 :: a10 :: a11 :: a12 :: a13 :: a14 :: a15 :: a16 :: a17 :: a18 :: a19 :: a20 :: o :: o2 :: t) (vL x :: st) h Q := tk_lstore hd (tk_len rfl) (tk_hp (j0 := 20) rfl hn) k
theorem tk_aload21 {a0 a1 a2 a3 a4 a5 a6 a7 a8 a9 a10 a11 a12 a13 a14 a15 a16 a17 a18 a19 a20 : Option tkV} {x : Nat} {t : List (Option tkV)} (hd : tkD C pc (.aload 21) 2 pc') (k : tkX G C d mc ms pc' (a0 :: a1 :: a2 :: a3 :: a4 :: a5 :: a6 :: a7 :: a8 :: a9 :: a10 :: a11 :: a12 :: a13 :: a14 :: a15 :: a16 :: a17 :: a18 :: a19 :: a20 :: some (vR x) :: t) (vR x :: st) h Q) : tkX G C d mc ms pc (a0 :: a1 :: a2 :: a3 :: a4 :: a5 :: a6 :: a7 :: a8 :: a9 :: a10 :: a11 :: a12 :: a13 :: a14 :: a15 :: a16 :: a17 :: a18 :: a19 :: a20 :: some (vR x) :: t) st h Q := tk_aload hd rfl k
theorem tk_astore21 {a0 a1 a2 a3 a4 a5 a6 a7 a8 a9 a10 a11 a12 a13 a14 a15 a16 a17 a18 a19 a20 : Option tkV} {o : Option tkV} {x : Nat} {t : List (Option tkV)} (hd : tkD C pc (.astore 21) 2 pc') (hn : tkNL a20 = true) (k : tkX G C d mc ms pc' (a0 :: a1 :: a2 :: a3 :: a4 :: a5 :: a6 :: a7 :: a8 :: a9 :: a10 :: a11 :: a12 :: a13 :: a14 :: a15 :: a16 :: a17 :: a18 :: a19 :: a20 :: some (vR x) :: t) st h Q) : tkX G C d mc ms pc (a0 :: a1 :: a2 :: a3 :: a4 :: a5 :: a6 :: a7 :: a8 :: a9 :: a10 :: a11 :: a12 :: a13 :: a14 :: a15 :: a16 :: a17 :: a18 :: a19 :: a20 :: o :: t) (vR x :: st) h Q := tk_astore hd (tk_len rfl) (tk_hp (j0 := 20) rfl hn) k
theorem tk_iinc21 {a0 a1 a2 a3 a4 a5 a6 a7 a8 a9 a10 a11 a12 a13 a14 a15 a16 a17 a18 a19 a20 : Option tkV} {n : Int} {x v : Int32} {t : List (Option tkV)} (hd : tkD C pc (.iinc 21 n) 3 pc') (hxv : x + Int32.ofInt n = v) (hn : tkNL a20 = true) (k : tkX G C d mc ms pc' (a0 :: a1 :: a2 :: a3 :: a4 :: a5 :: a6 :: a7 :: a8 :: a9 :: a10 :: a11 :: a12 :: a13 :: a14 :: a15 :: a16 :: a17 :: a18 :: a19 :: a20 :: some (vI v) :: t) st h Q) : tkX G C d mc ms pc (a0 :: a1 :: a2 :: a3 :: a4 :: a5 :: a6 :: a7 :: a8 :: a9 :: a10 :: a11 :: a12 :: a13 :: a14 :: a15 :: a16 :: a17 :: a18 :: a19 :: a20 :: some (vI x) :: t) st h Q := tk_iinc hd (tk_len rfl) rfl hxv (tk_hp (j0 := 20) rfl hn) k
theorem tk_iload22 {a0 a1 a2 a3 a4 a5 a6 a7 a8 a9 a10 a11 a12 a13 a14 a15 a16 a17 a18 a19 a20 a21 : Option tkV} {x : Int32} {t : List (Option tkV)} (hd : tkD C pc (.iload 22) 2 pc') (k : tkX G C d mc ms pc' (a0 :: a1 :: a2 :: a3 :: a4 :: a5 :: a6 :: a7 :: a8 :: a9 :: a10 :: a11 :: a12 :: a13 :: a14 :: a15 :: a16 :: a17 :: a18 :: a19 :: a20 :: a21 :: some (vI x) :: t) (vI x :: st) h Q) : tkX G C d mc ms pc (a0 :: a1 :: a2 :: a3 :: a4 :: a5 :: a6 :: a7 :: a8 :: a9 :: a10 :: a11 :: a12 :: a13 :: a14 :: a15 :: a16 :: a17 :: a18 :: a19 :: a20 :: a21 :: some (vI x) :: t) st h Q := tk_iload hd rfl k
theorem tk_istore22 {a0 a1 a2 a3 a4 a5 a6 a7 a8 a9 a10 a11 a12 a13 a14 a15 a16 a17 a18 a19 a20 a21 : Option tkV} {o : Option tkV} {x : Int32} {t : List (Option tkV)} (hd : tkD C pc (.istore 22) 2 pc') (hn : tkNL a21 = true) (k : tkX G C d mc ms pc' (a0 :: a1 :: a2 :: a3 :: a4 :: a5 :: a6 :: a7 :: a8 :: a9 :: a10 :: a11 :: a12 :: a13 :: a14 :: a15 :: a16 :: a17 :: a18 :: a19 :: a20 :: a21 :: some (vI x) :: t) st h Q) : tkX G C d mc ms pc (a0 :: a1 :: a2 :: a3 :: a4 :: a5 :: a6 :: a7 :: a8 :: a9 :: a10 :: a11 :: a12 :: a13 :: a14 :: a15 :: a16 :: a17 :: a18 :: a19 :: a20 :: a21 :: o :: t) (vI x :: st) h Q := tk_istore hd (tk_len rfl) (tk_hp (j0 := 21) rfl hn) k
theorem tk_lload22 {a0 a1 a2 a3 a4 a5 a6 a7 a8 a9 a10 a11 a12 a13 a14 a15 a16 a17 a18 a19 a20 a21 : Option tkV} {x : Int64} {t : List (Option tkV)} (hd : tkD C pc (.lload 22) 2 pc') (k : tkX G C d mc ms pc' (a0 :: a1 :: a2 :: a3 :: a4 :: a5 :: a6 :: a7 :: a8 :: a9 :: a10 :: a11 :: a12 :: a13 :: a14 :: a15 :: a16 :: a17 :: a18 :: a19 :: a20 :: a21 :: some (vL x) :: t) (vL x :: st) h Q) : tkX G C d mc ms pc (a0 :: a1 :: a2 :: a3 :: a4 :: a5 :: a6 :: a7 :: a8 :: a9 :: a10 :: a11 :: a12 :: a13 :: a14 :: a15 :: a16 :: a17 :: a18 :: a19 :: a20 :: a21 :: some (vL x) :: t) st h Q := tk_lload hd rfl k
theorem tk_lstore22 {a0 a1 a2 a3 a4 a5 a6 a7 a8 a9 a10 a11 a12 a13 a14 a15 a16 a17 a18 a19 a20 a21 : Option tkV} {o o2 : Option tkV} {x : Int64} {t : List (Option tkV)} (hd : tkD C pc (.lstore 22) 2 pc') (hn : tkNL a21 = true) (k : tkX G C d mc ms pc' (a0 :: a1 :: a2 :: a3 :: a4 :: a5 :: a6 :: a7 :: a8 :: a9 :: a10 :: a11 :: a12 :: a13 :: a14 :: a15 :: a16 :: a17 :: a18 :: a19 :: a20 :: a21 :: some (vL x) :: none :: t) st h Q) : tkX G C d mc ms pc (a0 :: a1 :: a2 :: a3 :: a4 :: a5 :: a6 :: a7 :: a8 :: a9 :: a10 :: a11 :: a12 :: a13 :: a14 :: a15 :: a16 :: a17 :: a18 :: a19 :: a20 :: a21 :: o :: o2 :: t) (vL x :: st) h Q := tk_lstore hd (tk_len rfl) (tk_hp (j0 := 21) rfl hn) k
theorem tk_aload22 {a0 a1 a2 a3 a4 a5 a6 a7 a8 a9 a10 a11 a12 a13 a14 a15 a16 a17 a18 a19 a20 a21 : Option tkV} {x : Nat} {t : List (Option tkV)} (hd : tkD C pc (.aload 22) 2 pc') (k : tkX G C d mc ms pc' (a0 :: a1 :: a2 :: a3 :: a4 :: a5 :: a6 :: a7 :: a8 :: a9 :: a10 :: a11 :: a12 :: a13 :: a14 :: a15 :: a16 :: a17 :: a18 :: a19 :: a20 :: a21 :: some (vR x) :: t) (vR x :: st) h Q) : tkX G C d mc ms pc (a0 :: a1 :: a2 :: a3 :: a4 :: a5 :: a6 :: a7 :: a8 :: a9 :: a10 :: a11 :: a12 :: a13 :: a14 :: a15 :: a16 :: a17 :: a18 :: a19 :: a20 :: a21 :: some (vR x) :: t) st h Q := tk_aload hd rfl k
theorem tk_astore22 {a0 a1 a2 a3 a4 a5 a6 a7 a8 a9 a10 a11 a12 a13 a14 a15 a16 a17 a18 a19 a20 a21 : Option tkV} {o : Option tkV} {x : Nat} {t : List (Option tkV)} (hd : tkD C pc (.astore 22) 2 pc') (hn : tkNL a21 = true) (k : tkX G C d mc ms pc' (a0 :: a1 :: a2 :: a3 :: a4 :: a5 :: a6 :: a7 :: a8 :: a9 :: a10 :: a11 :: a12 :: a13 :: a14 :: a15 :: a16 :: a17 :: a18 :: a19 :: a20 :: a21 :: some (vR x) :: t) st h Q) : tkX G C d mc ms pc (a0 :: a1 :: a2 :: a3 :: a4 :: a5 :: a6 :: a7 :: a8 :: a9 :: a10 :: a11 :: a12 :: a13 :: a14 :: a15 :: a16 :: a17 :: a18 :: a19 :: a20 :: a21 :: o :: t) (vR x :: st) h Q := tk_astore hd (tk_len rfl) (tk_hp (j0 := 21) rfl hn) k
theorem tk_iinc22 {a0 a1 a2 a3 a4 a5 a6 a7 a8 a9 a10 a11 a12 a13 a14 a15 a16 a17 a18 a19 a20 a21 : Option tkV} {n : Int} {x v : Int32} {t : List (Option tkV)} (hd : tkD C pc (.iinc 22 n) 3 pc') (hxv : x + Int32.ofInt n = v) (hn : tkNL a21 = true) (k : tkX G C d mc ms pc' (a0 :: a1 :: a2 :: a3 :: a4 :: a5 :: a6 :: a7 :: a8 :: a9 :: a10 :: a11 :: a12 :: a13 :: a14 :: a15 :: a16 :: a17 :: a18 :: a19 :: a20 :: a21 :: some (vI v) :: t) st h Q) : tkX G C d mc ms pc (a0 :: a1 :: a2 :: a3 :: a4 :: a5 :: a6 :: a7 :: a8 :: a9 :: a10 :: a11 :: a12 :: a13 :: a14 :: a15 :: a16 :: a17 :: a18 :: a19 :: a20 :: a21 :: some (vI x) :: t) st h Q := tk_iinc hd (tk_len rfl) rfl hxv (tk_hp (j0 := 21) rfl hn) k
theorem tk_iload23 {a0 a1 a2 a3 a4 a5 a6 a7 a8 a9 a10 a11 a12 a13 a14 a15 a16 a17 a18 a19 a20 a21 a22 : Option tkV} {x : Int32} {t : List (Option tkV)} (hd : tkD C pc (.iload 23) 2 pc') (k : tkX G C d mc ms pc' (a0 :: a1 :: a2 :: a3 :: a4 :: a5 :: a6 :: a7 :: a8 :: a9 :: a10 :: a11 :: a12 :: a13 :: a14 :: a15 :: a16 :: a17 :: a18 :: a19 :: a20 :: a21 :: a22 :: some (vI x) :: t) (vI x :: st) h Q) : tkX G C d mc ms pc (a0 :: a1 :: a2 :: a3 :: a4 :: a5 :: a6 :: a7 :: a8 :: a9 :: a10 :: a11 :: a12 :: a13 :: a14 :: a15 :: a16 :: a17 :: a18 :: a19 :: a20 :: a21 :: a22 :: some (vI x) :: t) st h Q := tk_iload hd rfl k
theorem tk_istore23 {a0 a1 a2 a3 a4 a5 a6 a7 a8 a9 a10 a11 a12 a13 a14 a15 a16 a17 a18 a19 a20 a21 a22 : Option tkV} {o : Option tkV} {x : Int32} {t : List (Option tkV)} (hd : tkD C pc (.istore 23) 2 pc') (hn : tkNL a22 = true) (k : tkX G C d mc ms pc' (a0 :: a1 :: a2 :: a3 :: a4 :: a5 :: a6 :: a7 :: a8 :: a9 :: a10 :: a11 :: a12 :: a13 :: a14 :: a15 :: a16 :: a17 :: a18 :: a19 :: a20 :: a21 :: a22 :: some (vI x) :: t) st h Q) : tkX G C d mc ms pc (a0 :: a1 :: a2 :: a3 :: a4 :: a5 :: a6 :: a7 :: a8 :: a9 :: a10 :: a11 :: a12 :: a13 :: a14 :: a15 :: a16 :: a17 :: a18 :: a19 :: a20 :: a21 :: a22 :: o :: t) (vI x :: st) h Q := tk_istore hd (tk_len rfl) (tk_hp (j0 := 22) rfl hn) k
theorem tk_lload23 {a0 a1 a2 a3 a4 a5 a6 a7 a8 a9 a10 a11 a12 a13 a14 a15 a16 a17 a18 a19 a20 a21 a22 : Option tkV} {x : Int64} {t : List (Option tkV)} (hd : tkD C pc (.lload 23) 2 pc') (k : tkX G C d mc ms pc' (a0 :: a1 :: a2 :: a3 :: a4 :: a5 :: a6 :: a7 :: a8 :: a9 :: a10 :: a11 :: a12 :: a13 :: a14 :: a15 :: a16 :: a17 :: a18 :: a19 :: a20 :: a21 :: a22 :: some (vL x) :: t) (vL x :: st) h Q) : tkX G C d mc ms pc (a0 :: a1 :: a2 :: a3 :: a4 :: a5 :: a6 :: a7 :: a8 :: a9 :: a10 :: a11 :: a12 :: a13 :: a14 :: a15 :: a16 :: a17 :: a18 :: a19 :: a20 :: a21 :: a22 :: some (vL x) :: t) st h Q := tk_lload hd rfl k
theorem tk_lstore23 {a0 a1 a2 a3 a4 a5 a6 a7 a8 a9 a10 a11 a12 a13 a14 a15 a16 a17 a18 a19 a20 a21 a22 : Option tkV} {o o2 : Option tkV} {x : Int64} {t : List (Option tkV)} (hd : tkD C pc (.lstore 23) 2 pc') (hn : tkNL a22 = true) (k : tkX G C d mc ms pc' (a0 :: a1 :: a2 :: a3 :: a4 :: a5 :: a6 :: a7 :: a8 :: a9 :: a10 :: a11 :: a12 :: a13 :: a14 :: a15 :: a16 :: a17 :: a18 :: a19 :: a20 :: a21 :: a22 :: some (vL x) :: none :: t) st h Q) : tkX G C d mc ms pc (a0 :: a1 :: a2 :: a3 :: a4 :: a5 :: a6 :: a7 :: a8 :: a9 :: a10 :: a11 :: a12 :: a13 :: a14 :: a15 :: a16 :: a17 :: a18 :: a19 :: a20 :: a21 :: a22 :: o :: o2 :: t) (vL x :: st) h Q := tk_lstore hd (tk_len rfl) (tk_hp (j0 := 22) rfl hn) k
theorem tk_aload23 {a0 a1 a2 a3 a4 a5 a6 a7 a8 a9 a10 a11 a12 a13 a14 a15 a16 a17 a18 a19 a20 a21 a22 : Option tkV} {x : Nat} {t : List (Option tkV)} (hd : tkD C pc (.aload 23) 2 pc') (k : tkX G C d mc ms pc' (a0 :: a1 :: a2 :: a3 :: a4 :: a5 :: a6 :: a7 :: a8 :: a9 :: a10 :: a11 :: a12 :: a13 :: a14 :: a15 :: a16 :: a17 :: a18 :: a19 :: a20 :: a21 :: a22 :: some (vR x) :: t) (vR x :: st) h Q) : tkX G C d mc ms pc (a0 :: a1 :: a2 :: a3 :: a4 :: a5 :: a6 :: a7 :: a8 :: a9 :: a10 :: a11 :: a12 :: a13 :: a14 :: a15 :: a16 :: a17 :: a18 :: a19 :: a20 :: a21 :: a22 :: some (vR x) :: t) st h Q := tk_aload hd rfl k
theorem tk_astore23 {a0 a1 a2 a3 a4 a5 a6 a7 a8 a9 a10 a11 a12 a13 a14 a15 a16 a17 a18 a19 a20 a21 a22 : Option tkV} {o : Option tkV} {x : Nat} {t : List (Option tkV)} (hd : tkD C pc (.astore 23) 2 pc') (hn : tkNL a22 = true) (k : tkX G C d mc ms pc' (a0 :: a1 :: a2 :: a3 :: a4 :: a5 :: a6 :: a7 :: a8 :: a9 :: a10 :: a11 :: a12 :: a13 :: a14 :: a15 :: a16 :: a17 :: a18 :: a19 :: a20 :: a21 :: a22 :: some (vR x) :: t) st h Q) : tkX G C d mc ms pc (a0 :: a1 :: a2 :: a3 :: a4 :: a5 :: a6 :: a7 :: a8 :: a9 :: a10 :: a11 :: a12 :: a13 :: a14 :: a15 :: a16 :: a17 :: a18 :: a19 :: a20 :: a21 :: a22 :: o :: t) (vR x :: st) h Q := tk_astore hd (tk_len rfl) (tk_hp (j0 := 22) rfl hn) k
theorem tk_iinc23 {a0 a1 a2 a3 a4 a5 a6 a7 a8 a9 a10 a11 a12 a13 a14 a15 a16 a17 a18 a19 a20 a21 a22 : Option tkV} {n : Int} {x v : Int32} {t : List (Option tkV)} (hd : tkD C pc (.iinc 23 n) 3 pc') (hxv : x + Int32.ofInt n = v) (hn : tkNL a22 = true) (k : tkX G C d mc ms pc' (a0 :: a1 :: a2 :: a3 :: a4 :: a5 :: a6 :: a7 :: a8 :: a9 :: a10 :: a11 :: a12 :: a13 :: a14 :: a15 :: a16 :: a17 :: a18 :: a19 :: a20 :: a21 :: a22 :: some (vI v) :: t) st h Q) : tkX G C d mc ms pc (a0 :: a1 :: a2 :: a3 :: a4 :: a5 :: a6 :: a7 :: a8 :: a9 :: a10 :: a11 :: a12 :: a13 :: a14 :: a15 :: a16 :: a17 :: a18 :: a19 :: a20 :: a21 :: a22 :: some (vI x) :: t) st h Q := tk_iinc hd (tk_len rfl) rfl hxv (tk_hp (j0 := 22) rfl hn) k
end TKR
