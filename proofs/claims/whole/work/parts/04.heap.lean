/-! ===== heap rows of the layer ===== -/
def tkFd (own : String) (idx c k : Nat) : Prop := ∃ r : vw_C, vwCl[c]? = some r ∧ k < r.2.2 ∧ Cond.fieldLink own idx (r.2.1 k).1 (r.2.1 k).2.1 (r.2.1 k).2.2.1 ∈ tk_tbl
def tkCls (c : Nat) (r : vw_C) : Prop := (∀ w ∈ u_ws r.1 r.2.1 r.2.2, w ∈ tk_tbl) ∧ (∀ k, k < r.2.2 → parseFieldDescriptor (r.2.1 k).2.2.1 = some (tkfty c k)) ∧ (∀ a, a < r.2.2 → ∀ b, b < r.2.2 → a ≠ b → (r.2.1 a).2.1 ≠ (r.2.1 b).2.1) ∧ (∀ k, k < r.2.2 → (r.2.1 k).1 = r.1)
theorem tk_cls0 : tkCls 0 (RX0, TX0, 12) := ⟨by decide +kernel, tyX0_ok, nmX0, by decide +kernel⟩
theorem tk_cls1 : tkCls 1 (RX1, TX1, 2) := ⟨by decide +kernel, tyX1_ok, nmX1, by decide +kernel⟩
theorem tk_cls2 : tkCls 2 (RX2, TX2, 3) := ⟨by decide +kernel, tyX2_ok, nmX2, by decide +kernel⟩
theorem tk_cls3 : tkCls 3 (RX3, TX3, 2) := ⟨by decide +kernel, tyX3_ok, nmX3, by decide +kernel⟩
theorem tk_cls4 : tkCls 4 (RX4, TX4, 5) := ⟨by decide +kernel, tyX4_ok, nmX4, by decide +kernel⟩
theorem tk_cls5 : tkCls 5 (RX5, TX5, 3) := ⟨by decide +kernel, tyX5_ok, nmX5, by decide +kernel⟩
theorem tk_cls6 : tkCls 6 (RX6, TX6, 6) := ⟨by decide +kernel, tyX6_ok, nmX6, by decide +kernel⟩
theorem tk_cls7 : tkCls 7 (RX8, TX8, 6) := ⟨by decide +kernel, tyX8_ok, nmX8, by decide +kernel⟩
theorem tk_cls8 : tkCls 8 (RX9, TX9, 6) := ⟨by decide +kernel, tyX9_ok, nmX9, by decide +kernel⟩
theorem tk_cls9 : tkCls 9 (RX10, TX10, 9) := ⟨by decide +kernel, tyX10_ok, nmX10, by decide +kernel⟩
theorem tk_cls10 : tkCls 10 (RX11, TX11, 54) := ⟨by decide +kernel, tyX11_ok, nmX11, by decide +kernel⟩
theorem tk_cls {c : Nat} {r : vw_C} (h : vwCl[c]? = some r) : c < 11 ∧ tkCls c r := by
  have hc : c < 11 := (List.getElem?_eq_some_iff.mp h).1
  refine ⟨hc, ?_⟩
  match c, hc, h with
  | 0, _, h => cases h; exact tk_cls0
  | 1, _, h => cases h; exact tk_cls1
  | 2, _, h => cases h; exact tk_cls2
  | 3, _, h => cases h; exact tk_cls3
  | 4, _, h => cases h; exact tk_cls4
  | 5, _, h => cases h; exact tk_cls5
  | 6, _, h => cases h; exact tk_cls6
  | 7, _, h => cases h; exact tk_cls7
  | 8, _, h => cases h; exact tk_cls8
  | 9, _, h => cases h; exact tk_cls9
  | 10, _, h => cases h; exact tk_cls10
theorem t_OB.kept' {o : Nat} {cC : ClassId} {N : Nat} {iS : Nat → Nat} {H H1 : Heap} {V : Nat → Value} (h : t_OB o cC N iS H V) (h1 : H1[o]? = H[o]?) : t_OB o cC N iS H1 V := h.kept h1
theorem tkat.kept {G : tkG} {t : Nat × Nat} {fi : Nat → Int32} {fl : Nat → Int64} {fp : Nat → Option Nat} {q : Nat} {H H1 : Heap} (h : tkat G t fi fl fp q H) (h1 : H1[q]? = H[q]?) : tkat G t fi fl fp q H1 := by
  rcases h with ⟨h, r, hr, ho⟩ | ⟨ha, hb, hc⟩
  · exact Or.inl ⟨h, r, hr, ho.kept h1⟩
  · exact Or.inr ⟨ha, hb, h1.trans hc⟩
theorem tk_up_id {α : Type} (f : Nat → α) (a : Nat) : va_up f a (f a) = f := by
  funext j
  by_cases h : j = a
  · subst h; rw [va_up_self]
  · rw [va_up_ne _ _ h]
/-- one cell is written, the others stay -/
theorem tkRep.put {G : tkG} {n : Nat} {T : Nat → Nat × Nat} {I : Nat → Nat → Int32} {L : Nat → Nat → Int64} {P : Nat → Nat → Option Nat} {H H1 : Heap} {a : Nat} {fi : Nat → Int32} {fl : Nat → Int64} {fp : Nat → Option Nat} (h : tkRep G (n, T, I, L, P) H) (hz : H1.size = H.size) (ho : ∀ q : Nat, q ≠ G.1 + a → H1[q]? = H[q]?)
    (ha : tkat G (T a) fi fl fp (G.1 + a) H1) : tkRep G (n, T, va_up I a fi, va_up L a fl, va_up P a fp) H1 := by
  refine ⟨hz.trans h.1, fun b hb => ?_⟩
  obtain ⟨h1, h2⟩ := h.2 b hb
  refine ⟨h1, ?_⟩
  by_cases e : b = a
  · subst e
    simp only [va_up_self]
    exact ha
  · simp only [va_up_ne _ _ e]
    exact h2.kept (ho _ (by omega))
/-- a new cell -/
theorem tkRep.new {G : tkG} {n : Nat} {T : Nat → Nat × Nat} {I : Nat → Nat → Int32} {L : Nat → Nat → Int64} {P : Nat → Nat → Option Nat} {H H1 : Heap} {t : Nat × Nat} {fi : Nat → Int32} {fl : Nat → Int64} {fp : Nat → Option Nat} (h : tkRep G (n, T, I, L, P) H) (hz : H1.size = G.1 + n + 1) (ho : ∀ q : Nat, q < G.1 + n → H1[q]? = H[q]?)
    (ha : tkat G t fi fl fp (G.1 + n) H1) : tkRep G (n + 1, va_up T n t, va_up I n fi, va_up L n fl, va_up P n fp) H1 := by
  refine ⟨hz, fun b hb => ?_⟩
  by_cases e : b = n
  · subst e
    simp only [va_up_self]
    exact ⟨Nat.lt_succ_self _, ha⟩
  · simp only [va_up_ne _ _ e] at hb ⊢
    obtain ⟨h1, h2⟩ := h.2 b hb
    have h1 : b < n := h1
    exact ⟨Nat.lt_succ_of_lt h1, h2.kept (ho _ (by omega))⟩
theorem tkFr.put {G : tkG} {s : State} {H H1 : Heap} {locs : List Loc} {a i : Nat} (h : tkFr G s H locs) (hz : H1.size = H.size) (ho : ∀ q : Nat, q ≠ G.1 + a → H1[q]? = H[q]?) : tkFr G s H1 (locs ++ [⟨G.1 + a, i⟩]) := by
  refine ⟨h.1, by rw [hz]; exact h.2.1, fun q hq => (ho q (by omega)).trans (h.2.2.1 q hq), fun l hl => ?_⟩
  rcases List.mem_append.mp hl with h1 | h1
  · exact h.2.2.2 l h1
  · rw [List.mem_singleton.mp h1]; exact Nat.le_add_right _ _
theorem tkFr.new {G : tkG} {s : State} {H H1 : Heap} {locs : List Loc} {n : Nat} (h : tkFr G s H locs) (hn : H.size = G.1 + n) (hz : H1.size = G.1 + n + 1) (ho : ∀ q : Nat, q < G.1 + n → H1[q]? = H[q]?) : tkFr G s H1 locs :=
  ⟨h.1, by rw [hz, ← hn]; exact Nat.le_succ_of_le h.2.1, fun q hq => (ho q (by omega)).trans (h.2.2.1 q hq), h.2.2.2⟩
theorem tk_tys {G : tkG} {s : State} (h : tkK G s) {t : Nat} (h1 : 20 ≤ t) (h2 : t < 28) : ArrOfT s (G.2.2.2.1 t) (tkaty t) ∧ va_RA s (G.2.2.2.1 t) (tkaty t) := by
  refine h.1.2 (t - 20) (G.2.2.2.1 t, tkaty t) ?_
  unfold tkTys
  rw [List.getElem?_map, List.getElem?_range (by omega)]
  simp only [Option.map_some, Option.some.injEq, Prod.mk.injEq]
  rw [show 20 + (t - 20) = t by omega]
  exact ⟨rfl, rfl⟩
theorem tk_asg (vm : Vm) (c : ClassId) : vm.assignable c c = true := by
  show vm.assignableAux _ c c = true
  unfold Vm.assignableAux
  simp
section TKH
variable {G : tkG} {C : tkC} {d mc ms pc pc' : Nat} {ls : List (Option tkV)} {st : List tkV} {Q : Option tkV → tkH → Prop}
variable {n : Nat} {T : Nat → Nat × Nat} {I : Nat → Nat → Int32} {L : Nat → Nat → Int64} {P : Nat → Nat → Option Nat}
theorem tk_getv {a idx c k : Nat} {v : tkV} (hd : tkD C pc (.getfield idx) 3 pc') (hf : tkFd C.1.cls idx c k) (ht : (T a).1 = c + 1) (hv : tkv G v = tkfv G.1 (tkfty c k) (I a k) (L a k) (P a k))
    (kk : tkX G C d mc ms pc' ls (v :: st) (n, T, I, L, P) Q) : tkX G C d mc ms pc ls (vR a :: st) (n, T, I, L, P) Q := by
  obtain ⟨hd, rfl⟩ := hd
  obtain ⟨r, hc, hk, hw⟩ := hf
  refine tkX_i ?_
  intro p l e R s m args below meth c0 H locs cells slots Z LS A LL Rp
  have E := A.1
  obtain ⟨hc11, hin, hty, hnm, hdecl⟩ := tk_cls hc
  obtain ⟨-, hat⟩ := Rp.2 a (by show (T a).1 ≠ 0; omega)
  rcases hat with ⟨-, r', hr', cell, q1, q2, q3, q4⟩ | ⟨h20, -⟩
  · have e1 : (T a).1 - 1 = c := by omega
    rw [show ((n, T, I, L, P) : tkH).2.1 a = T a from rfl, e1] at hr' q2 q4
    obtain rfl : r = r' := Option.some.inj (hc.symm.trans hr')
    obtain ⟨hS, hfc, kC, hkC, hkind⟩ := E.2.2.2.2.2.2.2.2.2.2.1.1.1 c _ hc
    obtain ⟨cf, kf, fi, f, hi, hsl⟩ := hS k hk
    have hts := E.2.2.2.2.2.1
    refine W.getf E.1 E.2.1 E.2.2.2.2.1 (hts _ hw) hi (u_facts hfc hkC (u_lays hts hin hk) hi).1 q1 (by rw [q3]; exact fun h => by cases h) (v := tkv G v) ?_ rfl rfl hd (tkX_e kk p l e R s m args below meth c0 H locs cells slots Z LS A LL Rp)
    rw [hsl, q4 k hk, hv]
  · exfalso
    have : 20 ≤ (T a).1 := h20
    omega
theorem tk_getI {a idx c k : Nat} (hd : tkD C pc (.getfield idx) 3 pc') (hf : tkFd C.1.cls idx c k) (hty : tkfty c k = .int) (ht : (T a).1 = c + 1)
    (kk : tkX G C d mc ms pc' ls (vI (I a k) :: st) (n, T, I, L, P) Q) : tkX G C d mc ms pc ls (vR a :: st) (n, T, I, L, P) Q := tk_getv hd hf ht (by rw [hty]; rfl) kk
theorem tk_getL {a idx c k : Nat} (hd : tkD C pc (.getfield idx) 3 pc') (hf : tkFd C.1.cls idx c k) (hty : tkfty c k = .long) (ht : (T a).1 = c + 1)
    (kk : tkX G C d mc ms pc' ls (vL (L a k) :: st) (n, T, I, L, P) Q) : tkX G C d mc ms pc ls (vR a :: st) (n, T, I, L, P) Q := tk_getv hd hf ht (by rw [hty]; rfl) kk
def tkisr (ty : FieldType) : Bool := match ty with
  | .array _ => true
  | .object _ => true
  | _ => false
theorem tkfv_r {B : Nat} {ty : FieldType} (h : tkisr ty = true) (i : Int32) (l : Int64) (r : Option Nat) : tkfv B ty i l r = tkr B r := by
  cases ty <;> first | rfl | cases h
theorem tk_getP {a b idx c k : Nat} (hd : tkD C pc (.getfield idx) 3 pc') (hf : tkFd C.1.cls idx c k) (hty : tkisr (tkfty c k) = true) (ht : (T a).1 = c + 1) (hp : P a k = some b)
    (kk : tkX G C d mc ms pc' ls (vR b :: st) (n, T, I, L, P) Q) : tkX G C d mc ms pc ls (vR a :: st) (n, T, I, L, P) Q := tk_getv hd hf ht (by rw [tkfv_r hty, hp]; rfl) kk
/-- a field may be written: it isn't final, or this is a constructor of its own class -/
def tkWr (C : tkC) (c k : Nat) : Prop := ∃ r : vw_C, vwCl[c]? = some r ∧ ((r.2.1 k).2.2.2 = false ∨ ((r.2.1 k).2.2.2 = true ∧ C.1.name = "<init>" ∧ r.1 = C.1.cls))
theorem tk_putv {a idx c k : Nat} {v : tkV} {fi : Nat → Int32} {fl : Nat → Int64} {fp : Nat → Option Nat} (hd : tkD C pc (.putfield idx) 3 pc') (hf : tkFd C.1.cls idx c k) (hwr : tkWr C c k) (ht : (T a).1 = c + 1) (hn : narrow (tkfty c k) (tkv G v) = tkv G v) (hfit : fits (tkfty c k) (tkv G v) = true)
    (hnew : ∀ j, updV (fun j => tkfv G.1 (tkfty c j) (I a j) (L a j) (P a j)) k (tkv G v) j = tkfv G.1 (tkfty c j) (fi j) (fl j) (fp j))
    (kk : tkX G C d mc ms pc' ls st (n, T, va_up I a fi, va_up L a fl, va_up P a fp) Q) : tkX G C d mc ms pc ls (v :: vR a :: st) (n, T, I, L, P) Q := by
  obtain ⟨hd, rfl⟩ := hd
  obtain ⟨r, hc, hk, hw⟩ := hf
  obtain ⟨r2, hc2, hwr⟩ := hwr
  obtain rfl : r = r2 := Option.some.inj (hc.symm.trans hc2)
  refine tkX_i ?_
  intro p l e R s m args below meth c0 H locs cells slots Z LS A LL Rp
  obtain ⟨E, hF, MC, MS, hB⟩ := A
  obtain ⟨hc11, hin, hty, hnm, hdecl⟩ := tk_cls hc
  have hts := E.2.2.2.2.2.1
  have hK := E.2.2.2.2.2.2.2.2.2.2.1.1
  have hap := va_apart (own := C.1.cls) hts hin (tkfty c) hty hnm hK (C := r.1) (T := r.2.1) (N := r.2.2) hc
  obtain ⟨-, hat⟩ := Rp.2 a (by show (T a).1 ≠ 0; omega)
  rcases hat with ⟨ht20, r', hr', cell, q1, q2, q3, q4⟩ | ⟨h20, -⟩
  · have e1 : (T a).1 - 1 = c := by omega
    rw [show ((n, T, I, L, P) : tkH).2.1 a = T a from rfl, e1] at hr' q2 q4
    obtain rfl : r = r' := Option.some.inj (hc.symm.trans hr')
    obtain ⟨hS, hfc, kC, hkC, hkind⟩ := hK.1 c _ hc
    obtain ⟨cf, kf, fi', f, hi, hsl⟩ := hS k hk
    have hlay := hts _ (hin _ (u_in_lay hk))
    have hst := (u_facts hfc hkC (u_lays hts hin hk) hi).1
    have fin : ∀ H' : Heap, H'[G.1 + a]? = some (cell.setSlot f.slot (tkv G v)) → H'.size = H.size → (∀ q, q ≠ G.1 + a → H'[q]? = H[q]?) → W p l e R s m args below meth c0 H' (locs ++ [⟨G.1 + a, f.slot⟩]) cells slots Z (F0 m (pc + 3) LS (st.map (tkv G))) := by
      intro H' g1 g2 g3
      rw [hsl] at g1
      refine tkX_e kk p l e R s m args below meth c0 H' _ cells slots Z LS ⟨E, hF.put g2 g3, MC, MS, hB⟩ LL (Rp.put g2 g3 (Or.inl ⟨ht20, r, by rw [e1]; exact hc, ?_⟩))
      rw [e1]
      exact t_OB.to ⟨_, g1, q2, q3, t_set q4 hap hk (tkv G v)⟩ (fun j _ => hnew j)
    unfold u_lay at hlay
    rcases hwr with hfin | ⟨hfin, hini, hown⟩
    · rw [if_neg (by rw [hfin]; decide)] at hlay
      have h6 := u_store hfc hkC hkind hlay hi (hty k hk) hn hfit
      exact W.putK E.1 E.2.1 (f := f) ⟨E.2.2.2.2.1, hts _ hw, ⟨_, _, _, hi⟩, hst⟩ (by rw [q2]; exact h6) q1 q3 (by rw [hsl]; exact k2_hasslot (q4 k hk)) rfl rfl hd fin
    · rw [if_pos hfin] at hlay
      have hcf : m.cls = cf := by
        obtain ⟨_, _, c', _, _, _, -, -, hf', -, -, -, hown2, -⟩ := Cond.laysFinal_spec hlay
        have e1 : c' = cf := by have := hi.symm.trans hf'; simp at this; exact this.1.symm
        rw [hdecl k hk, hown] at hown2
        rw [← e1]; exact Option.some.inj (E.2.2.2.2.1.symm.trans hown2)
      have h6 := u_fits hfc hkC hkind (Or.inr hlay) hi (hty k hk) hn hfit
      exact W.putFinK E.1 E.2.1 E.2.2.2.2.1 (hts _ hw) hi hst hcf (E.2.2.2.2.2.2.2.1.trans hini) (by rw [q2]; exact h6) q1 q3 (by rw [hsl]; exact k2_hasslot (q4 k hk)) rfl rfl hd fin
  · exfalso
    have : 20 ≤ (T a).1 := h20
    omega
theorem tk_putI {a idx c k : Nat} {x : Int32} (hd : tkD C pc (.putfield idx) 3 pc') (hf : tkFd C.1.cls idx c k) (hwr : tkWr C c k) (hty : tkfty c k = .int) (ht : (T a).1 = c + 1)
    (kk : tkX G C d mc ms pc' ls st (n, T, va_up I a (va_up (I a) k x), L, P) Q) : tkX G C d mc ms pc ls (vI x :: vR a :: st) (n, T, I, L, P) Q := by
  refine tk_putv (fi := va_up (I a) k x) (fl := L a) (fp := P a) hd hf hwr ht (by rw [hty]; rfl) (by rw [hty]; rfl) (fun j => ?_) (by rw [tk_up_id, tk_up_id]; exact kk)
  unfold updV va_up
  by_cases e : j = k
  · subst e; simp only [if_true]; rw [hty]; rfl
  · simp only [if_neg e]
theorem tk_putL {a idx c k : Nat} {x : Int64} (hd : tkD C pc (.putfield idx) 3 pc') (hf : tkFd C.1.cls idx c k) (hwr : tkWr C c k) (hty : tkfty c k = .long) (ht : (T a).1 = c + 1)
    (kk : tkX G C d mc ms pc' ls st (n, T, I, va_up L a (va_up (L a) k x), P) Q) : tkX G C d mc ms pc ls (vL x :: vR a :: st) (n, T, I, L, P) Q := by
  refine tk_putv (fi := I a) (fl := va_up (L a) k x) (fp := P a) hd hf hwr ht (by rw [hty]; rfl) (by rw [hty]; rfl) (fun j => ?_) (by rw [tk_up_id, tk_up_id]; exact kk)
  unfold updV va_up
  by_cases e : j = k
  · subst e; simp only [if_true]; rw [hty]; rfl
  · simp only [if_neg e]
theorem tk_nar_r {B : Nat} {ty : FieldType} (h : tkisr ty = true) (r : Option Nat) : narrow ty (tkr B r) = tkr B r ∧ fits ty (tkr B r) = true := by
  cases ty <;> first | (cases h; done) | (cases r <;> exact ⟨rfl, rfl⟩)
theorem tk_putP {a b idx c k : Nat} (hd : tkD C pc (.putfield idx) 3 pc') (hf : tkFd C.1.cls idx c k) (hwr : tkWr C c k) (hty : tkisr (tkfty c k) = true) (ht : (T a).1 = c + 1)
    (kk : tkX G C d mc ms pc' ls st (n, T, I, L, va_up P a (va_up (P a) k (some b))) Q) : tkX G C d mc ms pc ls (vR b :: vR a :: st) (n, T, I, L, P) Q := by
  refine tk_putv (fi := I a) (fl := L a) (fp := va_up (P a) k (some b)) hd hf hwr ht (tk_nar_r hty (some b)).1 (tk_nar_r hty (some b)).2 (fun j => ?_) (by rw [tk_up_id, tk_up_id]; exact kk)
  unfold updV va_up
  by_cases e : j = k
  · subst e; simp only [if_true]; rw [tkfv_r hty]; rfl
  · simp only [if_neg e]
/-- an array's cell -/
theorem tk_arr {h : tkH} {H : Heap} {a t len : Nat} (Rp : tkRep G h H) (ht : h.2.1 a = (t, len)) (h20 : 20 ≤ t) : t < 28 ∧ H[G.1 + a]? = some (arrV (G.2.2.2.1 t) len (fun j => tkfv G.1 (tkaty t) (h.2.2.1 a j) (h.2.2.2.1 a j) (h.2.2.2.2 a j))) := by
  obtain ⟨-, hat⟩ := Rp.2 a (by rw [ht]; show t ≠ 0; omega)
  rw [ht] at hat
  rcases hat with ⟨h1, -⟩ | ⟨-, h2, h3⟩
  · have : t < 20 := h1
    omega
  · exact ⟨h2, h3⟩
theorem tk_alen {a t len : Nat} (hd : tkD C pc .arraylength 1 pc') (ht : T a = (t, len)) (h20 : 20 ≤ t) (kk : tkX G C d mc ms pc' ls (vI (nI len) :: st) (n, T, I, L, P) Q) : tkX G C d mc ms pc ls (vR a :: st) (n, T, I, L, P) Q := by
  obtain ⟨hd, rfl⟩ := hd
  refine tkX_i ?_
  intro p l e R s m args below meth c0 H locs cells slots Z LS A LL Rp
  obtain ⟨h28, hc⟩ := tk_arr Rp ht h20
  refine W.alen (n := nI len) A.1.1 A.1.2.1 hc ((tk_tys A.1.2.2.2.2.2.2.2.2.2.2.1 h20 h28).1 _ _) (by rw [arrV_size]; rfl) rfl rfl hd (tkX_e kk p l e R s m args below meth c0 H locs cells slots Z LS A LL Rp)
theorem tk_iald {a j len : Nat} (hd : tkD C pc .iaload 1 pc') (ht : T a = (20, len)) (hj : j < len) (hl : len < 2 ^ 31) (kk : tkX G C d mc ms pc' ls (vI (I a j) :: st) (n, T, I, L, P) Q) : tkX G C d mc ms pc ls (vI (nI j) :: vR a :: st) (n, T, I, L, P) Q := by
  obtain ⟨hd, rfl⟩ := hd
  refine tkX_i ?_
  intro p l e R s m args below meth c0 H locs cells slots Z LS A LL Rp
  obtain ⟨h28, hc⟩ := tk_arr Rp ht (by omega)
  exact W.iald A.1.1 A.1.2.1 hc ((tk_tys A.1.2.2.2.2.2.2.2.2.2.2.1 (by omega) h28).1 _ _) (fun q => by cases q) (by rw [arrV_size]; exact nI_in hj hl) (v := .int (I a j)) (by rw [nI_clamp (by omega), arrV_read _ _ hj]; rfl) rfl rfl hd (tkX_e kk p l e R s m args below meth c0 H locs cells slots Z LS A LL Rp)
theorem tk_bald {a j len : Nat} (hd : tkD C pc .baload 1 pc') (ht : T a = (22, len)) (hj : j < len) (hl : len < 2 ^ 31) (kk : tkX G C d mc ms pc' ls (vI (I a j) :: st) (n, T, I, L, P) Q) : tkX G C d mc ms pc ls (vI (nI j) :: vR a :: st) (n, T, I, L, P) Q := by
  obtain ⟨hd, rfl⟩ := hd
  refine tkX_i ?_
  intro p l e R s m args below meth c0 H locs cells slots Z LS A LL Rp
  obtain ⟨h28, hc⟩ := tk_arr Rp ht (by omega)
  exact W.zald A.1.1 A.1.2.1 hc ((tk_tys A.1.2.2.2.2.2.2.2.2.2.2.1 (by omega) h28).1 _ _) (fun q => by cases q) (by rw [arrV_size]; exact nI_in hj hl) (v := .int (I a j)) (by rw [nI_clamp (by omega), arrV_read _ _ hj]; rfl) rfl rfl hd (tkX_e kk p l e R s m args below meth c0 H locs cells slots Z LS A LL Rp)
theorem tk_lald {a j len : Nat} (hd : tkD C pc .laload 1 pc') (ht : T a = (21, len)) (hj : j < len) (hl : len < 2 ^ 31) (kk : tkX G C d mc ms pc' ls (vL (L a j) :: st) (n, T, I, L, P) Q) : tkX G C d mc ms pc ls (vI (nI j) :: vR a :: st) (n, T, I, L, P) Q := by
  obtain ⟨hd, rfl⟩ := hd
  refine tkX_i ?_
  intro p l e R s m args below meth c0 H locs cells slots Z LS A LL Rp
  obtain ⟨h28, hc⟩ := tk_arr Rp ht (by omega)
  exact W.lald A.1.1 A.1.2.1 hc ((tk_tys A.1.2.2.2.2.2.2.2.2.2.2.1 (by omega) h28).1 _ _) (fun q => by cases q) (by rw [arrV_size]; exact nI_in hj hl) (v := .long (L a j)) (by rw [nI_clamp (by omega), arrV_read _ _ hj]; rfl) rfl rfl hd (tkX_e kk p l e R s m args below meth c0 H locs cells slots Z LS A LL Rp)
theorem tk_aald {a b j t len : Nat} (hd : tkD C pc .aaload 1 pc') (ht : T a = (t, len)) (h23 : 23 ≤ t) (hj : j < len) (hl : len < 2 ^ 31) (hp : P a j = some b) (kk : tkX G C d mc ms pc' ls (vR b :: st) (n, T, I, L, P) Q) : tkX G C d mc ms pc ls (vI (nI j) :: vR a :: st) (n, T, I, L, P) Q := by
  obtain ⟨hd, rfl⟩ := hd
  refine tkX_i ?_
  intro p l e R s m args below meth c0 H locs cells slots Z LS A LL Rp
  obtain ⟨h28, hc⟩ := tk_arr Rp ht (by omega)
  have h5 : t = 23 ∨ t = 24 ∨ t = 25 ∨ t = 26 ∨ t = 27 := by omega
  refine W.aald A.1.1 A.1.2.1 hc ((tk_tys A.1.2.2.2.2.2.2.2.2.2.2.1 (by omega) h28).1 _ _) (by rcases h5 with rfl | rfl | rfl | rfl | rfl <;> rfl) (fun q => by cases q) (by rw [arrV_size]; exact nI_in hj hl) (v := .ref (G.1 + b)) ?_ rfl rfl hd (tkX_e kk p l e R s m args below meth c0 H locs cells slots Z LS A LL Rp)
  rw [nI_clamp (by omega), arrV_read _ _ hj, tkfv_r (by rcases h5 with rfl | rfl | rfl | rfl | rfl <;> rfl)]
  show some (tkr G.1 (P a j)) = _
  rw [hp]; rfl
theorem tk_arr_up {G : tkG} {t len j : Nat} {f g : Nat → Value} {v : Value} {cA : ClassId} (h : ∀ i, updV f j v i = g i) : (arrV cA len f).setSlot j v = arrV cA len g := by
  rw [arrV_store]
  congr 1
  funext i
  exact h i
theorem tk_iast {a j len : Nat} {x : Int32} (hd : tkD C pc .iastore 1 pc') (ht : T a = (20, len)) (hj : j < len) (hl : len < 2 ^ 31) (kk : tkX G C d mc ms pc' ls st (n, T, va_up I a (va_up (I a) j x), L, P) Q) : tkX G C d mc ms pc ls (vI x :: vI (nI j) :: vR a :: st) (n, T, I, L, P) Q := by
  obtain ⟨hd, rfl⟩ := hd
  refine tkX_i ?_
  intro p l e R s m args below meth c0 H locs cells slots Z LS A LL Rp
  obtain ⟨h28, hc⟩ := tk_arr Rp ht (by omega)
  obtain ⟨E, hF, MC, MS, hB⟩ := A
  refine W.iast E.1 E.2.1 hc ((tk_tys E.2.2.2.2.2.2.2.2.2.2.1 (by omega) h28).1 _ _) (fun q => by cases q) (by rw [arrV_size]; exact nI_in hj hl) rfl rfl hd fun H1 e1 e2 e3 => ?_
  refine tkX_e kk p l e R s m args below meth c0 H1 _ cells slots Z LS ⟨E, hF.put e2 e3, MC, MS, hB⟩ LL ?_
  have := Rp.put (fi := va_up (I a) j x) (fl := L a) (fp := P a) e2 e3 (Or.inr ⟨by rw [ht]; exact Nat.le_refl 20, by rw [ht]; exact h28, by
    rw [e1, ht, nI_clamp (by omega)]
    refine congrArg some (tk_arr_up (G := G) (t := 20) (fun i => ?_))
    unfold updV va_up
    by_cases e : i = j
    · subst e; simp only [if_true]; rfl
    · simp only [if_neg e]⟩)
  rwa [tk_up_id, tk_up_id] at this
theorem tk_last {a j len : Nat} {x : Int64} (hd : tkD C pc .lastore 1 pc') (ht : T a = (21, len)) (hj : j < len) (hl : len < 2 ^ 31) (kk : tkX G C d mc ms pc' ls st (n, T, I, va_up L a (va_up (L a) j x), P) Q) : tkX G C d mc ms pc ls (vL x :: vI (nI j) :: vR a :: st) (n, T, I, L, P) Q := by
  obtain ⟨hd, rfl⟩ := hd
  refine tkX_i ?_
  intro p l e R s m args below meth c0 H locs cells slots Z LS A LL Rp
  obtain ⟨h28, hc⟩ := tk_arr Rp ht (by omega)
  obtain ⟨E, hF, MC, MS, hB⟩ := A
  refine W.last E.1 E.2.1 hc ((tk_tys E.2.2.2.2.2.2.2.2.2.2.1 (by omega) h28).1 _ _) (fun q => by cases q) (by rw [arrV_size]; exact nI_in hj hl) rfl rfl hd fun H1 e1 e2 e3 => ?_
  refine tkX_e kk p l e R s m args below meth c0 H1 _ cells slots Z LS ⟨E, hF.put e2 e3, MC, MS, hB⟩ LL ?_
  have := Rp.put (fi := I a) (fl := va_up (L a) j x) (fp := P a) e2 e3 (Or.inr ⟨by rw [ht]; exact Nat.le_of_ble_eq_true rfl, by rw [ht]; exact h28, by
    rw [e1, ht, nI_clamp (by omega)]
    refine congrArg some (tk_arr_up (G := G) (t := 21) (fun i => ?_))
    unfold updV va_up
    by_cases e : i = j
    · subst e; simp only [if_true]; rfl
    · simp only [if_neg e]⟩)
  rwa [tk_up_id, tk_up_id] at this
theorem tk_bast {a j len : Nat} {x : Int32} (hd : tkD C pc .bastore 1 pc') (ht : T a = (22, len)) (hj : j < len) (hl : len < 2 ^ 31) (hx : narrow .boolean (.int x) = .int x) (kk : tkX G C d mc ms pc' ls st (n, T, va_up I a (va_up (I a) j x), L, P) Q) : tkX G C d mc ms pc ls (vI x :: vI (nI j) :: vR a :: st) (n, T, I, L, P) Q := by
  obtain ⟨hd, rfl⟩ := hd
  refine tkX_i ?_
  intro p l e R s m args below meth c0 H locs cells slots Z LS A LL Rp
  obtain ⟨h28, hc⟩ := tk_arr Rp ht (by omega)
  obtain ⟨E, hF, MC, MS, hB⟩ := A
  refine W.zast E.1 E.2.1 hc ((tk_tys E.2.2.2.2.2.2.2.2.2.2.1 (by omega) h28).1 _ _) (fun q => by cases q) (by rw [arrV_size]; exact nI_in hj hl) rfl rfl hd fun H1 e1 e2 e3 => ?_
  rw [hx] at e1
  refine tkX_e kk p l e R s m args below meth c0 H1 _ cells slots Z LS ⟨E, hF.put e2 e3, MC, MS, hB⟩ LL ?_
  have := Rp.put (fi := va_up (I a) j x) (fl := L a) (fp := P a) e2 e3 (Or.inr ⟨by rw [ht]; exact Nat.le_of_ble_eq_true rfl, by rw [ht]; exact h28, by
    rw [e1, ht, nI_clamp (by omega)]
    refine congrArg some (tk_arr_up (G := G) (t := 22) (fun i => ?_))
    unfold updV va_up
    by_cases e : i = j
    · subst e; simp only [if_true]; rfl
    · simp only [if_neg e]⟩)
  rwa [tk_up_id, tk_up_id] at this
/-- the class that an array of references is of -/
def tkcomp (t : Nat) : Nat := match t with
  | 23 => 3
  | 24 => 1
  | 25 => 2
  | 26 => 7
  | _ => 5
theorem tk_aast {a b j t len : Nat} (hd : tkD C pc .aastore 1 pc') (ht : T a = (t, len)) (h23 : 23 ≤ t) (hj : j < len) (hl : len < 2 ^ 31) (hb : (T b).1 = tkcomp t + 1) (kk : tkX G C d mc ms pc' ls st (n, T, I, L, va_up P a (va_up (P a) j (some b))) Q) : tkX G C d mc ms pc ls (vR b :: vI (nI j) :: vR a :: st) (n, T, I, L, P) Q := by
  obtain ⟨hd, rfl⟩ := hd
  refine tkX_i ?_
  intro p l e R s m args below meth c0 H locs cells slots Z LS A LL Rp
  obtain ⟨h28, hc⟩ := tk_arr Rp ht (by omega)
  obtain ⟨E, hF, MC, MS, hB⟩ := A
  have hK := E.2.2.2.2.2.2.2.2.2.2.1
  have h5 : t = 23 ∨ t = 24 ∨ t = 25 ∨ t = 26 ∨ t = 27 := by omega
  have hRA := (tk_tys hK (by omega) h28).2
  have hcl : ∃ (D : String) (r : vw_C), tkaty t = .object D ∧ vwCl[tkcomp t]? = some r ∧ r.1 = D := by
    rcases h5 with rfl | rfl | rfl | rfl | rfl <;> exact ⟨_, _, rfl, rfl, rfl⟩
  obtain ⟨D, r, hD, hr, hrD⟩ := hcl
  have hc5 : tkcomp t < 11 := by rcases h5 with rfl | rfl | rfl | rfl | rfl <;> decide
  rw [hD] at hRA
  obtain ⟨kA, comp, hkA, hkind, hcomp, -⟩ := hRA
  obtain ⟨-, hat⟩ := Rp.2 b (by show (T b).1 ≠ 0; omega)
  rcases hat with ⟨-, r', hr', cell, q1, q2, q3, q4⟩ | ⟨h20, -⟩
  · have e1 : (T b).1 - 1 = tkcomp t := by omega
    rw [show ((n, T, I, L, P) : tkH).2.1 b = T b from rfl, e1] at hr' q2
    obtain ⟨-, hfc, kC, hkC, -⟩ := hK.1.1 (tkcomp t) r hr
    rw [hrD] at hfc
    have hcm : comp = G.2.2.1.1 (tkcomp t) := Option.some.inj (hcomp.symm.trans hfc)
    refine W.aast (cv := cell) E.1 E.2.1 hc (fun q h => by cases h) (fun h => by cases h) hkA hkind rfl (kcomp := kC) (by rw [hcm]; exact hkC) ⟨nI_pos (by omega), by rw [nI_clamp (by omega), arrV_size]; exact hj⟩ q1 (fun q h => by rw [q3] at h; cases h) (kv := kC) (by rw [q2]; exact hkC) (by rw [q2, hcm]; exact tk_asg _ _) rfl rfl hd fun H1 e1 e2 e3 => ?_
    refine tkX_e kk p l e R s m args below meth c0 H1 _ cells slots Z LS ⟨E, hF.put e2 e3, MC, MS, hB⟩ LL ?_
    have := Rp.put (fi := I a) (fl := L a) (fp := va_up (P a) j (some b)) e2 e3 (Or.inr ⟨by rw [ht]; show 20 ≤ t; omega, by rw [ht]; exact h28, by
      rw [e1, ht, nI_clamp (by omega)]
      refine congrArg some (tk_arr_up (G := G) (t := t) (fun i => ?_))
      have hir : tkisr (tkaty t) = true := by rw [hD]; rfl
      unfold updV va_up
      by_cases e : i = j
      · subst e; simp only [if_true]; rw [tkfv_r hir]; rfl
      · simp only [if_neg e]⟩)
    rwa [tk_up_id, tk_up_id] at this
  · exfalso
    have h6 : 20 ≤ (T b).1 := h20
    omega
end TKH
