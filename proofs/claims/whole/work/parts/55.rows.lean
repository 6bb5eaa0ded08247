/-! ===== rows: copies, casts, switches ===== -/
theorem tk_vp {G : tkG} {len : Nat} {f : Nat → Int32} {fl : Nat → Int64} {fp : Nat → Option Nat} {cA : ClassId} : arrV cA len (fun j => tkfv G.1 (tkaty 20) (f j) (fl j) (fp j)) = vp_cell cA (len, .inl f) := rfl
def tkCpW (own : String) (idx : Nat) : Prop := Cond.methodLink own idx arraycopyName ∈ tk_tbl
section TKROW
variable {G : tkG} {C : tkC} {d mc ms pc pc' idx : Nat} {ls : List (Option tkV)} {st rest : List tkV} {h : tkH} {Q : Option tkV → tkH → Prop}
variable {n : Nat} {T : Nat → Nat × Nat} {I : Nat → Nat → Int32} {L : Nat → Nat → Int64} {P : Nat → Nat → Option Nat}
theorem tk_copyi {a0 a n0 n1 sp dp k : Nat} (hd : tkD C pc (.invokestatic idx) 3 pc') (hl : tkCpW C.1.cls idx) (hw : Cond.native arraycopyName ∈ tk_tbl ∧ Cond.static arraycopyName ∈ tk_tbl ∧ Cond.initialized "java/lang/System" ∈ tk_tbl) (ht0 : T a0 = (20, n0)) (ht1 : T a = (20, n1)) (hz : n0 < 2 ^ 31 ∧ n1 < 2 ^ 31) (h4 : sp + k ≤ n0) (h5 : dp + k ≤ n1) (hr : (rest.map tkcat).sum ≤ 8) (hdd : 1 ≤ d)
    (kk : tkX G C d mc ms pc' ls rest (n, T, va_up I a (va_cpy (I a0) (I a) sp dp k), L, P) Q) : tkX G C d mc ms pc ls (vI (nI k) :: vI (nI dp) :: vR a :: vI (nI sp) :: vR a0 :: rest) (n, T, I, L, P) Q := by
  obtain ⟨hd, rfl⟩ := hd
  refine tkX_i ?_
  intro p l e R s m args below meth c0 H locs cells slots Z LS A LL Rp
  obtain ⟨E, hF, MC, MS, hB⟩ := A
  have hts := E.2.2.2.2.2.1
  have hK := E.2.2.2.2.2.2.2.2.2.2.1
  obtain ⟨-, hc0⟩ := tk_arr Rp ht0 (by omega)
  obtain ⟨-, hc1⟩ := tk_arr Rp ht1 (by omega)
  have hA := (tk_tys hK (t := 20) (by omega) (by omega)).1
  intro T' hT X
  have hfr : 1 ≤ R.frames := Nat.le_trans hdd E.2.2.2.2.2.2.2.2.1
  have h8 := tkcat_sum G rest
  have h9 : 60 * d ≤ R.locals := E.2.2.2.2.2.2.2.2.2.1
  obtain ⟨-, k0, hk0, cm0, hkk0⟩ := hA n0 (fun j => .int (I a0 j))
  obtain ⟨-, k1, hk1, cm1, hkk1⟩ := hA n1 (fun j => .int (I a j))
  have e0 : (nI sp).toNatClampNeg = sp := nI_clamp (by omega)
  have e1 : (nI dp).toNatClampNeg = dp := nI_clamp (by omega)
  have e2 : (nI k).toNatClampNeg = k := nI_clamp (by omega)
  have i0 : (nI sp).toInt = (sp : Int) := by rw [nI_toInt]; omega
  have i1 : (nI dp).toInt = (dp : Int) := by rw [nI_toInt]; omega
  have i2 : (nI k).toInt = (k : Int) := by rw [nI_toInt]; omega
  obtain ⟨vm', X', step⟩ := X.arraycopy E.1 E.2.2.2.2.1 (hts _ hl) (hts _ hw.1) (hts _ hw.2.1) (hts _ hw.2.2) (src := G.1 + a0) (dst := G.1 + a) (cs := vp_cell (G.2.2.2.1 20) (n0, .inl (I a0))) (cd := vp_cell (G.2.2.2.1 20) (n1, .inl (I a))) (srcPos := nI sp) (destPos := nI dp) (n := nI k) (by rw [hT]; exact hc0) (by rw [hT]; exact hc1)
    (fun _ h => by cases h) (fun _ h => by cases h) (fun h => by cases h) (fun h => by cases h) hk0 hk1 hkk0 hkk1 (by simp [tkaty, refKind]) (nI_pos (by omega)) (nI_pos (by omega)) (nI_pos (by omega))
    (by rw [i0, i2]; show ¬ _ > ((arrV (G.2.2.2.1 20) n0 (fun j => .int (I a0 j))).slots.size : Int); rw [arrV_size]; omega)
    (by rw [i1, i2]; show ¬ _ > ((arrV (G.2.2.2.1 20) n1 (fun j => .int (I a j))).slots.size : Int); rw [arrV_size]; omega)
    (fun vm₁ _ i hi => by
      rw [e2] at hi
      have e : (vp_cell (G.2.2.2.1 20) (n0, .inl (I a0))).slots.getD ((nI sp).toNatClampNeg + i) .null = .int (I a0 (sp + i)) := by
        show (arrV (G.2.2.2.1 20) n0 (fun j => .int (I a0 j))).slots.getD _ _ = _
        rw [e0, Array.getD_eq_getD_getElem?, arrV_read _ _ (by omega)]
        rfl
      rw [e]
      exact ⟨rfl, trivial⟩)
    (g := F0 m pc LS (.int (nI k) :: .int (nI dp) :: .ref (G.1 + a) :: .int (nI sp) :: .ref (G.1 + a0) :: rest.map (tkv G))) rfl (by rw [E.2.2.1]; exact LL.2.1) (rest := rest.map (tkv G)) rfl (by rw [E.2.1]; exact hd) hfr (by
      have hnf : nativeFrameWords "java/lang/System" "arraycopy" 5 = 7 := by decide +kernel
      show 2 * 0 + _ + (nativeFrameWords "java/lang/System" "arraycopy" 5 + 11) ≤ _
      rw [h8, hnf]; omega)
  have hcp : copied (vp_cell (G.2.2.2.1 20) (n0, .inl (I a0))) (vp_cell (G.2.2.2.1 20) (n1, .inl (I a))) (nI sp) (nI dp) (nI k) = vp_cell (G.2.2.2.1 20) (n1, .inl (va_cpy (I a0) (I a) sp dp k)) := by
    have := va_copied (fun z => Value.int z) (G.2.2.2.1 20) (G.2.2.2.1 20) (I a0) (I a) (n0 := n0) (n1 := n1) (sp := (nI sp).toNatClampNeg) (dp := (nI dp).toNatClampNeg) (n := (nI k).toNatClampNeg) (by rw [e0, e2]; exact h4)
    have e3 : vp_cell (G.2.2.2.1 20) (n1, .inl (va_cpy (I a0) (I a) sp dp k)) = arrV (G.2.2.2.1 20) n1 (fun j => Value.int (va_cpy (I a0) (I a) (nI sp).toNatClampNeg (nI dp).toNatClampNeg (nI k).toNatClampNeg j)) := by rw [e0, e1, e2]; rfl
    rw [e3]
    exact this
  rw [hcp] at X' step
  have hlt : G.1 + a < H.size := (Array.getElem?_eq_some_iff.mp hc1).1
  have hheap : ((T'.setVm vm').setCell (G.1 + a) (vp_cell (G.2.2.2.1 20) (n1, .inl (va_cpy (I a0) (I a) sp dp k)))).heap = H.setIfInBounds (G.1 + a) (vp_cell (G.2.2.2.1 20) (n1, .inl (va_cpy (I a0) (I a) sp dp k))) := by rw [← hT]; rfl
  have z1 : (H.setIfInBounds (G.1 + a) (vp_cell (G.2.2.2.1 20) (n1, .inl (va_cpy (I a0) (I a) sp dp k))) : Heap).size = H.size := Array.size_setIfInBounds
  have o1 : ∀ q : Nat, q ≠ G.1 + a → (H.setIfInBounds (G.1 + a) (vp_cell (G.2.2.2.1 20) (n1, .inl (va_cpy (I a0) (I a) sp dp k))) : Heap)[q]? = H[q]? := fun q hq => by simp [Array.getElem?_setIfInBounds, Ne.symm hq]
  have s1 : (H.setIfInBounds (G.1 + a) (vp_cell (G.2.2.2.1 20) (n1, .inl (va_cpy (I a0) (I a) sp dp k))) : Heap)[G.1 + a]? = some (vp_cell (G.2.2.2.1 20) (n1, .inl (va_cpy (I a0) (I a) sp dp k))) := by simp [Array.getElem?_setIfInBounds, hlt]
  have hrep := Rp.put (fi := va_cpy (I a0) (I a) sp dp k) (fl := L a) (fp := P a) z1 o1 (Or.inr ⟨by rw [ht1]; exact Nat.le_refl 20, by rw [ht1]; exact (by omega : (20 : Nat) < 28), by rw [s1, ht1]; rfl⟩)
  rw [tk_up_id, tk_up_id] at hrep
  have hfr2 : tkFr G s (H.setIfInBounds (G.1 + a) (vp_cell (G.2.2.2.1 20) (n1, .inl (va_cpy (I a0) (I a) sp dp k)))) (locs ++ (((vp_cell (G.2.2.2.1 20) (n0, .inl (I a0))).stretch (nI sp).toNatClampNeg (nI k).toNatClampNeg).zipIdx.map fun q => (⟨G.1 + a, (nI dp).toNatClampNeg + q.2⟩ : Loc))) := by
    refine ⟨hF.1, by rw [z1]; exact hF.2.1, fun q hq => (o1 q (by omega)).trans (hF.2.2.1 q hq), fun y hy => ?_⟩
    rcases List.mem_append.mp hy with h | h
    · exact hF.2.2.2 y h
    · obtain ⟨z, -, hz⟩ := List.mem_map.mp h
      rw [← hz]; exact Nat.le_add_right _ _
  obtain ⟨t, a1, b1⟩ := tkX_e kk p l e R s m args below meth c0 _ _ cells slots Z LS ⟨E, hfr2, MC, MS, hB⟩ LL hrep _ hheap X'
  exact ⟨t, step t a1, b1⟩
def tkClW (own : String) (idx : Nat) : Prop := Cond.methodLink own idx ⟨"[I", "clone", "()Ljava/lang/Object;"⟩ ∈ tk_tbl
def tkClW2 : Prop := Cond.sameMethod "[I" "java/lang/Object" "clone" "()Ljava/lang/Object;" ∈ tk_tbl ∧ Cond.native ⟨"java/lang/Object", "clone", "()Ljava/lang/Object;"⟩ ∈ tk_tbl ∧ Cond.instanceMethod ⟨"java/lang/Object", "clone", "()Ljava/lang/Object;"⟩ ∈ tk_tbl ∧ Cond.selects "[I" ⟨"[I", "clone", "()Ljava/lang/Object;"⟩ ⟨"java/lang/Object", "clone", "()Ljava/lang/Object;"⟩ ∈ tk_tbl ∧ Cond.castable "[I" "java/lang/Cloneable" ∈ tkNst
theorem tk_clone {a len : Nat} (hd : tkD C pc (.invokevirtual idx) 3 pc') (hl : tkClW C.1.cls idx) (hw : tkClW2) (ht : T a = (20, len)) (hr : (rest.map tkcat).sum ≤ 8) (hdd : 1 ≤ d) (b1 : 1 ≤ mc) (b2 : len ≤ ms)
    (kk : tkX G C d (mc - 1) (ms - len) pc' ls (vR n :: rest) (n + 1, va_up T n (20, len), va_up I n (I a), va_up L n (L a), va_up P n (P a)) Q) : tkX G C d mc ms pc ls (vR a :: rest) (n, T, I, L, P) Q := by
  obtain ⟨hd, rfl⟩ := hd
  refine tkX_i ?_
  intro p l e R s m args below meth c0 H locs cells slots Z LS A LL Rp
  obtain ⟨E, hF, MC, MS, hB1, hB2, hB3, hB4, hB5⟩ := A
  have hts := E.2.2.2.2.2.1
  have hK := E.2.2.2.2.2.2.2.2.2.2.1
  obtain ⟨-, hc⟩ := tk_arr Rp ht (by omega)
  have hA := tk_tys hK (t := 20) (by omega) (by omega)
  have hfr : 1 ≤ R.frames := Nat.le_trans hdd E.2.2.2.2.2.2.2.2.1
  have h8 := tkcat_sum G rest
  have h9 : 60 * d ≤ R.locals := E.2.2.2.2.2.2.2.2.2.1
  obtain ⟨w1, w2, w3, w4, w5⟩ := hw
  have hnm : s.vm.findClass "[I" = some (G.2.2.2.1 20) := hA.2
  obtain ⟨c1, t0', f1, f2, f3⟩ := Cond.castable_spec (va_Nw.use (A := args) rfl (hK.2 _ w5))
  have ec : c1 = G.2.2.2.1 20 := Option.some.inj (f1.symm.trans hnm)
  subst ec
  intro T' hT X
  have hcellT : T'.heap[G.1 + a]? = some (vp_cell (G.2.2.2.1 20) (len, .inl (I a))) := by rw [hT]; exact hc
  obtain ⟨-, kA, hkA, comp, hkind⟩ := State.isArrayOf_alike X.warmed.alike (hA.1 0 (fun _ => .null))
  obtain ⟨-, kS, hkS, compS, hkindS⟩ := hA.1 0 (fun _ => .null)
  have hsz : (vp_cell (G.2.2.2.1 20) (len, .inl (I a))).slots.size = len := arrV_size _ _ _
  obtain ⟨vm', X', st⟩ := X.cloneArray E.1 E.2.2.2.2.1 (hts _ hl) (hts _ w1) (hts _ w2) (hts _ w3) (hts _ w4) (a := G.1 + a) (cell := vp_cell (G.2.2.2.1 20) (len, .inl (I a))) hcellT (fun k h => by cases h) (fun h => by cases h) hnm f2 f3
    (fun i v hv => by
      have hk' : T'.vm.classes[G.2.2.2.1 20]? = some kA := hkA
      have hv2 : ∃ z, v = .int z := by
        have : (arrV (G.2.2.2.1 20) len (fun j => .int (I a j))).slots[i]? = some v := hv
        by_cases hi : i < len
        · rw [arrV_read _ _ hi] at this
          exact ⟨_, (Option.some.inj this).symm⟩
        · rw [Array.getElem?_eq_none (by rw [arrV_size]; omega)] at this
          cases this
      obtain ⟨z, rfl⟩ := hv2
      have hty : fits (tkaty 20) (.int z) = true := rfl
      show T'.fitsSlot (G.2.2.2.1 20) .none i (.int z) = true
      simpa [State.fitsSlot, State.slotType?, hk', hkind] using hty)
    (g := F0 m pc LS (.ref (G.1 + a) :: rest.map (tkv G))) rfl (by rw [E.2.2.1]; exact LL.2.1) rfl (by rw [E.2.1]; exact hd) hfr (by show 2 * 0 + _ + 14 ≤ _; rw [h8]; omega) (by omega) (by rw [hsz]; omega) (hloader := Vm.clonesLoader_of_array hkS hkindS)
  rw [hsz] at X'
  have hsH : (H : Heap).size = G.1 + n := Rp.1
  have z1 : (H.push (vp_cell (G.2.2.2.1 20) (len, .inl (I a))) : Heap).size = G.1 + n + 1 := by rw [Array.size_push, hsH]
  have o1 : ∀ q : Nat, q < G.1 + n → (H.push (vp_cell (G.2.2.2.1 20) (len, .inl (I a))) : Heap)[q]? = H[q]? := fun q hq => by rw [Array.getElem?_push, if_neg (by rw [hsH]; omega)]
  have hrep := Rp.new (t := (20, len)) (fi := I a) (fl := L a) (fp := P a) z1 o1 (Or.inr ⟨Nat.le_refl 20, (by omega : (20 : Nat) < 28), by rw [← hsH, Array.getElem?_push_size]; rfl⟩)
  have hz : T'.heap.size = G.1 + n := by rw [hT]; exact hsH
  obtain ⟨t, a1, b3⟩ := tkX_e kk p l e R s m args below meth c0 _ locs (cells + 1) (slots + len) Z LS ⟨E, hF.new Rp.1 z1 o1, MC, MS, by omega, by omega, hB3, hB4, hB5⟩ LL hrep ((T'.setVm vm').pushCell (vp_cell (G.2.2.2.1 20) (len, .inl (I a)))) (by rw [← hT]; rfl) X'
  refine ⟨t, st t ?_, b3⟩
  rw [hz]
  exact a1
theorem tk_castI {a len : Nat} (hd : tkD C pc (.checkcast idx) 3 pc') (hl : Cond.classLink C.1.cls idx "[I" ∈ tk_tbl) (ht : T a = (20, len)) (kk : tkX G C d mc ms pc' ls (vR a :: rest) (n, T, I, L, P) Q) : tkX G C d mc ms pc ls (vR a :: rest) (n, T, I, L, P) Q := by
  obtain ⟨hd, rfl⟩ := hd
  refine tkX_i ?_
  intro p l e R s m args below meth c0 H locs cells slots Z LS A LL Rp
  have E := A.1
  obtain ⟨-, hc⟩ := tk_arr Rp ht (by omega)
  have hA := tk_tys E.2.2.2.2.2.2.2.2.2.2.1 (t := 20) (by omega) (by omega)
  refine va_castA (D := G.2.2.1) (cl := vwCl) (ws := [(G.1 + a, .inl (G.2.2.2.1 20, (len, .inl (I a))))]) E.1 E.2.1 E.2.2.2.2.1 (E.2.2.2.2.2.1 _ hl) (fun k q hq => ?_) 0 rfl hA.2 hd (tkX_e kk p l e R s m args below meth c0 H locs cells slots Z LS A LL Rp)
  have hk : k < 1 := (List.getElem?_eq_some_iff.mp hq).1
  obtain rfl : k = 0 := by omega
  cases hq
  exact hc
theorem tk_tabIn {x : Int32} {df lo hi off : Int} {offs : Array Int} {len tgt : Nat} (hd : tkD C pc (.tableswitch df lo hi offs) len pc') (h1 : ¬ x.toInt < lo) (h2 : ¬ hi < x.toInt) (ho : offs[(x.toInt - lo).toNat]? = some off) (ht : (pc : Int) + off = (tgt : Int)) (k : tkX G C d mc ms tgt ls st h Q) : tkX G C d mc ms pc ls (vI x :: st) h Q := tk_pure (fun E L w => lv_tableIn E.1 E.2.1 hd.1 h1 h2 ho ht w) k
theorem tk_tabOut {x : Int32} {df lo hi : Int} {offs : Array Int} {len tgt : Nat} (hd : tkD C pc (.tableswitch df lo hi offs) len pc') (h1 : x.toInt < lo ∨ hi < x.toInt) (ht : (pc : Int) + df = (tgt : Int)) (k : tkX G C d mc ms tgt ls st h Q) : tkX G C d mc ms pc ls (vI x :: st) h Q := tk_pure (fun E L w => lv_tableOut E.1 E.2.1 hd.1 h1 ht w) k
theorem tk_look {x : Int32} {df off : Int} {ps : Array (Int × Int)} {len tgt : Nat} (hd : tkD C pc (.lookupswitch df ps) len pc') (hp : (ps.toList.zip (ps.toList.drop 1)).all (fun (a, next) => a.1 < next.1) = true) (ho : Op.lookupswitch.offset ps.toList df x.toInt = off) (ht : (pc : Int) + off = (tgt : Int)) (k : tkX G C d mc ms tgt ls st h Q) : tkX G C d mc ms pc ls (vI x :: st) h Q := tk_pure (fun E L w => lv_lookup E.1 E.2.1 hd.1 hp ho ht w) k
end TKROW
theorem tk_cpw : Cond.native arraycopyName ∈ tk_tbl ∧ Cond.static arraycopyName ∈ tk_tbl ∧ Cond.initialized "java/lang/System" ∈ tk_tbl := ⟨tk_in 403 (by decide +kernel) rfl, tk_in 402 (by decide +kernel) rfl, tk_in 14 (by decide +kernel) rfl⟩
theorem tk_cp150 : tkCpW "java/util/Arrays" 150 := tk_in 401 (by decide +kernel) rfl
theorem tk_cp118 : tkCpW "TownKnows$Draft" 118 := tk_in 539 (by decide +kernel) rfl
theorem tk_cp364 : tkCpW "TownKnows" 364 := tk_in 878 (by decide +kernel) rfl
theorem tk_cl316 : tkClW "java/util/Arrays" 316 := tk_in 398 (by decide +kernel) rfl
theorem tk_cl62 : tkClW "TownKnows$Town" 62 := tk_in 350 (by decide +kernel) rfl
theorem tk_cl24 : tkClW "TownKnows$Picture" 24 := tk_in 368 (by decide +kernel) rfl
theorem tk_cc317 : Cond.classLink "java/util/Arrays" 317 "[I" ∈ tk_tbl := tk_in 399 (by decide +kernel) rfl
theorem tk_cc63 : Cond.classLink "TownKnows$Town" 63 "[I" ∈ tk_tbl := tk_in 356 (by decide +kernel) rfl
theorem tk_cc25 : Cond.classLink "TownKnows$Picture" 25 "[I" ∈ tk_tbl := tk_in 369 (by decide +kernel) rfl
theorem tk_clw : tkClW2 := ⟨tk_in 351 (by decide +kernel) rfl, tk_in 352 (by decide +kernel) rfl, tk_in 353 (by decide +kernel) rfl, tk_in 354 (by decide +kernel) rfl, by simp [tkNst]⟩
