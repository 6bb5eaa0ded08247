/-! ===== the sets of worlds and what is so ===== -/
theorem tb_lt {x : Int64} {i : Nat} (h : tb x i = true) : i < 64 := by
  by_cases e : i < 64
  · exact e
  · rw [tb_big (by omega)] at h; cases h
theorem tb_andT {x y : Int64} {i : Nat} : tb (x &&& y) i = true ↔ tb x i = true ∧ tb y i = true := by rw [tb_and, Bool.and_eq_true]
theorem tb_orT {x y : Int64} {i : Nat} : tb (x ||| y) i = true ↔ tb x i = true ∨ tb y i = true := by rw [tb_or, Bool.or_eq_true]
theorem tb_notT {x : Int64} {i : Nat} (hi : i < 64) : tb (x ^^^ (-1)) i = true ↔ ¬ tb x i = true := by rw [tb_not x hi]; cases tb x i <;> decide
theorem tb_dif {x y : Int64} {i : Nat} : tb (x &&& (y ^^^ (-1))) i = true ↔ tb x i = true ∧ ¬ tb y i = true := by
  rw [tb_andT]
  exact ⟨fun h => ⟨h.1, (tb_notT (tb_lt h.1)).mp h.2⟩, fun h => ⟨h.1, (tb_notT (tb_lt h.1)).mpr h.2⟩⟩
theorem tb_zT {x : Int64} : x = 0 ↔ ∀ i, ¬ tb x i = true := by
  rw [tb_z]
  constructor
  · intro h i q
    rw [h i (tb_lt q)] at q
    cases q
  · intro h i _
    cases e : tb x i with
    | false => rfl
    | true => exact absurd e (h i)
theorem tb_sub0 {a x : Int64} : a &&& (x ^^^ (-1)) = 0 ↔ ∀ u, tb a u = true → tb x u = true := by
  rw [tb_zT]
  constructor
  · intro h u hu
    cases e : tb x u with
    | true => rfl
    | false => exact absurd (tb_dif.mpr ⟨hu, by rw [e]; decide⟩) (h u)
  · intro h u hu
    exact (tb_dif.mp hu).2 (h u (tb_dif.mp hu).1)
theorem tb_extT {x y : Int64} (h : ∀ i, tb x i = true ↔ tb y i = true) : x = y := tb_ext (fun i _ => by rw [Bool.eq_iff_iff]; exact h i)
theorem tb_mkT {f : Nat → Bool} {W i : Nat} (hW : W ≤ 64) : tb (mk f W) i = true ↔ i < W ∧ f i = true := by
  constructor
  · intro h
    have := tb_lt h
    rw [tb_mk f hW this, Bool.and_eq_true, decide_eq_true_eq] at h
    exact h
  · intro h
    rw [tb_mk f hW (by omega), Bool.and_eq_true, decide_eq_true_eq]
    exact h
theorem rKn_T {B : Nat → Int64} {p w : Nat} {x set : Int64} : rKn B p w x set = true ↔ ∀ u, tb set u = true → tb (B (64 * p + w)) u = true → tb x u = true := by
  unfold rKn
  rw [decide_eq_true_eq, tb_sub0]
  exact ⟨fun h u h1 h2 => h u (tb_andT.mpr ⟨h2, h1⟩), fun h u hu => h u (tb_andT.mp hu).2 (tb_andT.mp hu).1⟩
theorem rRe_T {cv : Nat → Int64} {cvP : Nat → Nat → Prop} {dn : Nat} : ∀ (c : Nat) (rest : Int64), (∀ x, x < c → ∀ u, tb (cv x) u = true ↔ cvP x u) → ∀ u, tb (rRe cv dn c rest) u = true ↔ sRem cvP dn c (fun u => tb rest u = true) u := by
  intro c
  induction c with
  | zero => intro rest _ u; exact Iff.rfl
  | succ c ih =>
    intro rest hc u
    rw [rRe, sRem]
    split
    · exact Iff.rfl
    · rw [ih _ (fun x hx => hc x (by omega)) u]
      have e : (fun u => tb (if cv c &&& rest = 0 then rest else cv c &&& rest) u = true) = fun u => tb rest u = true ∧ ((∃ x, cvP c x ∧ tb rest x = true) → cvP c u) := by
        funext u
        apply propext
        have hex : (∃ x, cvP c x ∧ tb rest x = true) ↔ ¬ cv c &&& rest = 0 := by
          rw [tb_zT]
          constructor
          · rintro ⟨x, h1, h2⟩ q
            exact q x (tb_andT.mpr ⟨(hc c (by omega) x).mpr h1, h2⟩)
          · intro q
            apply Classical.byContradiction
            intro h
            exact q (fun i hi => h ⟨i, (hc c (by omega) i).mp (tb_andT.mp hi).1, (tb_andT.mp hi).2⟩)
        rw [hex]
        split
        · rename_i h0
          exact ⟨fun h => ⟨h, fun q => absurd h0 q⟩, fun h => h.1⟩
        · rename_i h0
          rw [tb_andT, hc c (by omega) u]
          exact ⟨fun h => ⟨h.2, fun _ => h.1⟩, fun h => ⟨h.2 h0, h.1⟩⟩
      rw [e]
theorem rEa_T {B : Nat → Int64} {g : Int32} {w : Nat} {x set : Int64} : ∀ p, rEa B g w x set p = true ↔ ∀ q, q < p → rMem g q = true → rKn B q w x set = true := by
  intro p
  induction p with
  | zero => exact ⟨fun _ q hq => by omega, fun _ => rfl⟩
  | succ p ih =>
    rw [rEa]
    split
    · rename_i hm
      rw [Bool.and_eq_true, ih]
      constructor
      · intro h q hq hmq
        by_cases e : q = p
        · subst e; exact h.2
        · exact h.1 q (by omega) hmq
      · intro h
        exact ⟨fun q hq => h q (by omega), h p (by omega) hm⟩
    · rename_i hm
      rw [ih]
      constructor
      · intro h q hq hmq
        by_cases e : q = p
        · subst e; exact absurd hmq hm
        · exact h q (by omega) hmq
      · intro h q hq
        exact h q (by omega)
theorem rTo_T {B : Nat → Int64} {g : Int32} {w : Nat} {set : Int64} {u : Nat} : ∀ p, tb (rTo B g w set p) u = true ↔ tb set u = true ∧ ∀ q, q < p → rMem g q = true → tb (B (64 * q + w)) u = true := by
  intro p
  induction p with
  | zero => exact ⟨fun h => ⟨h, fun q hq => by omega⟩, fun h => h.1⟩
  | succ p ih =>
    rw [rTo]
    split
    · rename_i hm
      rw [tb_andT, ih]
      constructor
      · intro h
        refine ⟨h.1.1, fun q hq hmq => ?_⟩
        by_cases e : q = p
        · subst e; exact h.2
        · exact h.1.2 q (by omega) hmq
      · intro h
        exact ⟨⟨h.1, fun q hq => h.2 q (by omega)⟩, h.2 p (by omega) hm⟩
    · rename_i hm
      rw [ih]
      constructor
      · intro h
        refine ⟨h.1, fun q hq hmq => ?_⟩
        by_cases e : q = p
        · subst e; exact absurd hmq hm
        · exact h.2 q (by omega) hmq
      · intro h
        exact ⟨h.1, fun q hq => h.2 q (by omega)⟩
section CLO
variable {B : Nat → Int64} {set : Int64} {g : Int32} {W np : Nat}
theorem rCw_snd {Z : Nat → Prop} {p : Nat} (hc : ∀ x y, Z x → tb set y = true → tb (B (64 * p + x)) y = true → Z y) {is : Int64} (h : ∀ u, tb is u = true → Z u) : ∀ w u, tb (rCw B set p is w) u = true → Z u := by
  intro w
  induction w with
  | zero => exact h
  | succ w ih =>
    intro u hu
    rw [rCw, tb_orT] at hu
    rcases hu with hu | hu
    · exact ih u hu
    · split at hu
      · rename_i hw
        rw [tb_andT] at hu
        exact hc w u (ih w hw) hu.2 hu.1
      · rw [tb_0] at hu; cases hu
theorem rCp_snd {Z : Nat → Prop} (hc : ∀ x y, Z x → tb set y = true → (∃ p, p < np ∧ rMem g p = true ∧ tb (B (64 * p + x)) y = true) → Z y) {is : Int64} (h : ∀ u, tb is u = true → Z u) : ∀ p, p ≤ np → ∀ u, tb (rCp B set g W is p) u = true → Z u := by
  intro p
  induction p with
  | zero => intro _; exact h
  | succ p ih =>
    intro hp u hu
    rw [rCp] at hu
    split at hu
    · rename_i hm
      exact rCw_snd (fun x y h1 h2 h3 => hc x y h1 h2 ⟨p, by omega, hm, h3⟩) (ih (by omega)) W u hu
    · exact ih (by omega) u hu
theorem rCl_snd {Z : Nat → Prop} (hc : ∀ x y, Z x → tb set y = true → (∃ p, p < np ∧ rMem g p = true ∧ tb (B (64 * p + x)) y = true) → Z y) : ∀ (k : Nat) (is : Int64), (∀ u, tb is u = true → Z u) → ∀ u, tb (rCl B set g W np k is) u = true → Z u := by
  intro k
  induction k with
  | zero => intro is h; exact h
  | succ k ih =>
    intro is h u hu
    rw [rCl] at hu
    split at hu
    · exact h u hu
    · exact ih _ (rCp_snd hc h np (Nat.le_refl _)) u hu
theorem rCl_mono : ∀ (k : Nat) (is : Int64) (u : Nat), tb is u = true → tb (rCl B set g W np k is) u = true := by
  intro k
  induction k with
  | zero => intro is u h; exact h
  | succ k ih =>
    intro is u h
    rw [rCl]
    split
    · exact h
    · exact ih _ u (rCp_mono B set g W is np u h)
theorem rCl_fix : ∀ (k : Nat) (is : Int64), 64 - cnt is 64 ≤ k → rCp B set g W (rCl B set g W np k is) np = rCl B set g W np k is := by
  intro k
  induction k with
  | zero =>
    intro is h
    rw [rCl]
    apply Classical.byContradiction
    intro e
    have h1 := rCp_grow B set g W is np e
    have h2 := cnt_le (rCp B set g W is np) 64
    omega
  | succ k ih =>
    intro is h
    rw [rCl]
    split
    · rename_i e; exact e
    · rename_i e
      have h1 := rCp_grow B set g W is np e
      exact ih _ (by omega)
theorem rCw_idx {p : Nat} {is : Int64} {w w' u : Nat} (h : w ≤ w') (hu : tb (rCw B set p is w) u = true) : tb (rCw B set p is w') u = true := by
  induction w' with
  | zero => obtain rfl : w = 0 := by omega
            exact hu
  | succ w' ih =>
    by_cases e : w = w' + 1
    · subst e; exact hu
    · rw [rCw, tb_orT]; exact Or.inl (ih (by omega))
theorem rCp_idx {is : Int64} {p p' u : Nat} (h : p ≤ p') (hu : tb (rCp B set g W is p) u = true) : tb (rCp B set g W is p') u = true := by
  induction p' with
  | zero => obtain rfl : p = 0 := by omega
            exact hu
  | succ p' ih =>
    by_cases e : p = p' + 1
    · subst e; exact hu
    · rw [rCp]
      split
      · exact rCw_mono _ _ _ _ _ _ (ih (by omega))
      · exact ih (by omega)
theorem rCp_closed {is : Int64} (h : rCp B set g W is np = is) {p x y : Nat} (hp : p < np) (hm : rMem g p = true) (hx : tb is x = true) (hxW : x < W) (hy : tb set y = true) (hb : tb (B (64 * p + x)) y = true) : tb is y = true := by
  rw [← h]
  refine rCp_idx (p := p + 1) (by omega) ?_
  rw [rCp, if_pos hm]
  refine rCw_idx (w := x + 1) (by omega) ?_
  rw [rCw, tb_orT, if_pos (rCw_mono _ _ _ _ _ _ (rCp_mono _ _ _ _ _ _ _ hx)), tb_andT]
  exact Or.inr ⟨hb, hy⟩
theorem tb_one {w : Nat} (hw : w < 64) {u : Nat} : tb (jshl 1 (nI w)) u = true ↔ u = w := by
  constructor
  · intro h
    rw [tb_b hw (tb_lt h), decide_eq_true_eq] at h
    exact h
  · intro h
    subst h
    rw [tb_b hw hw, decide_eq_true_eq]
theorem rCl_T (hs : ∀ u, tb set u = true → u < W) {w : Nat} (hw : w < W) (hW : W ≤ 64) (u : Nat) : tb (rCl B set g W np 64 (jshl 1 (nI w))) u = true ↔ sCom np (fun p => rMem g p = true) (fun p x y => tb (B (64 * p + x)) y = true) (fun u => tb set u = true) w u := by
  constructor
  · intro h Z hz hc
    exact rCl_snd (Z := Z) hc 64 _ (fun u hu => by rw [(tb_one (by omega)).mp hu]; exact hz) u h
  · intro h
    have hf := rCl_fix (B := B) (set := set) (g := g) (W := W) (np := np) 64 (jshl 1 (nI w)) (by omega)
    have hb : ∀ u, tb (rCl B set g W np 64 (jshl 1 (nI w))) u = true → u < W := rCl_snd (Z := fun u => u < W) (fun x y _ h2 _ => hs y h2) 64 _ (fun u hu => by rw [(tb_one (by omega)).mp hu]; exact hw)
    refine h (fun u => tb (rCl B set g W np 64 (jshl 1 (nI w))) u = true) (rCl_mono 64 _ w ((tb_one (by omega)).mpr rfl)) (fun x y hx hy hp => ?_)
    obtain ⟨p, p1, p2, p3⟩ := hp
    exact rCp_closed hf p1 p2 hx (hb x hx) hy p3
end CLO
/-- the reference's way of working a set out tells what is so -/
theorem SO_SEM {np nf W cn : Nat} {bl : Bool} {F : Nat → Int32} {B : Nat → Int64} {gr : Nat → Int32} {cv : Nat → Int64 → Int64} {cvP : Nat → (Nat → Prop) → Nat → Prop} {row : Nat → Int32} (hW : W ≤ 64) (hcv : bl = true → ∀ c, c < cn → ∀ set : Int64, (∀ u, tb set u = true → u < W) → ∀ u, tb (cv c set) u = true ↔ cvP c (fun u => tb set u = true) u) : ∀ (k a : Nat) (set : Int64), (∀ u, tb set u = true → u < W) → WF np nf bl row k a → ∀ w, tb (SO np W cn F B gr cv row k a set) w = true ↔ SEM np cn (fun v w => kshr (F w) (nI v) &&& nI 1 = nI 1) (fun p w u => tb (B (64 * p + w)) u = true) (fun g p => rMem (gr g) p = true) cvP row k a (fun u => tb set u = true) w := by
  intro k
  induction k with
  | zero => intro a set _ h; exact h.elim
  | succ k ih =>
    intro a set hs hwf w
    obtain ⟨v, hv, h40, hwf⟩ := hwf
    have hiv : ix (row a) = v := by rw [hv]; exact ix_nI (by omega)
    have one : ∀ (hb : 28 ≤ v → v < 32 → bl = true), (v = 10 ∨ 20 ≤ v) → ∀ x : Int64, (∀ u, tb x u = true ↔ SEM np cn (fun v w => kshr (F w) (nI v) &&& nI 1 = nI 1) (fun p w u => tb (B (64 * p + w)) u = true) (fun g p => rMem (gr g) p = true) cvP row k (a - 1) (fun u => tb set u = true) u) → (tb (so1 np W B gr cn (fun c => cv c set) v set x) w = true ↔ tb set w = true ∧ sIs np (fun p w u => tb (B (64 * p + w)) u = true) (fun g p => rMem (gr g) p = true) cn (fun c => cvP c (fun u => tb set u = true)) v (fun u => tb set u = true) (SEM np cn (fun v w => kshr (F w) (nI v) &&& nI 1 = nI 1) (fun p w u => tb (B (64 * p + w)) u = true) (fun g p => rMem (gr g) p = true) cvP row k (a - 1) (fun u => tb set u = true)) w) := by
      intro hb hv1 x hx
      have hx2 : SEM np cn (fun v w => kshr (F w) (nI v) &&& nI 1 = nI 1) (fun p w u => tb (B (64 * p + w)) u = true) (fun g p => rMem (gr g) p = true) cvP row k (a - 1) (fun u => tb set u = true) = fun u => tb x u = true := funext fun u => propext (hx u).symm
      rw [hx2]
      unfold so1 sIs
      by_cases h10 : v = 10
      · rw [if_pos h10, if_pos h10, tb_dif]
      · rw [if_neg h10, if_neg h10, tb_mkT hW, Bool.and_eq_true]
        have hww : (w < W ∧ tb set w = true ∧ rIsS np W B gr cn (fun c => cv c set) v w x set = true) ↔ (tb set w = true ∧ rIsS np W B gr cn (fun c => cv c set) v w x set = true) := ⟨fun h => h.2, fun h => ⟨hs w h.1, h⟩⟩
        rw [hww]
        refine and_congr_right (fun hsw => ?_)
        unfold rIsS
        by_cases h24 : v < 24
        · rw [if_pos h24, if_pos h24, rKn_T]
        · rw [if_neg h24, if_neg h24]
          by_cases h28 : v < 28
          · rw [if_pos h28, if_pos h28, decide_eq_true_eq, tb_zT]
            constructor
            · intro h
              apply Classical.byContradiction
              intro q
              exact h (fun i hi => q ⟨i, (tb_andT.mp (tb_andT.mp hi).1).2, (tb_andT.mp (tb_andT.mp hi).1).1, (tb_andT.mp hi).2⟩)
            · rintro ⟨u, a1, a2, a3⟩ q
              exact q u (tb_andT.mpr ⟨tb_andT.mpr ⟨a2, a1⟩, a3⟩)
          · rw [if_neg h28, if_neg h28]
            by_cases h32 : v < 32
            · rw [if_pos h32, if_pos h32, decide_eq_true_eq, tb_sub0]
              have hr := rRe_T (cv := fun c => cv c set) (cvP := fun c => cvP c (fun u => tb set u = true)) (dn := 0) cn (B (64 * (v - 28) + w) &&& set) (fun c hc u => hcv (hb (by omega) h32) c hc set hs u)
              have e : (fun u => tb (B (64 * (v - 28) + w) &&& set) u = true) = fun u => tb (B (64 * (v - 28) + w)) u = true ∧ tb set u = true := funext fun u => propext tb_andT
              rw [e] at hr
              exact forall_congr' (fun u => by rw [hr u])
            · rw [if_neg h32, if_neg h32]
              by_cases h35 : v < 35
              · rw [if_pos h35, if_pos h35, rEa_T, show rGi v = v - 32 from if_pos h35]
                refine forall_congr' (fun p => forall_congr' (fun hp => forall_congr' (fun hm => ?_)))
                rw [rKn_T]
              · rw [if_neg h35, if_neg h35]
                by_cases h38 : v < 38
                · rw [if_pos h38, if_pos h38, decide_eq_true_eq, tb_sub0, show rGi v = v - 35 by unfold rGi; rw [if_neg h35, if_pos h38]]
                  refine forall_congr' (fun u => ?_)
                  rw [rCl_T hs (hs w hsw) hW u]
                · rw [if_neg h38, if_neg h38, decide_eq_true_eq, tb_sub0, show rGi v = v - 38 by unfold rGi; rw [if_neg h35, if_neg h38]]
                  refine forall_congr' (fun u => ?_)
                  rw [rTo_T]
                  exact ⟨fun h h1 h2 => h ⟨h1, h2⟩, fun h h1 => h h1.1 h1.2⟩
    rcases hwf with ⟨h4, hnf⟩ | ⟨rfl, ha, hw⟩ | ⟨h11, h14, ha, hw, hsz, hw2⟩ | ⟨h20, h32, hvp, hb, ha, hw⟩ | ⟨h32, ha, hw⟩
    · rw [SO_f hiv (by omega), SEM_f hiv (by omega), tb_andT]
      unfold rSF
      rw [tb_mkT hW, decide_eq_true_eq]
      exact ⟨fun h => ⟨h.1.2, h.2⟩, fun h => ⟨⟨hs w h.2, h.1⟩, h.2⟩⟩
    · rw [SO_1 hiv (by omega) (by omega), SEM_1 hiv (by omega) (by omega)]
      exact one (fun h => by omega) (Or.inl rfl) _ (ih (a - 1) set hs hw)
    · rw [SO_2 hiv ⟨h11, h14⟩, SEM_2 hiv ⟨h11, h14⟩]
      have hA := ih (a - 1 - SZ row k (a - 1)) set hs hw2
      have eA : SEM np cn (fun v w => kshr (F w) (nI v) &&& nI 1 = nI 1) (fun p w u => tb (B (64 * p + w)) u = true) (fun g p => rMem (gr g) p = true) cvP row k (a - 1 - SZ row k (a - 1)) (fun u => tb set u = true) = fun u => tb (SO np W cn F B gr cv row k (a - 1 - SZ row k (a - 1)) set) u = true := funext fun u => propext (hA u).symm
      rw [eA]
      have hAs : ∀ u, tb (SO np W cn F B gr cv row k (a - 1 - SZ row k (a - 1)) set) u = true → u < W := fun u hu => hs u (SEM_sub _ _ _ _ ((hA u).mp hu))
      have hB : ∀ u, tb (SO np W cn F B gr cv row k (a - 1) (if v = 14 then SO np W cn F B gr cv row k (a - 1 - SZ row k (a - 1)) set else set)) u = true ↔ SEM np cn (fun v w => kshr (F w) (nI v) &&& nI 1 = nI 1) (fun p w u => tb (B (64 * p + w)) u = true) (fun g p => rMem (gr g) p = true) cvP row k (a - 1) (if v = 14 then (fun u => tb (SO np W cn F B gr cv row k (a - 1 - SZ row k (a - 1)) set) u = true) else fun u => tb set u = true) u := by
        intro u
        split
        · exact ih (a - 1) _ hAs hw u
        · exact ih (a - 1) set hs hw u
      unfold so2 sTwo
      split
      · rw [tb_andT, hB]
      · split
        · rw [tb_orT, hB]
        · rw [tb_orT, hB, tb_dif]
    · rw [SO_1 hiv (by omega) (by omega), SEM_1 hiv (by omega) (by omega)]
      exact one (fun h _ => hb h) (Or.inr h20) _ (ih (a - 1) set hs hw)
    · rw [SO_1 hiv (by omega) (by omega), SEM_1 hiv (by omega) (by omega)]
      exact one (fun _ h => by omega) (Or.inr (by omega)) _ (ih (a - 1) set hs hw)
/-- claims, by worlds -/
def sCV (np cn : Nat) (fa : Nat → Nat → Prop) (tie : Nat → Nat → Nat → Prop) (mem : Nat → Nat → Prop) (cs : Nat → Int32) (cl : Nat → Nat) (c : Nat) (S : Nat → Prop) : Nat → Prop := SEM np cn fa tie mem (fun _ _ _ => False) (fun i => cs (14 * c + i)) 14 (cl c - 1) S
/-- a sentence of l signs, by worlds -/
def sSO (np cn : Nat) (fa : Nat → Nat → Prop) (tie : Nat → Nat → Nat → Prop) (mem : Nat → Nat → Prop) (cs : Nat → Int32) (cl : Nat → Nat) (row : Nat → Int32) (l : Nat) (S : Nat → Prop) : Nat → Prop := SEM np cn fa tie mem (sCV np cn fa tie mem cs cl) row 14 (l - 1) S
def tieB (B : Nat → Int64) : Nat → Nat → Nat → Prop := fun p w u => tb (B (64 * p + w)) u = true
def faF (F : Nat → Int32) : Nat → Nat → Prop := fun v w => kshr (F w) (nI v) &&& nI 1 = nI 1
def memG (gr : Nat → Int32) : Nat → Nat → Prop := fun g p => rMem (gr g) p = true
theorem CV_T {np nf W cn : Nat} {F : Nat → Int32} {B : Nat → Int64} {gr cs : Nat → Int32} {cl : Nat → Nat} (hW : W ≤ 64) {c : Nat} (hw : WF np nf false (fun i => cs (14 * c + i)) 14 (cl c - 1)) (set : Int64) (hs : ∀ u, tb set u = true → u < W) (u : Nat) : tb (CV np W cn F B gr cs cl c set) u = true ↔ sCV np cn (faF F) (tieB B) (memG gr) cs cl c (fun u => tb set u = true) u := SO_SEM hW (fun h => by cases h) 14 (cl c - 1) set hs hw u
theorem SOV_T {np nf W cn : Nat} {F : Nat → Int32} {B : Nat → Int64} {gr cs : Nat → Int32} {cl : Nat → Nat} {row : Nat → Int32} {l : Nat} (hW : W ≤ 64) (hc : ∀ c, c < cn → WF np nf false (fun i => cs (14 * c + i)) 14 (cl c - 1)) (hw : WF np nf true row 14 (l - 1)) (set : Int64) (hs : ∀ u, tb set u = true → u < W) (u : Nat) : tb (SOV np W cn F B gr cs cl row l set) u = true ↔ sSO np cn (faF F) (tieB B) (memG gr) cs cl row l (fun u => tb set u = true) u := SO_SEM hW (fun _ c h set hs u => CV_T hW (hc c h) set hs u) 14 (l - 1) set hs hw u
theorem sCV_sub {np cn : Nat} {fa : Nat → Nat → Prop} {tie : Nat → Nat → Nat → Prop} {mem : Nat → Nat → Prop} {cs : Nat → Int32} {cl : Nat → Nat} {c : Nat} {S : Nat → Prop} {w : Nat} (h : sCV np cn fa tie mem cs cl c S w) : S w := SEM_sub _ _ _ _ h
theorem sSO_sub {np cn : Nat} {fa : Nat → Nat → Prop} {tie : Nat → Nat → Nat → Prop} {mem : Nat → Nat → Prop} {cs : Nat → Int32} {cl : Nat → Nat} {row : Nat → Int32} {l : Nat} {S : Nat → Prop} {w : Nat} (h : sSO np cn fa tie mem cs cl row l S w) : S w := SEM_sub _ _ _ _ h
theorem sCV_iso {np nf cn : Nat} {fa' fa : Nat → Nat → Prop} {mem' mem : Nat → Nat → Prop} {tie' tie : Nat → Nat → Nat → Prop} {cs' cs : Nat → Int32} {cl : Nat → Nat} {e : Nat → Nat} {S' S : Nat → Prop} (hm : ∀ g, g < 3 → ∀ p, p < np → (mem' g p ↔ mem g p)) (h : ISO e S' S) (hf : ∀ f, f < 4 → ∀ i, S' i → (fa' f i ↔ fa f (e i))) (ht : ∀ p, p < np → ∀ i j, S' i → S' j → (tie' p i j ↔ tie p (e i) (e j))) {c : Nat} (hcs : ∀ i, i ≤ cl c - 1 → cs' (14 * c + i) = cs (14 * c + i)) (hw : WF np nf false (fun i => cs (14 * c + i)) 14 (cl c - 1)) (i : Nat) (hi : S' i) : sCV np cn fa' tie' mem' cs' cl c S' i ↔ sCV np cn fa tie mem cs cl c S (e i) := SEM_iso hm 14 (cl c - 1) S' S hcs hw h hf ht (fun q => by cases q) i hi
theorem sSO_iso {np nf cn : Nat} {fa' fa : Nat → Nat → Prop} {mem' mem : Nat → Nat → Prop} {tie' tie : Nat → Nat → Nat → Prop} {cs' cs : Nat → Int32} {cl : Nat → Nat} {row' row : Nat → Int32} {l : Nat} {e : Nat → Nat} {S' S : Nat → Prop} (hm : ∀ g, g < 3 → ∀ p, p < np → (mem' g p ↔ mem g p)) (h : ISO e S' S) (hf : ∀ f, f < 4 → ∀ i, S' i → (fa' f i ↔ fa f (e i))) (ht : ∀ p, p < np → ∀ i j, S' i → S' j → (tie' p i j ↔ tie p (e i) (e j))) (hcs : ∀ c, c < cn → (∀ i, i ≤ cl c - 1 → cs' (14 * c + i) = cs (14 * c + i)) ∧ WF np nf false (fun i => cs (14 * c + i)) 14 (cl c - 1)) (hr : ∀ i, i ≤ l - 1 → row' i = row i) (hw : WF np nf true row 14 (l - 1)) (i : Nat) (hi : S' i) : sSO np cn fa' tie' mem' cs' cl row' l S' i ↔ sSO np cn fa tie mem cs cl row l S (e i) := SEM_iso hm 14 (l - 1) S' S hr hw h hf ht (fun _ X' X x1 x2 hx c hc i hi => sCV_iso hm hx (fun f h4 i hi => hf f h4 i (x1 i hi)) (fun p hp i j hi hj => ht p hp i j (x1 i hi) (x1 j hj)) (hcs c hc).1 (hcs c hc).2 i hi) i hi
