/-! ===== what is so, by worlds alone ===== -/
def sRem (cv : Nat → Nat → Prop) (dn : Nat) : Nat → (Nat → Prop) → Nat → Prop
  | 0, rest => rest
  | c + 1, rest => if c < dn then rest else sRem cv dn c (fun u => rest u ∧ ((∃ x, cv c x ∧ rest x) → cv c u))
def sCom (np : Nat) (mem : Nat → Prop) (tie : Nat → Nat → Nat → Prop) (S : Nat → Prop) (w u : Nat) : Prop := ∀ Z : Nat → Prop, Z w → (∀ x y, Z x → S y → (∃ p, p < np ∧ mem p ∧ tie p x y) → Z y) → Z u
def sIs (np : Nat) (tie : Nat → Nat → Nat → Prop) (mem : Nat → Nat → Prop) (cn : Nat) (cv : Nat → Nat → Prop) (v : Nat) (S X : Nat → Prop) (w : Nat) : Prop :=
  if v = 10 then ¬ X w
  else if v < 24 then ∀ u, S u → tie (v - 20) w u → X u
  else if v < 28 then ∃ u, S u ∧ tie (v - 24) w u ∧ X u
  else if v < 32 then ∀ u, sRem cv 0 cn (fun u => tie (v - 28) w u ∧ S u) u → X u
  else if v < 35 then ∀ p, p < np → mem (v - 32) p → ∀ u, S u → tie p w u → X u
  else if v < 38 then ∀ u, sCom np (mem (v - 35)) tie S w u → X u
  else ∀ u, S u → (∀ p, p < np → mem (v - 38) p → tie p w u) → X u
def sTwo (v : Nat) (S A B : Nat → Prop) (w : Nat) : Prop := if v = 11 then A w ∧ B w else if v = 12 then A w ∨ B w else (S w ∧ ¬ A w) ∨ B w
def SEM (np cn : Nat) (fa : Nat → Nat → Prop) (tie : Nat → Nat → Nat → Prop) (mem : Nat → Nat → Prop) (cv : Nat → (Nat → Prop) → Nat → Prop) (row : Nat → Int32) : Nat → Nat → (Nat → Prop) → Nat → Prop
  | 0, _, _ => fun _ => False
  | k + 1, a, S => if ix (row a) < 10 then fun w => fa (ix (row a)) w ∧ S w
    else if 11 ≤ ix (row a) ∧ ix (row a) ≤ 14 then sTwo (ix (row a)) S (SEM np cn fa tie mem cv row k (a - 1 - SZ row k (a - 1)) S) (SEM np cn fa tie mem cv row k (a - 1) (if ix (row a) = 14 then SEM np cn fa tie mem cv row k (a - 1 - SZ row k (a - 1)) S else S))
    else fun w => S w ∧ sIs np tie mem cn (fun c => cv c S) (ix (row a)) S (SEM np cn fa tie mem cv row k (a - 1) S) w
section SEMA
variable {np cn : Nat} {fa : Nat → Nat → Prop} {tie : Nat → Nat → Nat → Prop} {mem : Nat → Nat → Prop} {cv : Nat → (Nat → Prop) → Nat → Prop} {row : Nat → Int32} {k a v : Nat} {S : Nat → Prop}
theorem SEM_f (hv : ix (row a) = v) (h : v < 10) : SEM np cn fa tie mem cv row (k + 1) a S = fun w => fa v w ∧ S w := by rw [SEM, hv, if_pos h]
theorem SEM_2 (hv : ix (row a) = v) (h : 11 ≤ v ∧ v ≤ 14) : SEM np cn fa tie mem cv row (k + 1) a S = sTwo v S (SEM np cn fa tie mem cv row k (a - 1 - SZ row k (a - 1)) S) (SEM np cn fa tie mem cv row k (a - 1) (if v = 14 then SEM np cn fa tie mem cv row k (a - 1 - SZ row k (a - 1)) S else S)) := by rw [SEM, hv, if_neg (by omega), if_pos h]
theorem SEM_1 (hv : ix (row a) = v) (h : ¬ v < 10) (h2 : ¬ (11 ≤ v ∧ v ≤ 14)) : SEM np cn fa tie mem cv row (k + 1) a S = fun w => S w ∧ sIs np tie mem cn (fun c => cv c S) v S (SEM np cn fa tie mem cv row k (a - 1) S) w := by rw [SEM, hv, if_neg h, if_neg h2]
theorem SEM_sub : ∀ (k a : Nat) (S : Nat → Prop) (w : Nat), SEM np cn fa tie mem cv row k a S w → S w := by
  intro k
  induction k with
  | zero => intro a S w h; exact h.elim
  | succ k ih =>
    intro a S w h
    by_cases h1 : ix (row a) < 10
    · rw [SEM_f rfl h1] at h; exact h.2
    · by_cases h2 : 11 ≤ ix (row a) ∧ ix (row a) ≤ 14
      · rw [SEM_2 rfl h2] at h
        have hb : ∀ w, SEM np cn fa tie mem cv row k (a - 1) (if ix (row a) = 14 then SEM np cn fa tie mem cv row k (a - 1 - SZ row k (a - 1)) S else S) w → S w := by
          intro w hw
          have := ih _ _ _ hw
          split at this
          · exact ih _ _ _ this
          · exact this
        unfold sTwo at h
        split at h
        · exact ih _ _ _ h.1
        · split at h
          · exact h.elim (ih _ _ _) (hb w)
          · exact h.elim (fun q => q.1) (hb w)
      · rw [SEM_1 rfl h1 h2] at h; exact h.1
end SEMA
theorem sRem_sub {cv : Nat → Nat → Prop} {dn : Nat} : ∀ (c : Nat) (rest : Nat → Prop) (u : Nat), sRem cv dn c rest u → rest u := by
  intro c
  induction c with
  | zero => intro rest u h; exact h
  | succ c ih =>
    intro rest u h
    rw [sRem] at h
    split at h
    · exact h
    · exact (ih _ _ h).1
theorem sCom_rf {np : Nat} {mem : Nat → Prop} {tie : Nat → Nat → Nat → Prop} {S : Nat → Prop} {w : Nat} : sCom np mem tie S w w := fun _ h _ => h
theorem sCom_st {np : Nat} {mem : Nat → Prop} {tie : Nat → Nat → Nat → Prop} {S : Nat → Prop} {w x y : Nat} (h : sCom np mem tie S w x) (hy : S y) (e : ∃ p, p < np ∧ mem p ∧ tie p x y) : sCom np mem tie S w y := fun Z hw hc => hc x y (h Z hw hc) hy e
theorem sCom_in {np : Nat} {mem : Nat → Prop} {tie : Nat → Nat → Nat → Prop} {S : Nat → Prop} {w u : Nat} (hw : S w) (h : sCom np mem tie S w u) : S u := h S hw (fun _ _ _ hy _ => hy)
/-- S' beside S: the same worlds by other numbers -/
def ISO (e : Nat → Nat) (S' S : Nat → Prop) : Prop := (∀ i, S' i → S (e i)) ∧ (∀ w, S w → ∃ i, S' i ∧ e i = w) ∧ ∀ i j, S' i → S' j → e i = e j → i = j
theorem ISO.sub {e : Nat → Nat} {S' S X' X : Nat → Prop} (h : ISO e S' S) (h1 : ∀ i, X' i → S' i) (h2 : ∀ w, X w → S w) (hx : ∀ i, S' i → (X' i ↔ X (e i))) : ISO e X' X := by
  refine ⟨fun i hi => (hx i (h1 i hi)).mp hi, fun w hw => ?_, fun i j hi hj => h.2.2 i j (h1 i hi) (h1 j hj)⟩
  obtain ⟨i, hi, rfl⟩ := h.2.1 w (h2 w hw)
  exact ⟨i, (hx i hi).mpr hw, rfl⟩
theorem sRem_iso {e : Nat → Nat} {S' S : Nat → Prop} (h : ISO e S' S) {cv' cv : Nat → Nat → Prop} {dn : Nat} : ∀ (c : Nat) (r' r : Nat → Prop), (∀ x, x < c → ∀ i, S' i → (cv' x i ↔ cv x (e i))) → (∀ i, r' i → S' i) → (∀ w, r w → S w) → (∀ i, S' i → (r' i ↔ r (e i))) → ∀ i, S' i → (sRem cv' dn c r' i ↔ sRem cv dn c r (e i)) := by
  intro c
  induction c with
  | zero => intro r' r _ _ _ hr i hi; exact hr i hi
  | succ c ih =>
    intro r' r hc h1 h2 hr i hi
    rw [sRem, sRem]
    split
    · exact hr i hi
    · refine ih _ _ (fun x hx => hc x (by omega)) (fun i q => h1 i q.1) (fun w q => h2 w q.1) (fun i hi => ?_) i hi
      have hex : (∃ x, cv' c x ∧ r' x) ↔ ∃ x, cv c x ∧ r x := by
        constructor
        · rintro ⟨x, a1, a2⟩
          exact ⟨e x, (hc c (by omega) x (h1 x a2)).mp a1, (hr x (h1 x a2)).mp a2⟩
        · rintro ⟨x, a1, a2⟩
          obtain ⟨j, hj, rfl⟩ := h.2.1 x (h2 x a2)
          exact ⟨j, (hc c (by omega) j hj).mpr a1, (hr j hj).mpr a2⟩
      rw [hex, hr i hi, hc c (by omega) i hi]
theorem sCom_iso {e : Nat → Nat} {S' S : Nat → Prop} (h : ISO e S' S) {np : Nat} {mem : Nat → Prop} {tie' tie : Nat → Nat → Nat → Prop} (ht : ∀ p, p < np → ∀ i j, S' i → S' j → (tie' p i j ↔ tie p (e i) (e j))) {i j : Nat} (hi : S' i) (hj : S' j) : sCom np mem tie' S' i j ↔ sCom np mem tie S (e i) (e j) := by
  constructor
  · intro q
    have := q (fun j => S' j ∧ sCom np mem tie S (e i) (e j)) ⟨hi, sCom_rf⟩ (fun x y hx hy hp => ⟨hy, by
      obtain ⟨p, p1, p2, p3⟩ := hp
      exact sCom_st hx.2 (h.1 y hy) ⟨p, p1, p2, (ht p p1 x y hx.1 hy).mp p3⟩⟩)
    exact this.2
  · intro q
    have := q (fun w => ∃ j, S' j ∧ e j = w ∧ sCom np mem tie' S' i j) ⟨i, hi, rfl, sCom_rf⟩ (fun x y hx hy hp => by
      obtain ⟨jx, a1, rfl, a3⟩ := hx
      obtain ⟨jy, b1, rfl⟩ := h.2.1 y hy
      obtain ⟨p, p1, p2, p3⟩ := hp
      exact ⟨jy, b1, rfl, sCom_st a3 b1 ⟨p, p1, p2, (ht p p1 jx jy a1 b1).mpr p3⟩⟩)
    obtain ⟨j2, c1, c2, c3⟩ := this
    rw [h.2.2 j j2 hj c1 c2.symm]; exact c3
theorem sIs_iso {e : Nat → Nat} {S' S X' X : Nat → Prop} (h : ISO e S' S) (hX : ∀ i, S' i → (X' i ↔ X (e i))) {np cn v : Nat} {mem' mem : Nat → Nat → Prop} {tie' tie : Nat → Nat → Nat → Prop} {cv' cv : Nat → Nat → Prop} (hm : ∀ g, g < 3 → ∀ p, p < np → (mem' g p ↔ mem g p)) (ht : ∀ p, p < np → ∀ i j, S' i → S' j → (tie' p i j ↔ tie p (e i) (e j))) (hc : ∀ c, c < cn → ∀ i, S' i → (cv' c i ↔ cv c (e i))) (h40 : v ≤ 40) (hp : 20 ≤ v → v < 32 → v % 4 < np) (hv : v = 10 ∨ 20 ≤ v) {i : Nat} (hi : S' i) : sIs np tie' mem' cn cv' v S' X' i ↔ sIs np tie mem cn cv v S X (e i) := by
  have all : ∀ {A' A : Nat → Prop}, (∀ j, S' j → (A' j ↔ A (e j))) → ((∀ u, S' u → A' u) ↔ ∀ u, S u → A u) := by
    intro A' A hA
    constructor
    · intro q u hu
      obtain ⟨j, hj, rfl⟩ := h.2.1 u hu
      exact (hA j hj).mp (q j hj)
    · intro q j hj
      exact (hA j hj).mpr (q _ (h.1 j hj))
  unfold sIs
  split
  · rw [hX i hi]
  · split
    · refine all (fun j hj => ?_)
      rw [ht (v - 20) (by have := hp (by omega) (by omega); omega) i j hi hj, hX j hj]
    · split
      · constructor
        · rintro ⟨u, a1, a2, a3⟩
          exact ⟨e u, h.1 u a1, (ht (v - 24) (by have := hp (by omega) (by omega); omega) i u hi a1).mp a2, (hX u a1).mp a3⟩
        · rintro ⟨u, a1, a2, a3⟩
          obtain ⟨j, hj, rfl⟩ := h.2.1 u a1
          exact ⟨j, hj, (ht (v - 24) (by have := hp (by omega) (by omega); omega) i j hi hj).mpr a2, (hX j hj).mpr a3⟩
      · split
        · have hr := sRem_iso h (dn := 0) cn (fun u => tie' (v - 28) i u ∧ S' u) (fun u => tie (v - 28) (e i) u ∧ S u) hc (fun _ q => q.2) (fun _ q => q.2) (fun j hj => by
            rw [ht (v - 28) (by have := hp (by omega) (by omega); omega) i j hi hj]
            exact ⟨fun q => ⟨q.1, h.1 j hj⟩, fun q => ⟨q.1, hj⟩⟩)
          constructor
          · intro q u hu
            obtain ⟨j, hj, rfl⟩ := h.2.1 u (sRem_sub _ _ _ hu).2
            exact (hX j hj).mp (q j ((hr j hj).mpr hu))
          · intro q j hj
            have hjs := (sRem_sub _ _ _ hj).2
            exact (hX j hjs).mpr (q _ ((hr j hjs).mp hj))
        · split
          · constructor
            · intro q p p1 p2
              exact (all (A' := fun u => tie' p i u → X' u) (A := fun u => tie p (e i) u → X u) (fun j hj => by rw [ht p p1 i j hi hj, hX j hj])).mp (q p p1 ((hm _ (by omega) p p1).mpr p2))
            · intro q p p1 p2
              exact (all (A' := fun u => tie' p i u → X' u) (A := fun u => tie p (e i) u → X u) (fun j hj => by rw [ht p p1 i j hi hj, hX j hj])).mpr (q p p1 ((hm _ (by omega) p p1).mp p2))
          · split
            · have hmm : ∀ S w u, sCom np (mem' (v - 35)) tie' S w u ↔ sCom np (mem (v - 35)) tie' S w u := by
                intro S w u
                unfold sCom
                constructor
                · intro q Z hw hz
                  exact q Z hw (fun x y hx hy ⟨p, p1, p2, p3⟩ => hz x y hx hy ⟨p, p1, (hm _ (by omega) p p1).mp p2, p3⟩)
                · intro q Z hw hz
                  exact q Z hw (fun x y hx hy ⟨p, p1, p2, p3⟩ => hz x y hx hy ⟨p, p1, (hm _ (by omega) p p1).mpr p2, p3⟩)
              constructor
              · intro q u hu
                obtain ⟨j, hj, rfl⟩ := h.2.1 u (sCom_in (h.1 i hi) hu)
                exact (hX j hj).mp (q j ((hmm _ _ _).mpr ((sCom_iso h ht hi hj).mpr hu)))
              · intro q j hj
                have hjs := sCom_in hi hj
                exact (hX j hjs).mpr (q _ ((sCom_iso h ht hi hjs).mp ((hmm _ _ _).mp hj)))
            · refine all (fun j hj => ?_)
              have : (∀ p, p < np → mem' (v - 38) p → tie' p i j) ↔ ∀ p, p < np → mem (v - 38) p → tie p (e i) (e j) := by
                constructor
                · intro q p p1 p2
                  exact (ht p p1 i j hi hj).mp (q p p1 ((hm _ (by omega) p p1).mpr p2))
                · intro q p p1 p2
                  exact (ht p p1 i j hi hj).mpr (q p p1 ((hm _ (by omega) p p1).mp p2))
              rw [this, hX j hj]
theorem sIs_cv {np cn v w : Nat} {tie : Nat → Nat → Nat → Prop} {mem : Nat → Nat → Prop} {cv cv' : Nat → Nat → Prop} {S X : Nat → Prop} (h : ¬ (28 ≤ v ∧ v < 32)) : sIs np tie mem cn cv v S X w = sIs np tie mem cn cv' v S X w := by
  unfold sIs
  by_cases h1 : v = 10
  · rw [if_pos h1, if_pos h1]
  · rw [if_neg h1, if_neg h1]
    by_cases h2 : v < 24
    · rw [if_pos h2, if_pos h2]
    · rw [if_neg h2, if_neg h2]
      by_cases h3 : v < 28
      · rw [if_pos h3, if_pos h3]
      · rw [if_neg h3, if_neg h3, if_neg (show ¬ v < 32 by omega), if_neg (show ¬ v < 32 by omega)]
theorem SEM_iso {np nf cn : Nat} {bl : Bool} {fa' fa : Nat → Nat → Prop} {mem' mem : Nat → Nat → Prop} {tie' tie : Nat → Nat → Nat → Prop} {cv' cv : Nat → (Nat → Prop) → Nat → Prop} {row' row : Nat → Int32} {e : Nat → Nat} (hm : ∀ g, g < 3 → ∀ p, p < np → (mem' g p ↔ mem g p)) : ∀ (k a : Nat) (S' S : Nat → Prop), (∀ i, i ≤ a → row' i = row i) → WF np nf bl row k a → ISO e S' S → (∀ f, f < 4 → ∀ i, S' i → (fa' f i ↔ fa f (e i))) → (∀ p, p < np → ∀ i j, S' i → S' j → (tie' p i j ↔ tie p (e i) (e j))) → (bl = true → ∀ X' X : Nat → Prop, (∀ i, X' i → S' i) → (∀ i, X i → S i) → ISO e X' X → ∀ c, c < cn → ∀ i, X' i → (cv' c X' i ↔ cv c X (e i))) → ∀ i, S' i → (SEM np cn fa' tie' mem' cv' row' k a S' i ↔ SEM np cn fa tie mem cv row k a S (e i)) := by
  intro k
  induction k with
  | zero => intro a S' S _ h; exact h.elim
  | succ k ih =>
    intro a S' S hrow hwf h hf ht hc i hi
    obtain ⟨v, hv, h40, hwf⟩ := hwf
    have hv' : row' a = nI v := (hrow a (Nat.le_refl _)).trans hv
    have hiv : ix (row a) = v := by rw [hv]; exact ix_nI (by omega)
    have hiv' : ix (row' a) = v := by rw [hv']; exact ix_nI (by omega)
    have one : ∀ a2, a2 ≤ a → WF np nf bl row k a2 → ∀ X' X : Nat → Prop, (∀ i, X' i → S' i) → (∀ i, X i → S i) → ISO e X' X → ∀ i, X' i → (SEM np cn fa' tie' mem' cv' row' k a2 X' i ↔ SEM np cn fa tie mem cv row k a2 X (e i)) := by
      intro a2 ha2 hw2 X' X h1 h2 hx
      exact ih a2 X' X (fun i hi => hrow i (by omega)) hw2 hx (fun f hf4 i hi => hf f hf4 i (h1 i hi)) (fun p hp i j hi hj => ht p hp i j (h1 i hi) (h1 j hj)) (fun hb Y' Y y1 y2 => hc hb Y' Y (fun i q => h1 i (y1 i q)) (fun i q => h2 i (y2 i q)))
    rcases hwf with ⟨h4, hnf⟩ | ⟨rfl, ha, hw⟩ | ⟨h11, h14, ha, hw, hsz, hw2⟩ | ⟨h20, h32, hvp, hb, ha, hw⟩ | ⟨h32, ha, hw⟩
    · rw [SEM_f hiv' (by omega), SEM_f hiv (by omega)]
      show fa' v i ∧ S' i ↔ fa v (e i) ∧ S (e i)
      rw [hf v h4 i hi]
      exact ⟨fun q => ⟨q.1, h.1 i hi⟩, fun q => ⟨q.1, hi⟩⟩
    · rw [SEM_1 hiv' (by omega) (by omega), SEM_1 hiv (by omega) (by omega)]
      have hx := one (a - 1) (by omega) hw S' S (fun _ q => q) (fun _ q => q) h
      show S' i ∧ _ ↔ S (e i) ∧ _
      unfold sIs
      rw [if_pos rfl, if_pos rfl, hx i hi]
      exact ⟨fun q => ⟨h.1 i hi, q.2⟩, fun q => ⟨hi, q.2⟩⟩
    · have hszc : SZ row' k (a - 1) = SZ row k (a - 1) := SZ_congr k (a - 1) (fun i hi => hrow i (by omega))
      rw [SEM_2 hiv' ⟨h11, h14⟩, SEM_2 hiv ⟨h11, h14⟩, hszc]
      have hA := one (a - 1 - SZ row k (a - 1)) (by omega) hw2 S' S (fun _ q => q) (fun _ q => q) h
      have hB : ∀ i, S' i → (SEM np cn fa' tie' mem' cv' row' k (a - 1) (if v = 14 then SEM np cn fa' tie' mem' cv' row' k (a - 1 - SZ row k (a - 1)) S' else S') i ↔ SEM np cn fa tie mem cv row k (a - 1) (if v = 14 then SEM np cn fa tie mem cv row k (a - 1 - SZ row k (a - 1)) S else S) (e i)) := by
        intro i hi
        split
        · have hAs := h.sub (fun i q => SEM_sub _ _ _ _ q) (fun i q => SEM_sub _ _ _ _ q) hA
          constructor
          · intro q
            have qi := SEM_sub _ _ _ _ q
            exact (one (a - 1) (by omega) hw _ _ (fun i q => SEM_sub _ _ _ _ q) (fun i q => SEM_sub _ _ _ _ q) hAs i qi).mp q
          · intro q
            have qi := SEM_sub _ _ _ _ q
            exact (one (a - 1) (by omega) hw _ _ (fun i q => SEM_sub _ _ _ _ q) (fun i q => SEM_sub _ _ _ _ q) hAs i ((hA i hi).mpr qi)).mpr q
        · exact one (a - 1) (by omega) hw S' S (fun _ q => q) (fun _ q => q) h i hi
      have hs : S' i ↔ S (e i) := ⟨h.1 i, fun _ => hi⟩
      unfold sTwo
      rw [hA i hi, hB i hi, hs]
    · rw [SEM_1 hiv' (by omega) (by omega), SEM_1 hiv (by omega) (by omega)]
      have hx := one (a - 1) (by omega) hw S' S (fun _ q => q) (fun _ q => q) h
      have key : (28 ≤ v → ∀ c, c < cn → ∀ i, S' i → (cv' c S' i ↔ cv c S (e i))) := fun h28 => hc (hb h28) S' S (fun _ q => q) (fun _ q => q) h
      show S' i ∧ _ ↔ S (e i) ∧ _
      have : sIs np tie' mem' cn (fun c => cv' c S') v S' (SEM np cn fa' tie' mem' cv' row' k (a - 1) S') i ↔ sIs np tie mem cn (fun c => cv c S) v S (SEM np cn fa tie mem cv row k (a - 1) S) (e i) := by
        by_cases h28 : 28 ≤ v
        · exact sIs_iso h hx hm ht (key h28) h40 (fun _ _ => hvp) (Or.inr h20) hi
        · have e1 := sIs_iso (cv' := fun _ _ => True) (cv := fun _ _ => True) (v := v) (cn := cn) h hx hm ht (fun _ _ _ _ => Iff.rfl) h40 (fun _ _ => hvp) (Or.inr h20) hi
          exact (Iff.of_eq (sIs_cv (by omega))).trans (e1.trans (Iff.of_eq (sIs_cv (by omega))))
      rw [this]
      exact ⟨fun q => ⟨h.1 i hi, q.2⟩, fun q => ⟨hi, q.2⟩⟩
    · rw [SEM_1 hiv' (by omega) (by omega), SEM_1 hiv (by omega) (by omega)]
      have hx := one (a - 1) (by omega) hw S' S (fun _ q => q) (fun _ q => q) h
      show S' i ∧ _ ↔ S (e i) ∧ _
      have : sIs np tie' mem' cn (fun c => cv' c S') v S' (SEM np cn fa' tie' mem' cv' row' k (a - 1) S') i ↔ sIs np tie mem cn (fun c => cv c S) v S (SEM np cn fa tie mem cv row k (a - 1) S) (e i) := by
        have e1 := sIs_iso (cv' := fun _ _ => True) (cv := fun _ _ => True) (v := v) (cn := cn) h hx hm ht (fun _ _ _ _ => Iff.rfl) h40 (fun _ q => by omega) (Or.inr (by omega)) hi
        exact (Iff.of_eq (sIs_cv (by omega))).trans (e1.trans (Iff.of_eq (sIs_cv (by omega))))
      rw [this]
      exact ⟨fun q => ⟨h.1 i hi, q.2⟩, fun q => ⟨hi, q.2⟩⟩
