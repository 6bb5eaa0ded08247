/-! ===== the class: sight, what is common ===== -/
theorem sCom_pre {np : Nat} {mem : Nat → Prop} {tie : Nat → Nat → Nat → Prop} {S : Nat → Prop} {u v w : Nat} (hv : S v) (e : ∃ p, p < np ∧ mem p ∧ tie p u v) (h : sCom np mem tie S v w) : sCom np mem tie S u w := fun Z hu hc => h Z (hc u v hu hv e) hc
section COM
variable {G : tkG} {n : Nat} {T : Nat → Nat × Nat} {I : Nat → Nat → Int32} {L : Nat → Nat → Int64} {P : Nat → Nat → Option Nat}
/-- how far the spreading of what is not so has come -/
def comI (tie : Nat → Nat → Nat → Prop) (np : Nat) (g : Int32) (set part near fresh : Int64) (i : Nat) : Prop := (∀ u, tb near u = true → tb set u = true ∧ ∃ v, sCom np (fun p => rMem g p = true) tie (fun v => tb set v = true) u v ∧ ¬ tb part v = true) ∧ (∀ u, tb fresh u = true → tb near u = true) ∧ (∀ x, tb near x = true → ¬ tb fresh x = true → ∀ y, tb set y = true → (∃ p, p < np ∧ rMem g p = true ∧ tie p x y) → tb near y = true) ∧ (fresh = 0 ∨ i + 1 ≤ cnt near 64) ∧ ∀ u, tb set u = true → ¬ tb part u = true → tb near u = true
theorem comI_0 {tie : Nat → Nat → Nat → Prop} {np : Nat} {g : Int32} {set part : Int64} : comI tie np g set part (set &&& (part ^^^ (-1))) (set &&& (part ^^^ (-1))) 0 := by
  refine ⟨fun u hu => ⟨(tb_dif.mp hu).1, u, sCom_rf, (tb_dif.mp hu).2⟩, fun u h => h, fun x h1 h2 => absurd h1 h2, ?_, fun u h1 h2 => tb_dif.mpr ⟨h1, h2⟩⟩
  by_cases e : set &&& (part ^^^ (-1)) = 0
  · exact Or.inl e
  · refine Or.inr (Nat.pos_of_ne_zero (fun h => e (cnt_0 h)))
theorem comI_s {tie : Nat → Nat → Nat → Prop} {np : Nat} {g : Int32} {set part near fresh x : Int64} {i : Nat} (h : comI tie np g set part near fresh i) (hf : ¬ fresh = 0) (hx : ∀ u, tb x u = true ↔ ∃ p, p < np ∧ rMem g p = true ∧ ∃ v, tb fresh v = true ∧ tie p v u) (hsym : ∀ p u v, tb set u = true → tb set v = true → tie p v u → tie p u v) : comI tie np g set part (near ||| (x &&& set &&& (near ^^^ (-1)))) (x &&& set &&& (near ^^^ (-1))) (i + 1) := by
  obtain ⟨h1, h2, h3, h4, h5⟩ := h
  have hfr : ∀ u, tb (x &&& set &&& (near ^^^ (-1))) u = true ↔ (∃ p, p < np ∧ rMem g p = true ∧ ∃ v, tb fresh v = true ∧ tie p v u) ∧ tb set u = true ∧ ¬ tb near u = true := fun u => by rw [tb_dif, tb_andT, hx u, and_assoc]
  refine ⟨fun u hu => ?_, fun u hu => tb_orT.mpr (Or.inr hu), fun a ha1 ha2 y hy hp => ?_, ?_, fun u a b => tb_orT.mpr (Or.inl (h5 u a b))⟩
  · rcases tb_orT.mp hu with q | q
    · exact h1 u q
    · obtain ⟨⟨p, p1, p2, v, p3, p4⟩, p5, p6⟩ := (hfr u).mp q
      obtain ⟨b1, w, b2, b3⟩ := h1 v (h2 v p3)
      exact ⟨p5, w, sCom_pre b1 ⟨p, p1, p2, hsym p u v p5 b1 p4⟩ b2, b3⟩
  · rcases tb_orT.mp ha1 with q | q
    · by_cases e : tb fresh a = true
      · obtain ⟨p, p1, p2, p3⟩ := hp
        by_cases e2 : tb near y = true
        · exact tb_orT.mpr (Or.inl e2)
        · exact tb_orT.mpr (Or.inr ((hfr y).mpr ⟨⟨p, p1, p2, a, e, p3⟩, hy, e2⟩))
      · exact tb_orT.mpr (Or.inl (h3 a q e y hy hp))
    · exact absurd q ha2
  · by_cases e : x &&& set &&& (near ^^^ (-1)) = 0
    · exact Or.inl e
    · refine Or.inr ?_
      obtain ⟨j, hj, hjt⟩ := tb_nz.mp e
      have := cnt_lt (x := near) (y := near ||| (x &&& set &&& (near ^^^ (-1)))) (fun q hq => tb_orT.mpr (Or.inl hq)) hj (by cases e2 : tb near j with | false => rfl | true => exact absurd e2 ((hfr j).mp hjt).2.2) (tb_orT.mpr (Or.inr hjt))
      have := h4.resolve_left hf
      omega
theorem comI_end {tie : Nat → Nat → Nat → Prop} {np : Nat} {g : Int32} {set part near fresh : Int64} {i : Nat} (h : comI tie np g set part near fresh i) (hf : fresh = 0) (hsym : ∀ p u v, tb set u = true → tb set v = true → tie p v u → tie p u v) (u : Nat) : tb (set &&& (near ^^^ (-1))) u = true ↔ tb set u = true ∧ ∀ v, sCom np (fun p => rMem g p = true) tie (fun v => tb set v = true) u v → tb part v = true := by
  obtain ⟨h1, h2, h3, h4, h5⟩ := h
  rw [tb_dif]
  refine and_congr_right (fun hu => ?_)
  constructor
  · intro q v hv
    apply Classical.byContradiction
    intro hp
    have hvs := sCom_in (S := fun v => tb set v = true) hu hv
    have := hv (fun x => tb set x = true ∧ (tb near x = true → tb near u = true)) ⟨hu, id⟩ (fun x y hx hy ⟨p, p1, p2, p3⟩ => ⟨hy, fun hny => hx.2 (h3 y hny (by rw [hf, tb_0]; decide) x hx.1 ⟨p, p1, p2, hsym p y x hy hx.1 p3⟩)⟩)
    exact q (this.2 (h5 v hvs hp))
  · intro q hn
    obtain ⟨-, v, a1, a2⟩ := h1 u hn
    exact a2 (q v a1)
theorem sIs38 {np cn k : Nat} {tie : Nat → Nat → Nat → Prop} {mem : Nat → Nat → Prop} {cv : Nat → Nat → Prop} {S X : Nat → Prop} {w : Nat} (h : 38 ≤ k) : sIs np tie mem cn cv k S X w ↔ ∀ u, S u → (∀ p, p < np → mem (k - 38) p → tie p w u) → X u := by
  unfold sIs
  rw [if_neg (by omega), if_neg (by omega), if_neg (by omega), if_neg (by omega), if_neg (by omega), if_neg (by omega)]
theorem sIs35 {np cn k : Nat} {tie : Nat → Nat → Nat → Prop} {mem : Nat → Nat → Prop} {cv : Nat → Nat → Prop} {S X : Nat → Prop} {w : Nat} (h : 35 ≤ k) (h2 : k < 38) : sIs np tie mem cn cv k S X w ↔ ∀ u, sCom np (mem (k - 35)) tie S w u → X u := by
  unfold sIs
  rw [if_neg (by omega), if_neg (by omega), if_neg (by omega), if_neg (by omega), if_neg (by omega), if_pos (by omega)]
theorem sIs32 {np cn k : Nat} {tie : Nat → Nat → Nat → Prop} {mem : Nat → Nat → Prop} {cv : Nat → Nat → Prop} {S X : Nat → Prop} {w : Nat} (h : 32 ≤ k) (h2 : k < 35) : sIs np tie mem cn cv k S X w ↔ ∀ p, p < np → mem (k - 32) p → ∀ u, S u → tie p w u → X u := by
  unfold sIs
  rw [if_neg (by omega), if_neg (by omega), if_neg (by omega), if_neg (by omega), if_pos (by omega)]
theorem sIs28 {np cn k : Nat} {tie : Nat → Nat → Nat → Prop} {mem : Nat → Nat → Prop} {cv : Nat → Nat → Prop} {S X : Nat → Prop} {w : Nat} (h : 28 ≤ k) (h2 : k < 32) : sIs np tie mem cn cv k S X w ↔ belP tie cv cn (k - 28) S X w := by
  unfold sIs
  rw [if_neg (by omega), if_neg (by omega), if_neg (by omega), if_pos (by omega)]
  exact Iff.rfl
theorem sIs24 {np cn k : Nat} {tie : Nat → Nat → Nat → Prop} {mem : Nat → Nat → Prop} {cv : Nat → Nat → Prop} {S X : Nat → Prop} {w : Nat} (h : 24 ≤ k) (h2 : k < 28) : sIs np tie mem cn cv k S X w ↔ ∃ u, S u ∧ tie (k - 24) w u ∧ X u := by
  unfold sIs
  rw [if_neg (by omega), if_neg (by omega), if_pos (by omega)]
theorem sIs20 {np cn k : Nat} {tie : Nat → Nat → Nat → Prop} {mem : Nat → Nat → Prop} {cv : Nat → Nat → Prop} {S X : Nat → Prop} {w : Nat} (h : 20 ≤ k) (h2 : k < 24) : sIs np tie mem cn cv k S X w ↔ ∀ u, S u → tie (k - 20) w u → X u := by
  unfold sIs
  rw [if_neg (by omega), if_pos (by omega)]
theorem c_ofGroup {z wa g np nf W r cn k : Nat} {F ce gr : Nat → Int32} {cv : Nat → Nat → Prop} (hs : sObj T P z) (hpw : P z 0 = some wa) (hw : cWld n T I L P wa np nf W r F ce) (hW1 : 1 ≤ W) (hW : W ≤ 64) (hnp : np ≤ 4) (hnf : nf ≤ 4) (hta : tauN (I (z + 1))) (hpg : P z 2 = some g) (hg : T g = (20, 3)) (hgr : ∀ i, i < 3 → I g i = gr i) (hk1 : 32 ≤ k) (hk2 : k ≤ 40) (part : Int64) {set : Int64} (hset : ∀ v, tb set v = true → v < W) : tkM G mX6_ofGroup 3 0 0 [vR z, vI (nI k), vL part, vL set] (n, T, I, L, P) (vlQ n T I L P (fun u => tb set u = true ∧ sIs np (cTi ce F W nf (I (z + 1))) (memG gr) cn cv k (fun v => tb set v = true) (fun v => tb part v = true) u)) := by
  have s1 := hs.1
  have hgi : rGi k < 3 := by unfold rGi; split; omega; split <;> omega
  have hsym : ∀ p u v, tb set u = true → tb set v = true → cTi ce F W nf (I (z + 1)) p v u → cTi ce F W nf (I (z + 1)) p u v := fun p u v hu hv h => cTi_sym hW (hset v hv) h
  have ends : 35 ≤ k → k < 38 → ∀ (near fresh : Int64) (i : Nat), comI (cTi ce F W nf (I (z + 1))) np (gr (rGi k)) set part near fresh i → fresh = 0 → tkX G mX6_ofGroup 3 0 0 123 [none, none, none, none, some (vL set), none, none, none, none, some (vL near), none, none, none, none] [] (n, T, I, L, P) (vlQ n T I L P (fun u => tb set u = true ∧ sIs np (cTi ce F W nf (I (z + 1))) (memG gr) cn cv k (fun v => tb set v = true) (fun v => tb part v = true) u)) := by
    intro hk1 hk2 near fresh i inv hf
    refine tk_lload4 dX6_ofGroup_123 ?_
    refine tk_lload9 dX6_ofGroup_125 ?_
    refine tk_ldc2 dX6_ofGroup_127 klX6_58 ?_
    refine tk_lxor dX6_ofGroup_130 ?_
    refine tk_land dX6_ofGroup_131 ?_
    refine tk_lreturn dX6_ofGroup_132 rfl ?_
    refine ⟨_, rfl, rfl, fun u => ?_⟩
    refine (comI_end inv hf hsym u).trans (and_congr_right (fun _ => ?_))
    rw [sIs35 hk1 hk2, show rGi k = k - 35 by unfold rGi; rw [if_neg (by omega), if_pos (by omega)]]
    exact Iff.rfl
  have loop : 35 ≤ k → k < 38 → ∀ (m i : Nat) (near fresh : Int64), i + m = 64 → comI (cTi ce F W nf (I (z + 1))) np (gr (rGi k)) set part near fresh i → tkX G mX6_ofGroup 3 0 0 76 [some (vR z), some (vI (nI k)), some (vL part), none, some (vL set), none, some (vI (gr (rGi k))), none, none, some (vL near), none, some (vL fresh), none, some (vI (nI i))] [] (n, T, I, L, P) (vlQ n T I L P (fun u => tb set u = true ∧ sIs np (cTi ce F W nf (I (z + 1))) (memG gr) cn cv k (fun v => tb set v = true) (fun v => tb part v = true) u)) := by
    intro hk1 hk2 m
    induction m with
    | zero =>
      intro i near fresh hm inv
      refine tk_iload13 dX6_ofGroup_76 ?_
      refine tk_bipush dX6_ofGroup_78 kc_bipush_64 ?_
      first | refine tk_icmp_geN dX6_ofGroup_80 (by omega) (by omega) (fun h80 => ?_) (fun h80 => ?_) | refine tk_jcmp_ge dX6_ofGroup_80 (fun h80 => ?_) (fun h80 => ?_)
      · exact tk_wk (by repeat' (first | exact trivial | refine ⟨Or.inl rfl, ?_⟩ | refine ⟨Or.inr rfl, ?_⟩)) (ends hk1 hk2 near fresh i inv (inv.2.2.2.1.elim id (fun q => by have := cnt_le near 64; omega)))
      · exfalso; omega
    | succ m ih =>
      intro i near fresh hm inv
      refine tk_iload13 dX6_ofGroup_76 ?_
      refine tk_bipush dX6_ofGroup_78 kc_bipush_64 ?_
      first | refine tk_icmp_geN dX6_ofGroup_80 (by omega) (by omega) (fun h80 => ?_) (fun h80 => ?_) | refine tk_jcmp_ge dX6_ofGroup_80 (fun h80 => ?_) (fun h80 => ?_)
      · first
          | (exfalso; omega)
          | exact tk_wk (by repeat' (first | exact trivial | refine ⟨Or.inl rfl, ?_⟩ | refine ⟨Or.inr rfl, ?_⟩)) (ends hk1 hk2 near fresh i inv ((lgc0 _ _).mp h87))
      · refine tk_lload11 dX6_ofGroup_83 ?_
        refine tk_lconst dX6_ofGroup_85 (v := 0) (by decide) ?_
        refine tk_lcmp dX6_ofGroup_86 ?_
        first | refine tk_jf_eqB dX6_ofGroup_87 (fun h87 => ?_) (fun h87 => ?_) | refine tk_if_eq dX6_ofGroup_87 (fun h87 => ?_) (fun h87 => ?_)
        · first
            | (exfalso; omega)
            | exact tk_wk (by repeat' (first | exact trivial | refine ⟨Or.inl rfl, ?_⟩ | refine ⟨Or.inr rfl, ?_⟩)) (ends hk1 hk2 near fresh i inv ((lgc0 _ _).mp h87))
        · refine tk_aload0 dX6_ofGroup_90 ?_
          refine tk_iload6 dX6_ofGroup_91 ?_
          refine tk_lload11 dX6_ofGroup_93 ?_
          refine tk_callV2q dX6_ofGroup_95 kX6_60 (by first | assumption | exact va_up_self _ _ _ | exact (va_up_ne _ _ (by omega)).trans (by assumption) | exact congrArg Prod.fst (va_up_self _ _ _) | exact (congrArg Prod.fst (va_up_ne _ _ (by omega))).trans (by assumption) | exact (congrFun (va_up_ne _ _ (by omega)) _).trans (by assumption) | exact (va_up_ne _ _ (by omega)).trans (va_up_self _ _ _) | exact (va_up_ne _ _ (by omega)).trans ((va_up_ne _ _ (by omega)).trans (by assumption)) | exact (congrArg Prod.fst ((va_up_ne _ _ (by omega)).trans (va_up_ne _ _ (by omega)))).trans (by assumption) | exact (congrFun ((va_up_ne _ _ (by omega)).trans (va_up_ne _ _ (by omega))) _).trans (by assumption) | (rw [va_up_self, va_up_ne _ _ (by omega)]; assumption)) (c_touched hs hpw hw hW hnp hnf hta (gr (rGi k)) (part := fresh) (fun v hv => hset v (inv.1 v (inv.2.1 v hv)).1)) (Nat.le_of_ble_eq_true rfl) (by omega) ?_
          rintro rr h1 ⟨x, rfl, rfl, hx⟩
          dsimp only [Option.toList, List.cons_append, List.nil_append]
          refine tk_lload4 dX6_ofGroup_98 ?_
          refine tk_land dX6_ofGroup_100 ?_
          refine tk_lload9 dX6_ofGroup_101 ?_
          refine tk_ldc2 dX6_ofGroup_103 klX6_58 ?_
          refine tk_lxor dX6_ofGroup_106 ?_
          refine tk_land dX6_ofGroup_107 ?_
          refine tk_lstore11 dX6_ofGroup_108 rfl ?_
          refine tk_lload9 dX6_ofGroup_110 ?_
          refine tk_lload11 dX6_ofGroup_112 ?_
          refine tk_lor dX6_ofGroup_114 ?_
          refine tk_lstore9 dX6_ofGroup_115 rfl ?_
          first | refine tk_iinc13 dX6_ofGroup_117 (kc_inc _) rfl ?_ | refine tk_iinc13 dX6_ofGroup_117 rfl rfl ?_
          refine tk_goto dX6_ofGroup_120 ?_
          exact tk_wk (by repeat' (first | exact trivial | refine ⟨Or.inl rfl, ?_⟩ | refine ⟨Or.inr rfl, ?_⟩)) (ih (i + 1) _ _ (by omega) (comI_s inv (fun e => h87 ((lgc0 _ _).mpr e)) hx hsym))
  refine tkM.of (ls := [some _, some _, some _, none, some _, none, none, none, none, none, none, none, none, none]) (by decide +kernel) (by decide +kernel) (Nat.le_of_ble_eq_true rfl) rfl ?_
  refine tk_aload0 dX6_ofGroup_0 ?_
  refine tk_getP dX6_ofGroup_1 fX6_34 rfl (by first | assumption | exact va_up_self _ _ _ | exact (va_up_ne _ _ (by omega)).trans (by assumption) | exact congrArg Prod.fst (va_up_self _ _ _) | exact (congrArg Prod.fst (va_up_ne _ _ (by omega))).trans (by assumption) | exact (congrFun (va_up_ne _ _ (by omega)) _).trans (by assumption) | exact (va_up_ne _ _ (by omega)).trans (va_up_self _ _ _) | exact (va_up_ne _ _ (by omega)).trans ((va_up_ne _ _ (by omega)).trans (by assumption)) | exact (congrArg Prod.fst ((va_up_ne _ _ (by omega)).trans (va_up_ne _ _ (by omega)))).trans (by assumption) | exact (congrFun ((va_up_ne _ _ (by omega)).trans (va_up_ne _ _ (by omega))) _).trans (by assumption) | (rw [va_up_self, va_up_ne _ _ (by omega)]; assumption)) (by first | assumption | exact va_up_self _ _ _ | exact (va_up_ne _ _ (by omega)).trans (by assumption) | exact congrArg Prod.fst (va_up_self _ _ _) | exact (congrArg Prod.fst (va_up_ne _ _ (by omega))).trans (by assumption) | exact (congrFun (va_up_ne _ _ (by omega)) _).trans (by assumption) | exact (va_up_ne _ _ (by omega)).trans (va_up_self _ _ _) | exact (va_up_ne _ _ (by omega)).trans ((va_up_ne _ _ (by omega)).trans (by assumption)) | exact (congrArg Prod.fst ((va_up_ne _ _ (by omega)).trans (va_up_ne _ _ (by omega)))).trans (by assumption) | exact (congrFun ((va_up_ne _ _ (by omega)).trans (va_up_ne _ _ (by omega))) _).trans (by assumption) | (rw [va_up_self, va_up_ne _ _ (by omega)]; assumption)) ?_
  refine tk_iload1 dX6_ofGroup_4 ?_
  refine tk_callS1z dX6_ofGroup_5 kX6_117 (c_groupOf hk1 hk2) (Nat.le_of_ble_eq_true rfl) (by omega) ?_
  refine tk_iald dX6_ofGroup_8 (by first | assumption | exact va_up_self _ _ _ | exact (va_up_ne _ _ (by omega)).trans (by assumption) | exact congrArg Prod.fst (va_up_self _ _ _) | exact (congrArg Prod.fst (va_up_ne _ _ (by omega))).trans (by assumption) | exact (congrFun (va_up_ne _ _ (by omega)) _).trans (by assumption) | exact (va_up_ne _ _ (by omega)).trans (va_up_self _ _ _) | exact (va_up_ne _ _ (by omega)).trans ((va_up_ne _ _ (by omega)).trans (by assumption)) | exact (congrArg Prod.fst ((va_up_ne _ _ (by omega)).trans (va_up_ne _ _ (by omega)))).trans (by assumption) | exact (congrFun ((va_up_ne _ _ (by omega)).trans (va_up_ne _ _ (by omega))) _).trans (by assumption) | (rw [va_up_self, va_up_ne _ _ (by omega)]; assumption)) (by omega) (by omega) ?_
  rw [hgr _ hgi]
  refine tk_istore6 dX6_ofGroup_9 rfl ?_
  refine tk_lload4 dX6_ofGroup_11 ?_
  refine tk_lload2 dX6_ofGroup_13 ?_
  refine tk_ldc2 dX6_ofGroup_14 klX6_58 ?_
  refine tk_lxor dX6_ofGroup_17 ?_
  refine tk_land dX6_ofGroup_18 ?_
  refine tk_lstore7 dX6_ofGroup_19 rfl ?_
  skip
  refine tk_iload1 dX6_ofGroup_21 ?_
  refine tk_bipush dX6_ofGroup_22 kc_bipush_38 ?_
  first | refine tk_icmp_ltN dX6_ofGroup_24 (by omega) (by omega) (fun h24 => ?_) (fun h24 => ?_) | refine tk_jcmp_lt dX6_ofGroup_24 (fun h24 => ?_) (fun h24 => ?_)
  · refine tk_iload1 dX6_ofGroup_43 ?_
    refine tk_bipush dX6_ofGroup_44 kc_bipush_35 ?_
    first | refine tk_icmp_geN dX6_ofGroup_46 (by omega) (by omega) (fun h46 => ?_) (fun h46 => ?_) | refine tk_jcmp_ge dX6_ofGroup_46 (fun h46 => ?_) (fun h46 => ?_)
    · refine tk_lload7 dX6_ofGroup_65 ?_
      refine tk_lstore9 dX6_ofGroup_67 rfl ?_
      refine tk_lload7 dX6_ofGroup_69 ?_
      refine tk_lstore11 dX6_ofGroup_71 rfl ?_
      refine tk_iconst dX6_ofGroup_73 kc_iconst_0 ?_
      refine tk_istore13 dX6_ofGroup_74 rfl ?_
      exact tk_wk (by repeat' (first | exact trivial | refine ⟨Or.inl rfl, ?_⟩ | refine ⟨Or.inr rfl, ?_⟩)) (loop (by omega) (by omega) 64 0 _ _ (by omega) comI_0)
    · refine tk_lload4 dX6_ofGroup_49 ?_
      refine tk_aload0 dX6_ofGroup_51 ?_
      refine tk_iload6 dX6_ofGroup_52 ?_
      refine tk_lload7 dX6_ofGroup_54 ?_
      refine tk_callV2q dX6_ofGroup_56 kX6_60 (by first | assumption | exact va_up_self _ _ _ | exact (va_up_ne _ _ (by omega)).trans (by assumption) | exact congrArg Prod.fst (va_up_self _ _ _) | exact (congrArg Prod.fst (va_up_ne _ _ (by omega))).trans (by assumption) | exact (congrFun (va_up_ne _ _ (by omega)) _).trans (by assumption) | exact (va_up_ne _ _ (by omega)).trans (va_up_self _ _ _) | exact (va_up_ne _ _ (by omega)).trans ((va_up_ne _ _ (by omega)).trans (by assumption)) | exact (congrArg Prod.fst ((va_up_ne _ _ (by omega)).trans (va_up_ne _ _ (by omega)))).trans (by assumption) | exact (congrFun ((va_up_ne _ _ (by omega)).trans (va_up_ne _ _ (by omega))) _).trans (by assumption) | (rw [va_up_self, va_up_ne _ _ (by omega)]; assumption)) (c_touched hs hpw hw hW hnp hnf hta (gr (rGi k)) (sub_dif (part := part) hset)) (Nat.le_of_ble_eq_true rfl) (by omega) ?_
      rintro rr h1 ⟨x, rfl, rfl, hx⟩
      dsimp only [Option.toList, List.cons_append, List.nil_append]
      refine tk_ldc2 dX6_ofGroup_59 klX6_58 ?_
      refine tk_lxor dX6_ofGroup_62 ?_
      refine tk_land dX6_ofGroup_63 ?_
      refine tk_lreturn dX6_ofGroup_64 rfl ?_
      refine ⟨_, rfl, rfl, fun u => ?_⟩
      rw [tb_dif, hx u]
      refine and_congr_right (fun hu => ?_)
      rw [sIs32 (by omega) (by omega), show rGi k = k - 32 from if_pos (by omega)]
      constructor
      · intro h p hp hm v hv ht
        apply Classical.byContradiction
        intro q
        exact h ⟨p, hp, hm, v, tb_dif.mpr ⟨hv, q⟩, cTi_sym hW (hset u hu) ht⟩
      · rintro h ⟨p, q1, q2, v, q3, q4⟩
        have := tb_dif.mp q3
        exact this.2 (h p q1 q2 v this.1 (cTi_sym hW (hset v this.1) q4))
  · refine tk_lload4 dX6_ofGroup_27 ?_
    refine tk_aload0 dX6_ofGroup_29 ?_
    refine tk_iload6 dX6_ofGroup_30 ?_
    refine tk_lload7 dX6_ofGroup_32 ?_
    refine tk_callV2q dX6_ofGroup_34 kX6_120 (by first | assumption | exact va_up_self _ _ _ | exact (va_up_ne _ _ (by omega)).trans (by assumption) | exact congrArg Prod.fst (va_up_self _ _ _) | exact (congrArg Prod.fst (va_up_ne _ _ (by omega))).trans (by assumption) | exact (congrFun (va_up_ne _ _ (by omega)) _).trans (by assumption) | exact (va_up_ne _ _ (by omega)).trans (va_up_self _ _ _) | exact (va_up_ne _ _ (by omega)).trans ((va_up_ne _ _ (by omega)).trans (by assumption)) | exact (congrArg Prod.fst ((va_up_ne _ _ (by omega)).trans (va_up_ne _ _ (by omega)))).trans (by assumption) | exact (congrFun ((va_up_ne _ _ (by omega)).trans (va_up_ne _ _ (by omega))) _).trans (by assumption) | (rw [va_up_self, va_up_ne _ _ (by omega)]; assumption)) (c_shared hs hpw hw hW1 hW hnp hnf hta (gr (rGi k)) (sub_dif (part := part) hset)) (Nat.le_of_ble_eq_true rfl) (by omega) ?_
    rintro rr h1 ⟨x, rfl, rfl, hx⟩
    dsimp only [Option.toList, List.cons_append, List.nil_append]
    refine tk_ldc2 dX6_ofGroup_37 klX6_58 ?_
    refine tk_lxor dX6_ofGroup_40 ?_
    refine tk_land dX6_ofGroup_41 ?_
    refine tk_lreturn dX6_ofGroup_42 rfl ?_
    refine ⟨_, rfl, rfl, fun u => ?_⟩
    rw [tb_dif, hx u]
    refine and_congr_right (fun hu => ?_)
    rw [sIs38 (by omega), show rGi k = k - 38 by unfold rGi; rw [if_neg (by omega), if_neg (by omega)]]
    constructor
    · intro h v hv ht
      apply Classical.byContradiction
      intro q
      exact h ⟨v, tb_dif.mpr ⟨hv, q⟩, hset u hu, fun p hp hm => cTi_sym hW (hset u hu) (ht p hp hm)⟩
    · rintro h ⟨v, q3, q4⟩
      have := tb_dif.mp q3
      exact this.2 (h v this.1 (fun p hp hm => cTi_sym hW (hset v this.1) (q4.2 p hp hm)))
end COM
