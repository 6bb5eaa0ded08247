/-! ===== the class: sight, sentences ===== -/
theorem sIs10 {np cn k : Nat} {tie : Nat → Nat → Nat → Prop} {mem : Nat → Nat → Prop} {cv : Nat → Nat → Prop} {S X : Nat → Prop} {w : Nat} (h : k = 10) : sIs np tie mem cn cv k S X w ↔ ¬ X w := by
  unfold sIs
  rw [if_pos h]
section STAND2
variable {G : tkG} {n : Nat} {T : Nat → Nat × Nat} {I : Nat → Nat → Int32} {P : Nat → Nat → Option Nat} {z wa c g np nf W r cn : Nat} {F ce gr cs : Nat → Int32} {cl : Nat → Nat}
theorem c_standing {bl : Bool} {dh ra l : Nat} {row : Nat → Int32} {cv : Nat → (Nat → Prop) → Nat → Prop} (hcv : bl = true → cv = sHe I z np nf W cn F ce gr cs cl) (hr : cRow n T I P ra l row) (hear : bl = true → ∀ (set : Int64) (dep : Nat) (L : Nat → Nat → Int64), (∀ v, tb set v = true → v < W) → ¬ set = 0 → dep ≤ 13 → sVw n T I L P z wa c g np nf W r cn F ce gr cs cl → HRD I z np nf W cn F ce gr cs cl L → tkM G mX6_hearClaims dh 0 0 [vR z, vL set, vI (nI dep)] (n, T, I, L, P) (heQ n T I L P z cn (HRD I z np nf W cn F ce gr cs cl) (fun c => sHe I z np nf W cn F ce gr cs cl c (fun u => tb set u = true)))) : ∀ (k a : Nat) (set : Int64) (dep : Nat) (L : Nat → Nat → Int64), sVw n T I L P z wa c g np nf W r cn F ce gr cs cl → WF np nf bl row k a → a < l → k ≤ 14 → (dep + k ≤ 28 ∧ (bl = true → dep + k ≤ 14)) → (∀ v, tb set v = true → v < W) → (bl = true → HRD I z np nf W cn F ce gr cs cl L) → tkM G mX6_standing (dh + 4 + 3 * k) 0 0 [vR z, vR ra, vI (nI a), vL set, vI (nI dep)] (n, T, I, L, P) (stQ n T I L P z bl (HRD I z np nf W cn F ce gr cs cl) (SEM np cn (faF F) (cTi ce F W nf (I (z + 1))) (memG gr) cv row k a (fun u => tb set u = true))) := by
  have hr' := hr
  obtain ⟨r1, r2, b, r3, r4, r5, r6, r7, r8⟩ := hr'
  intro k
  induction k with
  | zero => intro a set dep L _ h; exact h.elim
  | succ k ih =>
    intro a set dep L hv0 hwf hal hk hdep hset hH
    have hv' := hv0
    obtain ⟨hz, hs, hpw, hw, hW1, hW, hnp, hnf, hta, hpc, hc, hcn, hpg, hg, hgr, hcl⟩ := hv'
    have s1 := hs.1
    have hd1 : dep + 1 + k ≤ 28 ∧ (bl = true → dep + 1 + k ≤ 14) := ⟨by have := hdep.1; omega, fun q => by have := hdep.2 q; omega⟩
    have hdep1 := hdep.1
    have hwx := hw
    obtain ⟨w1, w2, w3, w4, w5, w6, wb, wc, w7, w8, w9, w10, w11, w12, w13, w14⟩ := hwx
    obtain ⟨v, hv, h40, hwf⟩ := hwf
    obtain ⟨e1, e2⟩ := r8 a hal
    have hiv : ix (row a) = v := by rw [hv]; exact ix_nI (by omega)
    have hvk : v ≤ 3 ∨ (10 ≤ v ∧ v ≤ 14) ∨ (20 ≤ v ∧ v ≤ 40) := by rcases hwf with h | h | h | h | h <;> omega
    have zero : set = 0 → tkX G mX6_standing (dh + 4 + 3 * (k + 1)) 0 0 17 [none, none, none, none, none, none, none, none, none, none] [] (n, T, I, L, P) (stQ n T I L P z bl (HRD I z np nf W cn F ce gr cs cl) (SEM np cn (faF F) (cTi ce F W nf (I (z + 1))) (memG gr) cv row (k + 1) a (fun u => tb set u = true))) := by
      intro e
      refine tk_lconst dX6_standing_17 (v := 0) (by decide) ?_
      refine tk_lreturn dX6_standing_18 rfl ?_
      refine ⟨0, L, rfl, rfl, lSm.rf, hH, fun _ => rfl, fun u => ⟨fun h => (by rw [tb_0] at h; cases h), fun h => ?_⟩⟩
      have := SEM_sub _ _ _ _ h
      rw [e, tb_0] at this
      cases this
    have two : ∀ v, row a = nI v → 11 ≤ v → v ≤ 14 → 1 ≤ a → WF np nf bl row k (a - 1) → SZ row k (a - 1) + 1 ≤ a → WF np nf bl row k (a - 1 - SZ row k (a - 1)) → tkM G mX6_ofTwo (dh + 4 + 3 * k + 1) 0 0 [vR z, vR ra, vI (nI a), vL set, vI (nI dep)] (n, T, I, L, P) (stQ n T I L P z bl (HRD I z np nf W cn F ce gr cs cl) (SEM np cn (faF F) (cTi ce F W nf (I (z + 1))) (memG gr) cv row (k + 1) a (fun u => tb set u = true))) := by
      intro v hv h11 h14 ha hw2 hsz hw3
      have hiv : ix (row a) = v := by rw [hv]; exact ix_nI (by omega)
      have zb := WF_SZ k (a - 1) hw2
      have rest2 : ∀ (x : Int64) (L' : Nat → Nat → Int64) (sc : Int64), lSm z L L' → (bl = true → HRD I z np nf W cn F ce gr cs cl L') → (bl = false → L' = L) → (∀ u, tb x u = true ↔ SEM np cn (faF F) (cTi ce F W nf (I (z + 1))) (memG gr) cv row k (a - 1 - SZ row k (a - 1)) (fun u => tb set u = true) u) → (∀ v, tb sc v = true → v < W) → ((fun u => tb sc u = true) = if v = 14 then SEM np cn (faF F) (cTi ce F W nf (I (z + 1))) (memG gr) cv row k (a - 1 - SZ row k (a - 1)) (fun u => tb set u = true) else fun u => tb set u = true) → tkX G mX6_ofTwo (dh + 4 + 3 * k + 1) 0 0 38 [some (vR z), some (vR ra), some (vI (nI a)), some (vL set), none, some (vI (nI dep)), some (vL x), none, none, none, none, none] [vL sc] (n, T, I, L', P) (stQ n T I L P z bl (HRD I z np nf W cn F ce gr cs cl) (SEM np cn (faF F) (cTi ce F W nf (I (z + 1))) (memG gr) cv row (k + 1) a (fun u => tb set u = true))) := by
        intro x L' sc l1 l2 l3 l4 hsc hse
        refine tk_lstore8 dX6_ofTwo_38 rfl ?_
        refine tk_aload0 dX6_ofTwo_40 ?_
        refine tk_aload1 dX6_ofTwo_41 ?_
        refine tk_iload2 dX6_ofTwo_42 ?_
        refine tk_iconst dX6_ofTwo_43 kc_iconst_1 ?_
        first | refine tk_isubN dX6_ofTwo_44 (by omega) ?_ | refine tk_isub dX6_ofTwo_44 ?_
        refine tk_lload8 dX6_ofTwo_45 ?_
        refine tk_iload5 dX6_ofTwo_47 ?_
        refine tk_iconst dX6_ofTwo_49 kc_iconst_1 ?_
        first | refine tk_iaddN dX6_ofTwo_50 ?_ | refine tk_iadd dX6_ofTwo_50 ?_
        refine tk_callV4q dX6_ofTwo_51 kX6_54 (by first | assumption | exact va_up_self _ _ _ | exact (va_up_ne _ _ (by omega)).trans (by assumption) | exact congrArg Prod.fst (va_up_self _ _ _) | exact (congrArg Prod.fst (va_up_ne _ _ (by omega))).trans (by assumption) | exact (congrFun (va_up_ne _ _ (by omega)) _).trans (by assumption) | exact (va_up_ne _ _ (by omega)).trans (va_up_self _ _ _) | exact (va_up_ne _ _ (by omega)).trans ((va_up_ne _ _ (by omega)).trans (by assumption)) | exact (congrArg Prod.fst ((va_up_ne _ _ (by omega)).trans (va_up_ne _ _ (by omega)))).trans (by assumption) | exact (congrFun ((va_up_ne _ _ (by omega)).trans (va_up_ne _ _ (by omega))) _).trans (by assumption) | (rw [va_up_self, va_up_ne _ _ (by omega)]; assumption)) (ih (a - 1) sc (dep + 1) L' (hv0.L l1) hw2 (by omega) (by omega) hd1 hsc l2) (Nat.le_of_ble_eq_true rfl) (by omega) ?_
        rintro rr h1 ⟨y, L2, rfl, rfl, m1, m2, m3, m4⟩
        dsimp only [Option.toList, List.cons_append, List.nil_append]
        refine tk_lstore10 dX6_ofTwo_54 rfl ?_
        refine tk_aload1 dX6_ofTwo_56 ?_
        refine tk_getP dX6_ofTwo_57 fX6_91 rfl (by first | assumption | exact va_up_self _ _ _ | exact (va_up_ne _ _ (by omega)).trans (by assumption) | exact congrArg Prod.fst (va_up_self _ _ _) | exact (congrArg Prod.fst (va_up_ne _ _ (by omega))).trans (by assumption) | exact (congrFun (va_up_ne _ _ (by omega)) _).trans (by assumption) | exact (va_up_ne _ _ (by omega)).trans (va_up_self _ _ _) | exact (va_up_ne _ _ (by omega)).trans ((va_up_ne _ _ (by omega)).trans (by assumption)) | exact (congrArg Prod.fst ((va_up_ne _ _ (by omega)).trans (va_up_ne _ _ (by omega)))).trans (by assumption) | exact (congrFun ((va_up_ne _ _ (by omega)).trans (va_up_ne _ _ (by omega))) _).trans (by assumption) | (rw [va_up_self, va_up_ne _ _ (by omega)]; assumption)) (by first | assumption | exact va_up_self _ _ _ | exact (va_up_ne _ _ (by omega)).trans (by assumption) | exact congrArg Prod.fst (va_up_self _ _ _) | exact (congrArg Prod.fst (va_up_ne _ _ (by omega))).trans (by assumption) | exact (congrFun (va_up_ne _ _ (by omega)) _).trans (by assumption) | exact (va_up_ne _ _ (by omega)).trans (va_up_self _ _ _) | exact (va_up_ne _ _ (by omega)).trans ((va_up_ne _ _ (by omega)).trans (by assumption)) | exact (congrArg Prod.fst ((va_up_ne _ _ (by omega)).trans (va_up_ne _ _ (by omega)))).trans (by assumption) | exact (congrFun ((va_up_ne _ _ (by omega)).trans (va_up_ne _ _ (by omega))) _).trans (by assumption) | (rw [va_up_self, va_up_ne _ _ (by omega)]; assumption)) ?_
        refine tk_iload2 dX6_ofTwo_60 ?_
        refine tk_iald dX6_ofTwo_61 (by first | assumption | exact va_up_self _ _ _ | exact (va_up_ne _ _ (by omega)).trans (by assumption) | exact congrArg Prod.fst (va_up_self _ _ _) | exact (congrArg Prod.fst (va_up_ne _ _ (by omega))).trans (by assumption) | exact (congrFun (va_up_ne _ _ (by omega)) _).trans (by assumption) | exact (va_up_ne _ _ (by omega)).trans (va_up_self _ _ _) | exact (va_up_ne _ _ (by omega)).trans ((va_up_ne _ _ (by omega)).trans (by assumption)) | exact (congrArg Prod.fst ((va_up_ne _ _ (by omega)).trans (va_up_ne _ _ (by omega)))).trans (by assumption) | exact (congrFun ((va_up_ne _ _ (by omega)).trans (va_up_ne _ _ (by omega))) _).trans (by assumption) | (rw [va_up_self, va_up_ne _ _ (by omega)]; assumption)) (by omega) (by omega) ?_
        rw [e1, hv]
        have fin : ∀ w, (∀ u, tb w u = true ↔ sTwo v (fun u => tb set u = true) (SEM np cn (faF F) (cTi ce F W nf (I (z + 1))) (memG gr) cv row k (a - 1 - SZ row k (a - 1)) (fun u => tb set u = true)) (SEM np cn (faF F) (cTi ce F W nf (I (z + 1))) (memG gr) cv row k (a - 1) (if v = 14 then SEM np cn (faF F) (cTi ce F W nf (I (z + 1))) (memG gr) cv row k (a - 1 - SZ row k (a - 1)) (fun u => tb set u = true) else fun u => tb set u = true)) u) → stQ n T I L P z bl (HRD I z np nf W cn F ce gr cs cl) (SEM np cn (faF F) (cTi ce F W nf (I (z + 1))) (memG gr) cv row (k + 1) a (fun u => tb set u = true)) (some (vL w)) (n, T, I, L2, P) := fun w hw9 => ⟨w, L2, rfl, rfl, l1.tr m1, m2, fun q => (m3 q).trans (l3 q), fun u => by rw [SEM_2 hiv ⟨h11, h14⟩]; exact hw9 u⟩
        rw [hse] at m4
        have hv4 : v = 11 ∨ v = 12 ∨ (v = 13 ∨ v = 14) := by omega
        rcases hv4 with h | h | h
        · refine tk_look (tgt := 88) (off := 26) dX6_ofTwo_62 (by decide) (by rw [h]; decide +kernel) (by decide) ?_
          refine tk_lload6 dX6_ofTwo_88 ?_
          refine tk_lload10 dX6_ofTwo_90 ?_
          refine tk_land dX6_ofTwo_92 ?_
          refine tk_lreturn dX6_ofTwo_93 rfl ?_
          refine fin _ (fun u => ?_)
          unfold sTwo
          rw [if_pos h, tb_andT, l4 u, m4 u]
        · refine tk_look (tgt := 94) (off := 32) dX6_ofTwo_62 (by decide) (by rw [h]; decide +kernel) (by decide) ?_
          refine tk_lload6 dX6_ofTwo_94 ?_
          refine tk_lload10 dX6_ofTwo_96 ?_
          refine tk_lor dX6_ofTwo_98 ?_
          refine tk_lreturn dX6_ofTwo_99 rfl ?_
          refine fin _ (fun u => ?_)
          unfold sTwo
          rw [if_neg (by omega), if_pos h, tb_orT, l4 u, m4 u]
        · refine tk_look (tgt := 100) (off := 38) dX6_ofTwo_62 (by decide) (by rcases h with h | h <;> (rw [h]; decide +kernel)) (by decide) ?_
          refine tk_lload3 dX6_ofTwo_100 ?_
          refine tk_lload6 dX6_ofTwo_101 ?_
          refine tk_ldc2 dX6_ofTwo_103 klX6_58 ?_
          refine tk_lxor dX6_ofTwo_106 ?_
          refine tk_land dX6_ofTwo_107 ?_
          refine tk_lload10 dX6_ofTwo_108 ?_
          refine tk_lor dX6_ofTwo_110 ?_
          refine tk_lreturn dX6_ofTwo_111 rfl ?_
          refine fin _ (fun u => ?_)
          unfold sTwo
          rw [if_neg (by omega), if_neg (by omega), tb_orT, tb_dif, l4 u, m4 u]
      refine tkM.of (ls := [some _, some _, some _, some _, none, some _, none, none, none, none, none, none]) (by decide +kernel) (by decide +kernel) (Nat.le_of_ble_eq_true rfl) rfl ?_
      refine tk_aload0 dX6_ofTwo_0 ?_
      refine tk_aload1 dX6_ofTwo_1 ?_
      refine tk_aload1 dX6_ofTwo_2 ?_
      refine tk_iload2 dX6_ofTwo_3 ?_
      refine tk_iconst dX6_ofTwo_4 kc_iconst_1 ?_
      first | refine tk_isubN dX6_ofTwo_5 (by omega) ?_ | refine tk_isub dX6_ofTwo_5 ?_
      refine tk_callV1z dX6_ofTwo_6 kX6_108 (by first | assumption | exact va_up_self _ _ _ | exact (va_up_ne _ _ (by omega)).trans (by assumption) | exact congrArg Prod.fst (va_up_self _ _ _) | exact (congrArg Prod.fst (va_up_ne _ _ (by omega))).trans (by assumption) | exact (congrFun (va_up_ne _ _ (by omega)) _).trans (by assumption) | exact (va_up_ne _ _ (by omega)).trans (va_up_self _ _ _) | exact (va_up_ne _ _ (by omega)).trans ((va_up_ne _ _ (by omega)).trans (by assumption)) | exact (congrArg Prod.fst ((va_up_ne _ _ (by omega)).trans (va_up_ne _ _ (by omega)))).trans (by assumption) | exact (congrFun ((va_up_ne _ _ (by omega)).trans (va_up_ne _ _ (by omega))) _).trans (by assumption) | (rw [va_up_self, va_up_ne _ _ (by omega)]; assumption)) (c_startOf hr hw2 (by omega) (by omega)) (Nat.le_of_ble_eq_true rfl) (by omega) ?_
      refine tk_iconst dX6_ofTwo_9 kc_iconst_1 ?_
      first | refine tk_isubN dX6_ofTwo_10 (by omega) ?_ | refine tk_isub dX6_ofTwo_10 ?_
      rw [show a - 1 + 1 - SZ row k (a - 1) - 1 = a - 1 - SZ row k (a - 1) by omega]
      refine tk_lload3 dX6_ofTwo_11 ?_
      refine tk_iload5 dX6_ofTwo_12 ?_
      refine tk_iconst dX6_ofTwo_14 kc_iconst_1 ?_
      first | refine tk_iaddN dX6_ofTwo_15 ?_ | refine tk_iadd dX6_ofTwo_15 ?_
      refine tk_callV4q dX6_ofTwo_16 kX6_54 (by first | assumption | exact va_up_self _ _ _ | exact (va_up_ne _ _ (by omega)).trans (by assumption) | exact congrArg Prod.fst (va_up_self _ _ _) | exact (congrArg Prod.fst (va_up_ne _ _ (by omega))).trans (by assumption) | exact (congrFun (va_up_ne _ _ (by omega)) _).trans (by assumption) | exact (va_up_ne _ _ (by omega)).trans (va_up_self _ _ _) | exact (va_up_ne _ _ (by omega)).trans ((va_up_ne _ _ (by omega)).trans (by assumption)) | exact (congrArg Prod.fst ((va_up_ne _ _ (by omega)).trans (va_up_ne _ _ (by omega)))).trans (by assumption) | exact (congrFun ((va_up_ne _ _ (by omega)).trans (va_up_ne _ _ (by omega))) _).trans (by assumption) | (rw [va_up_self, va_up_ne _ _ (by omega)]; assumption)) (ih (a - 1 - SZ row k (a - 1)) set (dep + 1) L hv0 hw3 (by omega) (by omega) hd1 hset hH) (Nat.le_of_ble_eq_true rfl) (by omega) ?_
      rintro rr h1 ⟨x, L', rfl, rfl, l1, l2, l3, l4⟩
      dsimp only [Option.toList, List.cons_append, List.nil_append]
      have eA : (fun u => tb x u = true) = SEM np cn (faF F) (cTi ce F W nf (I (z + 1))) (memG gr) cv row k (a - 1 - SZ row k (a - 1)) (fun u => tb set u = true) := funext fun u => propext (l4 u)
      have hxW : ∀ u, tb x u = true → u < W := fun u hu => hset u (SEM_sub _ _ _ _ ((l4 u).mp hu))
      refine tk_lstore6 dX6_ofTwo_19 rfl ?_
      refine tk_aload1 dX6_ofTwo_21 ?_
      refine tk_getP dX6_ofTwo_22 fX6_91 rfl (by first | assumption | exact va_up_self _ _ _ | exact (va_up_ne _ _ (by omega)).trans (by assumption) | exact congrArg Prod.fst (va_up_self _ _ _) | exact (congrArg Prod.fst (va_up_ne _ _ (by omega))).trans (by assumption) | exact (congrFun (va_up_ne _ _ (by omega)) _).trans (by assumption) | exact (va_up_ne _ _ (by omega)).trans (va_up_self _ _ _) | exact (va_up_ne _ _ (by omega)).trans ((va_up_ne _ _ (by omega)).trans (by assumption)) | exact (congrArg Prod.fst ((va_up_ne _ _ (by omega)).trans (va_up_ne _ _ (by omega)))).trans (by assumption) | exact (congrFun ((va_up_ne _ _ (by omega)).trans (va_up_ne _ _ (by omega))) _).trans (by assumption) | (rw [va_up_self, va_up_ne _ _ (by omega)]; assumption)) (by first | assumption | exact va_up_self _ _ _ | exact (va_up_ne _ _ (by omega)).trans (by assumption) | exact congrArg Prod.fst (va_up_self _ _ _) | exact (congrArg Prod.fst (va_up_ne _ _ (by omega))).trans (by assumption) | exact (congrFun (va_up_ne _ _ (by omega)) _).trans (by assumption) | exact (va_up_ne _ _ (by omega)).trans (va_up_self _ _ _) | exact (va_up_ne _ _ (by omega)).trans ((va_up_ne _ _ (by omega)).trans (by assumption)) | exact (congrArg Prod.fst ((va_up_ne _ _ (by omega)).trans (va_up_ne _ _ (by omega)))).trans (by assumption) | exact (congrFun ((va_up_ne _ _ (by omega)).trans (va_up_ne _ _ (by omega))) _).trans (by assumption) | (rw [va_up_self, va_up_ne _ _ (by omega)]; assumption)) ?_
      refine tk_iload2 dX6_ofTwo_25 ?_
      refine tk_iald dX6_ofTwo_26 (by first | assumption | exact va_up_self _ _ _ | exact (va_up_ne _ _ (by omega)).trans (by assumption) | exact congrArg Prod.fst (va_up_self _ _ _) | exact (congrArg Prod.fst (va_up_ne _ _ (by omega))).trans (by assumption) | exact (congrFun (va_up_ne _ _ (by omega)) _).trans (by assumption) | exact (va_up_ne _ _ (by omega)).trans (va_up_self _ _ _) | exact (va_up_ne _ _ (by omega)).trans ((va_up_ne _ _ (by omega)).trans (by assumption)) | exact (congrArg Prod.fst ((va_up_ne _ _ (by omega)).trans (va_up_ne _ _ (by omega)))).trans (by assumption) | exact (congrFun ((va_up_ne _ _ (by omega)).trans (va_up_ne _ _ (by omega))) _).trans (by assumption) | (rw [va_up_self, va_up_ne _ _ (by omega)]; assumption)) (by omega) (by omega) ?_
      rw [e1, hv]
      refine tk_bipush dX6_ofTwo_27 kc_bipush_14 ?_
      first | refine tk_icmp_neN dX6_ofTwo_29 (by omega) (by omega) (fun h29 => ?_) (fun h29 => ?_) | refine tk_icmp_ne dX6_ofTwo_29 (fun h29 => ?_) (fun h29 => ?_)
      · refine tk_lload3 dX6_ofTwo_37 ?_
        first
          | exact tk_wk (by repeat' (first | exact trivial | refine ⟨Or.inl rfl, ?_⟩ | refine ⟨Or.inr rfl, ?_⟩)) (rest2 x L' set l1 l2 l3 l4 hset (by rw [if_neg h29]))
          | exact tk_wk (by repeat' (first | exact trivial | refine ⟨Or.inl rfl, ?_⟩ | refine ⟨Or.inr rfl, ?_⟩)) (rest2 x L' x l1 l2 l3 l4 hxW (by rw [if_pos h29]; exact eA))
      · refine tk_lload6 dX6_ofTwo_32 ?_
        refine tk_goto dX6_ofTwo_34 ?_
        first
          | exact tk_wk (by repeat' (first | exact trivial | refine ⟨Or.inl rfl, ?_⟩ | refine ⟨Or.inr rfl, ?_⟩)) (rest2 x L' set l1 l2 l3 l4 hset (by rw [if_neg h29]))
          | exact tk_wk (by repeat' (first | exact trivial | refine ⟨Or.inl rfl, ?_⟩ | refine ⟨Or.inr rfl, ?_⟩)) (rest2 x L' x l1 l2 l3 l4 hxW (by rw [if_pos h29]; exact eA))
    refine tkM.of (ls := [some _, some _, some _, some _, none, some _, none, none, none, none]) (by decide +kernel) (by decide +kernel) (Nat.le_of_ble_eq_true rfl) rfl ?_
    refine tk_iload2 dX6_standing_0 ?_
    refine tk_jf_lt dX6_standing_1 (fun h1 => ?_) (fun h1 => ?_)
    · first
        | exact absurd h1 (nI_pos (by omega))
        | exact tk_wk (by repeat' (first | exact trivial | refine ⟨Or.inl rfl, ?_⟩ | refine ⟨Or.inr rfl, ?_⟩)) (zero ((lgc0 _ _).mp h7))
        | (exfalso; omega)
    · refine tk_lload3 dX6_standing_4 ?_
      refine tk_lconst dX6_standing_5 (v := 0) (by decide) ?_
      refine tk_lcmp dX6_standing_6 ?_
      first | refine tk_jf_eqB dX6_standing_7 (fun h7 => ?_) (fun h7 => ?_) | refine tk_if_eq dX6_standing_7 (fun h7 => ?_) (fun h7 => ?_)
      · first
          | exact absurd h1 (nI_pos (by omega))
          | exact tk_wk (by repeat' (first | exact trivial | refine ⟨Or.inl rfl, ?_⟩ | refine ⟨Or.inr rfl, ?_⟩)) (zero ((lgc0 _ _).mp h7))
          | (exfalso; omega)
      · refine tk_iload5 dX6_standing_10 ?_
        refine tk_bipush dX6_standing_12 kc_bipush_28 ?_
        first | refine tk_icmp_leN dX6_standing_14 (by omega) (by omega) (fun h14 => ?_) (fun h14 => ?_) | refine tk_jcmp_le dX6_standing_14 (fun h14 => ?_) (fun h14 => ?_)
        · refine tk_aload1 dX6_standing_19 ?_
          refine tk_getP dX6_standing_20 fX6_91 rfl (by first | assumption | exact va_up_self _ _ _ | exact (va_up_ne _ _ (by omega)).trans (by assumption) | exact congrArg Prod.fst (va_up_self _ _ _) | exact (congrArg Prod.fst (va_up_ne _ _ (by omega))).trans (by assumption) | exact (congrFun (va_up_ne _ _ (by omega)) _).trans (by assumption) | exact (va_up_ne _ _ (by omega)).trans (va_up_self _ _ _) | exact (va_up_ne _ _ (by omega)).trans ((va_up_ne _ _ (by omega)).trans (by assumption)) | exact (congrArg Prod.fst ((va_up_ne _ _ (by omega)).trans (va_up_ne _ _ (by omega)))).trans (by assumption) | exact (congrFun ((va_up_ne _ _ (by omega)).trans (va_up_ne _ _ (by omega))) _).trans (by assumption) | (rw [va_up_self, va_up_ne _ _ (by omega)]; assumption)) (by first | assumption | exact va_up_self _ _ _ | exact (va_up_ne _ _ (by omega)).trans (by assumption) | exact congrArg Prod.fst (va_up_self _ _ _) | exact (congrArg Prod.fst (va_up_ne _ _ (by omega))).trans (by assumption) | exact (congrFun (va_up_ne _ _ (by omega)) _).trans (by assumption) | exact (va_up_ne _ _ (by omega)).trans (va_up_self _ _ _) | exact (va_up_ne _ _ (by omega)).trans ((va_up_ne _ _ (by omega)).trans (by assumption)) | exact (congrArg Prod.fst ((va_up_ne _ _ (by omega)).trans (va_up_ne _ _ (by omega)))).trans (by assumption) | exact (congrFun ((va_up_ne _ _ (by omega)).trans (va_up_ne _ _ (by omega))) _).trans (by assumption) | (rw [va_up_self, va_up_ne _ _ (by omega)]; assumption)) ?_
          refine tk_iload2 dX6_standing_23 ?_
          refine tk_iald dX6_standing_24 (by first | assumption | exact va_up_self _ _ _ | exact (va_up_ne _ _ (by omega)).trans (by assumption) | exact congrArg Prod.fst (va_up_self _ _ _) | exact (congrArg Prod.fst (va_up_ne _ _ (by omega))).trans (by assumption) | exact (congrFun (va_up_ne _ _ (by omega)) _).trans (by assumption) | exact (va_up_ne _ _ (by omega)).trans (va_up_self _ _ _) | exact (va_up_ne _ _ (by omega)).trans ((va_up_ne _ _ (by omega)).trans (by assumption)) | exact (congrArg Prod.fst ((va_up_ne _ _ (by omega)).trans (va_up_ne _ _ (by omega)))).trans (by assumption) | exact (congrFun ((va_up_ne _ _ (by omega)).trans (va_up_ne _ _ (by omega))) _).trans (by assumption) | (rw [va_up_self, va_up_ne _ _ (by omega)]; assumption)) (by omega) (by omega) ?_
          rw [e1, hv]
          refine tk_istore6 dX6_standing_25 rfl ?_
          refine tk_iload6 dX6_standing_27 ?_
          refine tk_callS1z dX6_standing_29 kX6_94 (c_takesN hvk) (Nat.le_of_ble_eq_true rfl) (by omega) ?_
          refine tk_istore7 dX6_standing_32 rfl ?_
          have hset0 : ¬ set = 0 := fun e => h7 ((lgc0 _ _).mpr e)
          rcases hwf with ⟨h4, hnf2⟩ | ⟨h10, ha, hw2⟩ | ⟨h11, h14, ha, hw2, hsz, hw3⟩ | ⟨h20, h32, hvp, hbb, ha, hw2⟩ | ⟨h32, ha, hw2⟩
          · rw [show rTkN v = 0 by unfold rTkN; rw [if_pos (by omega)]]
            refine tk_iload7 dX6_standing_34 ?_
            first | refine tk_jf_neB dX6_standing_36 (fun h36 => ?_) (fun h36 => ?_) | refine tk_if_ne dX6_standing_36 (fun h36 => ?_) (fun h36 => ?_)
            · exact absurd nI_0 h36
            · refine tk_aload0 dX6_standing_39 ?_
              refine tk_getP dX6_standing_40 fX6_25 rfl (by first | assumption | exact va_up_self _ _ _ | exact (va_up_ne _ _ (by omega)).trans (by assumption) | exact congrArg Prod.fst (va_up_self _ _ _) | exact (congrArg Prod.fst (va_up_ne _ _ (by omega))).trans (by assumption) | exact (congrFun (va_up_ne _ _ (by omega)) _).trans (by assumption) | exact (va_up_ne _ _ (by omega)).trans (va_up_self _ _ _) | exact (va_up_ne _ _ (by omega)).trans ((va_up_ne _ _ (by omega)).trans (by assumption)) | exact (congrArg Prod.fst ((va_up_ne _ _ (by omega)).trans (va_up_ne _ _ (by omega)))).trans (by assumption) | exact (congrFun ((va_up_ne _ _ (by omega)).trans (va_up_ne _ _ (by omega))) _).trans (by assumption) | (rw [va_up_self, va_up_ne _ _ (by omega)]; assumption)) (by first | assumption | exact va_up_self _ _ _ | exact (va_up_ne _ _ (by omega)).trans (by assumption) | exact congrArg Prod.fst (va_up_self _ _ _) | exact (congrArg Prod.fst (va_up_ne _ _ (by omega))).trans (by assumption) | exact (congrFun (va_up_ne _ _ (by omega)) _).trans (by assumption) | exact (va_up_ne _ _ (by omega)).trans (va_up_self _ _ _) | exact (va_up_ne _ _ (by omega)).trans ((va_up_ne _ _ (by omega)).trans (by assumption)) | exact (congrArg Prod.fst ((va_up_ne _ _ (by omega)).trans (va_up_ne _ _ (by omega)))).trans (by assumption) | exact (congrFun ((va_up_ne _ _ (by omega)).trans (va_up_ne _ _ (by omega))) _).trans (by assumption) | (rw [va_up_self, va_up_ne _ _ (by omega)]; assumption)) ?_
              refine tk_getP dX6_standing_43 fX6_98 rfl (by first | assumption | exact va_up_self _ _ _ | exact (va_up_ne _ _ (by omega)).trans (by assumption) | exact congrArg Prod.fst (va_up_self _ _ _) | exact (congrArg Prod.fst (va_up_ne _ _ (by omega))).trans (by assumption) | exact (congrFun (va_up_ne _ _ (by omega)) _).trans (by assumption) | exact (va_up_ne _ _ (by omega)).trans (va_up_self _ _ _) | exact (va_up_ne _ _ (by omega)).trans ((va_up_ne _ _ (by omega)).trans (by assumption)) | exact (congrArg Prod.fst ((va_up_ne _ _ (by omega)).trans (va_up_ne _ _ (by omega)))).trans (by assumption) | exact (congrFun ((va_up_ne _ _ (by omega)).trans (va_up_ne _ _ (by omega))) _).trans (by assumption) | (rw [va_up_self, va_up_ne _ _ (by omega)]; assumption)) (by first | assumption | exact va_up_self _ _ _ | exact (va_up_ne _ _ (by omega)).trans (by assumption) | exact congrArg Prod.fst (va_up_self _ _ _) | exact (congrArg Prod.fst (va_up_ne _ _ (by omega))).trans (by assumption) | exact (congrFun (va_up_ne _ _ (by omega)) _).trans (by assumption) | exact (va_up_ne _ _ (by omega)).trans (va_up_self _ _ _) | exact (va_up_ne _ _ (by omega)).trans ((va_up_ne _ _ (by omega)).trans (by assumption)) | exact (congrArg Prod.fst ((va_up_ne _ _ (by omega)).trans (va_up_ne _ _ (by omega)))).trans (by assumption) | exact (congrFun ((va_up_ne _ _ (by omega)).trans (va_up_ne _ _ (by omega))) _).trans (by assumption) | (rw [va_up_self, va_up_ne _ _ (by omega)]; assumption)) ?_
              refine tk_iload6 dX6_standing_46 ?_
              refine tk_lald dX6_standing_48 (by first | assumption | exact va_up_self _ _ _ | exact (va_up_ne _ _ (by omega)).trans (by assumption) | exact congrArg Prod.fst (va_up_self _ _ _) | exact (congrArg Prod.fst (va_up_ne _ _ (by omega))).trans (by assumption) | exact (congrFun (va_up_ne _ _ (by omega)) _).trans (by assumption) | exact (va_up_ne _ _ (by omega)).trans (va_up_self _ _ _) | exact (va_up_ne _ _ (by omega)).trans ((va_up_ne _ _ (by omega)).trans (by assumption)) | exact (congrArg Prod.fst ((va_up_ne _ _ (by omega)).trans (va_up_ne _ _ (by omega)))).trans (by assumption) | exact (congrFun ((va_up_ne _ _ (by omega)).trans (va_up_ne _ _ (by omega))) _).trans (by assumption) | (rw [va_up_self, va_up_ne _ _ (by omega)]; assumption)) (by omega) (by omega) ?_
              rw [w13 v hnf2]
              refine tk_lload3 dX6_standing_49 ?_
              refine tk_land dX6_standing_50 ?_
              refine tk_lreturn dX6_standing_51 rfl ?_
              refine ⟨_, _, rfl, rfl, lSm.rf, hH, fun _ => rfl, fun u => ?_⟩
              rw [SEM_f hiv (by omega), tb_andT, rSF_T hW]
              exact ⟨fun h => ⟨h.1.2, h.2⟩, fun h => ⟨⟨hset u h.2, h.1⟩, h.2⟩⟩
          · rw [show rTkN v = 1 by unfold rTkN; rw [if_neg (by omega), if_neg (by omega)]]
            refine tk_iload7 dX6_standing_34 ?_
            first | refine tk_jf_neB dX6_standing_36 (fun h36 => ?_) (fun h36 => ?_) | refine tk_if_ne dX6_standing_36 (fun h36 => ?_) (fun h36 => ?_)
            · refine tk_iload7 dX6_standing_52 ?_
              refine tk_iconst dX6_standing_54 kc_iconst_2 ?_
              first | refine tk_icmp_neN dX6_standing_55 (by omega) (by omega) (fun h55 => ?_) (fun h55 => ?_) | refine tk_icmp_ne dX6_standing_55 (fun h55 => ?_) (fun h55 => ?_)
              · refine tk_aload0 dX6_standing_68 ?_
                refine tk_aload1 dX6_standing_69 ?_
                refine tk_iload2 dX6_standing_70 ?_
                refine tk_iconst dX6_standing_71 kc_iconst_1 ?_
                first | refine tk_isubN dX6_standing_72 (by omega) ?_ | refine tk_isub dX6_standing_72 ?_
                refine tk_lload3 dX6_standing_73 ?_
                refine tk_iload5 dX6_standing_74 ?_
                refine tk_iconst dX6_standing_76 kc_iconst_1 ?_
                first | refine tk_iaddN dX6_standing_77 ?_ | refine tk_iadd dX6_standing_77 ?_
                refine tk_callV4q dX6_standing_78 kX6_54 (by first | assumption | exact va_up_self _ _ _ | exact (va_up_ne _ _ (by omega)).trans (by assumption) | exact congrArg Prod.fst (va_up_self _ _ _) | exact (congrArg Prod.fst (va_up_ne _ _ (by omega))).trans (by assumption) | exact (congrFun (va_up_ne _ _ (by omega)) _).trans (by assumption) | exact (va_up_ne _ _ (by omega)).trans (va_up_self _ _ _) | exact (va_up_ne _ _ (by omega)).trans ((va_up_ne _ _ (by omega)).trans (by assumption)) | exact (congrArg Prod.fst ((va_up_ne _ _ (by omega)).trans (va_up_ne _ _ (by omega)))).trans (by assumption) | exact (congrFun ((va_up_ne _ _ (by omega)).trans (va_up_ne _ _ (by omega))) _).trans (by assumption) | (rw [va_up_self, va_up_ne _ _ (by omega)]; assumption)) (ih (a - 1) set (dep + 1) L hv0 hw2 (by omega) (by omega) hd1 hset hH) (Nat.le_of_ble_eq_true rfl) (by omega) ?_
                rintro rr h1 ⟨x, L', rfl, rfl, l1, l2, l3, l4⟩
                dsimp only [Option.toList, List.cons_append, List.nil_append]
                refine tk_lstore8 dX6_standing_81 rfl ?_
                refine tk_iload6 dX6_standing_83 ?_
                refine tk_bipush dX6_standing_85 kc_bipush_10 ?_
                first | refine tk_icmp_neN dX6_standing_87 (by omega) (by omega) (fun h87 => ?_) (fun h87 => ?_) | refine tk_icmp_ne dX6_standing_87 (fun h87 => ?_) (fun h87 => ?_)
                · exfalso; omega
                · refine tk_lload3 dX6_standing_90 ?_
                  refine tk_lload8 dX6_standing_91 ?_
                  refine tk_ldc2 dX6_standing_93 klX6_58 ?_
                  refine tk_lxor dX6_standing_96 ?_
                  refine tk_land dX6_standing_97 ?_
                  refine tk_lreturn dX6_standing_98 rfl ?_
                  refine ⟨_, _, rfl, rfl, l1, l2, l3, fun u => ?_⟩
                  rw [SEM_1 hiv (by omega) (by omega), tb_dif, l4 u]
                  exact and_congr_right (fun _ => (sIs10 h10).symm)
              · exfalso; omega
            · exact absurd h36 (by decide)
          · rw [show rTkN v = 2 by unfold rTkN; rw [if_neg (by omega), if_pos (by omega)]]
            refine tk_iload7 dX6_standing_34 ?_
            first | refine tk_jf_neB dX6_standing_36 (fun h36 => ?_) (fun h36 => ?_) | refine tk_if_ne dX6_standing_36 (fun h36 => ?_) (fun h36 => ?_)
            · refine tk_iload7 dX6_standing_52 ?_
              refine tk_iconst dX6_standing_54 kc_iconst_2 ?_
              first | refine tk_icmp_neN dX6_standing_55 (by omega) (by omega) (fun h55 => ?_) (fun h55 => ?_) | refine tk_icmp_ne dX6_standing_55 (fun h55 => ?_) (fun h55 => ?_)
              · exfalso; omega
              · refine tk_aload0 dX6_standing_58 ?_
                refine tk_aload1 dX6_standing_59 ?_
                refine tk_iload2 dX6_standing_60 ?_
                refine tk_lload3 dX6_standing_61 ?_
                refine tk_iload5 dX6_standing_62 ?_
                refine tk_callV4q dX6_standing_64 kX6_101 (by first | assumption | exact va_up_self _ _ _ | exact (va_up_ne _ _ (by omega)).trans (by assumption) | exact congrArg Prod.fst (va_up_self _ _ _) | exact (congrArg Prod.fst (va_up_ne _ _ (by omega))).trans (by assumption) | exact (congrFun (va_up_ne _ _ (by omega)) _).trans (by assumption) | exact (va_up_ne _ _ (by omega)).trans (va_up_self _ _ _) | exact (va_up_ne _ _ (by omega)).trans ((va_up_ne _ _ (by omega)).trans (by assumption)) | exact (congrArg Prod.fst ((va_up_ne _ _ (by omega)).trans (va_up_ne _ _ (by omega)))).trans (by assumption) | exact (congrFun ((va_up_ne _ _ (by omega)).trans (va_up_ne _ _ (by omega))) _).trans (by assumption) | (rw [va_up_self, va_up_ne _ _ (by omega)]; assumption)) (two v hv h11 h14 ha hw2 hsz hw3) (Nat.le_of_ble_eq_true rfl) (by omega) ?_
                rintro rr h1 q
                obtain ⟨x, L', rfl, rfl, l1, l2, l3, l4⟩ := q
                dsimp only [Option.toList, List.cons_append, List.nil_append]
                refine tk_lreturn dX6_standing_67 rfl ?_
                exact ⟨x, L', rfl, rfl, l1, l2, l3, l4⟩
            · exact absurd h36 (by decide)
          · rw [show rTkN v = 1 by unfold rTkN; rw [if_neg (by omega), if_neg (by omega)]]
            refine tk_iload7 dX6_standing_34 ?_
            first | refine tk_jf_neB dX6_standing_36 (fun h36 => ?_) (fun h36 => ?_) | refine tk_if_ne dX6_standing_36 (fun h36 => ?_) (fun h36 => ?_)
            · refine tk_iload7 dX6_standing_52 ?_
              refine tk_iconst dX6_standing_54 kc_iconst_2 ?_
              first | refine tk_icmp_neN dX6_standing_55 (by omega) (by omega) (fun h55 => ?_) (fun h55 => ?_) | refine tk_icmp_ne dX6_standing_55 (fun h55 => ?_) (fun h55 => ?_)
              · refine tk_aload0 dX6_standing_68 ?_
                refine tk_aload1 dX6_standing_69 ?_
                refine tk_iload2 dX6_standing_70 ?_
                refine tk_iconst dX6_standing_71 kc_iconst_1 ?_
                first | refine tk_isubN dX6_standing_72 (by omega) ?_ | refine tk_isub dX6_standing_72 ?_
                refine tk_lload3 dX6_standing_73 ?_
                refine tk_iload5 dX6_standing_74 ?_
                refine tk_iconst dX6_standing_76 kc_iconst_1 ?_
                first | refine tk_iaddN dX6_standing_77 ?_ | refine tk_iadd dX6_standing_77 ?_
                refine tk_callV4q dX6_standing_78 kX6_54 (by first | assumption | exact va_up_self _ _ _ | exact (va_up_ne _ _ (by omega)).trans (by assumption) | exact congrArg Prod.fst (va_up_self _ _ _) | exact (congrArg Prod.fst (va_up_ne _ _ (by omega))).trans (by assumption) | exact (congrFun (va_up_ne _ _ (by omega)) _).trans (by assumption) | exact (va_up_ne _ _ (by omega)).trans (va_up_self _ _ _) | exact (va_up_ne _ _ (by omega)).trans ((va_up_ne _ _ (by omega)).trans (by assumption)) | exact (congrArg Prod.fst ((va_up_ne _ _ (by omega)).trans (va_up_ne _ _ (by omega)))).trans (by assumption) | exact (congrFun ((va_up_ne _ _ (by omega)).trans (va_up_ne _ _ (by omega))) _).trans (by assumption) | (rw [va_up_self, va_up_ne _ _ (by omega)]; assumption)) (ih (a - 1) set (dep + 1) L hv0 hw2 (by omega) (by omega) hd1 hset hH) (Nat.le_of_ble_eq_true rfl) (by omega) ?_
                rintro rr h1 ⟨x, L', rfl, rfl, l1, l2, l3, l4⟩
                dsimp only [Option.toList, List.cons_append, List.nil_append]
                refine tk_lstore8 dX6_standing_81 rfl ?_
                refine tk_iload6 dX6_standing_83 ?_
                refine tk_bipush dX6_standing_85 kc_bipush_10 ?_
                first | refine tk_icmp_neN dX6_standing_87 (by omega) (by omega) (fun h87 => ?_) (fun h87 => ?_) | refine tk_icmp_ne dX6_standing_87 (fun h87 => ?_) (fun h87 => ?_)
                · refine tk_iload6 dX6_standing_99 ?_
                  refine tk_bipush dX6_standing_101 kc_bipush_32 ?_
                  first | refine tk_icmp_ltN dX6_standing_103 (by omega) (by omega) (fun h103 => ?_) (fun h103 => ?_) | refine tk_jcmp_lt dX6_standing_103 (fun h103 => ?_) (fun h103 => ?_)
                  · refine tk_aload0 dX6_standing_116 ?_
                    refine tk_iload6 dX6_standing_117 ?_
                    refine tk_lload8 dX6_standing_119 ?_
                    refine tk_lload3 dX6_standing_121 ?_
                    refine tk_iload5 dX6_standing_122 ?_
                    refine tk_callV4q dX6_standing_124 kX6_104 (by first | assumption | exact va_up_self _ _ _ | exact (va_up_ne _ _ (by omega)).trans (by assumption) | exact congrArg Prod.fst (va_up_self _ _ _) | exact (congrArg Prod.fst (va_up_ne _ _ (by omega))).trans (by assumption) | exact (congrFun (va_up_ne _ _ (by omega)) _).trans (by assumption) | exact (va_up_ne _ _ (by omega)).trans (va_up_self _ _ _) | exact (va_up_ne _ _ (by omega)).trans ((va_up_ne _ _ (by omega)).trans (by assumption)) | exact (congrArg Prod.fst ((va_up_ne _ _ (by omega)).trans (va_up_ne _ _ (by omega)))).trans (by assumption) | exact (congrFun ((va_up_ne _ _ (by omega)).trans (va_up_ne _ _ (by omega))) _).trans (by assumption) | (rw [va_up_self, va_up_ne _ _ (by omega)]; assumption)) (c_ofPerson (hv0.L l1) hset (fun u hu => SEM_sub _ _ _ _ ((l4 u).mp hu)) h20 h32 hvp hbb l2 (fun q => hear q set dep L' hset hset0 (by have := hdep.2 q; omega) (hv0.L l1) (l2 q)) hcv) (Nat.le_of_ble_eq_true rfl) (by omega) ?_
                    rintro rr h1 ⟨y, L2, rfl, rfl, m1, m2, m3, m4⟩
                    dsimp only [Option.toList, List.cons_append, List.nil_append]
                    refine tk_lreturn dX6_standing_127 rfl ?_
                    refine ⟨_, _, rfl, rfl, l1.tr m1, m2, fun q => (m3 q).trans (l3 q), fun u => ?_⟩
                    rw [SEM_1 hiv (by omega) (by omega), m4 u]
                    rw [show (fun v => tb x v = true) = SEM np cn (faF F) (cTi ce F W nf (I (z + 1))) (memG gr) cv row k (a - 1) (fun u => tb set u = true) from funext fun u => propext (l4 u)]
                  · exfalso; omega
                · exfalso; omega
              · exfalso; omega
            · exact absurd h36 (by decide)
          · rw [show rTkN v = 1 by unfold rTkN; rw [if_neg (by omega), if_neg (by omega)]]
            refine tk_iload7 dX6_standing_34 ?_
            first | refine tk_jf_neB dX6_standing_36 (fun h36 => ?_) (fun h36 => ?_) | refine tk_if_ne dX6_standing_36 (fun h36 => ?_) (fun h36 => ?_)
            · refine tk_iload7 dX6_standing_52 ?_
              refine tk_iconst dX6_standing_54 kc_iconst_2 ?_
              first | refine tk_icmp_neN dX6_standing_55 (by omega) (by omega) (fun h55 => ?_) (fun h55 => ?_) | refine tk_icmp_ne dX6_standing_55 (fun h55 => ?_) (fun h55 => ?_)
              · refine tk_aload0 dX6_standing_68 ?_
                refine tk_aload1 dX6_standing_69 ?_
                refine tk_iload2 dX6_standing_70 ?_
                refine tk_iconst dX6_standing_71 kc_iconst_1 ?_
                first | refine tk_isubN dX6_standing_72 (by omega) ?_ | refine tk_isub dX6_standing_72 ?_
                refine tk_lload3 dX6_standing_73 ?_
                refine tk_iload5 dX6_standing_74 ?_
                refine tk_iconst dX6_standing_76 kc_iconst_1 ?_
                first | refine tk_iaddN dX6_standing_77 ?_ | refine tk_iadd dX6_standing_77 ?_
                refine tk_callV4q dX6_standing_78 kX6_54 (by first | assumption | exact va_up_self _ _ _ | exact (va_up_ne _ _ (by omega)).trans (by assumption) | exact congrArg Prod.fst (va_up_self _ _ _) | exact (congrArg Prod.fst (va_up_ne _ _ (by omega))).trans (by assumption) | exact (congrFun (va_up_ne _ _ (by omega)) _).trans (by assumption) | exact (va_up_ne _ _ (by omega)).trans (va_up_self _ _ _) | exact (va_up_ne _ _ (by omega)).trans ((va_up_ne _ _ (by omega)).trans (by assumption)) | exact (congrArg Prod.fst ((va_up_ne _ _ (by omega)).trans (va_up_ne _ _ (by omega)))).trans (by assumption) | exact (congrFun ((va_up_ne _ _ (by omega)).trans (va_up_ne _ _ (by omega))) _).trans (by assumption) | (rw [va_up_self, va_up_ne _ _ (by omega)]; assumption)) (ih (a - 1) set (dep + 1) L hv0 hw2 (by omega) (by omega) hd1 hset hH) (Nat.le_of_ble_eq_true rfl) (by omega) ?_
                rintro rr h1 ⟨x, L', rfl, rfl, l1, l2, l3, l4⟩
                dsimp only [Option.toList, List.cons_append, List.nil_append]
                refine tk_lstore8 dX6_standing_81 rfl ?_
                refine tk_iload6 dX6_standing_83 ?_
                refine tk_bipush dX6_standing_85 kc_bipush_10 ?_
                first | refine tk_icmp_neN dX6_standing_87 (by omega) (by omega) (fun h87 => ?_) (fun h87 => ?_) | refine tk_icmp_ne dX6_standing_87 (fun h87 => ?_) (fun h87 => ?_)
                · refine tk_iload6 dX6_standing_99 ?_
                  refine tk_bipush dX6_standing_101 kc_bipush_32 ?_
                  first | refine tk_icmp_ltN dX6_standing_103 (by omega) (by omega) (fun h103 => ?_) (fun h103 => ?_) | refine tk_jcmp_lt dX6_standing_103 (fun h103 => ?_) (fun h103 => ?_)
                  · exfalso; omega
                  · refine tk_aload0 dX6_standing_106 ?_
                    refine tk_iload6 dX6_standing_107 ?_
                    refine tk_lload8 dX6_standing_109 ?_
                    refine tk_lload3 dX6_standing_111 ?_
                    refine tk_callV3q dX6_standing_112 kX6_66 (by first | assumption | exact va_up_self _ _ _ | exact (va_up_ne _ _ (by omega)).trans (by assumption) | exact congrArg Prod.fst (va_up_self _ _ _) | exact (congrArg Prod.fst (va_up_ne _ _ (by omega))).trans (by assumption) | exact (congrFun (va_up_ne _ _ (by omega)) _).trans (by assumption) | exact (va_up_ne _ _ (by omega)).trans (va_up_self _ _ _) | exact (va_up_ne _ _ (by omega)).trans ((va_up_ne _ _ (by omega)).trans (by assumption)) | exact (congrArg Prod.fst ((va_up_ne _ _ (by omega)).trans (va_up_ne _ _ (by omega)))).trans (by assumption) | exact (congrFun ((va_up_ne _ _ (by omega)).trans (va_up_ne _ _ (by omega))) _).trans (by assumption) | (rw [va_up_self, va_up_ne _ _ (by omega)]; assumption)) (c_ofGroup (cn := cn) (cv := fun c => cv c (fun u => tb set u = true)) hs hpw (hw.L hz l1) hW1 hW hnp hnf hta hpg hg hgr h32 (by omega) x hset) (Nat.le_of_ble_eq_true rfl) (by omega) ?_
                    rintro rr h1 ⟨y, rfl, rfl, m4⟩
                    dsimp only [Option.toList, List.cons_append, List.nil_append]
                    refine tk_lreturn dX6_standing_115 rfl ?_
                    refine ⟨_, _, rfl, rfl, l1, l2, l3, fun u => ?_⟩
                    rw [SEM_1 hiv (by omega) (by omega), m4 u]
                    rw [show (fun v => tb x v = true) = SEM np cn (faF F) (cTi ce F W nf (I (z + 1))) (memG gr) cv row k (a - 1) (fun u => tb set u = true) from funext fun u => propext (l4 u)]
                · exfalso; omega
              · exfalso; omega
            · exact absurd h36 (by decide)
        · first
            | exact absurd h1 (nI_pos (by omega))
            | exact tk_wk (by repeat' (first | exact trivial | refine ⟨Or.inl rfl, ?_⟩ | refine ⟨Or.inr rfl, ?_⟩)) (zero ((lgc0 _ _).mp h7))
            | (exfalso; omega)
end STAND2
