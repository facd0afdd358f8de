/-! ===== pick; the best guesses as the class finds them ===== -/
def picC (I I1 I' : Nat → Nat → Int32) (J1 J' : Nat → Nat → Int64) (fr : Nat → Bool) (ln : Nat → Nat) (z f : Nat) : Prop :=
  trC I1 I' J1 J' (I 4 f) (ln f) (gdI I fr ln f) ∧ I' 14 7 = gscI I fr ln z f ∧ I' 14 3 = nmI I z (nI f) (I 4 f)
/-- a mask of the first n that have it -/
def mkC (P : Nat → Bool) : Nat → Int32
  | 0 => 0
  | n + 1 => if P n then mkC P n ||| ((1 : Int32) <<< (nI n &&& 31)) else mkC P n
def dcS (sc cl : Nat → Int32) : Nat → Int32 → Int32 → Int32 × Int32 → Int32 × Int32
  | 0, t, s, b => if b.2 < s then (t, s) else b
  | g + 1, t, s, b =>
    if 0 < sc g ∧ cl g &&& t = 0 then dcS sc cl g (t ||| ((1 : Int32) <<< (nI g &&& 31))) (s + sc g) (if sc g ≤ 0 ∨ cl g ≠ 0 then dcS sc cl g t s b else b)
    else if sc g ≤ 0 ∨ cl g ≠ 0 then dcS sc cl g t s b else b
def dcC (I I' : Nat → Nat → Int32) (r : Int32 × Int32) : Prop := I' 13 7 = r.1 ∧ I' 13 8 = r.2 ∧ (∀ a, a ≠ 13 → I' a = I a) ∧ ∀ i, i ≠ 7 → i ≠ 8 → I' 13 i = I 13 i
theorem dcC_rf (I : Nat → Nat → Int32) : dcC I I (I 13 7, I 13 8) := ⟨rfl, rfl, fun _ _ => rfl, fun _ _ _ => rfl⟩
theorem dcC_tr {I I1 I2 : Nat → Nat → Int32} {r s : Int32 × Int32} (h : dcC I I1 r) (h2 : dcC I1 I2 s) : dcC I I2 s := ⟨h2.1, h2.2.1, fun a ha => (h2.2.2.1 a ha).trans (h.2.2.1 a ha), fun i a b => (h2.2.2.2 i a b).trans (h.2.2.2 i a b)⟩
/-- which of the first n clash with guess g -/
def clP (pg : Nat → List Nat) (l : List Nat) (g : Nat) : Nat → Bool := fun k => decide (k ≠ g) && (pg (l.getD k 0)).any fun j => decide (j ∈ pg (l.getD g 0))
section T27
variable {d L : Nat} {I : Nat → Nat → Int32} {J : Nat → Nat → Int64} {p : Nat → Nat} {Q : Option Value → am_M → Prop}
theorem t_pick (hd : 4 ≤ d) {I1 : Nat → Nat → Int32} {J1 : Nat → Nat → Int64} {F : Int64} {fr : Nat → Bool} {ln : Nat → Nat} {z g : Nat} (hz : I 9 3 = nI z) (hz6 : z ≤ 6) (hF : ∀ j, j < 64 → bl F j = fr j) (hln : lnOK I fr ln) (hf : fnd I I1 J J1 F fr ln z 40) (hg : g < (gsL (gscI I fr ln z) (fpI I fr) 40).length)
    (h : ∀ I' J', picC I I1 I' J1 J' fr ln z ((gsL (gscI I fr ln z) (fpI I fr) 40).getD g 0) → Q (some (.ref 14)) (I', J', KR p)) : T d me_X2_pick [.ref 13, .ref 2, .int (nI g)] L I1 J1 p Q := by
  obtain ⟨f1, f2, f3, f4, f5⟩ := hf
  have hs := gsame.of f4
  have hs' := hs
  obtain ⟨e3, e4, e5, e6, e9, e10, e11, e12⟩ := hs
  have hll : (gsL (gscI I fr ln z) (fpI I fr) 40).length ≤ 40 := by rw [gsL_len]; exact cntB_le _ _
  have o1 := (f1.2 g hg).1
  generalize hfd : (gsL (gscI I fr ln z) (fpI I fr) 40).getD g 0 = f at h o1
  have hm : f ∈ gsL (gscI I fr ln z) (fpI I fr) 40 := by rw [← hfd]; exact getD_mem hg
  obtain ⟨m1, m2⟩ := gsL_mem.mp hm
  simp only [fpI, Bool.and_eq_true, decide_eq_true_eq] at m2
  obtain ⟨m2, m3⟩ := m2
  obtain ⟨l1, l2, l3⟩ := hln f m1 m2 m3
  refine am_enter [some (.ref 13), some (.ref 2), some (.int (nI g))] rfl rfl rfl rfl ?_
  refine ev_aload_n (pc := 0) dX2_pick_0 rfl (ev_iload_n (pc := 1) dX2_pick_1 rfl (ev_invV (pc := 2) kV_2_67 dX2_pick_2 rfl rfl rfl (by omega) rfl ?_))
  refine t_hasGuess f1.1 hll _ ?_
  rw [ix_n hg (by omega)]
  refine ev_ifb_eq (pc := 5) 43 dX2_pick_5 (by decide) (kt := fun c => absurd c (by simp)) (kf := fun c5 => ev_aload_n (pc := 8) dX2_pick_8 rfl (ev_getr (pc := 9) kF_2_12 dX2_pick_9 rfl rfl rfl (ev_aload_n (pc := 12) dX2_pick_12 rfl (ev_aload_n (pc := 13) dX2_pick_13 rfl (ev_getl (pc := 14) kF_2_32 dX2_pick_14 rfl rfl (ev_aload_n (pc := 17) dX2_pick_17 rfl (ev_getr (pc := 18) kF_2_18 dX2_pick_18 rfl rfl rfl (ev_iload_n (pc := 21) dX2_pick_21 rfl (ev_iald (pc := 22) (i := g) dX2_pick_22 rfl (rfl) (by omega) rfl (?_))))))))))
  rw [f3, o1]
  refine ev_invV (pc := 23) kV_2_45 dX2_pick_23 rfl rfl rfl (by omega) rfl ?_
  refine t_trace (len := ln f) (by omega) m1 (by rw [e3]; exact m3) (by rw [e5]; exact l1) l2 l3 hF m2 fun I2 J2 ht => ?_
  have ht' : trC I1 I2 J1 J2 (I 4 f) (ln f) (gdI I fr ln f) := by
    unfold gdI
    rw [e3, e4, e6] at ht
    exact ht
  obtain ⟨t1, t2, t3, t4, t5, t6, t7, t8⟩ := ht'
  refine ev_aload_n (pc := 26) dX2_pick_26 rfl (ev_getr (pc := 27) kF_2_12 dX2_pick_27 rfl rfl rfl (ev_aload_n (pc := 30) dX2_pick_30 rfl (ev_getr (pc := 31) kF_2_49 dX2_pick_31 rfl rfl rfl (ev_aload_n (pc := 34) dX2_pick_34 rfl (ev_getr (pc := 35) kF_2_18 dX2_pick_35 rfl rfl rfl (ev_iload_n (pc := 38) dX2_pick_38 rfl (ev_iald (pc := 39) (i := g) dX2_pick_39 rfl (rfl) (by omega) rfl (?_))))))))
  rw [t6 17 (by omega), o1]
  refine ev_invV (pc := 40) kV_2_53 dX2_pick_40 rfl rfl rfl (by omega) rfl ?_
  refine t_rate (z := z) (by omega) (nI f) (by rw [t6 9 (by omega), e9, hz]) hz6 t2 t3 t4 t5 ?_
  have hg2 : gsame I I2 := ⟨by rw [t6 3 (by omega), e3], by rw [t6 4 (by omega), e4], by rw [t6 5 (by omega), e5], by rw [t6 6 (by omega), e6], by rw [t6 9 (by omega), e9], by rw [t6 10 (by omega), e10], by rw [t6 11 (by omega), e11], by rw [t6 12 (by omega), e12]⟩
  rw [hg2.jw, hg2.nm]
  refine ev_aload_n (pc := 43) dX2_pick_43 rfl (ev_getr (pc := 44) kF_2_12 dX2_pick_44 rfl rfl rfl (ev_aret (pc := 47) dX2_pick_47 rfl ?_))
  refine h _ _ ⟨⟨rowIs_of t1 (by funext y; simp [ui]) (by funext y; simp [ui]), by simpa [ui] using t2, by simpa [ui] using t3, by simpa [ui] using t4, by simpa [ui] using t5, fun a ha => ?_, t7, t8⟩, ?_, ?_⟩
  · rw [← t6 a ha]
    funext y
    simp only [ui]
    rw [if_neg (by omega), if_neg (by omega)]
  · simp [ui, gscI, pgI]
  · simp [ui]
theorem t_clashesOf {sc : Nat → Int32} {pg : Nat → List Nat} {l : List Nat} {g n : Nat} (hl : l.length ≤ 40) (hg : gOK I J sc pg l) (hpg : ∀ f ∈ l, ∀ q ∈ pg f, q < 64) (hgn : g < n) (hn : n ≤ l.length) (h : Q (some (.int (mkC (clP pg l g) n))) (I, J, KR p)) : T d me_X2_clashesOf [.ref 13, .int (nI g), .int (nI n)] L I J p Q := by
  refine am_enter [some (.ref 13), some (.int (nI g)), some (.int (nI n)), none, none] rfl rfl rfl rfl ?_
  refine ev_iconst (pc := 0) (v := (0)) dX2_clashesOf_0 iconst_c0 (ev_istore_n (pc := 1) dX2_clashesOf_1 rfl (ev_iconst (pc := 2) (v := (0)) dX2_clashesOf_2 iconst_c0 (ev_istore (pc := 3) dX2_clashesOf_3 rfl (?_))))
  have lp : ∀ (m k : Nat) (a : Int32), k + m = n → a = mkC (clP pg l g) k → E me_X2_clashesOf d L 5 [some (.ref 13), some (.int (nI g)), some (.int (nI n)), some (.int a), some (.int (nI k))] [] I J p Q := by
    intro m
    induction m with
    | zero =>
      intro k a hk ha
      refine ev_iload (pc := 5) dX2_clashesOf_5 rfl (ev_iload_n (pc := 7) dX2_clashesOf_7 rfl (ev_ncmp_ge (pc := 8) 56 (k) (n) dX2_clashesOf_8 (by decide) (rfl) (rfl) (by omega) (by omega) (kf := fun c => absurd c (by omega)) (kt := fun c8 => ev_iload_n (pc := 56) dX2_clashesOf_56 rfl (ev_iret (pc := 57) dX2_clashesOf_57 rfl ?_))))
      rw [ha, show k = n by omega]
      exact h
    | succ m ih =>
      intro k a hk ha
      have o := (hg.2 k (by omega)).2.2
      have o2 := (hg.2 g (by omega)).2.2
      refine ev_iload (pc := 5) dX2_clashesOf_5 rfl (ev_iload_n (pc := 7) dX2_clashesOf_7 rfl (ev_ncmp_ge (pc := 8) 56 (k) (n) dX2_clashesOf_8 (by decide) (rfl) (rfl) (by omega) (by omega) (kt := fun c => absurd c (by omega)) (kf := fun c8 => ev_iload (pc := 11) dX2_clashesOf_11 rfl (ev_bipush (pc := 13) (v := (40)) dX2_clashesOf_13 bipush_c40 (ev_ncmp_ge (pc := 15) 56 (k) (40) dX2_clashesOf_15 (by decide) (rfl) (rfl) (by omega) (by omega) (kt := fun c => absurd c (by omega)) (kf := fun c15 => ev_iload (pc := 18) dX2_clashesOf_18 rfl (ev_iload_n (pc := 20) dX2_clashesOf_20 rfl (ev_ncmp_eq (pc := 21) 50 (k) (g) dX2_clashesOf_21 (by decide) (rfl) (rfl) (by omega) (by omega) (fun c21 => ?_) (fun c21 => ?_)))))))))
      · refine ev_iinc (pc := 50) dX2_clashesOf_50 rfl (iinc_1 _) rfl (ev_goto (pc := 53) 5 dX2_clashesOf_53 (by decide) (?_))
        exact ih (k + 1) a (by omega) (by simp [mkC, clP, c21, ha])
      · have hb : lg_cmp (J 19 k &&& J 19 g) 0 = 0 ↔ clP pg l g k = false := by
          rw [bl_meet]
          simp only [clP, ne_eq, c21, not_false_eq_true, decide_true, Bool.true_and]
          constructor
          · intro q
            cases ha : (pg (l.getD k 0)).any fun j => decide (j ∈ pg (l.getD g 0))
            · rfl
            · obtain ⟨j, j1, j2⟩ := List.any_eq_true.mp ha
              have j3 := hpg _ (getD_mem (by omega)) j j1
              exact absurd ⟨by rw [o j j3, decide_eq_true_eq]; exact j1, by rw [o2 j j3]; exact j2⟩ (q j j3)
          · intro q i hi ⟨q1, q2⟩
            rw [o i hi, decide_eq_true_eq] at q1
            rw [o2 i hi] at q2
            exact List.any_eq_false.mp q i q1 q2
        refine ev_aload_n (pc := 24) dX2_clashesOf_24 rfl (ev_getr (pc := 25) kF_2_25 dX2_clashesOf_25 rfl rfl rfl (ev_iload (pc := 28) dX2_clashesOf_28 rfl (ev_lald (pc := 30) (i := k) dX2_clashesOf_30 rfl rfl (rfl) (by omega) rfl (ev_aload_n (pc := 31) dX2_clashesOf_31 rfl (ev_getr (pc := 32) kF_2_25 dX2_clashesOf_32 rfl rfl rfl (ev_iload_n (pc := 35) dX2_clashesOf_35 rfl (ev_lald (pc := 36) (i := g) dX2_clashesOf_36 rfl rfl (rfl) (by omega) rfl (ev_land (pc := 37) dX2_clashesOf_37 (ev_lconst (pc := 38) (v := 0) dX2_clashesOf_38 rfl (ev_lcmp (pc := 39) dX2_clashesOf_39 (ev_if_eq (pc := 40) 50 dX2_clashesOf_40 (by decide) (fun c40 => ?_) (fun c40 => ?_))))))))))))
        · refine ev_iinc (pc := 50) dX2_clashesOf_50 rfl (iinc_1 _) rfl (ev_goto (pc := 53) 5 dX2_clashesOf_53 (by decide) (?_))
          have hc := hb.mp c40
          exact ih (k + 1) a (by omega) (by simp only [mkC, hc, ha]; simp)
        · have hc : clP pg l g k = true := by
            cases hq : clP pg l g k
            · exact absurd (hb.mpr hq) c40
            · rfl
          refine ev_iload_n (pc := 43) dX2_clashesOf_43 rfl (ev_iconst (pc := 44) (v := (1)) dX2_clashesOf_44 iconst_c1 (ev_iload (pc := 45) dX2_clashesOf_45 rfl (ev_ishl (pc := 47) dX2_clashesOf_47 (ev_ior (pc := 48) dX2_clashesOf_48 (ev_istore_n (pc := 49) dX2_clashesOf_49 rfl (ev_iinc (pc := 50) dX2_clashesOf_50 rfl (iinc_1 _) rfl (ev_goto (pc := 53) 5 dX2_clashesOf_53 (by decide) (?_))))))))
          exact ih (k + 1) _ (by omega) (by simp only [mkC, hc, ha]; simp)
  exact lp n 0 0 (by omega) rfl
theorem t_decide {sc cl : Nat → Int32} : ∀ (g : Nat) (d : Nat) (q t s : Int32) (I1 : Nat → Nat → Int32) (Q : Option Value → am_M → Prop), g + 1 ≤ d → g ≤ 12 → (g = 0 → q = -1) → (∀ m, g = m + 1 → q = nI m) → (∀ k, k < g → I1 18 k = sc k ∧ I1 20 k = cl k) → (∀ I', dcC I1 I' (dcS sc cl g t s (I1 13 7, I1 13 8)) → Q none (I', J, KR p)) → T d me_X2_decide [.ref 13, .int q, .int t, .int s] L I1 J p Q
  | 0, d, q, t, s, I1, Q, hd, hg, hq0, hq, ha, h => by
    have e := hq0 rfl
    subst e
    simp only [dcS] at h
    refine am_enter [some (.ref 13), some (.int (-1)), some (.int t), some (.int s), none] rfl rfl rfl rfl ?_
    refine ev_iload_n (pc := 0) dX2_decide_0 rfl (ev_if_lt (pc := 1) 10 dX2_decide_1 (by decide) (kf := fun c => absurd (by decide) c) (kt := fun c1 => ev_iload_n (pc := 10) dX2_decide_10 rfl (ev_aload_n (pc := 11) dX2_decide_11 rfl (ev_geti (pc := 12) kF_2_87 dX2_decide_12 rfl rfl (ev_icmp_le (pc := 15) 28 dX2_decide_15 (by decide) (fun c15 => ?_) (fun c15 => ?_))))))
    · rw [if_neg (Int32.not_lt.mpr c15)] at h
      refine ev_vret (pc := 28) dX2_decide_28 rfl ?_
      exact h I1 (dcC_rf I1)
    · rw [if_pos (Int32.not_le.mp c15)] at h
      refine ev_aload_n (pc := 18) dX2_decide_18 rfl (ev_iload_n (pc := 19) dX2_decide_19 rfl (ev_puti (pc := 20) kF_2_87 dX2_decide_20 rfl rfl rfl rfl rfl (ev_aload_n (pc := 23) dX2_decide_23 rfl (ev_iload_n (pc := 24) dX2_decide_24 rfl (ev_puti (pc := 25) kF_2_84 dX2_decide_25 rfl rfl rfl rfl rfl (ev_vret (pc := 28) dX2_decide_28 rfl ?_))))))
      refine h _ ⟨by simp [ui], by simp [ui], fun a ha => by funext y; simp [ui, ha], fun i h7 h8 => by simp [ui, h7, h8]⟩
  | g + 1, d, q, t, s, I1, Q, hd, hg, hq0, hq, ha, h => by
    have e := hq g rfl
    subst e
    simp only [dcS] at h
    have hq1 : ∀ m, g = m + 1 → nI g - 1 = nI m := fun m hm => by rw [hm]; exact nI_pred m
    have hq2 : g = 0 → nI g - 1 = -1 := fun hm => by rw [hm]; rfl
    obtain ⟨a18, a20⟩ := ha g (by omega)
    refine am_enter [some (.ref 13), some (.int (nI g)), some (.int t), some (.int s), none] rfl rfl rfl rfl ?_
    refine ev_iload_n (pc := 0) dX2_decide_0 rfl (ev_if_lt (pc := 1) 10 dX2_decide_1 (by decide) (kt := fun c => absurd c (nI_pos (by omega))) (kf := fun c1 => ev_iload_n (pc := 4) dX2_decide_4 rfl (ev_bipush (pc := 5) (v := (12)) dX2_decide_5 bipush_c12 (ev_ncmp_lt (pc := 7) 29 (g) (12) dX2_decide_7 (by decide) (rfl) (rfl) (by omega) (by omega) (kf := fun c => absurd c (by omega)) (kt := fun c7 => ev_aload_n (pc := 29) dX2_decide_29 rfl (ev_getr (pc := 30) kF_2_22 dX2_decide_30 rfl rfl rfl (ev_iload_n (pc := 33) dX2_decide_33 rfl (ev_iald (pc := 34) (i := g) dX2_decide_34 rfl (rfl) (by omega) rfl (?_)))))))))
    rw [a18]
    have second : ∀ (I2 : Nat → Nat → Int32) (b : Int32 × Int32), dcC I1 I2 b → (∀ I', dcC I1 I' (if 0 < sc g ∧ cl g &&& t = 0 then dcS sc cl g (t ||| ((1 : Int32) <<< (nI g &&& 31))) (s + sc g) b else b) → Q none (I', J, KR p)) → E me_X2_decide d L 60 [some (.ref 13), some (.int (nI g)), some (.int t), some (.int s), some (.int (sc g))] [] I2 J p Q := by
      intro I2 b hI2 hh
      have b20 : I2 20 g = cl g := by rw [hI2.2.2.1 20 (by decide)]; exact a20
      refine ev_iload (pc := 60) dX2_decide_60 rfl (ev_if_le (pc := 62) 92 dX2_decide_62 (by decide) (fun c62 => ?_) (fun c62 => ?_))
      · rw [if_neg (fun z => Int32.not_le.mpr z.1 c62)] at hh
        refine ev_vret (pc := 92) dX2_decide_92 rfl ?_
        exact hh I2 hI2
      · have c62' := Int32.not_le.mp c62
        refine ev_aload_n (pc := 65) dX2_decide_65 rfl (ev_getr (pc := 66) kF_2_29 dX2_decide_66 rfl rfl rfl (ev_iload_n (pc := 69) dX2_decide_69 rfl (ev_iald (pc := 70) (i := g) dX2_decide_70 rfl (rfl) (by omega) rfl (?_))))
        rw [b20]
        refine ev_iload_n (pc := 71) dX2_decide_71 rfl (ev_iand (pc := 72) dX2_decide_72 (ev_if_ne (pc := 73) 92 dX2_decide_73 (by decide) (fun c73 => ?_) (fun c73 => ?_)))
        · rw [if_neg (fun z => c73 z.2)] at hh
          refine ev_vret (pc := 92) dX2_decide_92 rfl ?_
          exact hh I2 hI2
        · rw [if_pos ⟨c62', c73⟩] at hh
          refine ev_aload_n (pc := 76) dX2_decide_76 rfl (ev_iload_n (pc := 77) dX2_decide_77 rfl (ev_iconst (pc := 78) (v := (1)) dX2_decide_78 iconst_c1 (ev_isub (pc := 79) dX2_decide_79 (ev_iload_n (pc := 80) dX2_decide_80 rfl (ev_iconst (pc := 81) (v := (1)) dX2_decide_81 iconst_c1 (ev_iload_n (pc := 82) dX2_decide_82 rfl (ev_ishl (pc := 83) dX2_decide_83 (ev_ior (pc := 84) dX2_decide_84 (ev_iload_n (pc := 85) dX2_decide_85 rfl (ev_iload (pc := 86) dX2_decide_86 rfl (ev_iadd (pc := 88) dX2_decide_88 (ev_invS (pc := 89) kS_2_90 dX2_decide_89 rfl (by omega) rfl ?_))))))))))))
          refine t_decide (sc := sc) (cl := cl) g (d - 1) _ _ _ I2 _ (by omega) (by omega) hq2 hq1 (fun k hk => ?_) fun I' hI' => ?_
          · rw [hI2.2.2.1 18 (by decide), hI2.2.2.1 20 (by decide)]
            exact ha k (by omega)
          · refine ev_vret (pc := 92) dX2_decide_92 rfl ?_
            rw [hI2.1, hI2.2.1] at hI'
            exact hh I' (dcC_tr hI2 hI')
    have first : (sc g ≤ 0 ∨ cl g ≠ 0) → E me_X2_decide d L 51 [some (.ref 13), some (.int (nI g)), some (.int t), some (.int s), some (.int (sc g))] [] I1 J p Q := by
      intro hc
      rw [if_pos hc] at h
      refine ev_aload_n (pc := 51) dX2_decide_51 rfl (ev_iload_n (pc := 52) dX2_decide_52 rfl (ev_iconst (pc := 53) (v := (1)) dX2_decide_53 iconst_c1 (ev_isub (pc := 54) dX2_decide_54 (ev_iload_n (pc := 55) dX2_decide_55 rfl (ev_iload_n (pc := 56) dX2_decide_56 rfl (ev_invS (pc := 57) kS_2_90 dX2_decide_57 rfl (by omega) rfl ?_))))))
      refine t_decide (sc := sc) (cl := cl) g (d - 1) _ _ _ I1 _ (by omega) (by omega) hq2 hq1 (fun k hk => ha k (by omega)) fun I' hI' => ?_
      exact second I' _ hI' (by
        by_cases z : 0 < sc g ∧ cl g &&& t = 0
        · rw [if_pos z] at h ⊢
          exact h
        · rw [if_neg z] at h ⊢
          exact h)
    refine ev_istore (pc := 35) dX2_decide_35 rfl (ev_iload (pc := 37) dX2_decide_37 rfl (ev_if_le (pc := 39) 51 dX2_decide_39 (by decide) (fun c39 => ?_) (fun c39 => ?_)))
    · exact first (Or.inl c39)
    · refine ev_aload_n (pc := 42) dX2_decide_42 rfl (ev_getr (pc := 43) kF_2_29 dX2_decide_43 rfl rfl rfl (ev_iload_n (pc := 46) dX2_decide_46 rfl (ev_iald (pc := 47) (i := g) dX2_decide_47 rfl (rfl) (by omega) rfl (?_))))
      rw [a20]
      refine ev_if_eq (pc := 48) 60 dX2_decide_48 (by decide) (fun c48 => ?_) (fun c48 => ?_)
      · have hn : ¬ (sc g ≤ 0 ∨ cl g ≠ 0) := fun z => by
          rcases z with z | z
          · exact c39 z
          · exact z c48
        refine second I1 _ (dcC_rf I1) ?_
        rw [if_neg hn] at h
        by_cases z : 0 < sc g ∧ cl g &&& t = 0
        · rw [if_pos z] at h ⊢
          exact h
        · rw [if_neg z] at h ⊢
          exact h
      · exact first (Or.inr c48)
theorem nI_min {a b : Nat} (ha : a < 2 ^ 31) (hb : b < 2 ^ 31) : (if nI b < nI a then nI b else nI a) = nI (if b < a then b else a) := by
  by_cases h : b < a
  · rw [if_pos h, if_pos ((nI_ltI hb ha).mpr h)]
  · rw [if_neg h, if_neg (mt (nI_ltI hb ha).mp h)]
/-- how many guesses are compared -/
def mn12 (n : Nat) : Nat := if 12 < n then 12 else n
theorem mn12_le (n : Nat) : mn12 n ≤ n ∧ mn12 n ≤ 12 := by
  unfold mn12
  split <;> omega
def bestC (sc : Nat → Int32) (pg : Nat → List Nat) (l : List Nat) : Int32 × Int32 := dcS (fun k => sc (l.getD k 0)) (fun k => mkC (clP pg l k) (mn12 l.length)) (mn12 l.length) 0 0 (0, 0)
theorem t_findBest (hd : 15 ≤ d) {sc : Nat → Int32} {pg : Nat → List Nat} {l : List Nat} (hl : l.length ≤ 40) (hg : gOK I J sc pg l) (hpg : ∀ f ∈ l, ∀ q ∈ pg f, q < 64) (h : ∀ I', I' 13 7 = (bestC sc pg l).1 → I' 13 8 = (bestC sc pg l).2 → (∀ a, a ≠ 13 → a ≠ 20 → I' a = I a) → (∀ i, i ≠ 7 → i ≠ 8 → I' 13 i = I 13 i) → Q none (I', J, KR p)) : T d me_X2_findBest [.ref 13] L I J p Q := by
  obtain ⟨n1, n2⟩ := mn12_le l.length
  refine am_enter [some (.ref 13), none, none] rfl rfl rfl rfl ?_
  refine ev_aload_n (pc := 0) dX2_findBest_0 rfl (ev_geti (pc := 1) kF_2_36 dX2_findBest_1 rfl rfl (ev_bipush (pc := 4) (v := (12)) dX2_findBest_4 bipush_c12 (ev_min (pc := 6) kM_2_75 dX2_findBest_6 (by omega) rfl ⟨Nat.le_refl _, Nat.le_refl _⟩ (?_))))
  have e12 : (if (12 : Int32) < I 13 6 then (12 : Int32) else I 13 6) = nI (mn12 l.length) := by
    rw [hg.1]
    exact nI_min (a := l.length) (b := 12) (by omega) (by decide)
  rw [e12]
  refine ev_istore_n (pc := 9) dX2_findBest_9 rfl (ev_iconst (pc := 10) (v := (0)) dX2_findBest_10 iconst_c0 (ev_istore_n (pc := 11) dX2_findBest_11 rfl (?_)))
  have lp : ∀ (m k : Nat) (I1 : Nat → Nat → Int32), k + m = mn12 l.length → (∀ a, a ≠ 20 → I1 a = I a) → (∀ i, i < k → I1 20 i = mkC (clP pg l i) (mn12 l.length)) → E me_X2_findBest d L 12 [some (.ref 13), some (.int (nI (mn12 l.length))), some (.int (nI k))] [] I1 J p Q := by
    intro m
    induction m with
    | zero =>
      intro k I1 hk hI hc
      refine ev_iload_n (pc := 12) dX2_findBest_12 rfl (ev_iload_n (pc := 13) dX2_findBest_13 rfl (ev_ncmp_ge (pc := 14) 35 (k) (mn12 l.length) dX2_findBest_14 (by decide) (rfl) (rfl) (by omega) (by omega) (kf := fun c => absurd c (by omega)) (kt := fun c14 => ev_aload_n (pc := 35) dX2_findBest_35 rfl (ev_iconst (pc := 36) (v := (0)) dX2_findBest_36 iconst_c0 (ev_puti (pc := 37) kF_2_84 dX2_findBest_37 rfl rfl rfl rfl rfl (ev_aload_n (pc := 40) dX2_findBest_40 rfl (ev_iconst (pc := 41) (v := (0)) dX2_findBest_41 iconst_c0 (ev_puti (pc := 42) kF_2_87 dX2_findBest_42 rfl rfl rfl rfl rfl (ev_aload_n (pc := 45) dX2_findBest_45 rfl (ev_iload_n (pc := 46) dX2_findBest_46 rfl (ev_iconst (pc := 47) (v := (1)) dX2_findBest_47 iconst_c1 (?_))))))))))))
      refine ev_isub (pc := 48) dX2_findBest_48 (ev_iconst (pc := 49) (v := (0)) dX2_findBest_49 iconst_c0 (ev_iconst (pc := 50) (v := (0)) dX2_findBest_50 iconst_c0 (ev_invS (pc := 51) kS_2_90 dX2_findBest_51 rfl (by omega) rfl ?_)))
      refine t_decide (sc := fun k => sc (l.getD k 0)) (cl := fun k => mkC (clP pg l k) (mn12 l.length)) (mn12 l.length) (d - 1) _ _ _ _ _ (by omega) n2 (fun e => by rw [e]; rfl) (fun m hm => by rw [hm]; exact nI_pred m) (fun i hi => ⟨?_, ?_⟩) fun I' hI' => ?_
      · show ui (ui I1 13 7 0) 13 8 0 18 i = _
        rw [← (hg.2 i (by omega)).2.1, ← hI 18 (by decide)]
        simp [ui]
      · show ui (ui I1 13 7 0) 13 8 0 20 i = _
        rw [← hc i (by omega)]
        simp [ui]
      · refine ev_vret (pc := 54) dX2_findBest_54 rfl ?_
        have e7 : ui (ui I1 13 7 0) 13 8 0 13 7 = 0 := by simp [ui]
        have e8 : ui (ui I1 13 7 0) 13 8 0 13 8 = 0 := by simp [ui]
        rw [e7, e8] at hI'
        refine h I' hI'.1 hI'.2.1 (fun a a1 a2 => ?_) (fun i i7 i8 => ?_)
        · rw [hI'.2.2.1 a a1, ← hI a a2]
          funext y
          simp [ui, a1]
        · rw [hI'.2.2.2 i i7 i8, ← hI 13 (by decide)]
          simp [ui, i7, i8]
    | succ m ih =>
      intro k I1 hk hI hc
      refine ev_iload_n (pc := 12) dX2_findBest_12 rfl (ev_iload_n (pc := 13) dX2_findBest_13 rfl (ev_ncmp_ge (pc := 14) 35 (k) (mn12 l.length) dX2_findBest_14 (by decide) (rfl) (rfl) (by omega) (by omega) (kt := fun c => absurd c (by omega)) (kf := fun c14 => ev_aload_n (pc := 17) dX2_findBest_17 rfl (ev_getr (pc := 18) kF_2_29 dX2_findBest_18 rfl rfl rfl (ev_iload_n (pc := 21) dX2_findBest_21 rfl (ev_aload_n (pc := 22) dX2_findBest_22 rfl (ev_iload_n (pc := 23) dX2_findBest_23 rfl (ev_iload_n (pc := 24) dX2_findBest_24 rfl (ev_invV (pc := 25) kV_2_81 dX2_findBest_25 rfl rfl rfl (by omega) rfl ?_)))))))))
      have hg1 : gOK I1 J sc pg l := by
        unfold gOK
        rw [hI 13 (by decide), hI 17 (by decide), hI 18 (by decide)]
        exact hg
      refine t_clashesOf hl hg1 hpg (by omega) n1 ?_
      refine ev_iast (pc := 28) (i := k) dX2_findBest_28 rfl rfl (rfl) (by omega) rfl (ev_iinc (pc := 29) dX2_findBest_29 rfl (iinc_1 _) rfl (ev_goto (pc := 32) 12 dX2_findBest_32 (by decide) (?_)))
      refine ih (k + 1) _ (by omega) (fun a ha => ?_) (fun i hi => ?_)
      · rw [← hI a ha]
        funext y
        simp [ui, ha]
      · by_cases e : i = k
        · subst e
          simp [ui]
        · rw [← hc i (by omega)]
          simp [ui, e]
  exact lp (mn12 l.length) 0 I (by omega) (fun _ _ => rfl) (fun i hi => by omega)
end T27
