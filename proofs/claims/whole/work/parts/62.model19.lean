/-! ===== scores are small; the reference: would, gentlest ===== -/
theorem i32_add {x y : Int32} (h1 : -2147483648 ≤ x.toInt + y.toInt) (h2 : x.toInt + y.toInt < 2147483648) : (x + y).toInt = x.toInt + y.toInt := by
  have e : x + y = Int32.ofInt (x.toInt + y.toInt) := by rw [Int32.ofInt_add, Int32.ofInt_toInt, Int32.ofInt_toInt]
  rw [e]
  exact Int32.toInt_ofInt_of_le (by omega) (by omega)
theorem scI_int {c b l n : Nat} {e : Bool} : scI c b (nI l - nI n) e = Int32.ofInt (10 + 10 * (c : Int) + 4 * (b : Int) - 6 * ((l : Int) - (n : Int)) + (if e then 15 else 0)) := by
  rw [Int32.ofInt_add, Int32.ofInt_sub, Int32.ofInt_add, Int32.ofInt_add, Int32.ofInt_mul, Int32.ofInt_mul, Int32.ofInt_mul, Int32.ofInt_sub, Int32.ofInt_eq_ofNat, Int32.ofInt_eq_ofNat, Int32.ofInt_eq_ofNat, Int32.ofInt_eq_ofNat]
  cases e <;> rfl
theorem sc_bd {D : Nat → Int32} (hw : wfG D) {fr : Nat → Bool} {i : Nat} (hi : i < 40) (c : D i = 1) (hf : fr i = true) : -60 ≤ (scD D fr i).toInt ∧ (scD D fr i).toInt ≤ 180 := by
  obtain ⟨p1, p2, p3, p4, p5, p6, p7⟩ := pgG hw hi c hf
  unfold scD
  rw [scI_int]
  generalize (jwD D (nI i) (D (40 + i))).isSome = e
  generalize (gdD D fr i).2.1 = u at *
  generalize (gdD D fr i).2.2 = v at *
  generalize (pgD D fr i).length = n at *
  generalize lnD D i = l at *
  have he : (0 : Int) ≤ (if e then 15 else 0) ∧ (if e then (15 : Int) else 0) ≤ 15 := by cases e <;> decide
  rw [Int32.toInt_ofInt_of_le (by omega) (by omega)]
  omega
theorem sL_bd {f : Nat → Int32} : ∀ {l : List Nat}, l.length ≤ 40 → (∀ x ∈ l, -60 ≤ (f x).toInt ∧ (f x).toInt ≤ 180) → -60 * (l.length : Int) ≤ (sL f l).toInt ∧ (sL f l).toInt ≤ 180 * (l.length : Int)
  | [], _, _ => by
    show -60 * ((0 : Nat) : Int) ≤ (0 : Int32).toInt ∧ (0 : Int32).toInt ≤ 180 * ((0 : Nat) : Int)
    decide
  | a :: l, hl, h => by
    simp only [List.length_cons] at hl ⊢
    have ih := sL_bd (f := f) (l := l) (by omega) fun x hx => h x (List.mem_cons_of_mem _ hx)
    have ha := h a List.mem_cons_self
    show -60 * ((l.length + 1 : Nat) : Int) ≤ (f a + sL f l).toInt ∧ (f a + sL f l).toInt ≤ 180 * ((l.length + 1 : Nat) : Int)
    rw [i32_add (by omega) (by omega)]
    omega
def bd (x : Int32) : Prop := -2400 ≤ x.toInt ∧ x.toInt ≤ 7200
theorem sum_bd {D : Nat → Int32} (hw : wfG D) {fr : Nat → Bool} : bd (sumD D fr) := by
  have hl := gl_40 (D := D) (fr := fr)
  have h := sL_bd (f := scD D fr) hl fun x hx => by
    obtain ⟨m1, m2, m3⟩ := gl_mem hx
    exact sc_bd hw m1 m3 m2
  have e : sumD D fr = sL (scD D fr) (glD D fr) := by
    unfold sumD
    rw [foldl_sL, Int32.zero_add]
  unfold bd
  rw [e]
  omega
theorem gB_bd {F : Nat → Int32} (h : ∀ i, bd (F i)) : ∀ i, bd (gB F i).2
  | 0 => by
    show bd 0
    unfold bd
    decide
  | i + 1 => by
    simp only [gB]
    split
    · exact h i
    · exact gB_bd h i
theorem p3_lt {x y : Int32} (hx : bd x) (hy : bd y) : (3000 + x < 3000 + y) ↔ x < y := by
  unfold bd at hx hy
  have e : (3000 : Int32).toInt = 3000 := by decide
  rw [Int32.lt_iff_toInt_lt, Int32.lt_iff_toInt_lt, i32_add (by omega) (by omega), i32_add (by omega) (by omega)]
  omega
theorem p3_gt {x : Int32} (hx : bd x) : (-1000000 : Int32) < 3000 + x := by
  unfold bd at hx
  have e : (3000 : Int32).toInt = 3000 := by decide
  have e2 : (-1000000 : Int32).toInt = -1000000 := by decide
  rw [Int32.lt_iff_toInt_lt, i32_add (by omega) (by omega)]
  omega
theorem th_wou {D : Nat → Int32} {len lay w : Nat} (hc : len ≤ cntB (fD D) 40) : wouV D len lay w = thV D (chC (fD D) len lay) w := by
  obtain ⟨o1, o2⟩ := chC_ok (lay := lay) hc
  unfold wouV thV
  rw [if_neg (by omega), cL_mem o1.1 (fun q hq => (o1.2 q hq).1), Int32.add_comm]
theorem tF_ch {I I1 I2 : Nat → Nat → Int32} (h : fr1 88 I I1) (h2 : tF I1 I2) : (∀ c, c < 82 ∨ c = 84 ∨ c = 85 ∨ c = 87 ∨ 95 < c → I2 c = I c) ∧ ∀ i, i ≠ 9 → I2 82 i = I 82 i :=
  ⟨fun c hc => by rw [h2.1 c (by omega), h c (by omega)], fun i hi => by rw [h2.2 i hi, h 82 (by omega)]⟩
section T62
variable {d L : Nat} {I : Nat → Nat → Int32} {J : Nat → Nat → Int64} {p : Nat → Nat} {Q : Option Value → am_M → Prop} {s : Sta} {rn : Bool}
theorem m_would (hd : 8 ≤ d) (hm : Mod rn I s) (hw : wfD s.1) (a b c : Int32) (k : ∀ I', Mod rn I' s → mfr I I' → Q (some (.int (oWould s a b c))) (I', J, KR p)) : T d me_X8_would [.ref 82, .int a, .int b, .int c] L I J p Q := by
  refine am_enter [some (.ref 82), some (.int a), some (.int b), some (.int c)] rfl rfl rfl rfl ?_
  unfold oWould at k
  refine ev_iload_n (pc := 0) dX8_would_0 rfl (ev_iconst (pc := 1) (v := (1)) dX8_would_1 iconst_c1 (ev_bipush (pc := 2) (v := (12)) dX8_would_2 bipush_c12 (ev_invS (pc := 4) kS_8_52 dX8_would_4 rfl (by omega) rfl ?_)))
  refine m_in 1 12 a ?_
  cases q1 : inR 1 12 a
  · rw [q1, Bool.false_and, if_neg (by decide)] at k
    refine ev_ifb_eq (pc := 7) 28 dX8_would_7 (by decide) (kf := fun c => absurd c (by simp)) (kt := fun c7 => ev_ldc (pc := 28) kC_8_79 dX8_would_28 (ev_iret (pc := 30) dX8_would_30 rfl ?_))
    exact k _ hm (fun _ _ => rfl)
  refine ev_ifb_eq (pc := 7) 28 dX8_would_7 (by decide) (kt := fun c => absurd c (by simp)) (kf := fun c7 => ev_iload_n (pc := 10) dX8_would_10 rfl (ev_iconst (pc := 11) (v := (0)) dX8_would_11 iconst_c0 (ev_iconst (pc := 12) (v := (2)) dX8_would_12 iconst_c2 (ev_invS (pc := 13) kS_8_52 dX8_would_13 rfl (by omega) rfl ?_))))
  refine m_in 0 2 b ?_
  cases q2 : inR 0 2 b
  · rw [q2, Bool.false_and, Bool.and_false, if_neg (by decide)] at k
    refine ev_ifb_eq (pc := 16) 28 dX8_would_16 (by decide) (kf := fun c => absurd c (by simp)) (kt := fun c16 => ev_ldc (pc := 28) kC_8_79 dX8_would_28 (ev_iret (pc := 30) dX8_would_30 rfl ?_))
    exact k _ hm (fun _ _ => rfl)
  refine ev_ifb_eq (pc := 16) 28 dX8_would_16 (by decide) (kt := fun c => absurd c (by simp)) (kf := fun c16 => ev_iload_n (pc := 19) dX8_would_19 rfl (ev_iconst (pc := 20) (v := (0)) dX8_would_20 iconst_c0 (ev_iconst (pc := 21) (v := (3)) dX8_would_21 iconst_c3 (ev_invS (pc := 22) kS_8_52 dX8_would_22 rfl (by omega) rfl ?_))))
  refine m_in 0 3 c ?_
  cases q3 : inR 0 3 c
  · rw [q3, Bool.and_false, Bool.and_false, if_neg (by decide)] at k
    refine ev_ifb_ne (pc := 25) 31 dX8_would_25 (by decide) (kt := fun c => absurd c (by simp)) (kf := fun c25 => ev_ldc (pc := 28) kC_8_79 dX8_would_28 (ev_iret (pc := 30) dX8_would_30 rfl ?_))
    exact k _ hm (fun _ _ => rfl)
  rw [q1, q2, q3, if_pos (by decide)] at k
  obtain ⟨len, n1, n2, rfl⟩ := inR_n (by omega) (by omega) q1
  obtain ⟨lay, n3, n4, rfl⟩ := inR_n (by omega) (by omega) q2
  obtain ⟨w, n5, n6, rfl⟩ := inR_n (by omega) (by omega) q3
  rw [nI_clamp (by omega), nI_clamp (by omega), nI_clamp (by omega)] at k
  refine ev_ifb_ne (pc := 25) 31 dX8_would_25 (by decide) (kf := fun c => absurd c (by simp)) (kt := fun c25 => ev_aload_n (pc := 31) dX8_would_31 rfl (ev_iload_n (pc := 32) dX8_would_32 rfl (ev_iload_n (pc := 33) dX8_would_33 rfl (ev_invV (pc := 34) kV_8_81 dX8_would_34 rfl rfl rfl (by omega) rfl ?_))))
  refine m_chooses (by omega) hm.1 (own_wf hw) n1 n2 (by omega) fun I1 h88 f1 => ?_
  by_cases q : len ≤ cntB (fD s.1) 40
  · rw [th_wou q] at k
    rw [decide_eq_true q]
    obtain ⟨o1, o2⟩ := chC_ok (lay := lay) q
    generalize chC (fD s.1) len lay = ps at h88 o1 o2 k
    subst o2
    refine ev_ifb_eq (pc := 37) 49 dX8_would_37 (by decide) (kt := fun c => absurd c (by simp)) (kf := fun c37 => ev_aload_n (pc := 40) dX8_would_40 rfl (ev_iload_n (pc := 41) dX8_would_41 rfl (ev_iload_n (pc := 42) dX8_would_42 rfl (ev_invV (pc := 43) kV_8_142 dX8_would_43 rfl rfl rfl (by omega) rfl ?_))))
    refine m_then (by omega) (rowM_of hm.1 (f1 83 (by decide))) hw (by omega) n1 n2 (fun q hq => (o1.2 q hq).1) h88 fun I2 r2 t2 => ?_
    obtain ⟨t3, t4⟩ := tF_ch f1 t2
    refine ev_goto (pc := 46) 51 dX8_would_46 (by decide) (ev_iret (pc := 51) dX8_would_51 rfl ?_)
    exact k I2 (Mod_row hm r2 (t3 84 (by omega)) (t3 87 (by omega)) (fun i hi => t4 i (by omega))) (fun c hc => t3 c (by omega))
  · unfold wouV at k
    rw [if_pos (by omega)] at k
    rw [decide_eq_false q]
    refine ev_ifb_eq (pc := 37) 49 dX8_would_37 (by decide) (kf := fun c => absurd c (by simp)) (kt := fun c37 => ev_ldc (pc := 49) kC_8_85 dX8_would_49 (ev_iret (pc := 51) dX8_would_51 rfl ?_))
    exact k I1 (Mod_w hm f1 (by omega)) (fun c hc => f1 c (by omega))
theorem lp_mgent (hd : 8 ≤ d) (hw : wfD s.1) {len : Nat} (h1 : 1 ≤ len) (h12 : len ≤ 12) (hc : len ≤ cntB (fD s.1) 40) (I : Nat → Nat → Int32) (k : ∀ I', Mod rn I' s → mfr I I' → Q (some (.int (nI (gB (fun lay => sumD s.1 (frW s.1 (chC (fD s.1) len lay))) 3).1))) (I', J, KR p)) : ∀ (n i : Nat) (o : Option Value) (x y : Int32) (I1 : Nat → Nat → Int32), i + n = 3 → (i = 0 → x = -1000003 ∧ y = -1000000) → (1 ≤ i → x = nI (gB (fun lay => sumD s.1 (frW s.1 (chC (fD s.1) len lay))) i).1 ∧ y = 3000 + (gB (fun lay => sumD s.1 (frW s.1 (chC (fD s.1) len lay))) i).2) → Mod rn I1 s → mfr I I1 →
    E me_X8_gentlest d L 22 [some (.ref 82), some (.int (nI len)), some (.int x), some (.int y), some (.int (nI i)), o] [] I1 J p Q
  | 0, i, o, x, y, I1, hi, e0, e1, hm, hf => by
    have e : i = 3 := by omega
    subst e
    obtain ⟨rfl, rfl⟩ := e1 (by omega)
    refine ev_iload (pc := 22) dX8_gentlest_22 rfl (ev_iconst (pc := 24) (v := (3)) dX8_gentlest_24 iconst_c3 (ev_ncmp_ge (pc := 25) 91 (3) (3) dX8_gentlest_25 (by decide) (rfl) (rfl) (by omega) (by omega) (kf := fun c => absurd c (by omega)) (kt := fun c25 => ev_iload_n (pc := 91) dX8_gentlest_91 rfl (ev_iret (pc := 92) dX8_gentlest_92 rfl ?_))))
    exact k I1 hm hf
  | n + 1, i, o, x, y, I1, hi, e0, e1, hm, hf => by
    have ih := lp_mgent hd hw h1 h12 hc I k n (i + 1)
    have hle := cntB_le (fD s.1) 40
    have hwG := wfG_of hw
    have hth : thV s.1 (chC (fD s.1) len i) 3 = 3000 + sumD s.1 (frW s.1 (chC (fD s.1) len i)) := rfl
    have hB : ∀ i, bd (sumD s.1 (frW s.1 (chC (fD s.1) len i))) := fun i => sum_bd hwG
    generalize hF : (fun lay => sumD s.1 (frW s.1 (chC (fD s.1) len lay))) = F at k ih e1
    have hFi : sumD s.1 (frW s.1 (chC (fD s.1) len i)) = F i := by rw [← hF]
    have hFB : ∀ i, bd (F i) := fun i => by rw [← hF]; exact hB i
    rw [hFi] at hth
    refine ev_iload (pc := 22) dX8_gentlest_22 rfl (ev_iconst (pc := 24) (v := (3)) dX8_gentlest_24 iconst_c3 (ev_ncmp_ge (pc := 25) 91 (i) (3) dX8_gentlest_25 (by decide) (rfl) (rfl) (by omega) (by omega) (kt := fun c => absurd c (by omega)) (kf := fun c25 => ev_aload_n (pc := 28) dX8_gentlest_28 rfl (ev_invV (pc := 29) kV_8_93 dX8_gentlest_29 rfl rfl rfl (by omega) rfl ?_))))
    refine m_free (by omega) hm.1 (own_wf hw) ?_
    refine ev_iload_n (pc := 32) dX8_gentlest_32 rfl (ev_ncmp_lt (pc := 33) 91 (cntB (fD s.1) 40) (len) dX8_gentlest_33 (by decide) (rfl) (rfl) (by omega) (by omega) (kt := fun c => absurd c (by omega)) (kf := fun c33 => ev_aload_n (pc := 36) dX8_gentlest_36 rfl (ev_iload_n (pc := 37) dX8_gentlest_37 rfl (ev_iload (pc := 38) dX8_gentlest_38 rfl (ev_invV (pc := 40) kV_8_81 dX8_gentlest_40 rfl rfl rfl (by omega) rfl ?_)))))
    refine m_chooses (by omega) hm.1 (own_wf hw) h1 h12 (by omega) fun I2 h88 f2 => ?_
    rw [decide_eq_true hc]
    obtain ⟨o1, o2⟩ := chC_ok (lay := i) hc
    generalize chC (fD s.1) len i = ps at h88 o1 o2 hth
    have m2 := Mod_w hm f2 (by omega)
    refine ev_ifb_eq (pc := 43) 55 dX8_gentlest_43 (by decide) (kt := fun c => absurd c (by simp)) (kf := fun c43 => ev_aload_n (pc := 46) dX8_gentlest_46 rfl (ev_iload_n (pc := 47) dX8_gentlest_47 rfl (ev_iconst (pc := 48) (v := (3)) dX8_gentlest_48 iconst_c3 (ev_invV (pc := 49) kV_8_142 dX8_gentlest_49 rfl rfl rfl (by omega) rfl ?_))))
    rw [← o2]
    refine m_then (w := 3) (by omega) m2.1 hw (by omega) (by omega) (by omega) (fun q hq => (o1.2 q hq).1) h88 fun I3 r3 t3 => ?_
    rw [hth, o2]
    obtain ⟨t4, t5⟩ := tF_ch f2 t3
    have m3 : Mod rn I3 s := Mod_row hm r3 (t4 84 (by omega)) (t4 87 (by omega)) (fun j hj => t5 j (by omega))
    have f3 : mfr I I3 := fun c hc => by rw [t4 c (by omega), hf c hc]
    have better : y < 3000 + F i → (gB F (i + 1)).1 = i → (gB F (i + 1)).2 = F i → E me_X8_gentlest d L 52 [some (.ref 82), some (.int (nI len)), some (.int x), some (.int y), some (.int (nI i)), o] [.int (3000 + F i)] I3 J p Q := by
      intro hlt g1 g2
      rw [g1, g2] at ih
      refine ev_goto (pc := 52) 57 dX8_gentlest_52 (by decide) (ev_istore (pc := 57) dX8_gentlest_57 rfl (ev_iload (pc := 59) dX8_gentlest_59 rfl (ev_iload_n (pc := 61) dX8_gentlest_61 rfl (ev_icmp_le (pc := 62) 70 dX8_gentlest_62 (by decide) (kt := fun c => absurd c (Int32.not_le.mpr hlt)) (kf := fun c62 => ev_iload (pc := 65) dX8_gentlest_65 rfl (ev_goto (pc := 67) 71 dX8_gentlest_67 (by decide) (ev_istore_n (pc := 71) dX8_gentlest_71 rfl (ev_iload (pc := 72) dX8_gentlest_72 rfl (ev_iload_n (pc := 74) dX8_gentlest_74 rfl (ev_icmp_le (pc := 75) 83 dX8_gentlest_75 (by decide) (kt := fun c => absurd c (Int32.not_le.mpr hlt)) (kf := fun c75 => ev_iload (pc := 78) dX8_gentlest_78 rfl (ev_goto (pc := 80) 84 dX8_gentlest_80 (by decide) (ev_istore_n (pc := 84) dX8_gentlest_84 rfl (ev_iinc (pc := 85) dX8_gentlest_85 rfl (iinc_1 _) rfl (ev_goto (pc := 88) 22 dX8_gentlest_88 (by decide) (?_))))))))))))))))
      exact ih _ _ _ I3 (by omega) (by omega) (fun _ => ⟨rfl, rfl⟩) m3 f3
    by_cases i0 : i = 0
    · obtain ⟨rfl, rfl⟩ := e0 i0
      have eg : gB F (i + 1) = (i, F i) := by simp only [gB]; rw [if_pos (Or.inl i0)]
      exact better (p3_gt (hFB i)) (by rw [eg]) (by rw [eg])
    · obtain ⟨rfl, rfl⟩ := e1 (by omega)
      by_cases cl : (gB F i).2 < F i
      · have eg : gB F (i + 1) = (i, F i) := by simp only [gB]; rw [if_pos (Or.inr cl)]
        exact better ((p3_lt (gB_bd hFB i) (hFB i)).mpr cl) (by rw [eg]) (by rw [eg])
      · have eg : gB F (i + 1) = gB F i := by simp only [gB]; rw [if_neg (fun q => q.elim i0 cl)]
        have hle : 3000 + F i ≤ 3000 + (gB F i).2 := Int32.not_lt.mp fun q => cl ((p3_lt (gB_bd hFB i) (hFB i)).mp q)
        rw [eg] at ih
        refine ev_goto (pc := 52) 57 dX8_gentlest_52 (by decide) (ev_istore (pc := 57) dX8_gentlest_57 rfl (ev_iload (pc := 59) dX8_gentlest_59 rfl (ev_iload_n (pc := 61) dX8_gentlest_61 rfl (ev_icmp_le (pc := 62) 70 dX8_gentlest_62 (by decide) (kf := fun c => absurd (hle) c) (kt := fun c62 => ev_iload_n (pc := 70) dX8_gentlest_70 rfl (ev_istore_n (pc := 71) dX8_gentlest_71 rfl (ev_iload (pc := 72) dX8_gentlest_72 rfl (ev_iload_n (pc := 74) dX8_gentlest_74 rfl (ev_icmp_le (pc := 75) 83 dX8_gentlest_75 (by decide) (kf := fun c => absurd (hle) c) (kt := fun c75 => ev_iload_n (pc := 83) dX8_gentlest_83 rfl (ev_istore_n (pc := 84) dX8_gentlest_84 rfl (ev_iinc (pc := 85) dX8_gentlest_85 rfl (iinc_1 _) rfl (ev_goto (pc := 88) 22 dX8_gentlest_88 (by decide) (?_))))))))))))))
        exact ih _ _ _ I3 (by omega) (by omega) (fun _ => ⟨rfl, rfl⟩) m3 f3
theorem m_gentlest (hd : 8 ≤ d) (hm : Mod rn I s) (hw : wfD s.1) (a : Int32) (k : ∀ I', Mod rn I' s → mfr I I' → Q (some (.int (oGent s a))) (I', J, KR p)) : T d me_X8_gentlest [.ref 82, .int a] L I J p Q := by
  refine am_enter [some (.ref 82), some (.int a), none, none, none, none] rfl rfl rfl rfl ?_
  unfold oGent at k
  refine ev_iload_n (pc := 0) dX8_gentlest_0 rfl (ev_iconst (pc := 1) (v := (1)) dX8_gentlest_1 iconst_c1 (ev_bipush (pc := 2) (v := (12)) dX8_gentlest_2 bipush_c12 (ev_invS (pc := 4) kS_8_52 dX8_gentlest_4 rfl (by omega) rfl ?_)))
  refine m_in 1 12 a ?_
  cases q1 : inR 1 12 a
  · rw [q1, if_neg (by decide)] at k
    refine ev_ifb_ne (pc := 7) 13 dX8_gentlest_7 (by decide) (kt := fun c => absurd c (by simp)) (kf := fun c7 => ev_ldc (pc := 10) kC_8_79 dX8_gentlest_10 (ev_iret (pc := 12) dX8_gentlest_12 rfl ?_))
    exact k _ hm (fun _ _ => rfl)
  rw [q1, if_pos rfl] at k
  obtain ⟨len, n1, n2, rfl⟩ := inR_n (by omega) (by omega) q1
  rw [nI_clamp (by omega)] at k
  unfold genV at k
  have hle := cntB_le (fD s.1) 40
  refine ev_ifb_ne (pc := 7) 13 dX8_gentlest_7 (by decide) (kf := fun c => absurd c (by simp)) (kt := fun c7 => ev_ldc (pc := 13) kC_8_85 dX8_gentlest_13 (ev_istore_n (pc := 15) dX8_gentlest_15 rfl (ev_ldc (pc := 16) kC_8_145 dX8_gentlest_16 (ev_istore_n (pc := 18) dX8_gentlest_18 rfl (ev_iconst (pc := 19) (v := (0)) dX8_gentlest_19 iconst_c0 (ev_istore (pc := 20) dX8_gentlest_20 rfl (?_)))))))
  by_cases q : len ≤ cntB (fD s.1) 40
  · rw [if_neg (by omega)] at k
    exact lp_mgent hd hw n1 n2 q I k 3 0 none _ _ I (by omega) (fun _ => ⟨rfl, rfl⟩) (by omega) hm (fun _ _ => rfl)
  · rw [if_pos (by omega)] at k
    refine ev_iload (pc := 22) dX8_gentlest_22 rfl (ev_iconst (pc := 24) (v := (3)) dX8_gentlest_24 iconst_c3 (ev_ncmp_ge (pc := 25) 91 (0) (3) dX8_gentlest_25 (by decide) (rfl) (rfl) (by omega) (by omega) (kt := fun c => absurd c (by omega)) (kf := fun c25 => ev_aload_n (pc := 28) dX8_gentlest_28 rfl (ev_invV (pc := 29) kV_8_93 dX8_gentlest_29 rfl rfl rfl (by omega) rfl ?_))))
    refine m_free (by omega) hm.1 (own_wf hw) ?_
    refine ev_iload_n (pc := 32) dX8_gentlest_32 rfl (ev_ncmp_lt (pc := 33) 91 (cntB (fD s.1) 40) (len) dX8_gentlest_33 (by decide) (rfl) (rfl) (by omega) (by omega) (kf := fun c => absurd c (by omega)) (kt := fun c33 => ev_iload_n (pc := 91) dX8_gentlest_91 rfl (ev_iret (pc := 92) dX8_gentlest_92 rfl ?_)))
    exact k _ hm (fun _ _ => rfl)
end T62
