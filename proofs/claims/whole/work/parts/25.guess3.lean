/-! ===== rate, insert, find ===== -/
def scI (c b : Nat) (m : Int32) (e : Bool) : Int32 := 10 + 10 * nI c + 4 * nI b - 6 * m + (if e then 15 else 0)
/-- the journal's entry of a first page and a style; of a style -/
def jwI (I : Nat → Nat → Int32) (z : Nat) (f s : Int32) : Option Nat := fstP (fun k => decide (I 11 k = f) && decide (I 12 k = s)) z 0
def jsI (I : Nat → Nat → Int32) (z : Nat) (s : Int32) : Option Nat := fstP (fun k => decide (I 12 k = s)) z 0
def nmI (I : Nat → Nat → Int32) (z : Nat) (f s : Int32) : Int32 := match jwI I z f s with
  | some k => I 10 k
  | none => match jsI I z s with
    | some k => I 10 k
    | none => -1
def insG (sc : Nat → Int32) (x : Nat) : List Nat → List Nat
  | [] => [x]
  | y :: l => if sc y < sc x then x :: y :: l else y :: insG sc x l
/-- the guesses of the pages below n that have it, in order -/
def gsL (sc : Nat → Int32) (P : Nat → Bool) : Nat → List Nat
  | 0 => []
  | n + 1 => if P n then insG sc n (gsL sc P n) else gsL sc P n
def srt (sc : Nat → Int32) (l : List Nat) : Prop := ∀ i j, i < j → j < l.length → sc (l.getD j 0) ≤ sc (l.getD i 0)
theorem insG_eq (sc : Nat → Int32) (x : Nat) : ∀ (l : List Nat) (m : Nat), m ≤ l.length → (∀ k, k < m → ¬ sc (l.getD k 0) < sc x) → (∀ k, m ≤ k → k < l.length → sc (l.getD k 0) < sc x) → insG sc x l = l.take m ++ x :: l.drop m
  | [], m, hm, _, _ => by
    have : m = 0 := by simpa using hm
    subst this
    rfl
  | y :: l, 0, hm, h1, h2 => by
    have : sc y < sc x := h2 0 (Nat.le_refl _) (by simp)
    simp [insG, this]
  | y :: l, m + 1, hm, h1, h2 => by
    have : ¬ sc y < sc x := h1 0 (by omega)
    have ih := insG_eq sc x l m (by simpa using hm) (fun k hk => h1 (k + 1) (by omega)) (fun k hk1 hk2 => h2 (k + 1) (by omega) (by simpa using hk2))
    simp [insG, this, ih]
theorem insG_len (sc : Nat → Int32) (x : Nat) : ∀ l : List Nat, (insG sc x l).length = l.length + 1
  | [] => rfl
  | y :: l => by
    simp only [insG]
    split
    · simp
    · simp [insG_len sc x l]
theorem insG_get {l : List Nat} {x m : Nat} (hm : m ≤ l.length) (k : Nat) (hk : k ≤ l.length) : (l.take m ++ x :: l.drop m).getD k 0 = if k < m then l.getD k 0 else if k = m then x else l.getD (k - 1) 0 := by
  simp only [List.getD_eq_getElem?_getD]
  by_cases h : k < m
  · rw [if_pos h, List.getElem?_append_left (by simp; omega), List.getElem?_take_of_lt h]
  · rw [if_neg h, List.getElem?_append_right (by simp; omega)]
    have e : (l.take m).length = m := by simp; omega
    rw [e]
    by_cases h2 : k = m
    · subst h2
      simp
    · rw [if_neg h2]
      obtain ⟨t, rfl⟩ : ∃ t, k = m + 1 + t := ⟨k - (m + 1), by omega⟩
      rw [show m + 1 + t - m = t + 1 by omega, List.getElem?_cons_succ, List.getElem?_drop, show m + 1 + t - 1 = m + t by omega]
theorem insG_srt {sc : Nat → Int32} {l : List Nat} {x m : Nat} (hs : srt sc l) (hm : m ≤ l.length) (h1 : ∀ k, k < m → ¬ sc (l.getD k 0) < sc x) (h2 : ∀ k, m ≤ k → k < l.length → sc (l.getD k 0) < sc x) : srt sc (l.take m ++ x :: l.drop m) := by
  intro i j hij hj
  have e : (l.take m ++ x :: l.drop m).length = l.length + 1 := by simp; omega
  rw [e] at hj
  rw [insG_get hm i (by omega), insG_get hm j (by omega)]
  by_cases a : i < m <;> by_cases b : j < m
  · rw [if_pos a, if_pos b]
    exact hs i j hij (by omega)
  · rw [if_pos a, if_neg b]
    by_cases c : j = m
    · rw [if_pos c]
      exact Int32.not_lt.mp (h1 i a)
    · rw [if_neg c]
      exact hs i (j - 1) (by omega) (by omega)
  · omega
  · rw [if_neg a, if_neg b, if_neg (show ¬ j = m by omega)]
    by_cases c : i = m
    · rw [if_pos c]
      exact Int32.le_of_lt (h2 (j - 1) (by omega) (by omega))
    · rw [if_neg c]
      exact hs (i - 1) (j - 1) (by omega) (by omega)
def gOK (I : Nat → Nat → Int32) (J : Nat → Nat → Int64) (sc : Nat → Int32) (pg : Nat → List Nat) (l : List Nat) : Prop :=
  I 13 6 = nI l.length ∧ ∀ k, k < l.length → I 17 k = nI (l.getD k 0) ∧ I 18 k = sc (l.getD k 0) ∧ ∀ j, j < 64 → bl (J 19 k) j = decide (j ∈ pg (l.getD k 0))
/-- cells of the guesses alone -/
def gfr (I I' : Nat → Nat → Int32) (J J' : Nat → Nat → Int64) : Prop := (∀ a, a < 13 ∨ 19 < a → I' a = I a) ∧ ∀ a, a < 13 ∨ 19 < a → J' a = J a
section T25
variable {d L : Nat} {I : Nat → Nat → Int32} {J : Nat → Nat → Int64} {p : Nat → Nat} {Q : Option Value → am_M → Prop}
theorem t_rate (hd : 1 ≤ d) {z c b : Nat} {st m : Int32} (f : Int32) (hz : I 9 3 = nI z) (hz6 : z ≤ 6) (i2 : I 14 2 = st) (i4 : I 14 4 = m) (i5 : I 14 5 = nI c) (i6 : I 14 6 = nI b)
    (h : Q none (ui (ui I 14 7 (scI c b m (jwI I z f st).isSome)) 14 3 (nmI I z f st), J, KR p)) : T d me_X1_rate [.ref 14, .ref 9, .int f] L I J p Q := by
  refine am_enter [some (.ref 14), some (.ref 9), some (.int f), none] rfl rfl rfl rfl ?_
  refine ev_aload_n (pc := 0) dX1_rate_0 rfl (ev_iload_n (pc := 1) dX1_rate_1 rfl (ev_aload_n (pc := 2) dX1_rate_2 rfl (ev_geti (pc := 3) kF_1_24 dX1_rate_3 rfl rfl (?_))))
  rw [i2]
  refine ev_invV (pc := 6) kV_1_70 dX1_rate_6 rfl rfl rfl (by omega) rfl ?_
  refine t_latestWith hz hz6 f st ?_
  refine ev_istore_n (pc := 9) dX1_rate_9 rfl (ev_aload_n (pc := 10) dX1_rate_10 rfl (ev_bipush (pc := 11) (v := (10)) dX1_rate_11 bipush_c10 (ev_bipush (pc := 13) (v := (10)) dX1_rate_13 bipush_c10 (ev_aload_n (pc := 15) dX1_rate_15 rfl (ev_geti (pc := 16) kF_1_38 dX1_rate_16 rfl rfl (ev_imul (pc := 19) dX1_rate_19 (ev_iadd (pc := 20) dX1_rate_20 (ev_iconst (pc := 21) (v := (4)) dX1_rate_21 iconst_c4 (ev_aload_n (pc := 22) dX1_rate_22 rfl (ev_geti (pc := 23) kF_1_41 dX1_rate_23 rfl rfl (ev_imul (pc := 26) dX1_rate_26 (ev_iadd (pc := 27) dX1_rate_27 (ev_bipush (pc := 28) (v := (6)) dX1_rate_28 bipush_c6 (ev_aload_n (pc := 30) dX1_rate_30 rfl (ev_geti (pc := 31) kF_1_60 dX1_rate_31 rfl rfl (ev_imul (pc := 34) dX1_rate_34 (ev_isub (pc := 35) dX1_rate_35 (?_))))))))))))))))))
  rw [i4, i5, i6]
  unfold scI nmI at h
  have jz : ∀ {i : Nat} {v : Int32}, ui I 14 i v 9 3 = nI z := fun {i v} => by simpa [ui] using hz
  have j10 : ∀ {i : Nat} {v : Int32}, ui I 14 i v 10 = I 10 := fun {i v} => by funext y; simp [ui]
  have j12 : ∀ {i : Nat} {v : Int32}, ui I 14 i v 12 = I 12 := fun {i v} => by funext y; simp [ui]
  cases hjw : jwI I z f st with
  | some k =>
    rw [hjw] at h
    have hk := fstP_some hjw
    unfold jwI at hjw
    rw [hjw]
    simp only [Option.elim]
    refine ev_iload_n (pc := 36) dX1_rate_36 rfl (ev_iconst (pc := 37) (v := (-1)) dX1_rate_37 iconst_cm1 (ev_icmp_ne (pc := 38) 45 dX1_rate_38 (by decide) (kf := fun c => absurd c (nI_ne_m1 (by omega))) (kt := fun c38 => ev_bipush (pc := 45) (v := (15)) dX1_rate_45 bipush_c15 (ev_iadd (pc := 47) dX1_rate_47 (ev_puti (pc := 48) kF_1_76 dX1_rate_48 rfl rfl rfl rfl rfl (ev_aload_n (pc := 51) dX1_rate_51 rfl (ev_aload_n (pc := 52) dX1_rate_52 rfl (ev_iload_n (pc := 53) dX1_rate_53 rfl (ev_iconst (pc := 54) (v := (-1)) dX1_rate_54 iconst_cm1 (ev_icmp_ne (pc := 55) 69 dX1_rate_55 (by decide) (kf := fun c => absurd c (nI_ne_m1 (by omega))) (kt := fun c55 => ev_iload_n (pc := 69) dX1_rate_69 rfl (?_))))))))))))
    refine ev_invV (pc := 70) kV_1_82 dX1_rate_70 rfl rfl rfl (by omega) rfl ?_
    refine t_X4_nameAt jz hz6 _ ?_
    rw [ix_n (by omega) (by omega), j10]
    simp only [Option.elim]
    refine ev_puti (pc := 73) kF_1_85 dX1_rate_73 rfl rfl rfl rfl rfl (ev_vret (pc := 76) dX1_rate_76 rfl ?_)
    exact h
  | none =>
    rw [hjw] at h
    unfold jwI at hjw
    rw [hjw]
    simp only [Option.elim]
    refine ev_iload_n (pc := 36) dX1_rate_36 rfl (ev_iconst (pc := 37) (v := (-1)) dX1_rate_37 iconst_cm1 (ev_icmp_ne (pc := 38) 45 dX1_rate_38 (by decide) (kt := fun c => absurd (rfl) c) (kf := fun c38 => ev_iconst (pc := 41) (v := (0)) dX1_rate_41 iconst_c0 (ev_goto (pc := 42) 47 dX1_rate_42 (by decide) (ev_iadd (pc := 47) dX1_rate_47 (ev_puti (pc := 48) kF_1_76 dX1_rate_48 rfl rfl rfl rfl rfl (ev_aload_n (pc := 51) dX1_rate_51 rfl (ev_aload_n (pc := 52) dX1_rate_52 rfl (ev_iload_n (pc := 53) dX1_rate_53 rfl (ev_iconst (pc := 54) (v := (-1)) dX1_rate_54 iconst_cm1 (ev_icmp_ne (pc := 55) 69 dX1_rate_55 (by decide) (kt := fun c => absurd (rfl) c) (kf := fun c55 => ev_aload_n (pc := 58) dX1_rate_58 rfl (ev_aload_n (pc := 59) dX1_rate_59 rfl (ev_geti (pc := 60) kF_1_24 dX1_rate_60 rfl rfl (?_)))))))))))))))
    have e2 : ui I 14 7 (10 + 10 * nI c + 4 * nI b - 6 * m + 0) 14 2 = st := by simpa [ui] using i2
    rw [e2]
    refine ev_invV (pc := 63) kV_1_79 dX1_rate_63 rfl rfl rfl (by omega) rfl ?_
    refine t_latestOfStyle jz hz6 _ ?_
    rw [j12]
    refine ev_goto (pc := 66) 70 dX1_rate_66 (by decide) (ev_invV (pc := 70) kV_1_82 dX1_rate_70 rfl rfl rfl (by omega) rfl ?_)
    refine t_X4_nameAt jz hz6 _ ?_
    rw [j10]
    cases hjs : jsI I z st with
    | some k =>
      rw [hjs] at h
      have hk := fstP_some hjs
      unfold jsI at hjs
      rw [hjs]
      simp only [Option.elim]
      rw [ix_n (by omega) (by omega)]
      simp only
      refine ev_puti (pc := 73) kF_1_85 dX1_rate_73 rfl rfl rfl rfl rfl (ev_vret (pc := 76) dX1_rate_76 rfl ?_)
      exact h
    | none =>
      rw [hjs] at h
      unfold jsI at hjs
      rw [hjs]
      simp only [Option.elim]
      rw [ix_m1]
      simp only
      refine ev_puti (pc := 73) kF_1_85 dX1_rate_73 rfl rfl rfl rfl rfl (ev_vret (pc := 76) dX1_rate_76 rfl ?_)
      exact h
theorem lp_insert {sc : Nat → Int32} {pg : Nat → List Nat} {l : List Nat} {x : Nat} {S : Int64} (hl : l.length < 40) (hg : gOK I J sc pg l) (hs : srt sc l) (hS : ∀ j, j < 64 → bl S j = decide (j ∈ pg x))
    (h : ∀ I' J', gOK I' J' sc pg (insG sc x l) → srt sc (insG sc x l) → (∀ a, a ≠ 17 → a ≠ 18 → a ≠ 13 → I' a = I a) → (∀ i, i ≠ 6 → I' 13 i = I 13 i) → (∀ a, a ≠ 19 → J' a = J a) → Q none (I', J', KR p)) : ∀ (m : Nat) (I1 : Nat → Nat → Int32) (J1 : Nat → Nat → Int64), m ≤ l.length → (∀ k, m ≤ k → k < l.length → sc (l.getD k 0) < sc x) → (∀ a, a ≠ 17 → a ≠ 18 → I1 a = I a) → (∀ a, a ≠ 19 → J1 a = J a) →
    (∀ k, k < m → I1 17 k = I 17 k ∧ I1 18 k = I 18 k ∧ J1 19 k = J 19 k) → (∀ k, m < k → k ≤ l.length → I1 17 k = I 17 (k - 1) ∧ I1 18 k = I 18 (k - 1) ∧ J1 19 k = J 19 (k - 1)) →
    E me_X2_insert d L 23 [some (.ref 13), some (.int (nI x)), some (.int (sc x)), some (.long S), none, some (.int (nI m))] [] I1 J1 p Q := by
  have fin : ∀ (m : Nat) (I1 : Nat → Nat → Int32) (J1 : Nat → Nat → Int64), m ≤ l.length → (∀ k, m ≤ k → k < l.length → sc (l.getD k 0) < sc x) → (∀ k, k < m → ¬ sc (l.getD k 0) < sc x) → (∀ a, a ≠ 17 → a ≠ 18 → I1 a = I a) → (∀ a, a ≠ 19 → J1 a = J a) →
      (∀ k, k < m → I1 17 k = I 17 k ∧ I1 18 k = I 18 k ∧ J1 19 k = J 19 k) → (∀ k, m < k → k ≤ l.length → I1 17 k = I 17 (k - 1) ∧ I1 18 k = I 18 (k - 1) ∧ J1 19 k = J 19 (k - 1)) →
      E me_X2_insert d L 95 [some (.ref 13), some (.int (nI x)), some (.int (sc x)), some (.long S), none, some (.int (nI m))] [] I1 J1 p Q := by
    intro m I1 J1 hm h2 h1 hI hJ ha hb
    refine ev_aload_n (pc := 95) dX2_insert_95 rfl (ev_getr (pc := 96) kF_2_18 dX2_insert_96 rfl rfl rfl (ev_iload (pc := 99) dX2_insert_99 rfl (ev_iload_n (pc := 101) dX2_insert_101 rfl (ev_iast (pc := 102) (i := m) dX2_insert_102 rfl rfl (rfl) (by omega) rfl (ev_aload_n (pc := 103) dX2_insert_103 rfl (ev_getr (pc := 104) kF_2_22 dX2_insert_104 rfl rfl rfl (ev_iload (pc := 107) dX2_insert_107 rfl (ev_iload_n (pc := 109) dX2_insert_109 rfl (ev_iast (pc := 110) (i := m) dX2_insert_110 rfl rfl (rfl) (by omega) rfl (ev_aload_n (pc := 111) dX2_insert_111 rfl (ev_getr (pc := 112) kF_2_25 dX2_insert_112 rfl rfl rfl (ev_iload (pc := 115) dX2_insert_115 rfl (ev_lload_n (pc := 117) dX2_insert_117 rfl (ev_last (pc := 118) (i := m) dX2_insert_118 rfl rfl (rfl) (by omega) rfl (ev_aload_n (pc := 119) dX2_insert_119 rfl (ev_dup (pc := 120) dX2_insert_120 rfl (ev_geti (pc := 121) kF_2_36 dX2_insert_121 rfl rfl (?_))))))))))))))))))
    have e13 : ui (ui I1 17 m (nI x)) 18 m (sc x) 13 6 = nI l.length := by
      rw [← hg.1, ← hI 13 (by decide) (by decide)]
      simp [ui]
    rw [e13]
    refine ev_iconst (pc := 124) (v := (1)) dX2_insert_124 iconst_c1 (ev_iadd (pc := 125) dX2_insert_125 (ev_puti (pc := 126) kF_2_36 dX2_insert_126 rfl rfl rfl rfl rfl (ev_vret (pc := 129) dX2_insert_129 rfl ?_)))
    rw [nI_1]
    have ei := insG_eq sc x l m hm h1 h2
    refine h _ _ ⟨?_, fun k hk => ?_⟩ (by rw [ei]; exact insG_srt hs hm h1 h2) (fun a a1 a2 a3 => ?_) (fun i hi => ?_) (fun a a1 => ?_)
    · rw [insG_len]
      simp [ui]
    · rw [insG_len] at hk
      rw [ei, insG_get hm k (by omega)]
      by_cases c1 : k < m
      · obtain ⟨g1, g2, g3⟩ := ha k c1
        obtain ⟨o1, o2, o3⟩ := hg.2 k (by omega)
        have c2 : k ≠ m := by omega
        rw [if_pos c1]
        refine ⟨?_, ?_, fun j hj => ?_⟩
        · rw [← o1, ← g1]; simp [ui, c2]
        · rw [← o2, ← g2]; simp [ui, c2]
        · rw [← o3 j hj, ← g3]; simp [uj, c2]
      · rw [if_neg c1]
        by_cases c2 : k = m
        · rw [if_pos c2]
          subst c2
          refine ⟨by simp [ui], by simp [ui], fun j hj => ?_⟩
          rw [← hS j hj]
          simp [uj]
        · rw [if_neg c2]
          obtain ⟨g1, g2, g3⟩ := hb k (by omega) (by omega)
          obtain ⟨o1, o2, o3⟩ := hg.2 (k - 1) (by omega)
          refine ⟨?_, ?_, fun j hj => ?_⟩
          · rw [← o1, ← g1]; simp [ui, c2]
          · rw [← o2, ← g2]; simp [ui, c2]
          · rw [← o3 j hj, ← g3]; simp [uj, c2]
    · rw [← hI a a1 a2]
      funext y
      simp [ui, a1, a2, a3]
    · rw [← hI 13 (by decide) (by decide)]
      simp [ui, hi]
    · rw [← hJ a a1]
      funext y
      simp [uj, a1]
  intro m
  induction m with
  | zero =>
    intro I1 J1 hm h2 hI hJ ha hb
    refine ev_iload (pc := 23) dX2_insert_23 rfl (ev_if_le (pc := 25) 95 dX2_insert_25 (by decide) (kf := fun c => absurd (by decide) c) (kt := fun c25 => ?_))
    exact fin 0 I1 J1 hm h2 (fun k hk => by omega) hI hJ ha hb
  | succ m ih =>
    intro I1 J1 hm h2 hI hJ ha hb
    refine ev_iload (pc := 23) dX2_insert_23 rfl (ev_if_le (pc := 25) 95 dX2_insert_25 (by decide) (kt := fun c => absurd c (nI_nle (by omega) (by omega))) (kf := fun c25 => ev_aload_n (pc := 28) dX2_insert_28 rfl (ev_getr (pc := 29) kF_2_22 dX2_insert_29 rfl rfl rfl (ev_iload (pc := 32) dX2_insert_32 rfl (ev_iconst (pc := 34) (v := (1)) dX2_insert_34 iconst_c1 (ev_isub (pc := 35) dX2_insert_35 (?_)))))))
    rw [nI_pred]
    have e18 : I1 18 m = sc (l.getD m 0) := by rw [(ha m (by omega)).2.1, (hg.2 m (by omega)).2.1]
    refine ev_iald (pc := 36) (i := m) dX2_insert_36 rfl (rfl) (by omega) rfl (ev_iload_n (pc := 37) dX2_insert_37 rfl (ev_icmp_ge (pc := 38) 95 dX2_insert_38 (by decide) (fun c38 => ?_) (fun c38 => ?_)))
    · rw [e18] at c38
      refine fin (m + 1) I1 J1 hm h2 (fun k hk => ?_) hI hJ ha hb
      by_cases c : k = m
      · rw [c]; exact Int32.not_lt.mpr c38
      · exact Int32.not_lt.mpr (Int32.le_trans c38 (hs k m (by omega) (by omega)))
    · rw [e18] at c38
      have c38' := Int32.not_le.mp c38
      refine ev_aload_n (pc := 41) dX2_insert_41 rfl (ev_getr (pc := 42) kF_2_18 dX2_insert_42 rfl rfl rfl (ev_iload (pc := 45) dX2_insert_45 rfl (ev_aload_n (pc := 47) dX2_insert_47 rfl (ev_getr (pc := 48) kF_2_18 dX2_insert_48 rfl rfl rfl (ev_iload (pc := 51) dX2_insert_51 rfl (ev_iconst (pc := 53) (v := (1)) dX2_insert_53 iconst_c1 (ev_isub (pc := 54) dX2_insert_54 (?_))))))))
      rw [nI_pred]
      refine ev_iald (pc := 55) (i := m) dX2_insert_55 rfl (rfl) (by omega) rfl (ev_iast (pc := 56) (i := m + 1) dX2_insert_56 rfl rfl (rfl) (by omega) rfl (ev_aload_n (pc := 57) dX2_insert_57 rfl (ev_getr (pc := 58) kF_2_22 dX2_insert_58 rfl rfl rfl (ev_iload (pc := 61) dX2_insert_61 rfl (ev_aload_n (pc := 63) dX2_insert_63 rfl (ev_getr (pc := 64) kF_2_22 dX2_insert_64 rfl rfl rfl (ev_iload (pc := 67) dX2_insert_67 rfl (ev_iconst (pc := 69) (v := (1)) dX2_insert_69 iconst_c1 (ev_isub (pc := 70) dX2_insert_70 (?_))))))))))
      rw [nI_pred]
      refine ev_iald (pc := 71) (i := m) dX2_insert_71 rfl (rfl) (by omega) rfl (ev_iast (pc := 72) (i := m + 1) dX2_insert_72 rfl rfl (rfl) (by omega) rfl (ev_aload_n (pc := 73) dX2_insert_73 rfl (ev_getr (pc := 74) kF_2_25 dX2_insert_74 rfl rfl rfl (ev_iload (pc := 77) dX2_insert_77 rfl (ev_aload_n (pc := 79) dX2_insert_79 rfl (ev_getr (pc := 80) kF_2_25 dX2_insert_80 rfl rfl rfl (ev_iload (pc := 83) dX2_insert_83 rfl (ev_iconst (pc := 85) (v := (1)) dX2_insert_85 iconst_c1 (ev_isub (pc := 86) dX2_insert_86 (?_))))))))))
      rw [nI_pred]
      refine ev_lald (pc := 87) (i := m) dX2_insert_87 rfl rfl (rfl) (by omega) rfl (ev_last (pc := 88) (i := m + 1) dX2_insert_88 rfl rfl (rfl) (by omega) rfl (ev_iinc (pc := 89) dX2_insert_89 rfl ( iinc_d _) rfl (ev_goto (pc := 92) 23 dX2_insert_92 (by decide) (?_))))
      refine ih _ _ (by omega) (fun k k1 k2 => ?_) (fun a a1 a2 => ?_) (fun a a1 => ?_) (fun k hk => ?_) (fun k k1 k2 => ?_)
      · by_cases c : k = m
        · rw [c]; exact c38'
        · exact h2 k (by omega) k2
      · rw [← hI a a1 a2]
        funext y
        simp [ui, a1, a2]
      · rw [← hJ a a1]
        funext y
        simp [uj, a1]
      · obtain ⟨g1, g2, g3⟩ := ha k (by omega)
        have c : k ≠ m + 1 := by omega
        simp [ui, uj, c, g1, g2, g3]
      · by_cases c : k = m + 1
        · subst c
          obtain ⟨g1, g2, g3⟩ := ha m (by omega)
          simp [ui, uj, g1, g2, g3]
        · obtain ⟨g1, g2, g3⟩ := hb k (by omega) k2
          simp [ui, uj, c, g1, g2, g3]
theorem t_insert {sc : Nat → Int32} {pg : Nat → List Nat} {l : List Nat} {x : Nat} {S : Int64} (hl : l.length < 40) (hg : gOK I J sc pg l) (hs : srt sc l) (hS : ∀ j, j < 64 → bl S j = decide (j ∈ pg x))
    (h : ∀ I' J', gOK I' J' sc pg (insG sc x l) → srt sc (insG sc x l) → (∀ a, a ≠ 17 → a ≠ 18 → a ≠ 13 → I' a = I a) → (∀ i, i ≠ 6 → I' 13 i = I 13 i) → (∀ a, a ≠ 19 → J' a = J a) → Q none (I', J', KR p)) : T d me_X2_insert [.ref 13, .int (nI x), .int (sc x), .long S] L I J p Q := by
  refine am_enter [some (.ref 13), some (.int (nI x)), some (.int (sc x)), some (.long S), none, none] rfl rfl rfl rfl ?_
  refine ev_aload_n (pc := 0) dX2_insert_0 rfl (ev_geti (pc := 1) kF_2_36 dX2_insert_1 rfl rfl (ev_if_lt (pc := 4) 16 dX2_insert_4 (by decide) (kt := fun c => absurd c (by rw [hg.1]; exact nI_pos (by omega))) (kf := fun c4 => ev_aload_n (pc := 7) dX2_insert_7 rfl (ev_geti (pc := 8) kF_2_36 dX2_insert_8 rfl rfl (ev_bipush (pc := 11) (v := (40)) dX2_insert_11 bipush_c40 (ev_ncmp_lt (pc := 13) 17 (l.length) (40) dX2_insert_13 (by decide) (hg.1) (rfl) (by omega) (by omega) (kf := fun c => absurd c (by omega)) (kt := fun c13 => ev_aload_n (pc := 17) dX2_insert_17 rfl (ev_geti (pc := 18) kF_2_36 dX2_insert_18 rfl rfl (?_)))))))))
  rw [hg.1]
  refine ev_istore (pc := 21) dX2_insert_21 rfl (?_)
  exact lp_insert hl hg hs hS h l.length I J (Nat.le_refl _) (fun k k1 k2 => by omega) (fun _ _ _ => rfl) (fun _ _ => rfl) (fun _ _ => ⟨rfl, rfl, rfl⟩) (fun k k1 k2 => by omega)
end T25
