/-! ===== the cells of a run: the class's 1 to 81, the reference's 82 to 96 ===== -/
def sh_d : am_S := [(0, 10), (9, 40), (9, 40), (9, 40), (9, 40), (9, 40), (9, 30), (4, 4), (9, 6), (9, 6), (9, 6)]
def SH (L : Nat) : am_S := (9, L) :: [(7, 5), (0, 10), (9, 40), (9, 40), (9, 40), (9, 40), (9, 40), (9, 30), (4, 4), (9, 6), (9, 6), (9, 6), (2, 9), (1, 8), (5, 2), (9, 12), (9, 40), (9, 40), (10, 40), (9, 12), (3, 2), (11, 5), (0, 10), (9, 40), (9, 40), (9, 40), (9, 40), (9, 40), (9, 30), (4, 4), (9, 6), (9, 6), (9, 6), (0, 10), (9, 40), (9, 40), (9, 40), (9, 40), (9, 40), (9, 30), (4, 4), (9, 6), (9, 6), (9, 6), (0, 10), (9, 40), (9, 40), (9, 40), (9, 40), (9, 40), (9, 30), (4, 4), (9, 6), (9, 6), (9, 6), (0, 10), (9, 40), (9, 40), (9, 40), (9, 40), (9, 40), (9, 30), (4, 4), (9, 6), (9, 6), (9, 6), (0, 10), (9, 40), (9, 40), (9, 40), (9, 40), (9, 40), (9, 30), (4, 4), (9, 6), (9, 6), (9, 6), (6, 9), (9, 60), (5, 2), (9, 12), (8, 21), (9, 252), (9, 1008), (9, 252), (9, 252), (9, 60), (9, 12), (9, 40), (9, 40), (9, 40), (9, 40), (9, 40), (9, 480), (9, 40), (9, 3)]
/-- where the references point: of History.states (cell 22) place k holds the disk at p k -/
def kr_t : List (List Nat) := [[], [2, 13, 21, 78, 80], [3, 4, 5, 6, 7, 8, 9], [], [], [], [], [], [], [10, 11, 12], [], [], [], [14, 17, 18, 19, 20], [15], [16], [], [], [], [], [], [22], [], [24, 25, 26, 27, 28, 29, 30], [], [], [], [], [], [], [31, 32, 33], [], [], [], [35, 36, 37, 38, 39, 40, 41], [], [], [], [], [], [], [42, 43, 44], [], [], [], [46, 47, 48, 49, 50, 51, 52], [], [], [], [], [], [], [53, 54, 55], [], [], [], [57, 58, 59, 60, 61, 62, 63], [], [], [], [], [], [], [64, 65, 66], [], [], [], [68, 69, 70, 71, 72, 73, 74], [], [], [], [], [], [], [75, 76, 77], [], [], [], [79], [], [81], [], [83, 84, 85, 86, 0, 0, 87, 0, 88, 0, 89, 90, 91, 92, 93, 94, 95, 0, 0, 0, 96]]
def KR (p : Nat → Nat) : Nat → Nat → Option Nat := fun a i => cond (Nat.beq a 22) (some (p i)) ((am_nt kr_t a).bind (fun r => am_nt r i))
abbrev E (X : am_me) (d L pc : Nat) (l : List (Option Value)) (st : List Value) (I : Nat → Nat → Int32) (J : Nat → Nat → Int64) (p : Nat → Nat) (Q : Option Value → am_M → Prop) : Prop := am_Ev X d (SH L) (SH L) pc l st (SH L) (I, J, KR p) Q
abbrev T (d : Nat) (X : am_me) (As : List Value) (L : Nat) (I : Nat → Nat → Int32) (J : Nat → Nat → Int64) (p : Nat → Nat) (Q : Option Value → am_M → Prop) : Prop := am_Mt d X As (SH L) (SH L) (I, J, KR p) Q
def bI (b : Bool) : Int32 := if b then 1 else 0
theorem bI_01 (b : Bool) : bI b = 0 ∨ bI b = 1 := by cases b <;> simp [bI]
section T11
variable {X : am_me} {d : Nat} {sh0 shF sh : am_S} {pc : Nat} {l : List (Option Value)} {st : List Value} {M : am_M} {Q : Option Value → am_M → Prop}
theorem ev_ifb_eq {b : Bool} {off : Int} (tgt : Nat) (hd : decode X.2.2.1 pc = .ok (.ifCond .eq off, 3)) (ht : (pc : Int) + off = (tgt : Int)) (kt : b = false → am_Ev X d sh0 shF tgt l st sh M Q) (kf : b = true → am_Ev X d sh0 shF (pc + 3) l st sh M Q) : am_Ev X d sh0 shF pc l (.int (bI b) :: st) sh M Q := by
  cases b
  · exact ev_if_eq tgt hd ht (fun _ => kt rfl) (fun c => absurd rfl c)
  · exact ev_if_eq tgt hd ht (fun c => absurd c (by decide)) (fun _ => kf rfl)
theorem ev_ifb_ne {b : Bool} {off : Int} (tgt : Nat) (hd : decode X.2.2.1 pc = .ok (.ifCond .ne off, 3)) (ht : (pc : Int) + off = (tgt : Int)) (kt : b = true → am_Ev X d sh0 shF tgt l st sh M Q) (kf : b = false → am_Ev X d sh0 shF (pc + 3) l st sh M Q) : am_Ev X d sh0 shF pc l (.int (bI b) :: st) sh M Q := by
  cases b
  · exact ev_if_ne tgt hd ht (fun c => absurd rfl c) (fun _ => kf rfl)
  · exact ev_if_ne tgt hd ht (fun _ => kt rfl) (fun c => absurd c (by decide))
theorem am_Mt_mono {Y : am_me} {As : List Value} {Q' : Option Value → am_M → Prop} (hq : ∀ v M, Q' v M → Q v M) (h : am_Mt d Y As sh shF M Q') : am_Mt d Y As sh shF M Q := by
  intro l G p e ha hc hk s m args below hf happ hP hT
  obtain ⟨k, o, h1, h2, h3, ⟨⟨v, M1, hv, ho⟩, hF⟩, hL⟩ := h l G p e ha hc hk s m args below hf happ hP hT
  exact ⟨k, o, h1, h2, h3, ⟨⟨v, M1, hq v M1 hv, ho⟩, hF⟩, hL⟩
end T11
