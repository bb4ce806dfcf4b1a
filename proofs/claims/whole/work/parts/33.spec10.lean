def SPs (v : Nat → Int32) (n : Nat) (p : Int32) : Nat → Nat × (Nat → Nat) × (Nat → Nat) × (Nat → Nat)
  | 0 => (0, fun _ => 0, fun _ => 0, fun _ => 0)
  | i + 1 => if kq v n p i = 0 then SPs v n p i else if kq v n p i = bef v n p i then ((SPs v n p i).1, (SPs v n p i).2.1, va_up (SPs v n p i).2.2.1 ((SPs v n p i).1 - 1) (i + 1), (SPs v n p i).2.2.2)
    else ((SPs v n p i).1 + 1, va_up (SPs v n p i).2.1 (SPs v n p i).1 i, va_up (SPs v n p i).2.2.1 (SPs v n p i).1 (i + 1), va_up (SPs v n p i).2.2.2 (SPs v n p i).1 (kq v n p i))
abbrev spc (v : Nat → Int32) (n : Nat) (p : Int32) (i : Nat) : Nat := (SPs v n p i).1
abbrev spf (v : Nat → Int32) (n : Nat) (p : Int32) (i : Nat) : Nat → Nat := (SPs v n p i).2.1
abbrev spl (v : Nat → Int32) (n : Nat) (p : Int32) (i : Nat) : Nat → Nat := (SPs v n p i).2.2.1
abbrev spg (v : Nat → Int32) (n : Nat) (p : Int32) (i : Nat) : Nat → Nat := (SPs v n p i).2.2.2
def alS (v : Nat → Int32) (n : Nat) (p : Int32) : Nat → Int32
  | 0 => 0
  | i + 1 => if kq v n p i = 0 then alS v n p i else alS v n p i + (wc v i (kq v n p i) + (if kq v n p i = bef v n p i then 0 else p))
def toS (v : Nat → Int32) (n : Nat) (p : Int32) : Nat → Int32
  | 0 => 0
  | i + 1 => if bef v n p i = 0 ∧ ¬ kq v n p i = 0 then toS v n p i + cb (DP v n p i) p 0 (kq v n p i) else toS v n p i
def AG (F : Nat → Int32) (f : Nat → Nat) (c : Nat) : Prop := ∀ j, j < c → F j = nI (f j)
theorem AG.snoc {F : Nat → Int32} {f : Nat → Nat} {c : Nat} (h : AG F f c) (x : Nat) : AG (upd F c (nI x)) (va_up f c x) (c + 1) := by
  intro j hj
  by_cases e : j = c
  · subst e; rw [pk_us, up_s]
  · rw [pk_un e, up_n e]; exact h j (by omega)
theorem AG.put {F : Nat → Int32} {f : Nat → Nat} {c : Nat} (h : AG F f c) (i x : Nat) : AG (upd F i (nI x)) (va_up f i x) c := by
  intro j hj
  by_cases e : j = i
  · subst e; rw [pk_us, up_s]
  · rw [pk_un e, up_n e]; exact h j hj
theorem AG.zero {F : Nat → Int32} {f : Nat → Nat} : AG F f 0 := fun j h => by omega
theorem nI_pm {c : Nat} (h : 1 ≤ c) : nI c - 1 = nI (c - 1) := by
  obtain ⟨m, rfl⟩ : ∃ m, c = m + 1 := ⟨c - 1, by omega⟩
  rw [nI_pred, Nat.add_sub_cancel]
section SPL
variable {v : Nat → Int32} {n : Nat} {p : Int32}
theorem SPs_no {i : Nat} (h : kq v n p i = 0) : SPs v n p (i + 1) = SPs v n p i := by simp only [SPs]; rw [if_pos h]
theorem SPs_on {i : Nat} (h : ¬ kq v n p i = 0) (q : kq v n p i = bef v n p i) : SPs v n p (i + 1) = (spc v n p i, spf v n p i, va_up (spl v n p i) (spc v n p i - 1) (i + 1), spg v n p i) := by
  simp only [SPs]; rw [if_neg h, if_pos q]
theorem SPs_new {i : Nat} (h : ¬ kq v n p i = 0) (q : ¬ kq v n p i = bef v n p i) : SPs v n p (i + 1) = (spc v n p i + 1, va_up (spf v n p i) (spc v n p i) i, va_up (spl v n p i) (spc v n p i) (i + 1), va_up (spg v n p i) (spc v n p i) (kq v n p i)) := by
  simp only [SPs]; rw [if_neg h, if_neg q]
theorem alS_no {i : Nat} (h : kq v n p i = 0) : alS v n p (i + 1) = alS v n p i := by simp only [alS]; rw [if_pos h]
theorem alS_on {i : Nat} (h : ¬ kq v n p i = 0) (q : kq v n p i = bef v n p i) : alS v n p (i + 1) = alS v n p i + (wc v i (kq v n p i) + 0) := by simp only [alS]; rw [if_neg h, if_pos q]
theorem alS_new {i : Nat} (h : ¬ kq v n p i = 0) (q : ¬ kq v n p i = bef v n p i) : alS v n p (i + 1) = alS v n p i + (wc v i (kq v n p i) + p) := by simp only [alS]; rw [if_neg h, if_neg q]
theorem spc_le : ∀ i, spc v n p i ≤ i
  | 0 => Nat.le_refl _
  | i + 1 => by
    have ih := spc_le i
    by_cases h : kq v n p i = 0
    · show (SPs v n p (i + 1)).1 ≤ _; rw [SPs_no h]; show spc v n p i ≤ _; omega
    · by_cases q : kq v n p i = bef v n p i
      · show (SPs v n p (i + 1)).1 ≤ _; rw [SPs_on h q]; show spc v n p i ≤ _; omega
      · show (SPs v n p (i + 1)).1 ≤ _; rw [SPs_new h q]; show spc v n p i + 1 ≤ _; omega
theorem spc_pos : ∀ i, ¬ bef v n p i = 0 → 1 ≤ spc v n p i
  | 0, h => absurd rfl h
  | i + 1, h => by
    have h : ¬ kq v n p i = 0 := h
    by_cases q : kq v n p i = bef v n p i
    · have := spc_pos i (by rw [← q]; exact h)
      show 1 ≤ (SPs v n p (i + 1)).1; rw [SPs_on h q]; exact this
    · show 1 ≤ (SPs v n p (i + 1)).1; rw [SPs_new h q]; show 1 ≤ spc v n p i + 1; omega
theorem SPs_end {i : Nat} (h : n ≤ i) : ∀ j, SPs v n p (i + j) = SPs v n p i ∧ alS v n p (i + j) = alS v n p i
  | 0 => ⟨rfl, rfl⟩
  | j + 1 => by
    have hz : kq v n p (i + j) = 0 := kq_no (fun w => by have := w.1; omega)
    have := SPs_end h j
    exact ⟨(SPs_no hz).trans this.1, (alS_no hz).trans this.2⟩
theorem SPs_40 (h : n ≤ 40) : SPs v n p 40 = SPs v n p n ∧ alS v n p 40 = alS v n p n := by
  have := SPs_end (v := v) (n := n) (p := p) (Nat.le_refl n) (40 - n)
  rwa [show n + (40 - n) = 40 by omega] at this
theorem spc_no {i : Nat} (h : kq v n p i = 0) : spc v n p (i + 1) = spc v n p i := congrArg Prod.fst (SPs_no h)
theorem spc_on {i : Nat} (h : ¬ kq v n p i = 0) (q : kq v n p i = bef v n p i) : spc v n p (i + 1) = spc v n p i := (congrArg Prod.fst (SPs_on h q) :)
theorem spc_new {i : Nat} (h : ¬ kq v n p i = 0) (q : ¬ kq v n p i = bef v n p i) : spc v n p (i + 1) = spc v n p i + 1 := (congrArg Prod.fst (SPs_new h q) :)
theorem spc_40 (h : n ≤ 40) : spc v n p 40 = spc v n p n := congrArg Prod.fst (SPs_40 h).1
theorem spf_no {i : Nat} (h : kq v n p i = 0) : spf v n p (i + 1) = spf v n p i := congrArg (fun z => z.2.1) (SPs_no h)
theorem spf_on {i : Nat} (h : ¬ kq v n p i = 0) (q : kq v n p i = bef v n p i) : spf v n p (i + 1) = spf v n p i := (congrArg (fun z => z.2.1) (SPs_on h q) :)
theorem spf_new {i : Nat} (h : ¬ kq v n p i = 0) (q : ¬ kq v n p i = bef v n p i) : spf v n p (i + 1) = va_up (spf v n p i) (spc v n p i) i := (congrArg (fun z => z.2.1) (SPs_new h q) :)
theorem spf_40 (h : n ≤ 40) : spf v n p 40 = spf v n p n := congrArg (fun z => z.2.1) (SPs_40 h).1
theorem spl_no {i : Nat} (h : kq v n p i = 0) : spl v n p (i + 1) = spl v n p i := congrArg (fun z => z.2.2.1) (SPs_no h)
theorem spl_on {i : Nat} (h : ¬ kq v n p i = 0) (q : kq v n p i = bef v n p i) : spl v n p (i + 1) = va_up (spl v n p i) (spc v n p i - 1) (i + 1) := (congrArg (fun z => z.2.2.1) (SPs_on h q) :)
theorem spl_new {i : Nat} (h : ¬ kq v n p i = 0) (q : ¬ kq v n p i = bef v n p i) : spl v n p (i + 1) = va_up (spl v n p i) (spc v n p i) (i + 1) := (congrArg (fun z => z.2.2.1) (SPs_new h q) :)
theorem spl_40 (h : n ≤ 40) : spl v n p 40 = spl v n p n := congrArg (fun z => z.2.2.1) (SPs_40 h).1
theorem spg_no {i : Nat} (h : kq v n p i = 0) : spg v n p (i + 1) = spg v n p i := congrArg (fun z => z.2.2.2) (SPs_no h)
theorem spg_on {i : Nat} (h : ¬ kq v n p i = 0) (q : kq v n p i = bef v n p i) : spg v n p (i + 1) = spg v n p i := (congrArg (fun z => z.2.2.2) (SPs_on h q) :)
theorem spg_new {i : Nat} (h : ¬ kq v n p i = 0) (q : ¬ kq v n p i = bef v n p i) : spg v n p (i + 1) = va_up (spg v n p i) (spc v n p i) (kq v n p i) := (congrArg (fun z => z.2.2.2) (SPs_new h q) :)
theorem spg_40 (h : n ≤ 40) : spg v n p 40 = spg v n p n := congrArg (fun z => z.2.2.2) (SPs_40 h).1
def remS (v : Nat → Int32) (n : Nat) (p : Int32) (i : Nat) : Int32 := if ¬ bef v n p i = 0 ∧ wy v n i then cb (DP v n p i) p (bef v n p i) (kq v n p i) else 0
theorem cb_val {g : Nat → Int32} {b q : Nat} : cb g p b q = g q + (if q = b then 0 else p) := by
  unfold cb
  split
  · rw [Int32.add_zero]
  · rfl
theorem tot_inv : ∀ i, i ≤ 40 → toS v n p i = alS v n p i + remS v n p i
  | 0, _ => by
    unfold remS
    rw [if_neg (fun q => q.1 rfl)]
    rfl
  | i + 1, hi => by
    have ih := tot_inv i (by omega)
    by_cases w : wy v n i
    · have hk := kq_range (p := p) w
      have hk0 : ¬ kq v n p i = 0 := by omega
      have hr : DP v n p i (kq v n p i) = wc v i (kq v n p i) + remS v n p (i + 1) := by
        rw [DP_eq (by omega), if_pos w]
        congr 1
        unfold remS
        show _ = if ¬ kq v n p i = 0 ∧ wy v n (i + 1) then cb (DP v n p (i + 1)) p (kq v n p i) (kq v n p (i + 1)) else 0
        by_cases w2 : wy v n (i + 1)
        · rw [if_pos w2, if_pos ⟨hk0, w2⟩, mn3_bk, kq_eq (i + 1), if_pos w2]; rfl
        · rw [if_neg w2, if_neg (fun q => w2 q.2)]
      have ha : alS v n p (i + 1) = alS v n p i + (wc v i (kq v n p i) + (if kq v n p i = bef v n p i then 0 else p)) := by simp only [alS]; rw [if_neg hk0]
      by_cases hb : bef v n p i = 0
      · have ht : toS v n p (i + 1) = toS v n p i + cb (DP v n p i) p 0 (kq v n p i) := by simp only [toS]; rw [if_pos ⟨hb, hk0⟩]
        have hz : remS v n p i = 0 := by unfold remS; rw [if_neg (fun q => q.1 hb)]
        rw [ht, ha, ih, hz, cb_val, hr, hb]
        simp only [Int32.add_zero]
        ac_rfl
      · have ht : toS v n p (i + 1) = toS v n p i := by simp only [toS]; rw [if_neg (fun q => hb q.1)]
        have hz : remS v n p i = cb (DP v n p i) p (bef v n p i) (kq v n p i) := by unfold remS; rw [if_pos ⟨hb, w⟩]
        rw [ht, ha, ih, hz, cb_val, hr]
        ac_rfl
    · have hk0 := kq_no (p := p) w
      have ht : toS v n p (i + 1) = toS v n p i := by simp only [toS]; rw [if_neg (fun q => q.2 hk0)]
      have hz : remS v n p i = 0 := by unfold remS; rw [if_neg (fun q => w q.2)]
      have hz2 : remS v n p (i + 1) = 0 := by
        unfold remS; rw [if_neg (fun q => q.1 hk0)]
      rw [ht, alS_no hk0, ih, hz, hz2]
theorem tot_eq (h : n ≤ 40) : toS v n p 40 = alS v n p 40 := by
  rw [tot_inv 40 (Nat.le_refl _)]
  unfold remS
  rw [if_neg (fun q => by have := q.2.1; omega), Int32.add_zero]
end SPL
def ShQ (N : Nat → Nat) (V : Nat → Nat → Int32) (K : Nat → Int32) (k : Nat) (J : Nat → Int32) (B : Nat → Nat → Int32) : Prop := TInv N V K J B ∧ J 10 = nI (spc (V k) (N k) (K 8) 40) ∧ J 9 = alS (V k) (N k) (K 8) 40 ∧ (∀ j, j < N k → B 5 j = nI (kq (V k) (N k) (K 8) j)) ∧ AG (B 7) (spg (V k) (N k) (K 8) 40) (spc (V k) (N k) (K 8) 40) ∧ AG (B 8) (spf (V k) (N k) (K 8) 40) (spc (V k) (N k) (K 8) 40) ∧ AG (B 9) (spl (V k) (N k) (K 8) 40) (spc (V k) (N k) (K 8) 40)
def SQT (N : Nat → Nat) (V : Nat → Nat → Int32) (K : Nat → Int32) (k : Nat) : QT := fun r h' => r = none ∧ ∃ J' B', h' = hT J' B' ∧ ShQ N V K k J' B'
