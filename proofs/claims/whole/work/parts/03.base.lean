abbrev AC : Type := (Nat × vp_A) ⊕ (Nat × List Value)
def rv (b : Nat) : Value → Value
  | .ref a => .ref (b + a)
  | v => v
theorem rv_cat (b : Nat) (v : Value) : (rv b v).category = v.category := by cases v <;> rfl
theorem rv_rv (a b : Nat) (v : Value) : rv a (rv b v) = rv (a + b) v := by cases v <;> simp [rv, Nat.add_assoc]
theorem rv_rf (b : Nat) (r : Option Nat) : rv b (va_rf r) = va_rf (r.map (b + ·)) := by cases r <;> rfl
theorem rv_rvL (a b : Nat) (l : List Value) : (l.map (rv b)).map (rv a) = l.map (rv (a + b)) := by
  rw [List.map_map]
  exact List.map_congr_left (fun v _ => rv_rv a b v)
theorem rv_rvO (a b : Nat) (l : Option Value) : (l.map (rv b)).map (rv a) = l.map (rv (a + b)) := by cases l <;> simp [rv_rv]
def sa (b : Nat) (a : vp_A) : vp_A := match a with
  | (n, .inr (.inr (.inr (.inr f)))) => (n, .inr (.inr (.inr (.inr (fun j => (f j).map (b + ·))))))
  | a => a
def ec (b : Nat) (κ : Nat → ClassId) (c : AC) : va_E := match c with
  | .inl (t, a) => .inl (κ t, sa b a)
  | .inr (ci, fs) => .inr (ci, fs.map (rv b))
def sh (b : Nat) (c : AC) : AC := match c with
  | .inl (t, a) => .inl (t, sa b a)
  | .inr (ci, fs) => .inr (ci, fs.map (rv b))
theorem sa_sa (a b : Nat) (x : vp_A) : sa a (sa b x) = sa (a + b) x := by
  obtain ⟨n, f | f | f | f | f⟩ := x
  · rfl
  · rfl
  · rfl
  · rfl
  · show (n, _) = (n, _)
    congr 6
    funext j
    cases hf : f j <;> simp [hf, Nat.add_assoc]
theorem ec_sh (a b : Nat) (κ : Nat → ClassId) (c : AC) : ec a κ (sh b c) = ec (a + b) κ c := by
  rcases c with ⟨t, x⟩ | ⟨ci, fs⟩
  · show Sum.inl (κ t, sa a (sa b x)) = Sum.inl (κ t, sa (a + b) x)
    rw [sa_sa]
  · show Sum.inr (ci, (fs.map (rv b)).map (rv a)) = Sum.inr (ci, fs.map (rv (a + b)))
    rw [rv_rvL]
def wso (b : Nat) (κ : Nat → ClassId) (h : List AC) : va_W := h.mapIdx (fun i c => (b + i, ec b κ c))
theorem wso_get (b : Nat) (κ : Nat → ClassId) (h : List AC) (i : Nat) : (wso b κ h)[i]? = (h[i]?).map (fun c => (b + i, ec b κ c)) := by
  unfold wso
  rw [List.getElem?_mapIdx]
theorem wso_at {b : Nat} {κ : Nat → ClassId} {h : List AC} {i : Nat} {c : AC} (e : h[i]? = some c) : (wso b κ h)[i]? = some (b + i, ec b κ c) := by
  rw [wso_get, e]; rfl
theorem wso_of {b : Nat} {κ : Nat → ClassId} {h : List AC} {i : Nat} {q : Nat × va_E} (e : (wso b κ h)[i]? = some q) : ∃ c, h[i]? = some c ∧ q = (b + i, ec b κ c) := by
  rw [wso_get] at e
  cases hc : h[i]? with
  | none => rw [hc] at e; cases e
  | some c => rw [hc] at e; cases e; exact ⟨c, rfl, rfl⟩
theorem wso_len (b : Nat) (κ : Nat → ClassId) (h : List AC) : (wso b κ h).length = h.length := by
  unfold wso; rw [List.length_mapIdx]
theorem wso_set {b : Nat} {κ : Nat → ClassId} {h : List AC} {i : Nat} (c : AC) : (wso b κ h).set i (b + i, ec b κ c) = wso b κ (h.set i c) := by
  apply List.ext_getElem?
  intro j
  rw [List.getElem?_set, wso_get, wso_get, List.getElem?_set, wso_len]
  by_cases hj : i = j
  · subst hj
    by_cases hl : i < h.length <;> simp [hl]
  · simp [hj]
theorem wso_app {b : Nat} {κ : Nat → ClassId} {h : List AC} (c : AC) : wso b κ (h ++ [c]) = wso b κ h ++ [(b + h.length, ec b κ c)] := by
  unfold wso
  rw [List.mapIdx_append]
  simp
def AX (al : Bool) (b N0 : Nat) : Nat → Prop := fun q => b ≤ q ∧ (al = false → q < b + N0)
theorem wso_D {al : Bool} {b N0 : Nat} {κ : Nat → ClassId} {h : List AC} (hN : al = false → h.length = N0) : va_D (AX al b N0) (wso b κ h) := by
  refine ⟨fun i j p q hp hq e => ?_, fun k q hq => ?_⟩
  · obtain ⟨c1, -, rfl⟩ := wso_of hp
    obtain ⟨c2, -, rfl⟩ := wso_of hq
    have e : b + i = b + j := e
    omega
  · obtain ⟨c, hc, rfl⟩ := wso_of hq
    have hk : k < h.length := (List.getElem?_eq_some_iff.mp hc).1
    refine ⟨Nat.le_add_right _ _, fun ha => ?_⟩
    have := hN ha
    show b + k < b + N0
    omega
abbrev tyk (κ : Nat → ClassId) : List (ClassId × FieldType) := [(κ 0, .int), (κ 1, .boolean), (κ 2, .object "EarChart$Row"), (κ 3, .array .int)]
def okW : Cond → Bool
  | .fieldLinkNest .. => true
  | .methodLinkNest .. => true
  | .arrayOver (.object _) => true
  | .arrayOver (.array .int) => true
  | w => goodWord w
def ktbl : List Cond := lw_tbl.filter okW
theorem k_mem {w : Cond} (h : w ∈ lw_tbl) (ho : okW w = true) : w ∈ ktbl := List.mem_filter.mpr ⟨h, ho⟩
theorem k_at {w : Cond} (i : Nat) (h : lw_tbl[i]? = some w) (ho : okW w = true) : w ∈ ktbl := k_mem (List.mem_of_getElem? h) ho
theorem okW_of {w : Cond} (h : w ∈ ktbl) : okW w = true := (List.mem_filter.mp h).2
def onT : Cond → Bool
  | .arrayClass _ => true
  | .arrayOver _ => true
  | w => w.onTables
theorem onT_all : ktbl.all onT = true := by decide +kernel
theorem onT_args {w : Cond} (hn : onT w = true) {A A' : Array Value} {U : State} (h : w.before A U = true) : w.before A' U = true := by
  cases w
  case arrayClass => exact h
  case arrayOver => exact h
  all_goals (refine va_tabs ?_ rfl h; exact hn)
theorem tb_args {A A' : Array Value} {U : State} (h : ∀ w ∈ ktbl, w.before A U = true) : ∀ w ∈ ktbl, w.before A' U = true := fun w hw => onT_args (List.all_eq_true.mp onT_all w hw) (h w hw)
theorem ao_moved {u U : State} (hvm : u.vm.Alike U.vm) (h : va_Nw (.arrayOver (.array .int)) u) : va_Nw (.arrayOver (.array .int)) U := by
  obtain ⟨comp, c, k, h1, h2, h3, h4, h5⟩ := gr_over h
  obtain ⟨k', hk', he⟩ := hvm.2.2 _ _ h3
  have hi : (U.vm.classes.findIdx? fun (x : Class) => match x.kind with | .array component _ => component == comp | _ => false) = some c := by
    have e1 := va_idx_bare U.vm comp
    have e2 := va_idx_bare u.vm comp
    have e3 : u.vm.bare = U.vm.bare := by first | exact hvm.bare_eq | exact hvm.bare_eq.symm
    rw [← e3] at e1
    exact e1.symm.trans (e2.trans h2)
  have hkind : k'.kind = .array comp (.array .int) := by rw [he]; exact h4
  have f1 : U.vm.findClass (FieldType.array .int).toString = some comp := by rw [hvm.findClass]; exact h1
  have f2 : U.vm.findClass ("[" ++ (FieldType.array .int).toString) = some c := by rw [hvm.findClass]; exact h5
  unfold va_Nw Cond.before Cond.holds
  simp only [Cond.value]
  rw [f1, Option.bind_some]
  refine (congrArg (fun o : Option Nat => (o.bind (fun c => (U.vm.classes[c]?).map fun (k : Class) => match k.kind with | .array _ ty => decide (ty = FieldType.array .int) && decide (U.vm.findClass ("[" ++ (FieldType.array .int).toString) = some c) | _ => false) == some true)) hi).trans ?_
  simp [hk', hkind, f2]
theorem tb_word {s U : State} (hW : s.WarmedH U.vm) {A A' : Array Value} {w : Cond} (ho : okW w = true) (h : w.before A s = true) : w.before A' U = true := by
  cases w
  case fieldLinkNest => exact va_Nw.use rfl (va_Nw.warmF hW (va_Nw.of rfl h))
  case methodLinkNest => exact va_Nw.use rfl (va_Nw.warmM hW (va_Nw.of rfl h))
  case arrayOver ty =>
    cases ty
    case object C => exact va_AO.use (va_AO.moved hW.alike (va_AO.of h))
    case array t =>
      cases t
      case int => exact ao_moved hW.alike h
      all_goals exact word_at hW (good_of_word ho) h
    all_goals exact word_at hW (good_of_word ho) h
  all_goals exact word_at hW (good_of_word ho) h
theorem tb_warm {s U : State} (hW : s.WarmedH U.vm) {A A' : Array Value} (h : ∀ w ∈ ktbl, w.before A s = true) : ∀ w ∈ ktbl, w.before A' U = true :=
  fun w hw => tb_word hW (okW_of hw) (h w hw)
