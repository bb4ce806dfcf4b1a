def lsub : List (Option Value) → List (Option Value) → Prop
  | [], _ => True
  | none :: a, L => lsub a L.tail
  | some v :: a, L => L.head? = some (some v) ∧ lsub a L.tail
theorem lsub_at : ∀ (L' L : List (Option Value)), lsub L' L → ∀ (i : Nat) (v : Value), L'[i]? = some (some v) → L[i]? = some (some v)
  | [], _, _, i, v, h => by simp at h
  | none :: a, L, q, i, v, h => by
    cases i with
    | zero => simp at h
    | succ i =>
      have := lsub_at a L.tail q i v (by simpa using h)
      rwa [List.getElem?_tail] at this
  | some w :: a, L, q, i, v, h => by
    cases i with
    | zero =>
      simp at h
      subst h
      rw [← List.head?_eq_getElem?]; exact q.1
    | succ i =>
      have := lsub_at a L.tail q.2 i v (by simpa using h)
      rwa [List.getElem?_tail] at this
theorem an_weak {M : MI} {d : Nat} {Q : QT} {pc : Nat} {L L' : List (Option Value)} {st : List Value} {h : List AC} (kk : AN M d Q pc L' st h) (hs : lsub L' L) : AN M d Q pc L st h :=
  fun p l e s m args below meth c b D κ N0 H locs ls C X => kk p l e s m args below meth c b D κ N0 H locs ls C ⟨X.1, X.2.1, X.2.2.1, X.2.2.2.1, ⟨X.2.2.2.2.1.1, X.2.2.2.2.1.2.1, fun q hq => by
    obtain ⟨v, h1, h2⟩ := lvl_mem.mp hq
    exact X.2.2.2.2.1.2.2 q (lvl_mem.mpr ⟨v, lsub_at _ _ hs _ _ h1, h2⟩)⟩, fun i v hi => X.2.2.2.2.2 i v (lsub_at _ _ hs _ _ hi)⟩
def lowR (v : Nat → Int32) : Nat → Int32
  | 0 => 1001
  | i + 1 => if v i = -5000 then lowR v i else if v i < lowR v i then v i else lowR v i
def highR (v : Nat → Int32) : Nat → Int32
  | 0 => -1001
  | i + 1 => if v i = -5000 then highR v i else if highR v i < v i then v i else highR v i
def lowA (N : Nat → Nat) (V : Nat → Nat → Int32) : Nat → Int32
  | 0 => 1001
  | k + 1 => if lowR (V k) (N k) < lowA N V k then lowR (V k) (N k) else lowA N V k
def highA (N : Nat → Nat) (V : Nat → Nat → Int32) : Nat → Int32
  | 0 => -1001
  | k + 1 => if highA N V k < highR (V k) (N k) then highR (V k) (N k) else highA N V k
