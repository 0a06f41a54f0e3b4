/-! pictures: a method is run over a list of cells; a reference in it is a place in that list (from 1000000 on: a static table) -/
abbrev vm_S : Type := List (Option Value) × List Value × List va_E
def vm_g {α : Type} : List α → Nat → Option α
  | [], _ => none
  | a :: _, 0 => some a
  | _ :: t, n + 1 => vm_g t n
theorem vm_g_eq {α : Type} : ∀ (l : List α) (n : Nat), vm_g l n = l[n]?
  | [], n => by simp [vm_g]
  | a :: t, 0 => by simp [vm_g]
  | a :: t, n + 1 => by simp [vm_g, vm_g_eq t n]
def vm_u {α : Type} : List α → Nat → α → List α
  | [], _, _ => []
  | _ :: t, 0, v => v :: t
  | a :: t, n + 1, v => a :: vm_u t n v
theorem vm_u_eq {α : Type} : ∀ (l : List α) (n : Nat) (v : α), vm_u l n v = l.set n v
  | [], n, v => by simp [vm_u]
  | a :: t, 0, v => by simp [vm_u]
  | a :: t, n + 1, v => by simp [vm_u, vm_u_eq t n v]
/-- a local that a store just behind it takes away -/
def vm_k : Option Value → Option Value
  | some (.long _) => none
  | some (.double _) => none
  | x => x
def vm_s1 : List (Option Value) → Nat → Value → List (Option Value)
  | [], _, _ => []
  | _ :: t, 0, v => some v :: t
  | a :: t, 1, v => vm_k a :: vm_s1 t 0 v
  | a :: t, n + 2, v => a :: vm_s1 t (n + 1) v
def vm_s2 (l : List (Option Value)) (i : Nat) (v : Value) : List (Option Value) := vm_s1 (vm_u l (i + 1) none) i v
theorem vm_s1_len : ∀ (l : List (Option Value)) (i : Nat) (v : Value), (vm_s1 l i v).length = l.length
  | [], _, _ => rfl
  | _ :: t, 0, v => rfl
  | a :: t, 1, v => by simp [vm_s1, vm_s1_len t 0 v]
  | a :: t, n + 2, v => by simp [vm_s1, vm_s1_len t (n + 1) v]
theorem vm_s2_len (l : List (Option Value)) (i : Nat) (v : Value) : (vm_s2 l i v).length = l.length := by
  rw [vm_s2, vm_s1_len, vm_u_eq, List.length_set]
theorem vm_k_some {a : Option Value} {w : Value} (h : vm_k a = some w) : a = some w ∧ ¬ w.category = 2 := by
  match a, h with
  | some (.int x), h => cases h; exact ⟨rfl, by simp [Value.category]⟩
  | some (.float x), h => cases h; exact ⟨rfl, by simp [Value.category]⟩
  | some .null, h => cases h; exact ⟨rfl, by simp [Value.category]⟩
  | some (.ref x), h => cases h; exact ⟨rfl, by simp [Value.category]⟩
  | some (.retAddr x), h => cases h; exact ⟨rfl, by simp [Value.category]⟩
  | some (.long x), h => cases h
  | some (.double x), h => cases h
  | none, h => cases h
theorem vm_s1_get : ∀ (l : List (Option Value)) (i : Nat) (v : Value) (j : Nat) (w : Value), (vm_s1 l i v)[j]? = some (some w) →
    (j = i ∧ w = v) ∨ (¬ j = i ∧ l[j]? = some (some w) ∧ ¬ (j + 1 = i ∧ w.category = 2))
  | [], i, v, j, w, h => by simp [vm_s1] at h
  | a :: t, 0, v, 0, w, h => by
    simp [vm_s1] at h
    exact Or.inl ⟨rfl, h.symm⟩
  | a :: t, 0, v, j + 1, w, h => by
    simp [vm_s1] at h
    exact Or.inr ⟨by omega, by simpa using h, by omega⟩
  | a :: t, 1, v, 0, w, h => by
    simp [vm_s1] at h
    obtain ⟨h1, h2⟩ := vm_k_some h
    exact Or.inr ⟨by omega, by simpa using h1, fun q => h2 q.2⟩
  | a :: t, 1, v, j + 1, w, h => by
    simp only [vm_s1, List.getElem?_cons_succ] at h
    rcases vm_s1_get t 0 v j w h with ⟨h1, h2⟩ | ⟨h1, h2, h3⟩
    · exact Or.inl ⟨by omega, h2⟩
    · exact Or.inr ⟨by omega, by simpa using h2, by omega⟩
  | a :: t, n + 2, v, 0, w, h => by
    simp [vm_s1] at h
    exact Or.inr ⟨by omega, by simpa using h, by omega⟩
  | a :: t, n + 2, v, j + 1, w, h => by
    simp only [vm_s1, List.getElem?_cons_succ] at h
    rcases vm_s1_get t (n + 1) v j w h with ⟨h1, h2⟩ | ⟨h1, h2, h3⟩
    · exact Or.inl ⟨by omega, h2⟩
    · exact Or.inr ⟨by omega, by simpa using h2, fun q => h3 ⟨by omega, q.2⟩⟩
theorem vm_s2_get (l : List (Option Value)) (i : Nat) (v : Value) (j : Nat) (w : Value) (h : (vm_s2 l i v)[j]? = some (some w)) :
    (j = i ∧ w = v) ∨ (¬ j = i ∧ ¬ j = i + 1 ∧ l[j]? = some (some w) ∧ ¬ (j + 1 = i ∧ w.category = 2)) := by
  rcases vm_s1_get _ _ _ _ _ h with h1 | ⟨h1, h2, h3⟩
  · exact Or.inl h1
  · rw [vm_u_eq] at h2
    by_cases hj : j = i + 1
    · subst hj
      rw [List.getElem?_set] at h2
      simp at h2
    · rw [List.getElem?_set_ne (Ne.symm hj)] at h2
      exact Or.inr ⟨h1, hj, h2, h3⟩
/-- from places to addresses -/
def vm_v (ad : Nat → Nat) : Value → Value
  | .ref i => .ref (ad i)
  | v => v
theorem vm_v_cat (ad : Nat → Nat) (v : Value) : (vm_v ad v).category = v.category := by cases v <;> rfl
def vm_e (ad tc : Nat → Nat) : va_E → va_E
  | .inl (t, n, .inl f) => .inl (tc t, n, .inl f)
  | .inl (t, n, .inr (.inl f)) => .inl (tc t, n, .inr (.inl f))
  | .inl (t, n, .inr (.inr (.inl f))) => .inl (tc t, n, .inr (.inr (.inl f)))
  | .inl (t, n, .inr (.inr (.inr (.inl f)))) => .inl (tc t, n, .inr (.inr (.inr (.inl f))))
  | .inl (t, n, .inr (.inr (.inr (.inr f)))) => .inl (tc t, n, .inr (.inr (.inr (.inr (fun j => (f j).map ad)))))
  | .inr (k, fs) => .inr (k, fs.map (vm_v ad))
def vm_w (ad tc : Nat → Nat) : Nat → List va_E → va_W
  | _, [] => []
  | i, e :: cs => (ad i, vm_e ad tc e) :: vm_w ad tc (i + 1) cs
theorem vm_w_get (ad tc : Nat → Nat) : ∀ (cs : List va_E) (i k : Nat), (vm_w ad tc i cs)[k]? = (cs[k]?).map (fun e => (ad (i + k), vm_e ad tc e))
  | [], i, k => by simp [vm_w]
  | e :: cs, i, 0 => by simp [vm_w]
  | e :: cs, i, k + 1 => by
    simp only [vm_w, List.getElem?_cons_succ]
    rw [vm_w_get ad tc cs (i + 1) k, show i + 1 + k = i + (k + 1) by omega]
theorem vm_w_at {ad tc : Nat → Nat} {cs : List va_E} {k : Nat} {e : va_E} (h : vm_g cs k = some e) : (vm_w ad tc 0 cs)[k]? = some (ad k, vm_e ad tc e) := by
  rw [vm_w_get, ← vm_g_eq, h]
  simp
theorem vm_w_set (ad tc : Nat → Nat) (e : va_E) : ∀ (cs : List va_E) (i k : Nat), (vm_w ad tc i cs).set k (ad (i + k), vm_e ad tc e) = vm_w ad tc i (vm_u cs k e)
  | [], i, k => by simp [vm_w, vm_u]
  | a :: cs, i, 0 => by simp [vm_w, vm_u]
  | a :: cs, i, k + 1 => by
    simp only [vm_w, vm_u, List.set_cons_succ]
    rw [← vm_w_set ad tc e cs (i + 1) k, show i + 1 + k = i + (k + 1) by omega]
theorem vm_w_set0 (ad tc : Nat → Nat) (e : va_E) (cs : List va_E) (k : Nat) : (vm_w ad tc 0 cs).set k (ad k, vm_e ad tc e) = vm_w ad tc 0 (vm_u cs k e) := by
  have h := vm_w_set ad tc e cs 0 k
  rwa [Nat.zero_add] at h
theorem vm_w_len (ad tc : Nat → Nat) : ∀ (cs : List va_E) (i : Nat), (vm_w ad tc i cs).length = cs.length
  | [], i => rfl
  | a :: cs, i => by simp [vm_w, vm_w_len ad tc cs (i + 1)]
/-- the locals -/
def vm_as (ad : Nat → Nat) : Nat → List (Option Value) → List (Nat × Value)
  | _, [] => []
  | i, none :: t => vm_as ad (i + 1) t
  | i, some v :: t => (i, vm_v ad v) :: vm_as ad (i + 1) t
theorem vm_as_mem (ad : Nat → Nat) : ∀ (l : List (Option Value)) (i : Nat) (q : Nat × Value), q ∈ vm_as ad i l ↔ ∃ (k : Nat) (v : Value), q.1 = i + k ∧ l[k]? = some (some v) ∧ q.2 = vm_v ad v
  | [], i, q => by simp [vm_as]
  | none :: t, i, q => by
    rw [vm_as, vm_as_mem ad t (i + 1) q]
    constructor
    · rintro ⟨k, v, h1, h2, h3⟩
      exact ⟨k + 1, v, by omega, by simpa using h2, h3⟩
    · rintro ⟨k, v, h1, h2, h3⟩
      cases k with
      | zero => simp at h2
      | succ k => exact ⟨k, v, by omega, by simpa using h2, h3⟩
  | some w :: t, i, q => by
    rw [vm_as, List.mem_cons, vm_as_mem ad t (i + 1) q]
    constructor
    · rintro (h | ⟨k, v, h1, h2, h3⟩)
      · exact ⟨0, w, by rw [h]; rfl, by simp, by rw [h]⟩
      · exact ⟨k + 1, v, by omega, by simpa using h2, h3⟩
    · rintro ⟨k, v, h1, h2, h3⟩
      cases k with
      | zero =>
        simp at h2
        subst h2
        exact Or.inl (Prod.ext (by simpa using h1) h3)
      | succ k => exact Or.inr ⟨k, v, by omega, by simpa using h2, h3⟩
def vm_l (ad : Nat → Nat) (ls : Array Slot) (lv : List (Option Value)) : Prop := lv_has ls lv.length (vm_as ad 0 lv)
theorem vm_l_at {ad : Nat → Nat} {ls : Array Slot} {lv : List (Option Value)} {i : Nat} {v : Value} (h : vm_l ad ls lv) (hv : vm_g lv i = some (some v)) : ls[i]? = some (.val (vm_v ad v)) :=
  h.2.2 (i, vm_v ad v) ((vm_as_mem ad lv 0 _).mpr ⟨i, v, by simp, by rw [← vm_g_eq]; exact hv, rfl⟩)
theorem vm_l_s1 {ad : Nat → Nat} {ls' : Array Slot} {lv : List (Option Value)} {i : Nat} {v : Value} (h : lv_has ls' lv.length ((i, vm_v ad v) :: (vm_as ad 0 lv).filter (fun q => !(q.1 == i) && !(q.1 + 1 == i && q.2.category == 2)))) : vm_l ad ls' (vm_s1 lv i v) := by
  refine ⟨by rw [vm_s1_len]; exact h.1, h.2.1, fun q hq => h.2.2 q ?_⟩
  obtain ⟨k, w, h1, h2, h3⟩ := (vm_as_mem ad _ 0 q).mp hq
  rw [Nat.zero_add] at h1
  rcases vm_s1_get _ _ _ _ _ h2 with ⟨e1, e2⟩ | ⟨e1, e2, e3⟩
  · exact List.mem_cons.mpr (Or.inl (Prod.ext (by rw [h1, e1]) (by rw [h3, e2])))
  · refine List.mem_cons.mpr (Or.inr (List.mem_filter.mpr ⟨(vm_as_mem ad lv 0 q).mpr ⟨k, w, by omega, e2, h3⟩, ?_⟩))
    rw [h1, h3, vm_v_cat]
    by_cases hk : k + 1 = i
    · have : ¬ w.category = 2 := fun z => e3 ⟨hk, z⟩
      simp [e1, this]
    · simp [e1, hk]
theorem vm_l_s2 {ad : Nat → Nat} {ls' : Array Slot} {lv : List (Option Value)} {i : Nat} {v : Value} (h : lv_has ls' lv.length ((i, vm_v ad v) :: (vm_as ad 0 lv).filter (fun q => !(q.1 == i) && (!(q.1 == i + 1) && !(q.1 + 1 == i && q.2.category == 2))))) : vm_l ad ls' (vm_s2 lv i v) := by
  refine ⟨by rw [vm_s2_len]; exact h.1, h.2.1, fun q hq => h.2.2 q ?_⟩
  obtain ⟨k, w, h1, h2, h3⟩ := (vm_as_mem ad _ 0 q).mp hq
  rw [Nat.zero_add] at h1
  rcases vm_s2_get _ _ _ _ _ h2 with ⟨e1, e2⟩ | ⟨e1, e0, e2, e3⟩
  · exact List.mem_cons.mpr (Or.inl (Prod.ext (by rw [h1, e1]) (by rw [h3, e2])))
  · refine List.mem_cons.mpr (Or.inr (List.mem_filter.mpr ⟨(vm_as_mem ad lv 0 q).mpr ⟨k, w, by omega, e2, h3⟩, ?_⟩))
    rw [h1, h3, vm_v_cat]
    by_cases hk : k + 1 = i
    · have : ¬ w.category = 2 := fun z => e3 ⟨hk, z⟩
      simp [e1, e0, this]
    · simp [e1, e0, hk]
