/-- the fixed things of a run: the classes' numbers, the arrays' classes, the heap at the law's start, the script's cell, the text's cell, the script's length, its ints, what is known of the text -/
abbrev EE : Type := va_G × (Nat → ClassId) × Heap × Nat × Nat × Nat × (Nat → Int32) × (State → Prop)
abbrev eD (E : EE) : va_G := E.1
abbrev eA (E : EE) : Nat → ClassId := E.2.1
abbrev eH (E : EE) : Heap := E.2.2.1
abbrev eb (E : EE) : Nat := E.2.2.2.1
abbrev es (E : EE) : Nat := E.2.2.2.2.1
abbrev eL (E : EE) : Nat := E.2.2.2.2.2.1
abbrev ex (E : EE) : Nat → Int32 := E.2.2.2.2.2.2.1
abbrev eT (E : EE) : State → Prop := E.2.2.2.2.2.2.2
abbrev eB (E : EE) : Nat := (eH E).size
def ad (E : EE) (k : Nat) : Nat := match k with
  | 0 => eb E
  | 1 => es E
  | k + 2 => eB E + k
def cvv (E : EE) (v : Value) : Value := match v with
  | .ref k => .ref (ad E k)
  | v => v
def tysE (E : EE) : List (ClassId × FieldType) := [(eA E 0, .int), (eA E 1, .char), (eA E 2, .long), (eA E 3, .object RX3), (eA E 4, .object RX2)]
def cvE (E : EE) (t : AT) (f : Nat → Int32) (fl : Nat → Int64) : va_E :=
  if t.1 = 0 ∨ t.1 = 1 then .inl (eA E t.1, t.2.1, .inl f)
  else if t.1 = 2 then .inl (eA E 2, t.2.1, .inr (.inl fl))
  else if t.1 = 3 ∨ t.1 = 4 then .inl (eA E t.1, t.2.1, .inr (.inr (.inr (.inr (fun j => (t.2.2 j).map (ad E))))))
  else .inr (t.1 - 10, (List.range (nF (t.1 - 10))).map (fun k => cvv E (fV (t.1 - 10) k t f)))
def wsq (B N : Nat) (F : Nat → va_E) : va_W := (List.range N).map (fun k => (B + k, F (k + 2)))
theorem wsq_len {B N : Nat} {F : Nat → va_E} : (wsq B N F).length = N := by simp [wsq]
theorem wsq_get {B N k : Nat} {F : Nat → va_E} (h : k < N) : (wsq B N F)[k]? = some (B + k, F (k + 2)) := by
  simp [wsq, List.getElem?_map, List.getElem?_range h]
theorem wsq_at {B N k : Nat} {F : Nat → va_E} {q : Nat × va_E} (h : (wsq B N F)[k]? = some q) : k < N ∧ q = (B + k, F (k + 2)) := by
  have hk : k < N := by
    have := (List.getElem?_eq_some_iff.mp h).1
    rwa [wsq_len] at this
  rw [wsq_get hk] at h
  exact ⟨hk, (Option.some.inj h).symm⟩
theorem wsq_congr {B N : Nat} {F G : Nat → va_E} (h : ∀ k, k < N → F (k + 2) = G (k + 2)) : wsq B N F = wsq B N G := by
  unfold wsq
  apply List.map_congr_left
  intro k hk
  rw [h k (List.mem_range.mp hk)]
theorem wsq_set {B N k : Nat} {F G : Nat → va_E} (hk : k < N) (h : ∀ q, q ≠ k + 2 → G q = F q) : (wsq B N F).set k (B + k, G (k + 2)) = wsq B N G := by
  apply List.ext_getElem?
  intro j
  by_cases hj : j = k
  · subst hj
    rw [List.getElem?_set_self (by rw [wsq_len]; exact hk), wsq_get hk]
  · rw [List.getElem?_set_ne (Ne.symm hj)]
    by_cases hl : j < N
    · rw [wsq_get hl, wsq_get hl, h (j + 2) (by omega)]
    · rw [List.getElem?_eq_none (by rw [wsq_len]; omega), List.getElem?_eq_none (by rw [wsq_len]; omega)]
theorem wsq_push {B N : Nat} {F G : Nat → va_E} (h : ∀ q, q ≠ N + 2 → G q = F q) : wsq B N F ++ [(B + N, G (N + 2))] = wsq B (N + 1) G := by
  have e : wsq B (N + 1) G = wsq B N G ++ [(B + N, G (N + 2))] := by simp [wsq, List.range_succ]
  rw [e]
  congr 1
  exact wsq_congr (fun k hk => (h (k + 2) (by omega)).symm)
theorem wsq_D {B N : Nat} {F : Nat → va_E} : va_D (fun q => B ≤ q) (wsq B N F) := by
  refine ⟨fun i j p q hi hj e => ?_, fun k q hk => ?_⟩
  · obtain ⟨-, rfl⟩ := wsq_at hi
    obtain ⟨-, rfl⟩ := wsq_at hj
    simp only at e
    omega
  · obtain ⟨-, rfl⟩ := wsq_at hk
    exact Nat.le_add_right _ _
def FF (E : EE) (μ : Mm) : Nat → va_E := fun a => cvE E (μ.1.getD a (99, 0, fun _ => none)) (μ.2.1 a) (μ.2.2 a)
def WS (E : EE) (μ : Mm) : va_W := wsq (eB E) (μ.1.length - 2) (FF E μ)
def Rl (E : EE) (μ : Mm) (H : Heap) : Prop := 2 ≤ μ.1.length ∧ H.size = eB E + (μ.1.length - 2) ∧ va_P (eD E) vwCl (WS E μ) H ∧ (∀ q : Nat, q < eB E → H[q]? = (eH E)[q]?) ∧ (∃ r0, μ.1[0]? = some (5, eL E, r0)) ∧ μ.2.1 0 = ex E ∧ ∃ n1 r1, μ.1[1]? = some (6, n1, r1)
def KK (E : EE) (U : State) : Prop := va_K (eD E) vwCl (tysE E) U ∧ va_X (eb E) (eL E) (ex E) U (eH E) ∧ va_AO RX3 U ∧ va_AO RX2 U ∧ va_Nw (.methodLinkNest RX6 48 yX4_init RX6) U ∧ va_Nw (.methodLinkNest RX5 76 yX6_within RX6) U ∧ eT E U
def LR (E : EE) (ls : Array Slot) (n : Nat) (L : Ls) : Prop := ls.size = n ∧ L.length = n ∧ lv_wf ls ∧ ∀ (i : Nat) (v : Value), L[i]? = some (some v) → ls[i]? = some (.val (cvv E v))
def szT (t : AT) : Nat := if t.1 < 10 then t.2.1 else nF (t.1 - 10)
def slt (μ : Mm) : Nat := (μ.1.map szT).sum
theorem cvv_cat (E : EE) (v : Value) : (cvv E v).category = v.category := by cases v <;> rfl
theorem cvv_sum (E : EE) (S : List Value) : ((S.map (cvv E)).map fun v => v.category).sum = (S.map fun v => v.category).sum := by
  rw [List.map_map]
  congr 1
  apply List.map_congr_left
  intro v _
  exact cvv_cat E v
theorem cvv_rf (E : EE) (r : Option Nat) : cvv E (rfV r) = va_rf (r.map (ad E)) := by cases r <;> rfl
theorem ad_2 {E : EE} {a : Nat} (h : 2 ≤ a) : ad E a = eB E + (a - 2) := by
  obtain ⟨k, rfl⟩ : ∃ k, a = k + 2 := ⟨a - 2, by omega⟩
  simp [ad]
theorem getD_of {μ : Mm} {a : Nat} {t : AT} (h : μ.1[a]? = some t) : μ.1.getD a (99, 0, fun _ => none) = t := by
  rw [List.getD_eq_getElem?_getD, h]
  rfl
theorem Rl.two {E : EE} {μ : Mm} {H : Heap} (h : Rl E μ H) {a : Nat} {t : AT} (ha : μ.1[a]? = some t) (h5 : t.1 ≠ 5) (h6 : t.1 ≠ 6) : 2 ≤ a := by
  obtain ⟨-, -, -, -, ⟨r0, h0⟩, -, n1, r1, h1⟩ := h
  rcases a with _ | _ | a
  · rw [h0] at ha
    cases ha
    exact absurd rfl h5
  · rw [h1] at ha
    cases ha
    exact absurd rfl h6
  · omega
theorem WS_get {E : EE} {μ : Mm} {a : Nat} {t : AT} (ha : μ.1[a]? = some t) (h2 : 2 ≤ a) : (WS E μ)[a - 2]? = some (ad E a, cvE E t (μ.2.1 a) (μ.2.2 a)) := by
  have hl := (List.getElem?_eq_some_iff.mp ha).1
  unfold WS
  rw [wsq_get (by omega), ad_2 h2]
  have e : a - 2 + 2 = a := by omega
  rw [e]
  unfold FF
  rw [getD_of ha]
theorem WS_set {E : EE} {μ μ' : Mm} {a : Nat} (hl : μ'.1.length = μ.1.length) (ha : a < μ.1.length) (h2 : 2 ≤ a) {e : va_E} (he : FF E μ' a = e) (hne : ∀ q, q ≠ a → FF E μ' q = FF E μ q) : (WS E μ).set (a - 2) (ad E a, e) = WS E μ' := by
  unfold WS
  have e2 : a - 2 + 2 = a := by omega
  rw [hl, ad_2 h2, ← he]
  have := wsq_set (B := eB E) (N := μ.1.length - 2) (k := a - 2) (F := FF E μ) (G := FF E μ') (by omega) (by rw [e2]; exact hne)
  rw [e2] at this
  exact this
theorem FF_int {E : EE} {μ : Mm} {a : Nat} {g : Nat → Int32} : ∀ q, q ≠ a → FF E (μ.1, va_up μ.2.1 a g, μ.2.2) q = FF E μ q := by
  intro q hq
  simp [FF, va_up, hq]
theorem FF_int_at {E : EE} {μ : Mm} {a : Nat} {t : AT} {g : Nat → Int32} (ha : μ.1[a]? = some t) : FF E (μ.1, va_up μ.2.1 a g, μ.2.2) a = cvE E t g (μ.2.2 a) := by
  have e := getD_of ha
  simp only [FF, va_up, if_pos]
  rw [e]
theorem FF_long {E : EE} {μ : Mm} {a : Nat} {g : Nat → Int64} : ∀ q, q ≠ a → FF E (μ.1, μ.2.1, va_up μ.2.2 a g) q = FF E μ q := by
  intro q hq
  simp [FF, va_up, hq]
theorem FF_long_at {E : EE} {μ : Mm} {a : Nat} {t : AT} {g : Nat → Int64} (ha : μ.1[a]? = some t) : FF E (μ.1, μ.2.1, va_up μ.2.2 a g) a = cvE E t (μ.2.1 a) g := by
  have e := getD_of ha
  simp only [FF, va_up, if_pos]
  rw [e]
theorem FF_ref {E : EE} {μ : Mm} {a : Nat} {t' : AT} : ∀ q, q ≠ a → FF E (μ.1.set a t', μ.2) q = FF E μ q := by
  intro q hq
  simp only [FF, List.getD_eq_getElem?_getD]
  rw [List.getElem?_set_ne (Ne.symm hq)]
theorem FF_ref_at {E : EE} {μ : Mm} {a : Nat} {t' : AT} (ha : a < μ.1.length) : FF E (μ.1.set a t', μ.2) a = cvE E t' (μ.2.1 a) (μ.2.2 a) := by
  simp only [FF, List.getD_eq_getElem?_getD]
  rw [List.getElem?_set_self ha]
  rfl
theorem cvE_obj {E : EE} {t : AT} {f : Nat → Int32} {fl : Nat → Int64} {ci : Nat} (h : t.1 = ci + 10) : cvE E t f fl = .inr (ci, (List.range (nF ci)).map (fun k => cvv E (fV ci k t f))) := by
  unfold cvE
  rw [if_neg (by omega), if_neg (by omega), if_neg (by omega), show t.1 - 10 = ci by omega]
theorem cvE_i {E : EE} {t : AT} {f : Nat → Int32} {fl : Nat → Int64} (h : t.1 = 0 ∨ t.1 = 1) : cvE E t f fl = .inl (eA E t.1, t.2.1, .inl f) := by
  unfold cvE
  rw [if_pos h]
theorem cvE_l {E : EE} {t : AT} {f : Nat → Int32} {fl : Nat → Int64} (h : t.1 = 2) : cvE E t f fl = .inl (eA E 2, t.2.1, .inr (.inl fl)) := by
  unfold cvE
  rw [if_neg (by omega), if_pos h]
theorem cvE_r {E : EE} {t : AT} {f : Nat → Int32} {fl : Nat → Int64} (h : t.1 = 3 ∨ t.1 = 4) : cvE E t f fl = .inl (eA E t.1, t.2.1, .inr (.inr (.inr (.inr (fun j => (t.2.2 j).map (ad E)))))) := by
  unfold cvE
  rw [if_neg (by omega), if_neg (by omega), if_pos h]
/-- the classes' tables, by number -/
theorem vw_get {ci : Nat} (h : ci < 8) : vwCl[ci]? = some (RC ci, TC ci, nF ci) := by
  match ci, h with
  | 0, _ => rfl
  | 1, _ => rfl
  | 2, _ => rfl
  | 3, _ => rfl
  | 4, _ => rfl
  | 5, _ => rfl
  | 6, _ => rfl
  | 7, _ => rfl
theorem in_ws {ci : Nat} (h : ci < 8) : ∀ w ∈ u_ws (RC ci) (TC ci) (nF ci), w ∈ wsL_law := by
  match ci, h with
  | 0, _ => exact inlX0
  | 1, _ => exact inlX1
  | 2, _ => exact inlX2
  | 3, _ => exact inlX3
  | 4, _ => exact inlX4
  | 5, _ => exact inlX5
  | 6, _ => exact inlX6
  | 7, _ => exact inlX7
def tyC (c : Nat) : Nat → FieldType := match c with
  | 0 => tyX0
  | 1 => tyX1
  | 2 => tyX2
  | 3 => tyX3
  | 4 => tyX4
  | 5 => tyX5
  | 6 => tyX6
  | _ => tyX7
theorem tyC_ok {ci : Nat} (h : ci < 8) : ∀ k, k < nF ci → parseFieldDescriptor (TC ci k).2.2.1 = some (tyC ci k) := by
  match ci, h with
  | 0, _ => exact tyX0_ok
  | 1, _ => exact tyX1_ok
  | 2, _ => exact tyX2_ok
  | 3, _ => exact tyX3_ok
  | 4, _ => exact tyX4_ok
  | 5, _ => exact tyX5_ok
  | 6, _ => exact tyX6_ok
  | 7, _ => exact tyX7_ok
theorem nmC {ci : Nat} (h : ci < 8) : ∀ a, a < nF ci → ∀ b, b < nF ci → a ≠ b → (TC ci a).2.1 ≠ (TC ci b).2.1 := by
  match ci, h with
  | 0, _ => exact nmX0
  | 1, _ => exact nmX1
  | 2, _ => exact nmX2
  | 3, _ => exact nmX3
  | 4, _ => exact nmX4
  | 5, _ => exact nmX5
  | 6, _ => exact nmX6
  | 7, _ => exact nmX7
def rTy (t : FieldType) : Bool := match t with
  | .array _ => true
  | .object _ => true
  | _ => false
theorem tyC_0 : ∀ c, c < 8 → ∀ k, k < nF c → fTy c k = 0 → tyC c k = .int := by decide +kernel
theorem tyC_1 : ∀ c, c < 8 → ∀ k, k < nF c → fTy c k = 1 → tyC c k = .boolean := by decide +kernel
theorem tyC_2 : ∀ c, c < 8 → ∀ k, k < nF c → fTy c k = 2 → rTy (tyC c k) = true := by decide +kernel
theorem tyC_own : ∀ c, c < 8 → ∀ k, k < nF c → (TC c k).1 = RC c := by decide +kernel
theorem tyC_def : ∀ c, c < 8 → ∀ k, k < nF c → defaultValue (tyC c k) = if fTy c k = 2 then Value.null else .int 0 := by decide +kernel
theorem nar_r {t : FieldType} (h : rTy t = true) (q : Nat) : narrow t (.ref q) = .ref q ∧ fits t (.ref q) = true := by cases t <;> first | (exact ⟨rfl, rfl⟩) | (cases h)
theorem KK_moved {E : EE} {s U : State} (hT : ∀ {s U : State}, s.WarmedH U.vm → eT E s → eT E U) (hW : s.WarmedH U.vm) (h : KK E s) : KK E U :=
  ⟨va_K.moved hW.alike h.1, va_X.moved hW.alike h.2.1, va_AO.moved hW.alike h.2.2.1, va_AO.moved hW.alike h.2.2.2.1, va_Nw.warmM hW h.2.2.2.2.1, va_Nw.warmM hW h.2.2.2.2.2.1, hT hW h.2.2.2.2.2.2⟩
theorem W_sized {p : Program} {l : Launch} {e : Env} {R : Room} {s : State} {m : MethodId} {args : Array Value} {below : List Frame} {meth : Method} {c : Code} {H : Heap} {locs : List Loc} {cells slots : Nat} {Q : State → Prop} {g : JFrame}
    (h : H.size ≤ s.heap.size + cells → W p l e R s m args below meth c H locs cells slots Q g) : W p l e R s m args below meth c H locs cells slots Q g :=
  fun T hT X => h (by rw [← hT]; exact X.heapSize) T hT X
