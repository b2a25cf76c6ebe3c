/-- the cell at place j: a new one, if j is among the places -/
def ovl (j : Nat) (x : Nat × va_E) : List Nat → va_W → Nat × va_E
  | [], _ => x
  | _ :: _, [] => x
  | i :: is, w :: ws => bif Nat.beq i j then w else ovl j x is ws
/-- a world with new cells at some places -/
def ovr (is : List Nat) (ws : va_W) : Nat → va_W → va_W
  | _, [] => []
  | j, x :: xs => ovl j x is ws :: ovr is ws (j + 1) xs
theorem ovr_get (is : List Nat) (ws : va_W) : ∀ (X : va_W) (j k : Nat), (ovr is ws j X)[k]? = (X[k]?).map (fun x => ovl (j + k) x is ws)
  | [], j, k => by rw [ovr]; simp
  | x :: xs, j, 0 => by rw [ovr]; simp
  | x :: xs, j, k + 1 => by
    rw [ovr, List.getElem?_cons_succ, List.getElem?_cons_succ, ovr_get is ws xs (j + 1) k, show j + 1 + k = j + (k + 1) by omega]
theorem ovl_no : ∀ (is : List Nat) (ws : va_W) (j : Nat) (x : Nat × va_E), j ∉ is → ovl j x is ws = x
  | [], _, _, _, _ => by rw [ovl]
  | _ :: _, [], _, _, _ => by rw [ovl]
  | i :: is, w :: ws, j, x, h => by
    have h1 : Nat.beq i j = false := by
      cases hb : Nat.beq i j with
      | false => rfl
      | true => exact absurd (by rw [Nat.eq_of_beq_eq_true hb]; exact List.mem_cons_self) h
    rw [ovl, h1]
    exact ovl_no is ws j x (fun z => h (List.mem_cons_of_mem _ z))
theorem setAll_get : ∀ (is : List Nat) (ws X : va_W) (k : Nat), va_nd is = true → (setAll X is ws)[k]? = (X[k]?).map (fun x => ovl k x is ws)
  | [], ws, X, k, _ => by
    rw [setAll]
    have : (fun x => ovl k x [] ws) = id := by funext x; rw [ovl]; rfl
    rw [this, Option.map_id]; rfl
  | i :: is, [], X, k, _ => by
    rw [setAll]
    have : (fun x => ovl k x (i :: is) []) = id := by funext x; rw [ovl]; rfl
    rw [this, Option.map_id]; rfl
  | i :: is, w :: ws, X, k, hn => by
    simp only [va_nd, Bool.and_eq_true, decide_eq_true_eq] at hn
    rw [setAll, setAll_get is ws (X.set i w) k hn.2]
    by_cases e : i = k
    · subst e
      by_cases hl : i < X.length
      · rw [List.getElem?_set_self hl, List.getElem?_eq_getElem hl, Option.map_some, Option.map_some, ovl_no is ws i w hn.1, ovl, Nat.beq_refl i]; rfl
      · rw [List.getElem?_eq_none (by rw [List.length_set]; omega), List.getElem?_eq_none (by omega)]; rfl
    · have h1 : Nat.beq i k = false := by
        cases hb : Nat.beq i k with
        | false => rfl
        | true => exact absurd (Nat.eq_of_beq_eq_true hb) e
      rw [List.getElem?_set_ne e]
      congr 1
      funext x
      rw [ovl, h1]; rfl
theorem ovr_setAll {is : List Nat} {ws X : va_W} (hn : va_nd is = true) : setAll X is ws = ovr is ws 0 X := by
  apply List.ext_getElem?
  intro k
  rw [setAll_get is ws X k hn, ovr_get, Nat.zero_add]
theorem gCutO {X wc wc' X' : va_W} {is : List Nat} (h1 : is.map (fun i => X[i]?) = wc.map some) (h2 : (va_nd is && (is.length == wc'.length)) = true) (h3 : ovr is wc' 0 X = X') : gCutS X wc wc' X' is := by
  refine ⟨h1, h2, ?_⟩
  simp only [Bool.and_eq_true] at h2
  rw [ovr_setAll h2.1]; exact h3
