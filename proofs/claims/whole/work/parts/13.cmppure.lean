/-! ===== comparison of rows of bytes ===== -/
def lexc : List Nat → List Nat → Int32
  | [], [] => 0
  | [], _ :: _ => -1
  | _ :: _, [] => 1
  | a :: l, b :: k => if a < b then -1 else if b < a then 1 else lexc l k
theorem lexc_eq {a : Nat} {l k : List Nat} : lexc (a :: l) (a :: k) = lexc l k := by
  show (if a < a then (-1 : Int32) else if a < a then 1 else lexc l k) = _
  rw [if_neg (Nat.lt_irrefl a), if_neg (Nat.lt_irrefl a)]
theorem lexc_ne {a b : Nat} {l k : List Nat} (h : a ≠ b) : lexc (a :: l) (b :: k) = if a < b then -1 else 1 := by
  show (if a < b then (-1 : Int32) else if b < a then 1 else lexc l k) = _
  by_cases h1 : a < b
  · rw [if_pos h1, if_pos h1]
  · rw [if_neg h1, if_neg h1, if_pos (by omega)]
theorem lexc_end {l k : List Nat} (h : l = [] ∨ k = []) : lexc l k = if l.length < k.length then -1 else if l.length = k.length then 0 else 1 := by
  cases l with
  | nil =>
    cases k with
    | nil => rfl
    | cons b k => rw [if_pos (by simp)]; rfl
  | cons a l =>
    cases k with
    | nil => rw [if_neg (by simp), if_neg (by simp)]; rfl
    | cons b k => rcases h with h | h <;> cases h
/-- two lists from their j-th place on -/
theorem lexc_drop {l k : List Nat} {j : Nat} (h1 : j < l.length) (h2 : j < k.length) : lexc (l.drop j) (k.drop j) = if l[j] = k[j] then lexc (l.drop (j + 1)) (k.drop (j + 1)) else if l[j] < k[j] then -1 else 1 := by
  rw [List.drop_eq_getElem_cons h1, List.drop_eq_getElem_cons h2]
  by_cases h : l[j] = k[j]
  · rw [if_pos h, h, lexc_eq]
  · rw [if_neg h, lexc_ne h]
theorem yfr_lt {Y : Nat → Nat} (hY : ∀ j, Y j < 256) : ∀ m a, ∀ b ∈ yfr Y a m, b < 256
  | 0, _, b, h => by cases h
  | m + 1, a, b, h => by
    rcases List.mem_cons.mp h with e | e
    · rw [e]; exact hY a
    · exact yfr_lt hY m (a + 1) b e
theorem hkd_le {k n : Nat} (h : k ≤ 6) : hkd k n ≤ 7 := by
  unfold hkd
  split <;> omega
theorem nby_lt {k n c : Nat} {bs : List Nat} (hk : k ≤ 6) (h : ∀ b ∈ bs, b < 256) : ∀ b ∈ nby k n c bs, b < 256 := by
  intro b hb
  unfold nby at hb
  rcases List.mem_append.mp hb with e | e
  · exact hd_lt (hkd_le hk) _ b e
  · rcases List.mem_append.mp e with e | e
    · split at e
      · exact h b e
      · cases e
    · split at e
      · exact hd_lt (by omega) _ b e
      · cases e
theorem lb_small {c : Nat} (h : c ≤ 200) : nb (lb c) ≤ 1 := by
  have : ∀ c, c ≤ 200 → nb (lb c) ≤ 1 := by decide +kernel
  exact this c h
theorem nln_le {k n c : Nat} (hk : k ≤ 6) (h2 : k = 2 → c ≤ 64) (hc : c ≤ 200) : nln k n c ≤ 66 := by
  have h1 := lb_small hc
  have h3 := nb_le (lb_le (hnm k n c))
  unfold nln
  by_cases e2 : k = 2
  · have e : hnm k n c = c := by unfold hnm; rw [if_neg (by omega), if_neg (by omega)]
    rw [e, if_pos e2, if_neg (by omega)]
    have := h2 e2
    omega
  · rw [if_neg e2]
    split <;> omega
theorem gw_inS2 {own : String} {idx : Nat} {y : MethodName} {c : ByteArray} {m : Nat} {r : Option FieldType} (h1 : Cond.methodLink own idx y ∈ gw) (h2 : Cond.static y ∈ gw) (h4 : Cond.initialized y.cls ∈ gw) (h5 : Cond.code y c m r ∈ gw) : GoodIn gw (va_wsS own idx y (.code y c m r :: gw)) := fun w hw => by
  rcases List.mem_append.mp hw with e | e
  · rcases List.mem_cons.mp e with e | e
    · rw [e]; exact gw_good h1
    rcases List.mem_cons.mp e with e | e
    · rw [e]; exact gw_good h2
    rcases List.mem_cons.mp e with e | e
    · rw [e]; exact gw_good h4
    · cases e
  · exact gw_in h5 w e
