/-! the law's start: the world is made, and stands in the relation -/
def xc_m1 (i : Nat) : Nat → Int32 := if i = 2 ∨ i = 155 then xc_I4 else if i = 10 ∨ i = 167 then xc_wl (-1) 192 else fun _ => 0
def xc_mu : xs_M := (xc_m1, fun _ _ => 0)
theorem xc_I4_b : ∀ j, j < 16 → -511 ≤ (xc_I4 j).toInt ∧ (xc_I4 j).toInt ≤ 511 := by decide +kernel
theorem pv_init : pv_I xc_mu := by
  refine pv_I.mk (fun j hj => ⟨rfl, xc_I4_b j hj⟩) (fun j _ => ⟨rfl, (by decide : -511 ≤ (0 : Int32).toInt), (by decide : (0 : Int32).toInt ≤ 511)⟩) ⟨0, Nat.zero_le _, rfl, rfl⟩ ⟨0, Nat.zero_le _, rfl, rfl⟩ ⟨0, Nat.zero_le _, rfl, rfl⟩ ⟨0, Nat.zero_le _, rfl, rfl⟩ (fun a b c _ _ _ => rfl) ⟨0, 0, ⟨by omega, by omega, fun _ => rfl⟩, ⟨rfl, rfl, rfl⟩, fun k n _ h => absurd h (by omega), fun k h => absurd h (Nat.not_lt_zero k)⟩ (fun p hp => ⟨rfl, rfl, Or.inl ?_⟩)
  show xc_wl (-1) 192 p = -1
  unfold xc_wl
  rw [if_pos hp]
theorem xc_m1_tri {i : Nat} (h1 : 14 ≤ i) (h2 : i < 154) : xc_m1 i = fun _ => 0 := by
  unfold xc_m1
  rw [if_neg (by omega), if_neg (by omega)]
theorem xc_TR_get (cs : xs_cs) (N q : Nat) {u j : Nat} (hj : j < 7) : ∀ t, u < t → (xc_TR cs N q t)[7 * u + j]? = (xs_L3 (fun i => N + i) cs (q + (14 + 7 * u)) (fun _ => 0) (fun _ => 0))[j]? := by
  intro t
  induction t with
  | zero => intro h; omega
  | succ t ih =>
    intro h
    unfold xc_TR
    by_cases hu : u < t
    · rw [List.getElem?_append_left (by rw [xc_TR_len]; omega)]
      exact ih hu
    · have hu : u = t := by omega
      subst hu
      rw [List.getElem?_append_right (by rw [xc_TR_len]; omega), xc_TR_len, show 7 * u + j - 7 * u = j by omega]
def xc_all (cs : xs_cs) (N : Nat) : List va_E := (xc_B cs N 0 (xc_af N 0 20) ++ xc_TR cs N 0 20) ++ xc_LR cs N 154 192 ++ [xs_al cs 1 (fun _ => 0)]
theorem xc_all_1 (cs : xs_cs) (N : Nat) {k : Nat} (h : k < 14) : (xc_all cs N)[k]? = (xc_B cs N 0 (xc_af N 0 20))[k]? := by
  unfold xc_all
  rw [List.append_assoc, List.append_assoc, List.getElem?_append_left (by show k < 14; exact h)]
theorem xc_all_2 (cs : xs_cs) (N : Nat) {k : Nat} (h : k < 140) : (xc_all cs N)[14 + k]? = (xc_TR cs N 0 20)[k]? := by
  unfold xc_all
  rw [List.append_assoc, List.append_assoc, List.getElem?_append_right (by show 14 ≤ 14 + k; omega), show 14 + k - (xc_B cs N 0 (xc_af N 0 20)).length = k by show 14 + k - 14 = k; omega, List.getElem?_append_left (by rw [xc_TR_len]; omega)]
theorem xc_all_3 (cs : xs_cs) (N : Nat) (k : Nat) : (xc_all cs N)[154 + k]? = (xc_LR cs N 154 192 ++ [xs_al cs 1 (fun _ => 0)])[k]? := by
  unfold xc_all
  rw [List.append_assoc, List.getElem?_append_right (by rw [xc_BT_len]; omega), xc_BT_len, show 154 + k - (14 + 7 * 20) = k by omega]
theorem xc_fin_c {cs : xs_cs} {N k : Nat} (hk : k < 172) (h13 : k ≠ 13) : (xc_all cs N)[k]? = some (xs_cell (fun i => N + i) cs k (xc_mu.1 k) (xc_mu.2 k)) := by
  by_cases h1 : k < 14
  · rw [xc_all_1 cs N h1]
    match k, h1, h13 with
    | 0, _, _ => rfl
    | 1, _, _ => rfl
    | 2, _, _ => rfl
    | 3, _, _ => rfl
    | 4, _, _ => rfl
    | 5, _, _ => rfl
    | 6, _, _ => rfl
    | 7, _, _ => rfl
    | 8, _, _ => rfl
    | 9, _, _ => unfold xc_B; rw [xc_wl_0]; rfl
    | 10, _, _ => rfl
    | 11, _, _ => rfl
    | 12, _, _ => rfl
    | 13, _, h => exact absurd rfl h
    | n + 14, h, _ => exact absurd h (by omega)
  · by_cases h2 : k < 154
    · obtain ⟨u, j, hu, hj, rfl⟩ : ∃ u j, u < 20 ∧ j < 7 ∧ k = 14 + 7 * u + j := ⟨(k - 14) / 7, (k - 14) % 7, by omega, by omega, by omega⟩
      have e : (xc_all cs N)[14 + 7 * u + j]? = (xs_L3 (fun i => N + i) cs (14 + 7 * u) (fun _ => 0) (fun _ => 0))[j]? := by
        rw [Nat.add_assoc, xc_all_2 cs N (by omega), xc_TR_get cs N 0 hj 20 hu, Nat.zero_add]
      rw [e, xs_c3 _ _ _ _ hu j hj]
      rw [show xc_mu.1 (14 + 7 * u + j) = fun _ => 0 from xc_m1_tri (by omega) (by omega)]
      match j, hj with
      | 0, _ => rfl
      | 1, _ => rfl
      | 2, _ => rfl
      | 3, _ => rfl
      | 4, _ => rfl
      | 5, _ => rfl
      | 6, _ => rfl
      | n + 7, h => exact absurd h (by omega)
    · obtain ⟨j, hj, rfl⟩ : ∃ j, j < 18 ∧ k = 154 + j := ⟨k - 154, by omega, by omega⟩
      rw [xc_all_3]
      match j, hj with
      | 0, _ => rfl
      | 1, _ => rfl
      | 2, _ => rfl
      | 3, _ => rfl
      | 4, _ => rfl
      | 5, _ => rfl
      | 6, _ => rfl
      | 7, _ => rfl
      | 8, _ => rfl
      | 9, _ => rfl
      | 10, _ => rfl
      | 11, _ => rfl
      | 12, _ => rfl
      | 13, _ => rfl
      | 14, _ => rfl
      | 15, _ => rfl
      | 16, _ => rfl
      | 17, _ => rfl
      | n + 18, h => exact absurd h (by omega)
theorem xc_arrV (cI : ClassId) {n : Nat} {f g : Nat → Value} (h : ∀ j, j < n → f j = g j) : arrV cI n f = arrV cI n g := by
  unfold arrV
  rw [show (fun j : Fin n => f j.val) = (fun j : Fin n => g j.val) from funext fun j => h j.val j.isLt]
theorem xc_fin {D : va_G} {cs : xs_cs} {N : Nat} {ct : Nat → va_E} {H : Heap} (h : va_P D classes (xc_W N 172 (xc_L ct 0 (xc_all cs N))) H) : va_P D classes (xs_W (fun i => N + i) cs xc_mu) H := by
  intro k x hk
  have hk2 : k < 172 := by
    have := (List.getElem?_eq_some_iff.mp hk).1
    rw [xs_len] at this
    exact this
  rw [xs_get _ _ _ hk2] at hk
  cases hk
  have h1 := h k _ (xc_get N _ hk2)
  by_cases h13 : k = 13
  · subst h13
    have e : xc_L ct 0 (xc_all cs N) (0 + 13) = .inl (cs.2.2, 20, .inr (.inr (.inr (.inr (xc_af N 0 20))))) := xc_L_get (by rw [xc_all_1 cs N (by omega)]; rfl)
    rw [Nat.zero_add] at e
    rw [e] at h1
    have h1 : H[N + 13]? = some (vp_cell cs.2.2 (20, .inr (.inr (.inr (.inr (xc_af N 0 20)))))) := h1
    show H[N + 13]? = some (vp_cell cs.2.2 (20, .inr (.inr (.inr (.inr (fun k => some (N + (14 + 7 * k))))))))
    rw [h1, vp_cell_q, vp_cell_q]
    refine congrArg some (xc_arrV _ (fun j hj => ?_))
    unfold xc_af
    rw [if_pos hj, Nat.zero_add]
  · have e : xc_L ct 0 (xc_all cs N) (0 + k) = _ := xc_L_get (xc_fin_c hk2 h13)
    rw [Nat.zero_add] at e
    rw [e] at h1
    exact h1
theorem xs_isN_t {w : Cond} (h : xs_isN w = true) : w.onTables = true := by
  cases w
  case fieldLinkNest => rfl
  case methodLinkNest => rfl
  all_goals exact Bool.noConfusion h
theorem xt_F_t {w : Cond} (h : xt_F w = true) : w.onTables = true := by
  unfold xt_F at h
  rw [Bool.and_eq_true] at h
  exact h.1
