/-! THE LAYER, fifth part: whole numbers on the stack; places of cells. -/
theorem iI_add (a b : Int) : iI a + iI b = iI (a + b) := (Int32.ofInt_add a b).symm
theorem iI_sub (a b : Int) : iI a - iI b = iI (a - b) := (Int32.ofInt_sub a b).symm
theorem iI_mul (a b : Int) : iI a * iI b = iI (a * b) := (Int32.ofInt_mul a b).symm
theorem iI_lt {a b : Int} (ha : iR a) (hb : iR b) : iI a < iI b ↔ a < b := by
  rw [Int32.lt_iff_toInt_lt, iI_toInt ha, iI_toInt hb]
theorem iI_le {a b : Int} (ha : iR a) (hb : iR b) : iI a ≤ iI b ↔ a ≤ b := by
  rw [Int32.le_iff_toInt_le, iI_toInt ha, iI_toInt hb]
theorem iI_eq {a b : Int} (ha : iR a) (hb : iR b) : iI a = iI b ↔ a = b := by
  rw [← Int32.toInt_inj, iI_toInt ha, iI_toInt hb]
theorem iI_nat {n : Nat} (h : n < 2147483648) : iI (n : Int) = nI n := by
  rw [← Int32.toInt_inj, iI_toInt ⟨by omega, by omega⟩, nI_toInt (by omega)]
theorem iI_rem {a d : Int} (ha : 0 ≤ a) (ha2 : a < 2147483648) (h0 : 0 < d) (hd : d < 2147483648) : iI a - iI a / iI d * iI d = iI (a % d) := by
  obtain ⟨n, rfl⟩ := Int.eq_ofNat_of_zero_le ha
  obtain ⟨k, rfl⟩ := Int.eq_ofNat_of_zero_le (Int.le_of_lt h0)
  rw [iI_nat (by omega), iI_nat (by omega), pk_rem (by omega) (by omega) (by omega)]
  rw [← Int.natCast_emod, iI_nat]
  have := Nat.mod_lt n (show 0 < k by omega)
  omega
/-- a sub-list of cells, and the others, by their places -/
theorem z_places {ws w : va_W} (is : List Nat) (hp : is.isPerm (List.range ws.length) = true) (h : is.map (fun i => ws[i]?) = w.map some) : ws.Perm w := by
  have h1 : (is.map (fun i => ws[i]?)).Perm ((List.range ws.length).map (fun i => ws[i]?)) := (List.isPerm_iff.mp hp).map _
  have h2 : (List.range ws.length).map (fun i => ws[i]?) = ws.map some := by
    apply List.ext_getElem?
    intro i
    rw [List.getElem?_map, List.getElem?_map]
    by_cases hi : i < ws.length
    · rw [List.getElem?_range hi]
      simp [hi]
    · rw [List.getElem?_eq_none (by simp; omega), List.getElem?_eq_none (by omega)]
      rfl
  rw [h, h2] at h1
  have h3 := h1.symm.filterMap id
  simpa [List.filterMap_map] using h3
theorem z_placesT {ws w tl : va_W} (is : List Nat) (hp : is.isPerm (List.range ws.length) = true) (h : is.map (fun i => ws[i]?) = w.map some) : (ws ++ tl).Perm (w ++ tl) := (z_places is hp h).append_right tl
/-- an array of whole numbers -/
def ai (cA : ClassId) (n : Nat) (g : Int → Int) : va_E := ar cA n (fun k => iI (g k))
theorem ai_up (g : Int → Int) (z x : Int) : zup (fun k => iI (g k)) z (iI x) = fun k => iI (zup g z x k) := by
  funext k
  unfold zup
  split <;> rfl
section ZJ
variable {E : zE} {Q : State → Prop} {cells slots : Nat} {ws ws' : va_W} {lv : List (Option Value)} {pc : Nat} {st : List Value} {cc : ByteArray} {own : String} {Ts : List Cond} {rm : Room} {a b v : Int}
theorem z_iaddI (C : zC E cc own Ts rm) (hdg : decode cc pc = .ok (.iadd, 1)) (hv : a + b = v) (k : zG E Q cells slots ws lv (pc + 1) (.int (iI v) :: st)) : zG E Q cells slots ws lv pc (.int (iI b) :: .int (iI a) :: st) := by
  subst hv
  exact z_iadd C hdg (z_top (iI_add a b) k)
theorem z_isubI (C : zC E cc own Ts rm) (hdg : decode cc pc = .ok (.isub, 1)) (hv : a - b = v) (k : zG E Q cells slots ws lv (pc + 1) (.int (iI v) :: st)) : zG E Q cells slots ws lv pc (.int (iI b) :: .int (iI a) :: st) := by
  subst hv
  exact z_isub C hdg (z_top (iI_sub a b) k)
theorem z_imulI (C : zC E cc own Ts rm) (hdg : decode cc pc = .ok (.imul, 1)) (hv : a * b = v) (k : zG E Q cells slots ws lv (pc + 1) (.int (iI v) :: st)) : zG E Q cells slots ws lv pc (.int (iI b) :: .int (iI a) :: st) := by
  subst hv
  exact z_imul C hdg (z_top (iI_mul a b) k)
theorem z_iremI (C : zC E cc own Ts rm) (hdg : decode cc pc = .ok (.irem, 1)) (h1 : 0 ≤ a) (h2 : a < 2147483648) (h3 : 0 < b) (h4 : b < 2147483648) (k : zG E Q cells slots ws lv (pc + 1) (.int (iI (a % b)) :: st)) : zG E Q cells slots ws lv pc (.int (iI b) :: .int (iI a) :: st) := by
  refine z_irem C hdg (fun h => ?_) (z_top (iI_rem h1 h2 h3 h4) k)
  have := (iI_eq (a := b) (b := 0) ⟨by omega, by omega⟩ ⟨by omega, by omega⟩).mp h
  omega
theorem z_iincI (C : zC E cc own Ts rm) {i : Nat} {n x : Int} {lv' : List (Option Value)} (hdg : decode cc pc = .ok (.iinc i n, 3)) (hl : lv[i]? = some (some (.int (iI x)))) (hv : x + n = v) (hs : lv.set i (some (.int (iI v))) = lv') (k : zG E Q cells slots ws lv' (pc + 3) st) : zG E Q cells slots ws lv pc st := by
  subst hv
  exact z_iinc C hdg hl (iI_add x n) hs k
theorem z_icmp_eqI (C : zC E cc own Ts rm) {off : Int} {tgt : Nat} (hdg : decode cc pc = .ok (.if_icmp .eq off, 3)) (ht : (pc : Int) + off = (tgt : Int)) (ha : iR a) (hb : iR b) (kt : a = b → zG E Q cells slots ws lv tgt st) (kf : ¬ a = b → zG E Q cells slots ws lv (pc + 3) st) : zG E Q cells slots ws lv pc (.int (iI b) :: .int (iI a) :: st) := z_icmp_eq C hdg ht (fun h => kt ((iI_eq ha hb).mp h)) (fun h => kf (fun q => h ((iI_eq ha hb).mpr q)))
theorem z_if_eqI (C : zC E cc own Ts rm) {off : Int} {tgt : Nat} (hdg : decode cc pc = .ok (.ifCond .eq off, 3)) (ht : (pc : Int) + off = (tgt : Int)) (ha : iR a) (kt : a = 0 → zG E Q cells slots ws lv tgt st) (kf : ¬ a = 0 → zG E Q cells slots ws lv (pc + 3) st) : zG E Q cells slots ws lv pc (.int (iI a) :: st) := z_if_eq C hdg ht (fun h => kt ((iI_eq ha (show iR 0 from ⟨by decide, by decide⟩)).mp h)) (fun h => kf (fun q => h ((iI_eq ha (show iR 0 from ⟨by decide, by decide⟩)).mpr q)))
theorem z_icmp_neI (C : zC E cc own Ts rm) {off : Int} {tgt : Nat} (hdg : decode cc pc = .ok (.if_icmp .ne off, 3)) (ht : (pc : Int) + off = (tgt : Int)) (ha : iR a) (hb : iR b) (kt : ¬ a = b → zG E Q cells slots ws lv tgt st) (kf : a = b → zG E Q cells slots ws lv (pc + 3) st) : zG E Q cells slots ws lv pc (.int (iI b) :: .int (iI a) :: st) := z_icmp_ne C hdg ht (fun h => kt (fun q => h ((iI_eq ha hb).mpr q))) (fun h => kf ((iI_eq ha hb).mp h))
theorem z_if_neI (C : zC E cc own Ts rm) {off : Int} {tgt : Nat} (hdg : decode cc pc = .ok (.ifCond .ne off, 3)) (ht : (pc : Int) + off = (tgt : Int)) (ha : iR a) (kt : ¬ a = 0 → zG E Q cells slots ws lv tgt st) (kf : a = 0 → zG E Q cells slots ws lv (pc + 3) st) : zG E Q cells slots ws lv pc (.int (iI a) :: st) := z_if_ne C hdg ht (fun h => kt (fun q => h ((iI_eq ha (show iR 0 from ⟨by decide, by decide⟩)).mpr q))) (fun h => kf ((iI_eq ha (show iR 0 from ⟨by decide, by decide⟩)).mp h))
theorem z_icmp_ltI (C : zC E cc own Ts rm) {off : Int} {tgt : Nat} (hdg : decode cc pc = .ok (.if_icmp .lt off, 3)) (ht : (pc : Int) + off = (tgt : Int)) (ha : iR a) (hb : iR b) (kt : a < b → zG E Q cells slots ws lv tgt st) (kf : b ≤ a → zG E Q cells slots ws lv (pc + 3) st) : zG E Q cells slots ws lv pc (.int (iI b) :: .int (iI a) :: st) := z_icmp_lt C hdg ht (fun h => kt ((iI_lt ha hb).mp h)) (fun h => kf (by have := mt (iI_lt ha hb).mpr h; omega))
theorem z_if_ltI (C : zC E cc own Ts rm) {off : Int} {tgt : Nat} (hdg : decode cc pc = .ok (.ifCond .lt off, 3)) (ht : (pc : Int) + off = (tgt : Int)) (ha : iR a) (kt : a < 0 → zG E Q cells slots ws lv tgt st) (kf : 0 ≤ a → zG E Q cells slots ws lv (pc + 3) st) : zG E Q cells slots ws lv pc (.int (iI a) :: st) := z_if_lt C hdg ht (fun h => kt ((iI_lt ha (show iR 0 from ⟨by decide, by decide⟩)).mp h)) (fun h => kf (by have := mt (iI_lt ha (show iR 0 from ⟨by decide, by decide⟩)).mpr h; omega))
theorem z_icmp_geI (C : zC E cc own Ts rm) {off : Int} {tgt : Nat} (hdg : decode cc pc = .ok (.if_icmp .ge off, 3)) (ht : (pc : Int) + off = (tgt : Int)) (ha : iR a) (hb : iR b) (kt : b ≤ a → zG E Q cells slots ws lv tgt st) (kf : a < b → zG E Q cells slots ws lv (pc + 3) st) : zG E Q cells slots ws lv pc (.int (iI b) :: .int (iI a) :: st) := z_icmp_ge C hdg ht (fun h => kt ((iI_le hb ha).mp h)) (fun h => kf (by have := mt (iI_le hb ha).mpr h; omega))
theorem z_if_geI (C : zC E cc own Ts rm) {off : Int} {tgt : Nat} (hdg : decode cc pc = .ok (.ifCond .ge off, 3)) (ht : (pc : Int) + off = (tgt : Int)) (ha : iR a) (kt : 0 ≤ a → zG E Q cells slots ws lv tgt st) (kf : a < 0 → zG E Q cells slots ws lv (pc + 3) st) : zG E Q cells slots ws lv pc (.int (iI a) :: st) := z_if_ge C hdg ht (fun h => kt ((iI_le (show iR 0 from ⟨by decide, by decide⟩) ha).mp h)) (fun h => kf (by have := mt (iI_le (show iR 0 from ⟨by decide, by decide⟩) ha).mpr h; omega))
theorem z_icmp_gtI (C : zC E cc own Ts rm) {off : Int} {tgt : Nat} (hdg : decode cc pc = .ok (.if_icmp .gt off, 3)) (ht : (pc : Int) + off = (tgt : Int)) (ha : iR a) (hb : iR b) (kt : b < a → zG E Q cells slots ws lv tgt st) (kf : a ≤ b → zG E Q cells slots ws lv (pc + 3) st) : zG E Q cells slots ws lv pc (.int (iI b) :: .int (iI a) :: st) := z_icmp_gt C hdg ht (fun h => kt ((iI_lt hb ha).mp h)) (fun h => kf (by have := mt (iI_lt hb ha).mpr h; omega))
theorem z_if_gtI (C : zC E cc own Ts rm) {off : Int} {tgt : Nat} (hdg : decode cc pc = .ok (.ifCond .gt off, 3)) (ht : (pc : Int) + off = (tgt : Int)) (ha : iR a) (kt : 0 < a → zG E Q cells slots ws lv tgt st) (kf : a ≤ 0 → zG E Q cells slots ws lv (pc + 3) st) : zG E Q cells slots ws lv pc (.int (iI a) :: st) := z_if_gt C hdg ht (fun h => kt ((iI_lt (show iR 0 from ⟨by decide, by decide⟩) ha).mp h)) (fun h => kf (by have := mt (iI_lt (show iR 0 from ⟨by decide, by decide⟩) ha).mpr h; omega))
theorem z_icmp_leI (C : zC E cc own Ts rm) {off : Int} {tgt : Nat} (hdg : decode cc pc = .ok (.if_icmp .le off, 3)) (ht : (pc : Int) + off = (tgt : Int)) (ha : iR a) (hb : iR b) (kt : a ≤ b → zG E Q cells slots ws lv tgt st) (kf : b < a → zG E Q cells slots ws lv (pc + 3) st) : zG E Q cells slots ws lv pc (.int (iI b) :: .int (iI a) :: st) := z_icmp_le C hdg ht (fun h => kt ((iI_le ha hb).mp h)) (fun h => kf (by have := mt (iI_le ha hb).mpr h; omega))
theorem z_if_leI (C : zC E cc own Ts rm) {off : Int} {tgt : Nat} (hdg : decode cc pc = .ok (.ifCond .le off, 3)) (ht : (pc : Int) + off = (tgt : Int)) (ha : iR a) (kt : a ≤ 0 → zG E Q cells slots ws lv tgt st) (kf : 0 < a → zG E Q cells slots ws lv (pc + 3) st) : zG E Q cells slots ws lv pc (.int (iI a) :: st) := z_if_le C hdg ht (fun h => kt ((iI_le ha (show iR 0 from ⟨by decide, by decide⟩)).mp h)) (fun h => kf (by have := mt (iI_le ha (show iR 0 from ⟨by decide, by decide⟩)).mpr h; omega))
theorem z_ialoadI {x n t0 : Nat} {cA : ClassId} {g : Int → Int} {z : Int} (q0 : Nat) (he : ws[q0]? = some (x, ai cA n g)) (C : zC E cc own Ts rm) (ht : zT E t0 cA .int) (h0 : 0 ≤ z) (h : z < n) (hn : n ≤ 2147483647) (hdg : decode cc pc = .ok (.iaload, 1)) (kk : zG E Q cells slots ws lv (pc + 1) (.int (iI (g z)) :: st)) : zG E Q cells slots ws lv pc (.int (iI z) :: .ref x :: st) := z_iaload C q0 he ht h0 h hn hdg kk
theorem z_baloadI {x n t0 : Nat} {cA : ClassId} {g : Int → Int} {z : Int} (q0 : Nat) (he : ws[q0]? = some (x, ai cA n g)) (C : zC E cc own Ts rm) (ht : zT E t0 cA .boolean) (h0 : 0 ≤ z) (h : z < n) (hn : n ≤ 2147483647) (hdg : decode cc pc = .ok (.baload, 1)) (kk : zG E Q cells slots ws lv (pc + 1) (.int (iI (g z)) :: st)) : zG E Q cells slots ws lv pc (.int (iI z) :: .ref x :: st) := z_baload C q0 he ht h0 h hn hdg kk
theorem z_iastoreI {x n t0 : Nat} {cA : ClassId} {g : Int → Int} {z y : Int} (q0 : Nat) (he : ws[q0]? = some (x, ai cA n g)) (C : zC E cc own Ts rm) (ht : zT E t0 cA .int) (h0 : 0 ≤ z) (h : z < n) (hn : n ≤ 2147483647) (hs : ws.set q0 (x, ai cA n (zup g z y)) = ws') (hdg : decode cc pc = .ok (.iastore, 1)) (kk : zG E Q cells slots ws' lv (pc + 1) st) : zG E Q cells slots ws lv pc (.int (iI y) :: .int (iI z) :: .ref x :: st) := by
  refine z_iastore C q0 he ht h0 h hn ?_ hdg kk
  rw [ai_up]
  exact hs
theorem z_bastoreI {x n t0 : Nat} {cA : ClassId} {g : Int → Int} {z y : Int} (q0 : Nat) (he : ws[q0]? = some (x, ai cA n g)) (C : zC E cc own Ts rm) (ht : zT E t0 cA .boolean) (h0 : 0 ≤ z) (h : z < n) (hn : n ≤ 2147483647) (hx : vp_nar .boolean (iI y) = iI y) (hs : ws.set q0 (x, ai cA n (zup g z y)) = ws') (hdg : decode cc pc = .ok (.bastore, 1)) (kk : zG E Q cells slots ws' lv (pc + 1) st) : zG E Q cells slots ws lv pc (.int (iI y) :: .int (iI z) :: .ref x :: st) := by
  refine z_bastore C q0 he ht h0 h hn hx ?_ hdg kk
  rw [ai_up]
  exact hs
theorem z_maxI (C : zC E cc own Ts rm) {idx : Nat} (h1 : Cond.methodLink own idx Lib.Math.max.name ∈ Ts) (h2 : Cond.static Lib.Math.max.name ∈ Ts) (h3 : Cond.initialized "java/lang/Math" ∈ Ts) (h4 : Cond.code Lib.Math.max.name Lib.Math.max.code 2 (some .int) ∈ Ts) (hcat : (st.map fun v => v.category).sum ≤ 8) (hr : 1 ≤ rm.frames ∧ 21 ≤ rm.locals) (hc : cells ≤ rm.cells ∧ slots ≤ rm.slots) (hdg : decode cc pc = .ok (.invokestatic idx, 3)) (ha : iR a) (hb : iR b) (k : zG E Q cells slots ws lv (pc + 3) (.int (iI (max a b)) :: st)) : zG E Q cells slots ws lv pc (.int (iI b) :: .int (iI a) :: st) := by
  refine z_max C h1 h2 h3 h4 hcat hr hc hdg (z_top ?_ k)
  by_cases h : a < b
  · rw [if_pos ((iI_lt ha hb).mpr h), Int.max_eq_right (Int.le_of_lt h)]
  · rw [if_neg (mt (iI_lt ha hb).mp h), Int.max_eq_left (by omega)]
theorem z_minI (C : zC E cc own Ts rm) {idx : Nat} (h1 : Cond.methodLink own idx Lib.Math.min.name ∈ Ts) (h2 : Cond.static Lib.Math.min.name ∈ Ts) (h3 : Cond.initialized "java/lang/Math" ∈ Ts) (h4 : Cond.code Lib.Math.min.name Lib.Math.min.code 2 (some .int) ∈ Ts) (hcat : (st.map fun v => v.category).sum ≤ 8) (hr : 1 ≤ rm.frames ∧ 21 ≤ rm.locals) (hc : cells ≤ rm.cells ∧ slots ≤ rm.slots) (hdg : decode cc pc = .ok (.invokestatic idx, 3)) (ha : iR a) (hb : iR b) (k : zG E Q cells slots ws lv (pc + 3) (.int (iI (min a b)) :: st)) : zG E Q cells slots ws lv pc (.int (iI b) :: .int (iI a) :: st) := by
  refine z_min C h1 h2 h3 h4 hcat hr hc hdg (z_top ?_ k)
  by_cases h : b < a
  · rw [if_pos ((iI_lt hb ha).mpr h), Int.min_eq_right (Int.le_of_lt h)]
  · rw [if_neg (mt (iI_lt hb ha).mp h), Int.min_eq_left (by omega)]
end ZJ
