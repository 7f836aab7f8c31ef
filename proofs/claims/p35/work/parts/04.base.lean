/-! THE ENGINE, 1: values and memories in the prover's words; a world is a memory's cells; what stays. Own work. -/
/-- a value: an int, a long, a double, or a reference by kind and number (or null) -/
abbrev eV : Type := Int32 ⊕ (Int64 ⊕ (UInt64 ⊕ Option (Nat × Nat)))
abbrev aI (x : Int32) : eV := .inl x
abbrev aL (x : Int64) : eV := .inr (.inl x)
abbrev aD (x : UInt64) : eV := .inr (.inr (.inl x))
abbrev aO (o : Option (Nat × Nat)) : eV := .inr (.inr (.inr o))
abbrev aR (k i : Nat) : eV := .inr (.inr (.inr (some (k, i))))
/-- a memory: ints, references, longs by kind, number, place; which things there are; where they lie -/
abbrev eM : Type := (Nat → Nat → Nat → Int32) × (Nat → Nat → Nat → Option (Nat × Nat)) × (Nat → Nat → Nat → Int64) × List (Nat × Nat) × (Nat → Nat → Nat)
abbrev mI (S : eM) : Nat → Nat → Nat → Int32 := S.1
abbrev mR (S : eM) : Nat → Nat → Nat → Option (Nat × Nat) := S.2.1
abbrev mL (S : eM) : Nat → Nat → Nat → Int64 := S.2.2.1
abbrev mP (S : eM) : List (Nat × Nat) := S.2.2.2.1
abbrev mA (S : eM) : Nat → Nat → Nat := S.2.2.2.2
def e_u3 {α : Type} (f : Nat → Nat → Nat → α) (k i j : Nat) (v : α) : Nat → Nat → Nat → α := fun a b c => if a = k ∧ b = i ∧ c = j then v else f a b c
abbrev sI (S : eM) (k i j : Nat) (v : Int32) : eM := (e_u3 S.1 k i j v, S.2)
abbrev sR (S : eM) (k i j : Nat) (v : Option (Nat × Nat)) : eM := (S.1, e_u3 S.2.1 k i j v, S.2.2)
abbrev sL (S : eM) (k i j : Nat) (v : Int64) : eM := (S.1, S.2.1, e_u3 S.2.2.1 k i j v, S.2.2.2)
/-- kinds: below 100 an object of that number in e_C, else an array of the type that many behind 100 -/
def e_kd : Nat → Nat
  | 0 => 4 | 1 => 0 | 2 => 2 | 3 => 1 | 4 => 103 | 5 => 104 | 6 => 100 | 7 => 100 | 8 => 105 | 9 => 100 | 10 => 6 | 11 => 101 | 12 => 3 | 13 => 5 | 14 => 100 | _ => 102
/-- lengths of arrays; a byte array bears its length in its number -/
def e_ln : Nat → Nat → Nat
  | 4, _ => 10 | 5, _ => 10 | 6, _ => 10 | 7, _ => 3 | 8, _ => 6 | 9, _ => 4 | 11, i => i % 65536
  | 14, i => match i with | 0 => 146 | 1 => 876 | 2 => 146 | 3 => 146 | 4 => 60 | _ => 4
  | _, _ => 1
def e_a : Nat → FieldType
  | 0 => .int | 1 => .byte | 2 => .int | 3 => .object RX2 | 4 => .object RX1 | _ => .object RX0
/-- how a type's values are held: 0 an int, 1 a reference, 2 a long -/
def e_fk : FieldType → Nat
  | .object _ => 1 | .array _ => 1 | .long => 2 | _ => 0
def e_T : Nat → u_T
  | 0 => TX0 | 1 => TX1 | 2 => TX2 | 3 => TX3 | 4 => TX4 | 5 => TJ4 | _ => TJ4
def e_N : Nat → Nat
  | 0 => 17 | 1 => 5 | 2 => 7 | 3 => 1 | 4 => 8 | 5 => 4 | _ => 4
def e_R : Nat → String
  | 0 => RX0 | 1 => RX1 | 2 => RX2 | 3 => RX3 | 4 => RX4 | 5 => RJ4 | _ => RJ4
def e_y : Nat → Nat → FieldType
  | 0 => tyX0 | 1 => tyX1 | 2 => tyX2 | 3 => tyX3 | 4 => tyX4 | 5 => tyJ4 | _ => tyJ4
abbrev e_C : List vw_C := [(RX0, TX0, 17), (RX1, TX1, 5), (RX2, TX2, 7), (RX3, TX3, 1), (RX4, TX4, 8), (RJ4, TJ4, 4), (RJ4, TJ4, 4)]
theorem e_C_at {c : Nat} (h : c < 7) : e_C[c]? = some (e_R c, e_T c, e_N c) := by
  rcases (show c = 0 ∨ c = 1 ∨ c = 2 ∨ c = 3 ∨ c = 4 ∨ c = 5 ∨ c = 6 by omega) with rfl | rfl | rfl | rfl | rfl | rfl | rfl <;> rfl
theorem e_y_ok {c : Nat} (h : c < 7) : ∀ k, k < e_N c → parseFieldDescriptor (e_T c k).2.2.1 = some (e_y c k) := by
  rcases (show c = 0 ∨ c = 1 ∨ c = 2 ∨ c = 3 ∨ c = 4 ∨ c = 5 ∨ c = 6 by omega) with rfl | rfl | rfl | rfl | rfl | rfl | rfl
  · exact tyX0_ok
  · exact tyX1_ok
  · exact tyX2_ok
  · exact tyX3_ok
  · exact tyX4_ok
  · exact tyJ4_ok
  · exact tyJ4_ok
theorem e_nm {c : Nat} (h : c < 7) : ∀ a, a < e_N c → ∀ b, b < e_N c → a ≠ b → (e_T c a).2.1 ≠ (e_T c b).2.1 := by
  rcases (show c = 0 ∨ c = 1 ∨ c = 2 ∨ c = 3 ∨ c = 4 ∨ c = 5 ∨ c = 6 by omega) with rfl | rfl | rfl | rfl | rfl | rfl | rfl
  · exact nmX0
  · exact nmX1
  · exact nmX2
  · exact nmX3
  · exact nmX4
  · exact nmJ4
  · exact nmJ4
/-- what is fixed: the launch, the places of fields, the array types, where foreign things lie, from where on cells may be written, what final fields hold, the script -/
abbrev eG : Type := Launch × va_G × (Nat → ClassId) × (Nat → Nat → Nat) × Nat × (Nat → Nat → Nat → Option (Nat × Nat)) × Nat × (Nat → Int32)
abbrev gl (G : eG) : Launch := G.1
abbrev gD (G : eG) : va_G := G.2.1
abbrev gA (G : eG) : Nat → ClassId := G.2.2.1
abbrev gF (G : eG) : Nat → Nat → Nat := G.2.2.2.1
abbrev gb (G : eG) : Nat := G.2.2.2.2.1
abbrev gr (G : eG) : Nat → Nat → Nat → Option (Nat × Nat) := G.2.2.2.2.2.1
abbrev gn (G : eG) : Nat := G.2.2.2.2.2.2.1
abbrev gx (G : eG) : Nat → Int32 := G.2.2.2.2.2.2.2
abbrev e_A (G : eG) : Nat → Prop := fun q => gb G ≤ q
/-- where a thing lies -/
def e_ad (G : eG) (S : eM) (q : Nat × Nat) : Nat := if q.1 < 20 then mA S q.1 q.2 else gF G q.1 q.2
def e_cv (G : eG) (S : eM) : eV → Value
  | .inl x => .int x
  | .inr (.inl x) => .long x
  | .inr (.inr (.inl x)) => .double x
  | .inr (.inr (.inr o)) => va_rf (o.map (e_ad G S))
def e_fv (G : eG) (S : eM) (k i c j : Nat) : Value := match e_fk (e_y c j) with
  | 0 => .int (mI S k i j)
  | 1 => va_rf ((mR S k i j).map (e_ad G S))
  | _ => .long (mL S k i j)
def e_arr (G : eG) (S : eM) (t k i : Nat) : va_E := .inl (gA G t, e_ln k i, match e_fk (e_a t) with
  | 0 => .inl (mI S k i)
  | 1 => .inr (.inr (.inr (.inr (fun j => (mR S k i j).map (e_ad G S)))))
  | _ => .inr (.inl (mL S k i)))
def e_cell (G : eG) (S : eM) (q : Nat × Nat) : va_E :=
  if e_kd q.1 < 100 then .inr (e_kd q.1, (List.range (e_N (e_kd q.1))).map (e_fv G S q.1 q.2 (e_kd q.1))) else e_arr G S (e_kd q.1 - 100) q.1 q.2
def e_w (G : eG) (S : eM) : va_W := (mP S).map (fun q => (e_ad G S q, e_cell G S q))
abbrev e_TY (G : eG) : List (ClassId × FieldType) := [(gA G 0, e_a 0), (gA G 1, e_a 1), (gA G 2, e_a 2), (gA G 3, e_a 3), (gA G 4, e_a 4), (gA G 5, e_a 5)]
theorem e_TY_at {G : eG} {t : Nat} (h : t < 6) : (e_TY G)[t]? = some (gA G t, e_a t) := by
  rcases (show t = 0 ∨ t = 1 ∨ t = 2 ∨ t = 3 ∨ t = 4 ∨ t = 5 by omega) with rfl | rfl | rfl | rfl | rfl | rfl <;> rfl
/-- how many places a thing has -/
def e_pl (q : Nat × Nat) : Nat := if e_kd q.1 < 100 then e_N (e_kd q.1) else e_ln q.1 q.2
/-- things are of known kinds, each once; no reference leads out; final references are what they are -/
def e_ok (rf : Nat → Nat → Nat → Option (Nat × Nat)) (S : eM) : Prop :=
  (∀ q ∈ mP S, q.1 < 20) ∧ (mP S).Nodup ∧ (∀ k i j q, mR S k i j = some q → q ∈ mP S ∨ 20 ≤ q.1) ∧ ∀ k i j q, (k, i) ∈ mP S → j < e_pl (k, i) → rf k i j = some q → mR S k i j = some q
def e_Wd (G : eG) (S : eM) (H : Heap) : Prop := va_P (gD G) e_C (e_w G S) H ∧ va_D (e_A G) (e_w G S) ∧ e_ok (gr G) S
def e_live (S : eM) (v : eV) : Prop := ∀ q, v = aO (some q) → q ∈ mP S ∨ 20 ≤ q.1
/-- a later memory: things stay where they are -/
def e_le (S S2 : eM) : Prop := ∀ q ∈ mP S, q ∈ mP S2 ∧ mA S2 q.1 q.2 = mA S q.1 q.2
theorem e_le.rf {S : eM} : e_le S S := fun _ h => ⟨h, rfl⟩
theorem e_le.trans {S1 S2 S3 : eM} (h : e_le S1 S2) (k : e_le S2 S3) : e_le S1 S3 := fun q hq => ⟨(k q (h q hq).1).1, (k q (h q hq).1).2.trans (h q hq).2⟩
theorem e_le.live {S S2 : eM} (h : e_le S S2) {v : eV} (hv : e_live S v) : e_live S2 v := fun q e => (hv q e).imp (fun z => (h q z).1) id
theorem e_le.ad {G : eG} {S S2 : eM} (h : e_le S S2) {q : Nat × Nat} (hq : q ∈ mP S ∨ 20 ≤ q.1) : e_ad G S2 q = e_ad G S q := by
  unfold e_ad
  split
  · rename_i hk
    rcases hq with hq | hq
    · exact (h q hq).2
    · omega
  · rfl
theorem e_le.cv {G : eG} {S S2 : eM} (h : e_le S S2) {v : eV} (hv : e_live S v) : e_cv G S2 v = e_cv G S v := by
  rcases v with x | x | x | _ | q
  · rfl
  · rfl
  · rfl
  · rfl
  · show va_rf (some (e_ad G S2 q)) = va_rf (some (e_ad G S q))
    rw [h.ad (hv q rfl)]
theorem e_le.cvs {G : eG} {S S2 : eM} (h : e_le S S2) {st : List eV} (hv : ∀ v ∈ st, e_live S v) : st.map (e_cv G S2) = st.map (e_cv G S) :=
  List.map_congr_left (fun v hx => h.cv (hv v hx))
theorem e_live.nr {S : eM} {v : eV} (h : ∀ q, v ≠ aO (some q)) : e_live S v := fun q e => absurd e (h q)
theorem e_live.i {S : eM} {x : Int32} : e_live S (.inl x) := fun q e => by cases e
theorem e_live.l {S : eM} {x : Int64} : e_live S (.inr (.inl x)) := fun q e => by cases e
theorem e_live.d {S : eM} {x : UInt64} : e_live S (.inr (.inr (.inl x))) := fun q e => by cases e
theorem e_live.o {S : eM} {o : Option (Nat × Nat)} (h : ∀ q, o = some q → q ∈ mP S ∨ 20 ≤ q.1) : e_live S (.inr (.inr (.inr o))) := fun q e => h q (by cases e; rfl)
/-- a thing's place in the world -/
theorem e_at {G : eG} {S : eM} {q : Nat × Nat} (h : q ∈ mP S) : ∃ p : Nat, (mP S)[p]? = some q ∧ (e_w G S)[p]? = some (e_ad G S q, e_cell G S q) := by
  obtain ⟨p, hp⟩ := List.getElem?_of_mem h
  exact ⟨p, hp, by rw [e_w, List.getElem?_map, hp]; rfl⟩
theorem e_nd {l : List (Nat × Nat)} (h : l.Nodup) {i j : Nat} {q : Nat × Nat} (hi : l[i]? = some q) (hj : l[j]? = some q) : i = j := by
  obtain ⟨li, ei⟩ := List.getElem?_eq_some_iff.mp hi
  obtain ⟨lj, ej⟩ := List.getElem?_eq_some_iff.mp hj
  rcases Nat.lt_trichotomy i j with z | z | z
  · exact absurd (ei.trans ej.symm) ((List.pairwise_iff_getElem.mp h) i j li lj z)
  · exact z
  · exact absurd (ej.trans ei.symm) ((List.pairwise_iff_getElem.mp h) j i lj li z)
/-- a thing's cell is changed: the world of the memory behind -/
theorem e_set {G : eG} {S S2 : eM} {q : Nat × Nat} {p : Nat} {e : va_E} (hp : (mP S)[p]? = some q) (hn : (mP S).Nodup) (h1 : mP S2 = mP S) (h2 : mA S2 = mA S) (hc : ∀ q2, q2 ≠ q → e_cell G S2 q2 = e_cell G S q2) (he : e_cell G S2 q = e) :
    (e_w G S).set p (e_ad G S q, e) = e_w G S2 := by
  have ha : ∀ q2, e_ad G S2 q2 = e_ad G S q2 := fun q2 => by unfold e_ad; rw [h2]
  have hl : p < (e_w G S).length := by
    rw [e_w, List.length_map]
    exact (List.getElem?_eq_some_iff.mp hp).1
  refine List.ext_getElem? fun i => ?_
  by_cases hi : i = p
  · subst hi
    rw [List.getElem?_set_self hl, e_w, List.getElem?_map, h1, hp]
    simp only [Option.map_some]
    rw [ha, he]
  · rw [List.getElem?_set_ne (Ne.symm hi), e_w, e_w, List.getElem?_map, List.getElem?_map, h1]
    cases hq : (mP S)[i]? with
    | none => rfl
    | some q2 =>
      have hne : q2 ≠ q := fun z => hi (e_nd hn (z ▸ hq) hp)
      simp only [Option.map_some]
      rw [ha, hc q2 hne]
theorem e_u3_ne {α : Type} {f : Nat → Nat → Nat → α} {k i j : Nat} {v : α} {k2 i2 : Nat} (h : (k2, i2) ≠ (k, i)) : e_u3 f k i j v k2 i2 = f k2 i2 := by
  funext c
  unfold e_u3
  rw [if_neg]
  rintro ⟨rfl, rfl, -⟩
  exact h rfl
theorem e_u3_eq {α : Type} {f : Nat → Nat → Nat → α} {k i j : Nat} {v : α} : e_u3 f k i j v k i j = v := by
  unfold e_u3
  rw [if_pos ⟨rfl, rfl, rfl⟩]
theorem e_u3_nj {α : Type} {f : Nat → Nat → Nat → α} {k i j : Nat} {v : α} {j2 : Nat} (h : j2 ≠ j) : e_u3 f k i j v k i j2 = f k i j2 := by
  unfold e_u3
  rw [if_neg]
  rintro ⟨-, -, z⟩
  exact h z
/-- cells speak of their own part of the memory -/
theorem e_cell_of {G : eG} {S S2 : eM} (h2 : mA S2 = mA S) {q : Nat × Nat} (hi : mI S2 q.1 q.2 = mI S q.1 q.2) (hr : mR S2 q.1 q.2 = mR S q.1 q.2) (hl : mL S2 q.1 q.2 = mL S q.1 q.2) : e_cell G S2 q = e_cell G S q := by
  have ha : e_ad G S2 = e_ad G S := funext fun q2 => by unfold e_ad; rw [h2]
  have hf : ∀ c, e_fv G S2 q.1 q.2 c = e_fv G S q.1 q.2 c := fun c => funext fun j => by unfold e_fv; rw [hi, hr, hl, ha]
  unfold e_cell
  rw [hf]
  unfold e_arr
  rw [hi, hr, hl, ha]
theorem e_okI {rf : Nat → Nat → Nat → Option (Nat × Nat)} {S : eM} (h : e_ok rf S) {k i j : Nat} {v : Int32} : e_ok rf (sI S k i j v) := h
theorem e_okL {rf : Nat → Nat → Nat → Option (Nat × Nat)} {S : eM} (h : e_ok rf S) {k i j : Nat} {v : Int64} : e_ok rf (sL S k i j v) := h
theorem e_okR {rf : Nat → Nat → Nat → Option (Nat × Nat)} {S : eM} (h : e_ok rf S) {k i j : Nat} {v : Option (Nat × Nat)} (hv : ∀ q, v = some q → q ∈ mP S ∨ 20 ≤ q.1) (hr : ∀ q, rf k i j = some q → v = some q) : e_ok rf (sR S k i j v) := by
  obtain ⟨h1, h2, h3, h4⟩ := h
  refine ⟨h1, h2, fun k2 i2 j2 q hq => ?_, fun k2 i2 j2 q hm hj hq => ?_⟩
  · have hq : e_u3 (mR S) k i j v k2 i2 j2 = some q := hq
    unfold e_u3 at hq
    split at hq
    · exact hv q hq
    · exact h3 _ _ _ _ hq
  · show e_u3 (mR S) k i j v k2 i2 j2 = some q
    unfold e_u3
    split
    · rename_i z
      obtain ⟨rfl, rfl, rfl⟩ := z
      exact hr q hq
    · exact h4 _ _ _ _ hm hj hq
theorem e_setI {G : eG} {S : eM} {k i j p : Nat} {v : Int32} {e : va_E} (hp : (mP S)[p]? = some (k, i)) (hn : (mP S).Nodup) (he : e_cell G (sI S k i j v) (k, i) = e) : (e_w G S).set p (e_ad G S (k, i), e) = e_w G (sI S k i j v) :=
  e_set hp hn rfl rfl (fun q2 h => e_cell_of (S := S) (S2 := sI S k i j v) rfl (e_u3_ne (k2 := q2.1) (i2 := q2.2) h) rfl rfl) he
theorem e_setL {G : eG} {S : eM} {k i j p : Nat} {v : Int64} {e : va_E} (hp : (mP S)[p]? = some (k, i)) (hn : (mP S).Nodup) (he : e_cell G (sL S k i j v) (k, i) = e) : (e_w G S).set p (e_ad G S (k, i), e) = e_w G (sL S k i j v) :=
  e_set hp hn rfl rfl (fun q2 h => e_cell_of (S := S) (S2 := sL S k i j v) rfl rfl rfl (e_u3_ne (k2 := q2.1) (i2 := q2.2) h)) he
theorem e_setR {G : eG} {S : eM} {k i j p : Nat} {v : Option (Nat × Nat)} {e : va_E} (hp : (mP S)[p]? = some (k, i)) (hn : (mP S).Nodup) (he : e_cell G (sR S k i j v) (k, i) = e) : (e_w G S).set p (e_ad G S (k, i), e) = e_w G (sR S k i j v) :=
  e_set hp hn rfl rfl (fun q2 h => e_cell_of (S := S) (S2 := sR S k i j v) rfl rfl (e_u3_ne (k2 := q2.1) (i2 := q2.2) h) rfl) he
/-- an object's fields as a list: a place read, a place set -/
theorem e_fs_get {G : eG} {S : eM} {k i c j : Nat} (hj : j < e_N c) : ((List.range (e_N c)).map (e_fv G S k i c))[j]? = some (e_fv G S k i c j) := by
  rw [List.getElem?_map, List.getElem?_range hj]
  rfl
theorem e_fs_set {G : eG} {S S2 : eM} {k i c j : Nat} (hj : j < e_N c) (h : ∀ j2, j2 ≠ j → e_fv G S2 k i c j2 = e_fv G S k i c j2) : ((List.range (e_N c)).map (e_fv G S k i c)).set j (e_fv G S2 k i c j) = (List.range (e_N c)).map (e_fv G S2 k i c) := by
  refine List.ext_getElem? fun n => ?_
  by_cases hn : n = j
  · subst hn
    rw [List.getElem?_set_self (by rw [List.length_map, List.length_range]; exact hj), List.getElem?_map, List.getElem?_range hj]
    rfl
  · rw [List.getElem?_set_ne (Ne.symm hn), List.getElem?_map, List.getElem?_map]
    cases hq : (List.range (e_N c))[n]? with
    | none => rfl
    | some m =>
      obtain ⟨h1, h2⟩ := List.getElem?_eq_some_iff.mp hq
      rw [List.getElem_range] at h2
      subst h2
      simp only [Option.map_some]
      rw [h n hn]
/-- the locals: what is known of them -/
def e_lv (G : eG) (S : eM) (ls : Array Slot) (nL : Nat) (lc : List (Option eV)) : Prop := ls.size = nL ∧ lv_wf ls ∧ ∀ (i : Nat) (v : eV), lc[i]? = some (some v) → ls[i]? = some (.val (e_cv G S v))
def e_c2 : eV → Bool
  | .inl _ => false
  | .inr (.inr (.inr _)) => false
  | _ => true
theorem e_cat {G : eG} {S : eM} (v : eV) : (e_cv G S v).category = if e_c2 v = true then 2 else 1 := by
  rcases v with x | x | x | _ | q <;> rfl
def e_clr (lc : List (Option eV)) (i : Nat) : List (Option eV) := match i with
  | 0 => lc
  | j + 1 => match lc[j]? with
    | some (some w) => cond (e_c2 w) (lc.set j none) lc
    | _ => lc
/-- a store -/
def e_sto (lc : List (Option eV)) (i : Nat) (v : eV) : List (Option eV) := cond (e_c2 v) (((e_clr lc i).set i (some v)).set (i + 1) none) ((e_clr lc i).set i (some v))
theorem e_clr_get {lc : List (Option eV)} {i j : Nat} {w : eV} (h : (e_clr lc i)[j]? = some (some w)) : lc[j]? = some (some w) ∧ ¬ (j + 1 = i ∧ e_c2 w = true) := by
  cases i with
  | zero => exact ⟨h, fun z => by omega⟩
  | succ m =>
    unfold e_clr at h
    by_cases hj : j = m
    · subst hj
      cases hq : lc[j]? with
      | none => simp [hq] at h
      | some o =>
        cases o with
        | none => simp [hq] at h
        | some u =>
          simp only [hq] at h
          cases hc : e_c2 u with
          | true =>
            rw [hc] at h
            have hl := (List.getElem?_eq_some_iff.mp hq).1
            simp [hl] at h
          | false =>
            rw [hc] at h
            simp only [cond_false] at h
            rw [hq] at h
            cases h
            exact ⟨rfl, fun z => by rw [hc] at z; exact absurd z.2 (by decide)⟩
    · refine ⟨?_, fun z => hj (by omega)⟩
      cases hq : lc[m]? with
      | none => simp only [hq] at h; exact h
      | some o =>
        cases o with
        | none => simp only [hq] at h; exact h
        | some u =>
          simp only [hq] at h
          cases hc : e_c2 u with
          | true =>
            rw [hc] at h
            simp only [cond_true] at h
            rw [List.getElem?_set_ne (Ne.symm hj)] at h
            exact h
          | false => rw [hc] at h; exact h
theorem e_sto_get {lc : List (Option eV)} {i j : Nat} {v w : eV} (h : (e_sto lc i v)[j]? = some (some w)) : (j = i ∧ w = v) ∨ (j ≠ i ∧ lc[j]? = some (some w) ∧ ¬ (j + 1 = i ∧ e_c2 w = true) ∧ ¬ (j = i + 1 ∧ e_c2 v = true)) := by
  unfold e_sto at h
  have key : ((e_clr lc i).set i (some v))[j]? = some (some w) → (j = i ∧ w = v) ∨ (j ≠ i ∧ lc[j]? = some (some w) ∧ ¬ (j + 1 = i ∧ e_c2 w = true)) := by
    intro h
    by_cases hj : j = i
    · subst hj
      by_cases hl : j < (e_clr lc j).length
      · rw [List.getElem?_set_self hl] at h
        cases h
        exact Or.inl ⟨rfl, rfl⟩
      · rw [List.getElem?_eq_none (by rw [List.length_set]; omega)] at h
        cases h
    · rw [List.getElem?_set_ne (Ne.symm hj)] at h
      obtain ⟨h1, h2⟩ := e_clr_get h
      exact Or.inr ⟨hj, h1, h2⟩
  cases hc : e_c2 v with
  | false =>
    rw [hc] at h
    rcases key h with z | ⟨z1, z2, z3⟩
    · exact Or.inl z
    · exact Or.inr ⟨z1, z2, z3, fun q => by cases q.2⟩
  | true =>
    rw [hc] at h
    simp only [cond_true] at h
    by_cases hj : j = i + 1
    · exfalso
      rw [hj] at h
      by_cases hl : i + 1 < ((e_clr lc i).set i (some v)).length
      · rw [List.getElem?_set_self hl] at h
        cases h
      · rw [List.getElem?_eq_none (by rw [List.length_set]; omega)] at h
        cases h
    · rw [List.getElem?_set_ne (Ne.symm hj)] at h
      rcases key h with z | ⟨z1, z2, z3⟩
      · exact Or.inl z
      · exact Or.inr ⟨z1, z2, z3, fun q => hj q.1⟩
/-- the locals as the kit lists them -/
def e_ll (G : eG) (S : eM) (lc : List (Option eV)) : List (Nat × Value) := (List.range lc.length).filterMap (fun i => (lc[i]?.join).map (fun v => (i, e_cv G S v)))
theorem e_ll_mem {G : eG} {S : eM} {lc : List (Option eV)} {i : Nat} {v : eV} (h : lc[i]? = some (some v)) : (i, e_cv G S v) ∈ e_ll G S lc := by
  refine List.mem_filterMap.mpr ⟨i, List.mem_range.mpr (List.getElem?_eq_some_iff.mp h).1, ?_⟩
  rw [h]
  rfl
theorem e_ll_has {G : eG} {S : eM} {lc : List (Option eV)} {ls : Array Slot} {nL : Nat} (h : e_lv G S ls nL lc) : lv_has ls nL (e_ll G S lc) := by
  refine ⟨h.1, h.2.1, fun q hq => ?_⟩
  obtain ⟨i, -, hi⟩ := List.mem_filterMap.mp hq
  cases hl : lc[i]? with
  | none => rw [hl] at hi; cases hi
  | some o =>
    cases o with
    | none => rw [hl] at hi; cases hi
    | some v =>
      rw [hl] at hi
      simp only [Option.join_some, Option.map_some, Option.some.injEq] at hi
      rw [← hi]
      exact h.2.2 i v hl
theorem e_lv1 {G : eG} {S : eM} {lc : List (Option eV)} {ls ls2 : Array Slot} {nL i : Nat} {v : eV} (h : e_lv G S ls nL lc) (hc : e_c2 v = false) (h2 : lv_has ls2 nL ((i, e_cv G S v) :: (e_ll G S lc).filter (fun q => !(q.1 == i) && !(q.1 + 1 == i && q.2.category == 2)))) : e_lv G S ls2 nL (e_sto lc i v) := by
  refine ⟨h2.1, h2.2.1, fun j w hw => ?_⟩
  rcases e_sto_get hw with ⟨rfl, rfl⟩ | ⟨z1, z2, z3, -⟩
  · exact h2.2.2 _ List.mem_cons_self
  · refine h2.2.2 (j, e_cv G S w) (List.mem_cons_of_mem _ (List.mem_filter.mpr ⟨e_ll_mem z2, ?_⟩))
    have hcat := e_cat (G := G) (S := S) w
    by_cases hj : j + 1 = i
    · have : e_c2 w = false := by
        cases hcw : e_c2 w with
        | true => exact absurd ⟨hj, hcw⟩ z3
        | false => rfl
      rw [this] at hcat
      simp [z1, hcat]
    · simp [z1, hj]
theorem e_lv2 {G : eG} {S : eM} {lc : List (Option eV)} {ls ls2 : Array Slot} {nL i : Nat} {v : eV} (h : e_lv G S ls nL lc) (hc : e_c2 v = true) (h2 : lv_has ls2 nL ((i, e_cv G S v) :: (e_ll G S lc).filter (fun q => !(q.1 == i) && (!(q.1 == i + 1) && !(q.1 + 1 == i && q.2.category == 2))))) : e_lv G S ls2 nL (e_sto lc i v) := by
  refine ⟨h2.1, h2.2.1, fun j w hw => ?_⟩
  rcases e_sto_get hw with ⟨rfl, rfl⟩ | ⟨z1, z2, z3, z4⟩
  · exact h2.2.2 _ List.mem_cons_self
  · refine h2.2.2 (j, e_cv G S w) (List.mem_cons_of_mem _ (List.mem_filter.mpr ⟨e_ll_mem z2, ?_⟩))
    have hcat := e_cat (G := G) (S := S) w
    have hn : j ≠ i + 1 := fun q => z4 ⟨q, hc⟩
    by_cases hj : j + 1 = i
    · have : e_c2 w = false := by
        cases hcw : e_c2 w with
        | true => exact absurd ⟨hj, hcw⟩ z3
        | false => rfl
      rw [this] at hcat
      simp [z1, hn, hcat]
    · simp [z1, hj, hn]
theorem e_sto_live {S : eM} {lc : List (Option eV)} {i : Nat} {v : eV} (h : ∀ w, some w ∈ lc → e_live S w) (hv : e_live S v) : ∀ w, some w ∈ e_sto lc i v → e_live S w := by
  intro w hw
  obtain ⟨j, hj⟩ := List.getElem?_of_mem hw
  rcases e_sto_get hj with ⟨-, rfl⟩ | ⟨-, z, -⟩
  · exact hv
  · exact h w (List.mem_of_getElem? z)
