-- pure: rising lists, texts, postings, the bytes of postings
def zz_up (l : List Nat) : Prop := l.Pairwise (fun a b => a < b)
theorem zz_ext : ∀ {l m : List Nat}, zz_up l → zz_up m → (∀ x, x ∈ l ↔ x ∈ m) → l = m := by
  intro l
  induction l with
  | nil =>
    intro m _ _ h
    cases m with
    | nil => rfl
    | cons b m => exact absurd ((h b).mpr List.mem_cons_self) List.not_mem_nil
  | cons a l ih =>
    intro m hl hm h
    cases m with
    | nil => exact absurd ((h a).mp List.mem_cons_self) List.not_mem_nil
    | cons b m =>
      obtain ⟨hl1, hl2⟩ := List.pairwise_cons.mp hl
      obtain ⟨hm1, hm2⟩ := List.pairwise_cons.mp hm
      have hab : a = b := by
        rcases List.mem_cons.mp ((h a).mp List.mem_cons_self) with h1 | h1
        · exact h1
        · rcases List.mem_cons.mp ((h b).mpr List.mem_cons_self) with h2 | h2
          · exact h2.symm
          · have := hm1 a h1
            have := hl1 b h2
            omega
      subst hab
      congr 1
      refine ih hl2 hm2 (fun x => ?_)
      constructor
      · intro hx
        rcases List.mem_cons.mp ((h x).mp (List.mem_cons_of_mem _ hx)) with h1 | h1
        · have := hl1 x hx
          omega
        · exact h1
      · intro hx
        rcases List.mem_cons.mp ((h x).mpr (List.mem_cons_of_mem _ hx)) with h1 | h1
        · have := hm1 x hx
          omega
        · exact h1
theorem zz_up_range (n : Nat) : zz_up (List.range n) := List.pairwise_lt_range
theorem zz_up_filter {l : List Nat} (h : zz_up l) (p : Nat → Bool) : zz_up (l.filter p) := List.Pairwise.filter _ h
/-- a document's words -/
def zz_tx (T : List (List Nat)) (d : Nat) : List Nat := T.getD d []
/-- the places of a word -/
def zz_pl (t : List Nat) (w : Nat) : List Nat := (List.range 20).filter fun p => t[p]? == some w
def zz_has (T : List (List Nat)) (ms w d : Nat) : Bool := ms.testBit d && !(zz_pl (zz_tx T d) w).isEmpty
def zz_ds (T : List (List Nat)) (ms w : Nat) : List Nat := (List.range 40).filter (zz_has T ms w)
def zz_ws (T : List (List Nat)) (ms : Nat) : List Nat := (List.range 100).filter fun w => !(zz_ds T ms w).isEmpty
def zz_key (w d p : Nat) : Nat := (w * 40 + d) * 20 + p
def zz_pd (T : List (List Nat)) (w d : Nat) : List Nat := (zz_pl (zz_tx T d) w).map (zz_key w d)
def zz_pw (T : List (List Nat)) (ms w : Nat) : List Nat := (zz_ds T ms w).flatMap (zz_pd T w)
def zz_posts (T : List (List Nat)) (ms : Nat) : List Nat := (zz_ws T ms).flatMap (zz_pw T ms)
theorem zz_pl_mem {t : List Nat} {w p : Nat} : p ∈ zz_pl t w ↔ p < 20 ∧ t[p]? = some w := by
  simp [zz_pl, List.mem_filter, List.mem_range]
theorem zz_ds_mem {T : List (List Nat)} {ms w d : Nat} : d ∈ zz_ds T ms w ↔ d < 40 ∧ ms.testBit d = true ∧ ∃ p, p ∈ zz_pl (zz_tx T d) w := by
  simp only [zz_ds, List.mem_filter, List.mem_range, zz_has, Bool.and_eq_true, Bool.not_eq_true', List.isEmpty_eq_false_iff_exists_mem]
theorem zz_ws_mem {T : List (List Nat)} {ms w : Nat} : w ∈ zz_ws T ms ↔ w < 100 ∧ ∃ d, d ∈ zz_ds T ms w := by
  simp only [zz_ws, List.mem_filter, List.mem_range, Bool.not_eq_true', List.isEmpty_eq_false_iff_exists_mem]
theorem zz_posts_mem {T : List (List Nat)} {ms k : Nat} : k ∈ zz_posts T ms ↔ ∃ w d p, w < 100 ∧ d < 40 ∧ p < 20 ∧ ms.testBit d = true ∧ (zz_tx T d)[p]? = some w ∧ k = zz_key w d p := by
  simp only [zz_posts, zz_pw, zz_pd, List.mem_flatMap, List.mem_map]
  constructor
  · rintro ⟨w, hw, d, hd, p, hp, rfl⟩
    have h1 := zz_ds_mem.mp hd
    have h2 := zz_pl_mem.mp hp
    exact ⟨w, d, p, (zz_ws_mem.mp hw).1, h1.1, h2.1, h1.2.1, h2.2, rfl⟩
  · rintro ⟨w, d, p, hw, hd, hp, hm, ht, rfl⟩
    have h1 : p ∈ zz_pl (zz_tx T d) w := zz_pl_mem.mpr ⟨hp, ht⟩
    have h2 : d ∈ zz_ds T ms w := zz_ds_mem.mpr ⟨hd, hm, p, h1⟩
    exact ⟨w, zz_ws_mem.mpr ⟨hw, d, h2⟩, d, h2, p, h1, rfl⟩
theorem zz_key_lt {w d p w' d' p' : Nat} (hd : d < 40) (hd' : d' < 40) (hp : p < 20) (hp' : p' < 20) : zz_key w d p < zz_key w' d' p' ↔ w < w' ∨ (w = w' ∧ (d < d' ∨ (d = d' ∧ p < p'))) := by
  unfold zz_key
  constructor
  · intro h
    rcases Nat.lt_trichotomy w w' with h1 | h1 | h1
    · exact Or.inl h1
    · subst h1
      rcases Nat.lt_trichotomy d d' with h2 | h2 | h2
      · exact Or.inr ⟨rfl, Or.inl h2⟩
      · subst h2
        exact Or.inr ⟨rfl, Or.inr ⟨rfl, by omega⟩⟩
      · omega
    · omega
  · rintro (h1 | ⟨rfl, h1 | ⟨rfl, h1⟩⟩) <;> omega
theorem zz_posts_up (T : List (List Nat)) (ms : Nat) : zz_up (zz_posts T ms) := by
  unfold zz_posts zz_up
  rw [List.pairwise_flatMap]
  constructor
  · intro w hw
    unfold zz_pw
    rw [List.pairwise_flatMap]
    constructor
    · intro d hd
      unfold zz_pd
      rw [List.pairwise_map]
      refine List.Pairwise.imp_of_mem ?_ (zz_up_filter (zz_up_range 20) _)
      intro a b ha hb hab
      unfold zz_key
      omega
    · refine List.Pairwise.imp_of_mem ?_ (zz_up_filter (zz_up_range 40) _)
      intro d d' hd hd' hdd x hx y hy
      obtain ⟨p, hp, rfl⟩ := List.mem_map.mp hx
      obtain ⟨p', hp', rfl⟩ := List.mem_map.mp hy
      exact (zz_key_lt (zz_ds_mem.mp hd).1 (zz_ds_mem.mp hd').1 (zz_pl_mem.mp hp).1 (zz_pl_mem.mp hp').1).mpr (Or.inr ⟨rfl, Or.inl hdd⟩)
  · refine List.Pairwise.imp_of_mem ?_ (zz_up_filter (zz_up_range 100) _)
    intro w w' hw hw' hww x hx y hy
    obtain ⟨d, hd, hx⟩ := List.mem_flatMap.mp hx
    obtain ⟨p, hp, rfl⟩ := List.mem_map.mp hx
    obtain ⟨d', hd', hy⟩ := List.mem_flatMap.mp hy
    obtain ⟨p', hp', rfl⟩ := List.mem_map.mp hy
    exact (zz_key_lt (zz_ds_mem.mp hd).1 (zz_ds_mem.mp hd').1 (zz_pl_mem.mp hp).1 (zz_pl_mem.mp hp').1).mpr (Or.inl hww)
-- the bytes
def zz_eP (prev : Nat) : List Nat → List Nat
  | [] => []
  | p :: ps => (p - prev) :: zz_eP p ps
def zz_eD (T : List (List Nat)) (w prev : Nat) : List Nat → List Nat
  | [] => []
  | d :: ds => (d - prev) :: (zz_pl (zz_tx T d) w).length :: (zz_eP 0 (zz_pl (zz_tx T d) w) ++ zz_eD T w d ds)
def zz_eW (T : List (List Nat)) (ms prev : Nat) : List Nat → List Nat
  | [] => []
  | w :: ws => (w - prev) :: (zz_ds T ms w).length :: (zz_eD T w 0 (zz_ds T ms w) ++ zz_eW T ms w ws)
def zz_enc (T : List (List Nat)) (ms : Nat) : List Nat := zz_eW T ms 0 (zz_ws T ms) ++ [127]
-- the class's way: key by key, with the counts raised where they stand
def zz_raise (out : List Nat) (at_ : Nat) : List Nat := out.modify at_ (fun c => c + 1)
/-- one key: the bytes so far, word, document, place, where the counts stand; is it the first? -/
def zz_ek (first : Bool) (out : List Nat) (word doc place dAt pAt k : Nat) : List Nat × Nat × Nat × Nat × Nat × Nat :=
  let w := k / 800
  let d := k / 20 % 40
  let p := k % 20
  let nw := first || w != word
  let out1 := if nw then out ++ [w - word, 0] else out
  let dAt1 := if nw then out.length + 1 else dAt
  let doc1 := if nw then 0 else doc
  let nd := nw || d != doc1
  let out2 := if nd then zz_raise (out1 ++ [d - doc1]) dAt1 ++ [0] else out1
  let pAt2 := if nd then out1.length + 1 else pAt
  let place2 := if nd then 0 else place
  (zz_raise (out2 ++ [p - place2]) pAt2, if nw then w else word, if nd then d else doc1, p, dAt1, pAt2)
theorem zz_key_w {w d p : Nat} (hd : d < 40) (hp : p < 20) : zz_key w d p / 800 = w := by unfold zz_key; omega
theorem zz_key_d {w d p : Nat} (hd : d < 40) (hp : p < 20) : zz_key w d p / 20 % 40 = d := by unfold zz_key; omega
theorem zz_key_p {w d p : Nat} (hp : p < 20) : zz_key w d p % 20 = p := by unfold zz_key; omega
theorem zz_raise_at (A B : List Nat) (c : Nat) : zz_raise (A ++ c :: B) A.length = A ++ (c + 1) :: B := by
  unfold zz_raise
  induction A with
  | nil => rfl
  | cons a A ih =>
    show a :: ((A ++ c :: B).modify A.length fun c => c + 1) = _
    rw [ih]
    rfl
abbrev zz_eS : Type := List Nat × Nat × Nat × Nat × Nat × Nat
def zz_ekL : Bool → zz_eS → List Nat → zz_eS
  | _, st, [] => st
  | first, (out, word, doc, place, dAt, pAt), k :: ks => zz_ekL false (zz_ek first out word doc place dAt pAt k) ks
theorem zz_ekL_app (first : Bool) (st : zz_eS) (a : Nat) (l m : List Nat) : zz_ekL first st (a :: l ++ m) = zz_ekL false (zz_ekL first st (a :: l)) m := by
  have key : ∀ (l : List Nat) (st : zz_eS) (m : List Nat), zz_ekL false st (l ++ m) = zz_ekL false (zz_ekL false st l) m := by
    intro l
    induction l with
    | nil => intro st m; rfl
    | cons b l ih =>
      intro st m
      obtain ⟨out, word, doc, place, dAt, pAt⟩ := st
      exact ih _ m
  obtain ⟨out, word, doc, place, dAt, pAt⟩ := st
  exact key l _ m
theorem zz_ekL_app0 (st : zz_eS) (l m : List Nat) : zz_ekL false st (l ++ m) = zz_ekL false (zz_ekL false st l) m := by
  cases l with
  | nil => rfl
  | cons a l => exact zz_ekL_app false st a l m
theorem zz_ek_place {A B : List Nat} {c w d prev dAt p : Nat} (hd : d < 40) (hp : p < 20) :
    zz_ek false (A ++ c :: B) w d prev dAt A.length (zz_key w d p) = (A ++ (c + 1) :: (B ++ [p - prev]), w, d, p, dAt, A.length) := by
  unfold zz_ek
  rw [zz_key_w hd hp, zz_key_d hd hp, zz_key_p hp]
  simp only [bne_self_eq_false, Bool.or_false, Bool.false_eq_true, if_false]
  rw [show (A ++ c :: B) ++ [p - prev] = A ++ c :: (B ++ [p - prev]) by simp, zz_raise_at]
theorem zz_ekL_places {A : List Nat} {w d dAt : Nat} (hd : d < 40) : ∀ (ps B : List Nat) (c prev : Nat), (∀ p ∈ ps, p < 20) →
    ∃ place, zz_ekL false (A ++ c :: B, w, d, prev, dAt, A.length) (ps.map (zz_key w d)) = (A ++ (c + ps.length) :: (B ++ zz_eP prev ps), w, d, place, dAt, A.length) := by
  intro ps
  induction ps with
  | nil => intro B c prev _; exact ⟨prev, by simp [zz_ekL, zz_eP]⟩
  | cons p ps ih =>
    intro B c prev h
    obtain ⟨place, hi⟩ := ih (B ++ [p - prev]) (c + 1) p (fun q hq => h q (List.mem_cons_of_mem _ hq))
    refine ⟨place, ?_⟩
    show zz_ekL false (zz_ek false (A ++ c :: B) w d prev dAt A.length (zz_key w d p)) (ps.map (zz_key w d)) = _
    rw [zz_ek_place hd (h p List.mem_cons_self), hi]
    simp [zz_eP, Nat.add_comm, Nat.add_left_comm]
theorem zz_ek_doc {A B : List Nat} {c w d pd place pAt p : Nat} (hd : d < 40) (hp : p < 20) (hne : d ≠ pd) :
    zz_ek false (A ++ c :: B) w pd place A.length pAt (zz_key w d p) = ((A ++ (c + 1) :: (B ++ [d - pd])) ++ 1 :: [p], w, d, p, A.length, (A ++ (c + 1) :: (B ++ [d - pd])).length) := by
  unfold zz_ek
  rw [zz_key_w hd hp, zz_key_d hd hp, zz_key_p hp]
  have h1 : (d != pd) = true := by simp [hne]
  simp only [bne_self_eq_false, Bool.or_false, Bool.false_or, Bool.false_eq_true, if_false, h1, if_true, Nat.sub_zero]
  rw [show (A ++ c :: B) ++ [d - pd] = A ++ c :: (B ++ [d - pd]) by simp, zz_raise_at]
  have h2 : (A ++ c :: B).length + 1 = (A ++ (c + 1) :: (B ++ [d - pd])).length := by simp only [List.length_append, List.length_cons, List.length_nil]; omega
  rw [h2, show A ++ (c + 1) :: (B ++ [d - pd]) ++ [0] ++ [p] = (A ++ (c + 1) :: (B ++ [d - pd])) ++ 0 :: [p] by simp, zz_raise_at]
theorem zz_ekL_doc {A : List Nat} {T : List (List Nat)} {w d : Nat} (hd : d < 40) (hpl : zz_pl (zz_tx T d) w ≠ []) {B : List Nat} {c pd place pAt : Nat} (hne : d ≠ pd) :
    ∃ place' pAt', zz_ekL false (A ++ c :: B, w, pd, place, A.length, pAt) (zz_pd T w d) = (A ++ (c + 1) :: (B ++ ((d - pd) :: (zz_pl (zz_tx T d) w).length :: zz_eP 0 (zz_pl (zz_tx T d) w))), w, d, place', A.length, pAt') := by
  unfold zz_pd
  have hb : ∀ p ∈ zz_pl (zz_tx T d) w, p < 20 := fun p hp => (zz_pl_mem.mp hp).1
  generalize zz_pl (zz_tx T d) w = pl at hpl hb ⊢
  cases pl with
  | nil => exact absurd rfl hpl
  | cons p ps =>
    obtain ⟨place', hi⟩ := zz_ekL_places (A := A ++ (c + 1) :: (B ++ [d - pd])) (w := w) (dAt := A.length) hd ps [p] 1 p (fun q hq => hb q (List.mem_cons_of_mem _ hq))
    refine ⟨place', (A ++ (c + 1) :: (B ++ [d - pd])).length, ?_⟩
    show zz_ekL false (zz_ek false (A ++ c :: B) w pd place A.length pAt (zz_key w d p)) (ps.map (zz_key w d)) = _
    rw [zz_ek_doc hd (hb p List.mem_cons_self) hne, hi]
    simp [zz_eP, Nat.add_comm]
theorem zz_ekL_docs {A : List Nat} {T : List (List Nat)} {w : Nat} : ∀ (ds B : List Nat) (c pd place pAt : Nat), (∀ d ∈ ds, d < 40 ∧ zz_pl (zz_tx T d) w ≠ []) → zz_up (pd :: ds) →
    ∃ pd' place' pAt', zz_ekL false (A ++ c :: B, w, pd, place, A.length, pAt) (ds.flatMap (zz_pd T w)) = (A ++ (c + ds.length) :: (B ++ zz_eD T w pd ds), w, pd', place', A.length, pAt') := by
  intro ds
  induction ds with
  | nil => intro B c pd place pAt _ _; exact ⟨pd, place, pAt, by simp [zz_ekL, zz_eD]⟩
  | cons d ds ih =>
    intro B c pd place pAt h hu
    obtain ⟨hu1, hu2⟩ := List.pairwise_cons.mp hu
    have hlt := hu1 d List.mem_cons_self
    obtain ⟨p1, a1, h1⟩ := zz_ekL_doc (A := A) (B := B) (c := c) (pd := pd) (place := place) (pAt := pAt) (h d List.mem_cons_self).1 (h d List.mem_cons_self).2 (by omega)
    obtain ⟨q2, p2, a2, h2⟩ := ih (B ++ ((d - pd) :: (zz_pl (zz_tx T d) w).length :: zz_eP 0 (zz_pl (zz_tx T d) w))) (c + 1) d p1 a1 (fun x hx => h x (List.mem_cons_of_mem _ hx)) hu2
    refine ⟨q2, p2, a2, ?_⟩
    rw [List.flatMap_cons, zz_ekL_app0, h1, h2]
    simp [zz_eD, Nat.add_comm, Nat.add_left_comm]
theorem zz_ek_word {first : Bool} {out : List Nat} {w d word doc place dAt pAt p : Nat} (hd : d < 40) (hp : p < 20) (hne : first = true ∨ w ≠ word) :
    zz_ek first out word doc place dAt pAt (zz_key w d p) = ((out ++ [w - word, 1, d]) ++ 1 :: [p], w, d, p, out.length + 1, (out ++ [w - word, 1, d]).length) := by
  unfold zz_ek
  rw [zz_key_w hd hp, zz_key_d hd hp, zz_key_p hp]
  have h1 : (first || w != word) = true := by
    rcases hne with h | h
    · simp [h]
    · simp [h]
  simp only [h1, if_true, Bool.true_or, Nat.sub_zero]
  have h2 : zz_raise (out ++ [w - word, 0] ++ [d]) (out.length + 1) = out ++ [w - word, 1, d] := by
    have := zz_raise_at (out ++ [w - word]) [d] 0
    simpa using this
  rw [h2]
  have h3 : (out ++ [w - word, 0]).length + 1 = (out ++ [w - word, 1, d]).length := by simp
  rw [h3, show out ++ [w - word, 1, d] ++ [0] ++ [p] = (out ++ [w - word, 1, d]) ++ 0 :: [p] by simp, zz_raise_at]
theorem zz_ekL_word {T : List (List Nat)} {ms w : Nat} (hw : zz_ds T ms w ≠ []) {first : Bool} {out : List Nat} {word doc place dAt pAt : Nat} (hne : first = true ∨ w ≠ word) :
    ∃ doc' place' dAt' pAt', zz_ekL first (out, word, doc, place, dAt, pAt) (zz_pw T ms w) = (out ++ ((w - word) :: (zz_ds T ms w).length :: zz_eD T w 0 (zz_ds T ms w)), w, doc', place', dAt', pAt') := by
  unfold zz_pw
  have hb : ∀ d ∈ zz_ds T ms w, d < 40 ∧ zz_pl (zz_tx T d) w ≠ [] := fun d hd => by
    obtain ⟨h1, -, p, hp⟩ := zz_ds_mem.mp hd
    exact ⟨h1, fun q => by rw [q] at hp; cases hp⟩
  have hu : zz_up (zz_ds T ms w) := zz_up_filter (zz_up_range 40) _
  generalize zz_ds T ms w = ds at hw hb hu ⊢
  cases ds with
  | nil => exact absurd rfl hw
  | cons d ds =>
    obtain ⟨h1, h2⟩ := hb d List.mem_cons_self
    have hpb : ∀ p ∈ zz_pl (zz_tx T d) w, p < 20 := fun p hp => (zz_pl_mem.mp hp).1
    have hpd : zz_pd T w d = (zz_pl (zz_tx T d) w).map (zz_key w d) := rfl
    obtain ⟨p, ps, hps⟩ : ∃ p ps, zz_pl (zz_tx T d) w = p :: ps := by
      cases hq : zz_pl (zz_tx T d) w with
      | nil => exact absurd hq h2
      | cons p ps => exact ⟨p, ps, rfl⟩
    rw [hps] at hpb
    obtain ⟨place', hi⟩ := zz_ekL_places (A := out ++ [w - word, 1, d]) (w := w) (dAt := out.length + 1) h1 ps [p] 1 p (fun q hq => hpb q (List.mem_cons_of_mem _ hq))
    have hfirst : zz_ekL first (out, word, doc, place, dAt, pAt) (zz_pd T w d) = ((out ++ [w - word]) ++ 1 :: (d :: (p :: ps).length :: zz_eP 0 (p :: ps)), w, d, place', (out ++ [w - word]).length, (out ++ [w - word, 1, d]).length) := by
      rw [hpd, hps]
      show zz_ekL false (zz_ek first out word doc place dAt pAt (zz_key w d p)) (ps.map (zz_key w d)) = _
      rw [zz_ek_word h1 (hpb p List.mem_cons_self) hne, hi]
      simp [zz_eP, Nat.add_comm]
    obtain ⟨q2, p2, a2, h5⟩ := zz_ekL_docs (A := out ++ [w - word]) (T := T) (w := w) ds (d :: (p :: ps).length :: zz_eP 0 (p :: ps)) 1 d place' (out ++ [w - word, 1, d]).length (fun x hx => hb x (List.mem_cons_of_mem _ hx)) hu
    refine ⟨q2, p2, (out ++ [w - word]).length, a2, ?_⟩
    have hcons : zz_pd T w d = zz_key w d p :: ps.map (zz_key w d) := by rw [hpd, hps]; rfl
    rw [List.flatMap_cons, hcons, zz_ekL_app, ← hcons, hfirst, h5]
    simp [zz_eD, hps, Nat.add_comm]
theorem zz_pw_ne {T : List (List Nat)} {ms w : Nat} (hw : zz_ds T ms w ≠ []) : zz_pw T ms w ≠ [] := by
  intro h
  obtain ⟨d, hd⟩ := List.exists_mem_of_ne_nil _ hw
  obtain ⟨-, -, p, hp⟩ := zz_ds_mem.mp hd
  have : zz_key w d p ∈ zz_pw T ms w := List.mem_flatMap.mpr ⟨d, hd, List.mem_map.mpr ⟨p, hp, rfl⟩⟩
  rw [h] at this
  cases this
theorem zz_ekL_words {T : List (List Nat)} {ms : Nat} : ∀ (ws : List Nat) (first : Bool) (out : List Nat) (word doc place dAt pAt : Nat), (∀ w ∈ ws, zz_ds T ms w ≠ []) → zz_up ws → (first = true ∨ ∀ w ∈ ws, word < w) →
    (zz_ekL first (out, word, doc, place, dAt, pAt) (ws.flatMap (zz_pw T ms))).1 = out ++ zz_eW T ms word ws := by
  intro ws
  induction ws with
  | nil => intro first out word doc place dAt pAt _ _ _; simp [zz_ekL, zz_eW]
  | cons w ws ih =>
    intro first out word doc place dAt pAt h hu hf
    obtain ⟨hu1, hu2⟩ := List.pairwise_cons.mp hu
    obtain ⟨doc', place', dAt', pAt', h1⟩ := zz_ekL_word (h w List.mem_cons_self) (first := first) (out := out) (word := word) (doc := doc) (place := place) (dAt := dAt) (pAt := pAt) (by
      rcases hf with h | h
      · exact Or.inl h
      · have := h w List.mem_cons_self
        exact Or.inr (by omega))
    obtain ⟨a, l, hal⟩ : ∃ a l, zz_pw T ms w = a :: l := by
      cases hq : zz_pw T ms w with
      | nil => exact absurd hq (zz_pw_ne (h w List.mem_cons_self))
      | cons a l => exact ⟨a, l, rfl⟩
    rw [List.flatMap_cons, hal, zz_ekL_app, ← hal, h1, ih false _ w doc' place' dAt' pAt' (fun x hx => h x (List.mem_cons_of_mem _ hx)) hu2 (Or.inr hu1)]
    simp [zz_eW]
/-- key by key, the class puts the same bytes -/
theorem zz_ekL_enc (T : List (List Nat)) (ms : Nat) : (zz_ekL true ([], 0, 0, 0, 0, 0) (zz_posts T ms)).1 ++ [127] = zz_enc T ms := by
  unfold zz_posts zz_enc
  rw [zz_ekL_words (zz_ws T ms) true [] 0 0 0 0 0 (fun w hw => by
    obtain ⟨-, d, hd⟩ := zz_ws_mem.mp hw
    exact fun q => by rw [q] at hd; cases hd) (zz_up_filter (zz_up_range 100) _) (Or.inl rfl)]
  rfl
