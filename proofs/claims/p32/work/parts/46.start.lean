def rPi : List Nat := [0, 56, 57, 55, 33, 34, 35, 36, 37, 38, 39, 40, 41, 42, 43, 44, 45, 46, 47, 48, 49, 50, 51, 52, 53, 54, 29, 30, 31, 32, 26, 27, 28, 20, 21, 22, 23, 24, 25, 1, 3, 2, 19, 18, 17, 16, 10, 11, 12, 13, 14, 15, 4, 5, 6, 7, 8, 9, 58, 59, 60, 61, 62, 63, 64, 65, 66, 67, 68, 69, 70, 71]
theorem rPi_lt : ∀ i, i < 72 → rPi.getD i i < 72 := by decide +kernel
theorem rPi_inj : ∀ i, i < 72 → ∀ j, j < 72 → rPi.getD i i = rPi.getD j j → i = j := by decide +kernel
theorem last_P {D : va_G} {cl : List vw_C} {X : va_W} {x : Nat × va_E} {H : Heap} (hP : va_P D cl (X ++ [x]) H) : va_P D cl [x] H := fun k q hk => hP (X.length + k) q (by rw [List.getElem?_append_right (by omega)]; simpa using hk)
theorem last_D {A : Nat → Prop} {X : va_W} {x : Nat × va_E} (hD : va_D A (X ++ [x])) : va_D A [x] := ⟨fun i j p q hi hj _ => by
    have h1 : i < 1 := (List.getElem?_eq_some_iff.mp hi).1
    have h2 : j < 1 := (List.getElem?_eq_some_iff.mp hj).1
    omega, fun k q hk => hD.2 (X.length + k) q (by rw [List.getElem?_append_right (by omega)]; simpa using hk)⟩
theorem okR_big {cA ad : Nat → Nat} {i : Nat} {e : va_E} (h : 72 ≤ i) : okR cA ad i e := by
  refine ⟨fun q => by omega, fun q => by omega, fun q => by omega, fun q => by omega, fun q => by omega, fun q => by omega, fun q => by omega, fun q => by omega, fun q => by omega, fun q => by omega, fun q => by unfold isJ at q; omega, fun q => by unfold isC at q; omega, fun n q => ?_, fun n q => ?_, fun n q => ?_⟩
  · have := in_I q; simp only [List.mem_cons, List.not_mem_nil, or_false] at this; omega
  · have := in_L q; simp only [List.mem_cons, List.not_mem_nil, or_false] at this; omega
  · have := in_Z q; simp only [List.mem_cons, List.not_mem_nil, or_false] at this; omega
abbrev U7 : Type := (Nat → Nat) × (Nat → Nat → Nat) × ((Nat → Nat) × (Nat → Option Nat)) × (Nat → Option Nat)
abbrev L72 (cA : Nat → ClassId) (q : Nat) (u : U7) (q2 : Nat) (u8 : Nat → Nat) : va_W := WX7 cA q u ++ WX8 cA q2 u8
abbrev ad72 (cA : Nat → ClassId) (q : Nat) (u : U7) (q2 : Nat) (u8 : Nat → Nat) : Nat → Nat := fun i => (((L72 cA q u q2 u8)[rPi.getD i i]?).map Prod.fst).getD 0
abbrev F72 (cA : Nat → ClassId) (q : Nat) (u : U7) (q2 : Nat) (u8 : Nat → Nat) : Nat → va_E := fun i => (((L72 cA q u q2 u8)[rPi.getD i i]?).map Prod.snd).getD J0
set_option maxHeartbeats 8000000 in
set_option maxRecDepth 100000 in
theorem WT_start (cA : Nat → ClassId) (q : Nat) (u : U7) (q2 : Nat) (u8 : Nat → Nat) (h6 : ∀ i, i < 20 → u.2.2.1.2 i = some (u.2.2.1.1 (i + 1))) (h40 : u.2.2.2 0 = some (u.1 13)) (h41 : u.2.2.2 1 = some (u.1 14)) : WT cA (ad72 cA q u q2 u8) (F72 cA q u q2 u8) := by
  intro i
  match i with
  | 0 => exact ok_main ⟨46, 52, 0, 0, rfl, Or.inl rfl, Or.inr rfl, by omega⟩
  | 1 => exact ok_text ⟨0, 0, 0, -1, 0, rfl, by omega, by omega⟩
  | 2 => exact ok_let ⟨_, rfl⟩
  | 3 => exact ok_J (by unfold isJ; omega) ⟨0, 0, 0, 0, 0, 0, 0, rfl, by omega⟩
  | 4 => exact ok_past ⟨0, rfl, by omega⟩
  | 5 => exact ok_kept ⟨u.2.2.1.2, rfl, fun i hi => ⟨6 + i, by omega, (h6 i hi).trans (by rcases (show i = 0 ∨ i = 1 ∨ i = 2 ∨ i = 3 ∨ i = 4 ∨ i = 5 ∨ i = 6 ∨ i = 7 ∨ i = 8 ∨ i = 9 ∨ i = 10 ∨ i = 11 ∨ i = 12 ∨ i = 13 ∨ i = 14 ∨ i = 15 ∨ i = 16 ∨ i = 17 ∨ i = 18 ∨ i = 19 by omega) with rfl | rfl | rfl | rfl | rfl | rfl | rfl | rfl | rfl | rfl | rfl | rfl | rfl | rfl | rfl | rfl | rfl | rfl | rfl | rfl <;> rfl)⟩⟩
  | 6 => exact ok_J (by unfold isJ; omega) ⟨0, 0, 0, 0, 0, 0, 0, rfl, by omega⟩
  | 7 => exact ok_J (by unfold isJ; omega) ⟨0, 0, 0, 0, 0, 0, 0, rfl, by omega⟩
  | 8 => exact ok_J (by unfold isJ; omega) ⟨0, 0, 0, 0, 0, 0, 0, rfl, by omega⟩
  | 9 => exact ok_J (by unfold isJ; omega) ⟨0, 0, 0, 0, 0, 0, 0, rfl, by omega⟩
  | 10 => exact ok_J (by unfold isJ; omega) ⟨0, 0, 0, 0, 0, 0, 0, rfl, by omega⟩
  | 11 => exact ok_J (by unfold isJ; omega) ⟨0, 0, 0, 0, 0, 0, 0, rfl, by omega⟩
  | 12 => exact ok_J (by unfold isJ; omega) ⟨0, 0, 0, 0, 0, 0, 0, rfl, by omega⟩
  | 13 => exact ok_J (by unfold isJ; omega) ⟨0, 0, 0, 0, 0, 0, 0, rfl, by omega⟩
  | 14 => exact ok_J (by unfold isJ; omega) ⟨0, 0, 0, 0, 0, 0, 0, rfl, by omega⟩
  | 15 => exact ok_J (by unfold isJ; omega) ⟨0, 0, 0, 0, 0, 0, 0, rfl, by omega⟩
  | 16 => exact ok_J (by unfold isJ; omega) ⟨0, 0, 0, 0, 0, 0, 0, rfl, by omega⟩
  | 17 => exact ok_J (by unfold isJ; omega) ⟨0, 0, 0, 0, 0, 0, 0, rfl, by omega⟩
  | 18 => exact ok_J (by unfold isJ; omega) ⟨0, 0, 0, 0, 0, 0, 0, rfl, by omega⟩
  | 19 => exact ok_J (by unfold isJ; omega) ⟨0, 0, 0, 0, 0, 0, 0, rfl, by omega⟩
  | 20 => exact ok_J (by unfold isJ; omega) ⟨0, 0, 0, 0, 0, 0, 0, rfl, by omega⟩
  | 21 => exact ok_J (by unfold isJ; omega) ⟨0, 0, 0, 0, 0, 0, 0, rfl, by omega⟩
  | 22 => exact ok_J (by unfold isJ; omega) ⟨0, 0, 0, 0, 0, 0, 0, rfl, by omega⟩
  | 23 => exact ok_J (by unfold isJ; omega) ⟨0, 0, 0, 0, 0, 0, 0, rfl, by omega⟩
  | 24 => exact ok_J (by unfold isJ; omega) ⟨0, 0, 0, 0, 0, 0, 0, rfl, by omega⟩
  | 25 => exact ok_J (by unfold isJ; omega) ⟨0, 0, 0, 0, 0, 0, 0, rfl, by omega⟩
  | 26 => exact ok_plan rfl
  | 27 => exact ok_I (show (27, 1480) ∈ rLI by decide) ⟨fun _ => 0, rfl, fun j hj => pr_of (by decide)⟩
  | 28 => exact ok_I (show (28, 5) ∈ rLI by decide) ⟨fun _ => 0, rfl, fun j hj => pr_of (by decide)⟩
  | 29 => exact ok_I (show (29, 5) ∈ rLI by decide) ⟨fun _ => 0, rfl, fun j hj => pr_of (by decide)⟩
  | 30 => exact ok_search ⟨31, 32, rfl, Or.inl rfl, Or.inr rfl⟩
  | 31 => exact ok_L (show (31, 160) ∈ rLL by decide) ⟨fun _ => 0, rfl⟩
  | 32 => exact ok_L (show (32, 160) ∈ rLL by decide) ⟨fun _ => 0, rfl⟩
  | 33 => exact ok_ways ⟨0, rfl, by omega⟩
  | 34 => exact ok_I (show (34, 8) ∈ rLI by decide) ⟨fun _ => 0, rfl, fun j hj => pr_of (by decide)⟩
  | 35 => exact ok_I (show (35, 8) ∈ rLI by decide) ⟨fun _ => 0, rfl, fun j hj => pr_of (by decide)⟩
  | 36 => exact ok_I (show (36, 8) ∈ rLI by decide) ⟨fun _ => 0, rfl, fun j hj => pr_of (by decide)⟩
  | 37 => exact ok_I (show (37, 245) ∈ rLI by decide) ⟨fun _ => 0, rfl, fun j hj => pr_of (by decide)⟩
  | 38 => exact ok_I (show (38, 245) ∈ rLI by decide) ⟨fun _ => 0, rfl, fun j hj => pr_of (by decide)⟩
  | 39 => exact ok_img ⟨u.2.2.2, rfl, fun i hi => by rcases (show i = 0 ∨ i = 1 by omega) with rfl | rfl; exact ⟨40, Or.inl rfl, h40⟩; exact ⟨41, Or.inr rfl, h41⟩⟩
  | 40 => exact ok_J (by unfold isJ; omega) ⟨0, 0, 0, 0, 0, 0, 0, rfl, by omega⟩
  | 41 => exact ok_J (by unfold isJ; omega) ⟨0, 0, 0, 0, 0, 0, 0, rfl, by omega⟩
  | 42 => exact ok_I (show (42, 2) ∈ rLI by decide) ⟨fun _ => 0, rfl, fun j hj => pr_of (by decide)⟩
  | 43 => exact ok_Z (show (43, 2) ∈ rLZ by decide) ⟨fun _ => 0, rfl⟩
  | 44 => exact ok_I (show (44, 15) ∈ rLI by decide) ⟨fun _ => 0, rfl, fun j hj => pr_of (by decide)⟩
  | 45 => exact ok_I (show (45, 8) ∈ rLI by decide) ⟨fun _ => 0, rfl, fun j hj => pr_of (by decide)⟩
  | 46 => exact ok_C (Or.inl rfl) ⟨0, 0, 0, 0, 0, rfl, by omega, by omega, by omega⟩
  | 47 => exact ok_I (show (47, 8) ∈ rLI by decide) ⟨fun _ => 0, rfl, fun j hj => pr_of (by decide)⟩
  | 48 => exact ok_I (show (48, 8) ∈ rLI by decide) ⟨fun _ => 0, rfl, fun j hj => pr_of (by decide)⟩
  | 49 => exact ok_I (show (49, 8) ∈ rLI by decide) ⟨fun _ => 0, rfl, fun j hj => pr_of (by decide)⟩
  | 50 => exact ok_I (show (50, 12) ∈ rLI by decide) ⟨fun _ => 0, rfl, fun j hj => pr_of (by decide)⟩
  | 51 => exact ok_I (show (51, 12) ∈ rLI by decide) ⟨fun _ => 0, rfl, fun j hj => pr_of (by decide)⟩
  | 52 => exact ok_C (Or.inr rfl) ⟨0, 0, 0, 0, 0, rfl, by omega, by omega, by omega⟩
  | 53 => exact ok_I (show (53, 8) ∈ rLI by decide) ⟨fun _ => 0, rfl, fun j hj => pr_of (by decide)⟩
  | 54 => exact ok_I (show (54, 8) ∈ rLI by decide) ⟨fun _ => 0, rfl, fun j hj => pr_of (by decide)⟩
  | 55 => exact ok_I (show (55, 8) ∈ rLI by decide) ⟨fun _ => 0, rfl, fun j hj => pr_of (by decide)⟩
  | 56 => exact ok_I (show (56, 12) ∈ rLI by decide) ⟨fun _ => 0, rfl, fun j hj => pr_of (by decide)⟩
  | 57 => exact ok_I (show (57, 12) ∈ rLI by decide) ⟨fun _ => 0, rfl, fun j hj => pr_of (by decide)⟩
  | 58 => exact ok_m ⟨0, 0, 0, 0, 0, 0, 0, 0, -1, 0, rfl, by omega, by omega, by omega, by omega, by omega, by omega⟩
  | 59 => exact ok_I (show (59, 240) ∈ rLI by decide) ⟨fun _ => 0, rfl, fun j hj => pr_of (by decide)⟩
  | 60 => exact ok_I (show (60, 52) ∈ rLI by decide) ⟨fun _ => 0, rfl, fun j hj => to_T (by decide) (okT_z j)⟩
  | 61 => exact ok_I (show (61, 52) ∈ rLI by decide) ⟨fun _ => 0, rfl, fun j hj => to_T (by decide) (okT_z j)⟩
  | 62 => exact ok_I (show (62, 7) ∈ rLI by decide) ⟨fun _ => 0, rfl, fun j hj => to_S (okS_z _)⟩
  | 63 => exact ok_I (show (63, 140) ∈ rLI by decide) ⟨fun _ => 0, rfl, fun j hj => to_S7 (okS_z _)⟩
  | 64 => exact ok_I (show (64, 16) ∈ rLI by decide) ⟨fun _ => 0, rfl, fun j hj => to_S8 (okS_z _)⟩
  | 65 => exact ok_Z (show (65, 2) ∈ rLZ by decide) ⟨fun _ => 0, rfl⟩
  | 66 => exact ok_I (show (66, 8) ∈ rLI by decide) ⟨fun _ => 0, rfl, fun j hj => to_N ⟨0, by omega, rfl⟩⟩
  | 67 => exact ok_I (show (67, 15) ∈ rLI by decide) ⟨fun _ => 0, rfl, fun j hj => pr_of (by decide)⟩
  | 68 => exact ok_I (show (68, 1480) ∈ rLI by decide) ⟨fun _ => 0, rfl, fun j hj => pr_of (by decide)⟩
  | 69 => exact ok_L (show (69, 256) ∈ rLL by decide) ⟨fun _ => 0, rfl⟩
  | 70 => exact ok_L (show (70, 256) ∈ rLL by decide) ⟨fun _ => 0, rfl⟩
  | 71 => exact ok_L (show (71, 49) ∈ rLL by decide) ⟨fun _ => 0, rfl⟩
  | n + 72 => exact okR_big (by omega)
theorem RR_start (cA : Nat → ClassId) (q : Nat) (u : U7) (q2 : Nat) (u8 : Nat → Nat) (hI : rI (ad72 cA q u q2 u8)) (h6 : ∀ i, i < 20 → u.2.2.1.2 i = some (u.2.2.1.1 (i + 1))) (h40 : u.2.2.2 0 = some (u.1 13)) (h41 : u.2.2.2 1 = some (u.1 14)) : RR (AB (ad72 cA q u q2 u8) (F72 cA q u q2 u8)) (AB (ad72 cA q u q2 u8) (F72 cA q u q2 u8)) := by
  have z : (0 : Int32) = nI 0 := nI_0.symm
  have a60 : ∀ k, AB (ad72 cA q u q2 u8) (F72 cA q u q2 u8) 60 k = 0 := fun k => AB_g (show F72 cA q u q2 u8 60 = .inl (cA 0, 52, .inl (fun _ => 0)) from rfl)
  have a62 : ∀ k, AB (ad72 cA q u q2 u8) (F72 cA q u q2 u8) 62 k = 0 := fun k => AB_g (show F72 cA q u q2 u8 62 = .inl (cA 0, 7, .inl (fun _ => 0)) from rfl)
  have a64 : ∀ k, AB (ad72 cA q u q2 u8) (F72 cA q u q2 u8) 64 k = 0 := fun k => AB_g (show F72 cA q u q2 u8 64 = .inl (cA 0, 16, .inl (fun _ => 0)) from rfl)
  have j0 : ∀ (i k : Nat), F72 cA q u q2 u8 i = J0 → k < 7 → AB (ad72 cA q u q2 u8) (F72 cA q u q2 u8) i k = 0 := fun i k h hk => by
    refine AB_f (show F72 cA q u q2 u8 i = .inr (1, [.int 0, .int 0, .int 0, .int 0, .int 0, .int 0, .int 0]) from h) ?_
    rcases (show k = 0 ∨ k = 1 ∨ k = 2 ∨ k = 3 ∨ k = 4 ∨ k = 5 ∨ k = 6 by omega) with rfl | rfl | rfl | rfl | rfl | rfl | rfl <;> rfl
  have a5 : ∀ i, i < 20 → AB (ad72 cA q u q2 u8) (F72 cA q u q2 u8) 5 i = nI (6 + i) := fun i hi => by
    refine AB_qn hI (show 6 + i < rN by unfold rN; omega) (g := u.2.2.1.2) (show F72 cA q u q2 u8 5 = _ from rfl) ?_
    rw [h6 i hi]
    rcases (show i = 0 ∨ i = 1 ∨ i = 2 ∨ i = 3 ∨ i = 4 ∨ i = 5 ∨ i = 6 ∨ i = 7 ∨ i = 8 ∨ i = 9 ∨ i = 10 ∨ i = 11 ∨ i = 12 ∨ i = 13 ∨ i = 14 ∨ i = 15 ∨ i = 16 ∨ i = 17 ∨ i = 18 ∨ i = 19 by omega) with rfl | rfl | rfl | rfl | rfl | rfl | rfl | rfl | rfl | rfl | rfl | rfl | rfl | rfl | rfl | rfl | rfl | rfl | rfl | rfl <;> rfl
  refine ⟨⟨⟨0, ⟨by omega, (AB_f rfl rfl).trans z, (AB_f rfl rfl).trans z, fun k hk => absurd hk (Nat.not_lt_zero _)⟩, fun k hk => absurd hk (Nat.not_lt_zero _)⟩, (AB_f rfl rfl).trans (AB_f (x := (-1)) rfl rfl).symm⟩, ⟨46, 52, 0, 0, Or.inl ⟨rfl, rfl⟩, AB_rn hI (by decide) rfl rfl, AB_rn hI (by decide) rfl rfl, ?_⟩, ⟨⟨0, by omega, (AB_f rfl rfl).trans z, (AB_f rfl rfl).trans z, fun j hj => absurd hj (Nat.not_lt_zero _)⟩, ⟨0, by omega, (AB_f rfl rfl).trans z, (AB_f rfl rfl).trans z, fun j hj => absurd hj (Nat.not_lt_zero _)⟩⟩, ⟨(AB_g (g := fun _ => 0) rfl).trans (AB_g (g := fun _ => 0) rfl).symm, (AB_g (g := fun _ => 0) rfl).trans (AB_g (g := fun _ => 0) rfl).symm⟩, fun k hk => (j0 3 k rfl hk).trans (a62 k).symm, ⟨0, by omega, (AB_f rfl rfl).trans z, (AB_f rfl rfl).trans z⟩, ⟨0, by omega, (AB_f rfl rfl).trans z, (AB_f rfl rfl).trans z, fun i hi => ⟨6 + i, by omega, by omega, a5 i hi⟩, fun i i' hi hi' h => ?_, fun i hi => absurd hi (Nat.not_lt_zero _)⟩, ⟨AB_qn hI (by decide) (g := u.2.2.2) rfl h40, AB_qn hI (by decide) (g := u.2.2.2) rfl h41, fun i hi => ⟨fun k hk => ?_, 0, by omega, (AB_g (g := fun _ => 0) rfl).trans z, (a64 _).trans z⟩⟩⟩
  · refine ⟨(AB_f rfl rfl).trans (a60 0).symm, (AB_f rfl rfl).trans (a60 1).symm, (AB_f rfl rfl).trans z, (a60 2).trans z, by omega, (AB_f rfl rfl).trans z, (a60 3).trans z, by omega, fun k hk => absurd hk (Nat.not_lt_zero _), fun k hk => absurd hk (Nat.not_lt_zero _), fun k => ?_, fun k _ _ => (a60 _).trans z⟩
    rw [show AB (ad72 cA q u q2 u8) (F72 cA q u q2 u8) 46 4 = 0 from AB_f rfl rfl, b_0, decide_eq_false (show ¬ k < 0 by omega), Bool.false_and]
  · rw [a5 i hi, a5 i' hi', neq (by omega) (by omega)] at h; omega
  · rw [a64]
    rcases (show i = 0 ∨ i = 1 by omega) with rfl | rfl
    · exact j0 40 k rfl hk
    · exact j0 41 k rfl hk
set_option maxHeartbeats 16000000 in
set_option maxRecDepth 100000 in
theorem whole_start {p : Program} {e : Env} {s : State} {m : MethodId} {below : List Frame} {meth : Method} {c : Code} (l : Launch) {b L : Nat} {xs : Nat → Int32} (hL : L ≤ 192) (C0 : lw_At p s m meth c b L xs) : W p l e room_1 s m #[Value.ref b] below meth c s.heap [] 0 0 (lw_Z below #[Value.ref b] s) (entryFrame m ([Value.ref b] : List Value).toArray 4) := by
  obtain ⟨hx, hb, hr, hml, hown, hts, hX, hbl, hlocks, hgv⟩ := id C0
  have hts' : ∀ w ∈ wsL_law, w.before #[Value.ref b] s = true := fun w h => hts w (wsL_law_in w h)
  have S : CallFix p m c cL_law 4 s #[Value.ref b] wsL_law RL := ⟨hx, hb, hml, hown, hts'⟩
  have hA : ∀ q : Nat, s.heap.size ≤ q → (fun q : Nat => s.heap.size ≤ q) q := fun _ h => h
  obtain ⟨c0, iS0, hKn0⟩ := u_known (C := RX0) (T := TX0) (N := 10) (n := 10) hts inX0 (hts (.instantiable RX0 10) (by decide +kernel))
  obtain ⟨c1, iS1, hKn1⟩ := u_known (C := RX1) (T := TX1) (N := 7) (n := 7) hts inX1 (hts (.instantiable RX1 7) (by decide +kernel))
  obtain ⟨c2, iS2, hKn2⟩ := u_known (C := RX2) (T := TX2) (N := 2) (n := 2) hts inX2 (hts (.instantiable RX2 2) (by decide +kernel))
  obtain ⟨c3, iS3, hKn3⟩ := u_known (C := RX3) (T := TX3) (N := 3) (n := 3) hts inX3 (hts (.instantiable RX3 3) (by decide +kernel))
  obtain ⟨c4, iS4, hKn4⟩ := u_known (C := RX4) (T := TX4) (N := 2) (n := 2) hts inX4 (hts (.instantiable RX4 2) (by decide +kernel))
  obtain ⟨c5, iS5, hKn5⟩ := u_known (C := RX5) (T := TX5) (N := 6) (n := 6) hts inX5 (hts (.instantiable RX5 6) (by decide +kernel))
  obtain ⟨c6, iS6, hKn6⟩ := u_known (C := RX6) (T := TX6) (N := 6) (n := 6) hts inX6 (hts (.instantiable RX6 6) (by decide +kernel))
  obtain ⟨c7, iS7, hKn7⟩ := u_known (C := RX7) (T := TX7) (N := 15) (n := 15) hts inX7 (hts (.instantiable RX7 15) (by decide +kernel))
  obtain ⟨c8, iS8, hKn8⟩ := u_known (C := RX8) (T := TX8) (N := 23) (n := 23) hts inX8 (hts (.instantiable RX8 23) (by decide +kernel))
  obtain ⟨D, hKc⟩ : ∃ D : va_G, ∀ (k : Nat) (q : vw_C), vwCl[k]? = some q → u_Kn s q.1 q.2.1 q.2.2 (D.1 k) (D.2 k) := by
    refine ⟨(fun k => match k with | 0 => c0 | 1 => c1 | 2 => c2 | 3 => c3 | 4 => c4 | 5 => c5 | 6 => c6 | 7 => c7 | _ => c8, fun k => match k with | 0 => iS0 | 1 => iS1 | 2 => iS2 | 3 => iS3 | 4 => iS4 | 5 => iS5 | 6 => iS6 | 7 => iS7 | _ => iS8), ?_⟩
    intro k q hq
    match k, hq with
    | 0, hq => cases hq; exact hKn0
    | 1, hq => cases hq; exact hKn1
    | 2, hq => cases hq; exact hKn2
    | 3, hq => cases hq; exact hKn3
    | 4, hq => cases hq; exact hKn4
    | 5, hq => cases hq; exact hKn5
    | 6, hq => cases hq; exact hKn6
    | 7, hq => cases hq; exact hKn7
    | 8, hq => cases hq; exact hKn8
    | k + 9, hq => simp [vwCl] at hq
  obtain ⟨a0, k0, m0, f0, g0, e0⟩ := Cond.arrayClass_spec (hts (.arrayClass .int) (by decide +kernel))
  obtain ⟨a1, k1, m1, f1, g1, e1⟩ := Cond.arrayClass_spec (hts (.arrayClass .char) (by decide +kernel))
  obtain ⟨a2, k2, m2, f2, g2, e2⟩ := Cond.arrayClass_spec (hts (.arrayClass .long) (by decide +kernel))
  obtain ⟨a3, k3, m3, f3, g3, e3⟩ := Cond.arrayClass_spec (hts (.arrayClass .boolean) (by decide +kernel))
  have hov : (Cond.arrayOver (.object "JourneyRoads$Journey")).before #[Value.ref b] s = true := hts (.arrayOver (.object "JourneyRoads$Journey")) (by decide +kernel)
  obtain ⟨m4, a4, k4, h41, h42, g4, e4, f4⟩ := Cond.arrayOver_spec hov
  obtain ⟨cA, rfl, rfl, rfl, rfl, rfl⟩ : ∃ cA : Nat → ClassId, a0 = cA 0 ∧ a1 = cA 1 ∧ a2 = cA 2 ∧ a3 = cA 3 ∧ a4 = cA 4 := ⟨fun k => match k with | 0 => a0 | 1 => a1 | 2 => a2 | 3 => a3 | _ => a4, rfl, rfl, rfl, rfl, rfl⟩
  have hK : va_K D vwCl (rT cA) s := by
    refine ⟨hKc, fun k q hq => ?_⟩
    match k, hq with
    | 0, hq => cases hq; exact ⟨fun n z => ⟨fun k h => (by cases h), k0, g0, m0, e0⟩, f0⟩
    | 1, hq => cases hq; exact ⟨fun n z => ⟨fun k h => (by cases h), k1, g1, m1, e1⟩, f1⟩
    | 2, hq => cases hq; exact ⟨fun n z => ⟨fun k h => (by cases h), k2, g2, m2, e2⟩, f2⟩
    | 3, hq => cases hq; exact ⟨fun n z => ⟨fun k h => (by cases h), k3, g3, m3, e3⟩, f3⟩
    | 4, hq => cases hq; exact ⟨fun n z => ⟨fun k h => (by cases h), k4, g4, m4, e4⟩, ⟨k4, m4, g4, e4, h41, f4⟩⟩
    | k + 5, hq => simp [rT] at hq
  have hN : cN s := ⟨va_AO.of hov, va_Nw.of rfl (hts (.methodLinkNest RX2 17 yX1_init "JourneyRoads") (by decide +kernel)), va_Nw.of rfl (hts (.methodLinkNest RX7 11 yX5_init "JourneyRoads") (by decide +kernel)), va_Nw.of rfl (hts (.methodLinkNest RX7 18 yX1_init "JourneyRoads") (by decide +kernel)), va_Nw.of rfl (hts (.methodLinkNest RX7 32 yX3_init "JourneyRoads") (by decide +kernel)), va_Nw.of rfl (hts (.methodLinkNest RX7 39 yX4_init "JourneyRoads") (by decide +kernel)), va_Nw.of rfl (hts (.methodLinkNest RX7 46 yX6_init "JourneyRoads") (by decide +kernel)), va_Nw.of rfl (hts (.methodLinkNest RX7 71 yX0_init "JourneyRoads") (by decide +kernel))⟩
  have hfl := flat_of_before _ hgv
  obtain ⟨wf, hwf⟩ : ∃ wf : Nat → Int64, ∀ j : Nat, j < 6 → (Term.elem (.static "JourneyRoads$SealSearch" "WITHOUT" "[J") (.int (Int32.ofNat j))).eval #[Value.ref b] s none [] s = some (.long (wf j)) := by
    refine ⟨fun j => match j with | 0 => (6148914691236517205) | 1 => (3689348814741910323) | 2 => (1085102592571150095) | 3 => (71777214294589695) | 4 => (281470681808895) | _ => (4294967295), fun j hj => ?_⟩
    rcases (show j = 0 ∨ j = 1 ∨ j = 2 ∨ j = 3 ∨ j = 4 ∨ j = 5 by omega) with rfl | rfl | rfl | rfl | rfl | rfl
    · exact va_eqtl (hfl (Cond.eq (.elem (.static "JourneyRoads$SealSearch" "WITHOUT" "[J") (.int (0 : Int32))) (.long (6148914691236517205 : Int64))) (by decide +kernel))
    · exact va_eqtl (hfl (Cond.eq (.elem (.static "JourneyRoads$SealSearch" "WITHOUT" "[J") (.int (1 : Int32))) (.long (3689348814741910323 : Int64))) (by decide +kernel))
    · exact va_eqtl (hfl (Cond.eq (.elem (.static "JourneyRoads$SealSearch" "WITHOUT" "[J") (.int (2 : Int32))) (.long (1085102592571150095 : Int64))) (by decide +kernel))
    · exact va_eqtl (hfl (Cond.eq (.elem (.static "JourneyRoads$SealSearch" "WITHOUT" "[J") (.int (3 : Int32))) (.long (71777214294589695 : Int64))) (by decide +kernel))
    · exact va_eqtl (hfl (Cond.eq (.elem (.static "JourneyRoads$SealSearch" "WITHOUT" "[J") (.int (4 : Int32))) (.long (281470681808895 : Int64))) (by decide +kernel))
    · exact va_eqtl (hfl (Cond.eq (.elem (.static "JourneyRoads$SealSearch" "WITHOUT" "[J") (.int (5 : Int32))) (.long (4294967295 : Int64))) (by decide +kernel))
  obtain ⟨t, htv, hT⟩ := va_Tof (A := fun q : Nat => s.heap.size ≤ q) (f := fun j => .long (wf j)) (N := 6) (ty := .long) (by decide) (hfl (Cond.arrayOf (.static "JourneyRoads$SealSearch" "WITHOUT" "[J") .long) (by decide +kernel)) (va_eqt (z := 6) (hfl (Cond.eq (.length (.static "JourneyRoads$SealSearch" "WITHOUT" "[J")) (.int (6 : Int32))) (by decide +kernel))) hwf (fun a ha => Nat.not_le.mpr ha)
  have hZ0 := va_Zref (A := fun q : Nat => s.heap.size ≤ q) (hts (.laysStatic "JourneyRoads$SealSearch" "WITHOUT" "[J") (by decide +kernel)) (hts (.initialized "JourneyRoads$SealSearch") (by decide +kernel)) htv (fun a ha => Nat.not_le.mpr ha)
  have hS : va_S (fun q : Nat => s.heap.size ≤ q) s.heap s.heap [] := va_S.rf
  have hP : va_P D vwCl [] s.heap := fun k q h => by simp at h
  have hD : va_D (fun q : Nat => s.heap.size ≤ q) [] := ⟨fun i j p q h => by simp at h, fun k q h => by simp at h⟩
  have hl := lv_entry ([.ref b]) (n := 4) (Nat.le_of_ble_eq_true rfl)
  rw [lg_entry_eq]
  generalize (lg_sl ([.ref b]) ++ List.replicate (4 - (lg_sl ([.ref b])).length) Slot.unset).toArray = ls at hl ⊢
  have hl : lv_has ls 4 [(0, .ref b)] := hl
  refine va_new (ci := 7) (fs := [.null, .null, .null, .null, .null, .null, .null, .null, .null, .null, .null, .null, .null, .int 0, .int 0]) (C := RX7) (T := TX7) (N := 15) hx hb hts' inlX7 tyX7 tyX7_ok hown (hts' (.classLink RL 7 RX7) (by decide +kernel)) (hts' (.instantiable RX7 15) (by decide +kernel)) (hts' (.initialized RX7) (by decide +kernel)) hK hP hD hS hA rfl (fun j hj => by rcases (show j = 0 ∨ j = 1 ∨ j = 2 ∨ j = 3 ∨ j = 4 ∨ j = 5 ∨ j = 6 ∨ j = 7 ∨ j = 8 ∨ j = 9 ∨ j = 10 ∨ j = 11 ∨ j = 12 ∨ j = 13 ∨ j = 14 by omega) with rfl | rfl | rfl | rfl | rfl | rfl | rfl | rfl | rfl | rfl | rfl | rfl | rfl | rfl | rfl <;> rfl) (by decide +kernel) (by decide +kernel) dL_law_0 (fun q H hP hD hS => ?_)
  have hP : va_P D vwCl ((([] : va_W) ++ [(q, .inr (7, [.null, .null, .null, .null, .null, .null, .null, .null, .null, .null, .null, .null, .null, .int 0, .int 0]))]) ++ []) H := hP
  have hD : va_D (fun q : Nat => s.heap.size ≤ q) ((([] : va_W) ++ [(q, .inr (7, [.null, .null, .null, .null, .null, .null, .null, .null, .null, .null, .null, .null, .null, .int 0, .int 0]))]) ++ []) := hD
  refine W.widen (k := 1) (n := 15) (by omega) (by omega) ?_
  refine lv_dup hx hb dL_law_3 rfl ?_
  have hPc := hP.sub (ws' := [(q, .inr (7, [.null, .null, .null, .null, .null, .null, .null, .null, .null, .null, .null, .null, .null, .int 0, .int 0]))]) [0] rfl
  have hDc := hD.sub (ws' := [(q, .inr (7, [.null, .null, .null, .null, .null, .null, .null, .null, .null, .null, .null, .null, .null, .int 0, .int 0]))]) [0] (by decide) rfl
  refine k_call (X := ([] : va_W)) (pl := []) (x := (q, .inr (7, [.null, .null, .null, .null, .null, .null, .null, .null, .null, .null, .null, .null, .null, .int 0, .int 0]))) (va_runI (As := []) (rest := [.ref q]) S (c_X7_init l D cA q H.size) (cwI 0 hts' gL_law_X7_init rfl rfl rfl (hts' (.initialized RX7) (by decide +kernel)) (hts' (.methodLink RL 9 yX7_init) (by decide +kernel)) (hts' (.instanceMethod yX7_init) (by decide +kernel)) rfl (by decide +kernel) ⟨Nat.le_of_ble_eq_true rfl, Nat.le_of_ble_eq_true rfl⟩) (kP_at hK hN hPc hDc) rfl rfl hl.1 rfl (lv_room (Nat.le_of_ble_eq_true rfl)) dL_law_4 ⟨by decide +kernel, by decide +kernel⟩) hP hD hS hA 0 [] rfl rfl (by decide) (by decide) (fun u H locs huX7 hP hD hS => ?_)
  have hP : va_P D vwCl (WX7 cA q u) H := by simpa using hP
  have hD : va_D (fun q : Nat => s.heap.size ≤ q) (WX7 cA q u) := by simpa using hD
  refine W.widen (k := 58) (n := 2924) (by omega) (by omega) ?_
  refine lv_astore_n (lv' := [(1, .ref q), (0, .ref b)]) hx hb dL_law_7 rfl hl (by decide) rfl (fun ls hl => ?_)
  refine va_new (ci := 8) (fs := [.null, .int 0, .null, .null, .null, .null, .int 0, .null, .null, .int 0, .null, .int 0, .null, .int 0, .int 0, .int 0, .int 0, .int 0, .int 0, .null, .null, .null, .null]) (C := RX8) (T := TX8) (N := 23) hx hb hts' inlX8 tyX8 tyX8_ok hown (hts' (.classLink RL 10 RX8) (by decide +kernel)) (hts' (.instantiable RX8 23) (by decide +kernel)) (hts' (.initialized RX8) (by decide +kernel)) hK hP hD hS hA rfl (fun j hj => by rcases (show j = 0 ∨ j = 1 ∨ j = 2 ∨ j = 3 ∨ j = 4 ∨ j = 5 ∨ j = 6 ∨ j = 7 ∨ j = 8 ∨ j = 9 ∨ j = 10 ∨ j = 11 ∨ j = 12 ∨ j = 13 ∨ j = 14 ∨ j = 15 ∨ j = 16 ∨ j = 17 ∨ j = 18 ∨ j = 19 ∨ j = 20 ∨ j = 21 ∨ j = 22 by omega) with rfl | rfl | rfl | rfl | rfl | rfl | rfl | rfl | rfl | rfl | rfl | rfl | rfl | rfl | rfl | rfl | rfl | rfl | rfl | rfl | rfl | rfl | rfl <;> rfl) (by decide +kernel) (by decide +kernel) dL_law_8 (fun q2 H hP hD hS => ?_)
  have hP : va_P D vwCl ((WX7 cA q u ++ [(q2, .inr (8, [.null, .int 0, .null, .null, .null, .null, .int 0, .null, .null, .int 0, .null, .int 0, .null, .int 0, .int 0, .int 0, .int 0, .int 0, .int 0, .null, .null, .null, .null]))]) ++ []) H := by rw [List.append_nil]; exact hP
  have hD : va_D (fun q : Nat => s.heap.size ≤ q) ((WX7 cA q u ++ [(q2, .inr (8, [.null, .int 0, .null, .null, .null, .null, .int 0, .null, .null, .int 0, .null, .int 0, .null, .int 0, .int 0, .int 0, .int 0, .int 0, .int 0, .null, .null, .null, .null]))]) ++ []) := by rw [List.append_nil]; exact hD
  refine W.widen (k := 59) (n := 2947) (by omega) (by omega) ?_
  refine lv_dup hx hb dL_law_11 rfl ?_
  have hPc := last_P (X := WX7 cA q u) (x := (q2, .inr (8, [.null, .int 0, .null, .null, .null, .null, .int 0, .null, .null, .int 0, .null, .int 0, .null, .int 0, .int 0, .int 0, .int 0, .int 0, .int 0, .null, .null, .null, .null]))) (by rw [List.append_nil] at hP; exact hP)
  have hDc := last_D (X := WX7 cA q u) (x := (q2, .inr (8, [.null, .int 0, .null, .null, .null, .null, .int 0, .null, .null, .int 0, .null, .int 0, .null, .int 0, .int 0, .int 0, .int 0, .int 0, .int 0, .null, .null, .null, .null]))) (by rw [List.append_nil] at hD; exact hD)
  refine k_call (X := WX7 cA q u) (pl := []) (x := (q2, .inr (8, [.null, .int 0, .null, .null, .null, .null, .int 0, .null, .null, .int 0, .null, .int 0, .null, .int 0, .int 0, .int 0, .int 0, .int 0, .int 0, .null, .null, .null, .null]))) (va_runI (As := []) (rest := [.ref q2]) S (c_X8_init l D cA q2 H.size) (cwI 0 hts' gL_law_X8_init rfl rfl rfl (hts' (.initialized RX8) (by decide +kernel)) (hts' (.methodLink RL 12 yX8_init) (by decide +kernel)) (hts' (.instanceMethod yX8_init) (by decide +kernel)) rfl (by decide +kernel) ⟨Nat.le_of_ble_eq_true rfl, Nat.le_of_ble_eq_true rfl⟩) (kP_at hK hN hPc hDc) rfl rfl hl.1 rfl (lv_room (Nat.le_of_ble_eq_true rfl)) dL_law_12 ⟨by decide +kernel, by decide +kernel⟩) hP hD hS hA (WX7 cA q u).length (List.range (WX7 cA q u).length) (one_map _ _) (rng_map _ _) (nd_rng : va_nd (List.range (WX7 cA q u).length) = true) (fun i hi => by simp at hi ⊢; omega) (fun u8 H locs huX8 hP hD hS => ?_)
  have hP : va_P D vwCl (L72 cA q u q2 u8) H := by simpa using hP
  have hD : va_D (fun q : Nat => s.heap.size ≤ q) (L72 cA q u q2 u8) := by simpa using hD
  refine W.widen (k := 72) (n := 5520) (by omega) (by omega) ?_
  refine lv_astore_n (lv' := [(2, .ref q2), (1, .ref q), (0, .ref b)]) hx hb dL_law_15 rfl hl (by decide) rfl (fun ls hl => ?_)
  refine lv_iconst (v := nI 0) hx hb dL_law_16 (by decide +kernel) ?_
  refine lv_istore_n (lv' := [(3, .int (nI 0)), (2, .ref q2), (1, .ref q), (0, .ref b)]) hx hb dL_law_17 rfl hl (by decide) rfl (fun ls hl => ?_)
  have hlen : (L72 cA q u q2 u8).length = rN := rfl
  have hget : ∀ i, i < rN → (L72 cA q u q2 u8)[rPi.getD i i]? = some (ad72 cA q u q2 u8 i, F72 cA q u q2 u8 i) := fun i hi => by
    have hl9 : rPi.getD i i < (L72 cA q u q2 u8).length := by rw [hlen]; exact rPi_lt i hi
    show (L72 cA q u q2 u8)[rPi.getD i i]? = some ((((L72 cA q u q2 u8)[rPi.getD i i]?).map Prod.fst).getD 0, (((L72 cA q u q2 u8)[rPi.getD i i]?).map Prod.snd).getD J0)
    rw [List.getElem?_eq_getElem hl9]; rfl
  have hI : rI (ad72 cA q u q2 u8) := fun i j hi hj hij => rPi_inj i hi j hj (hD.1 _ _ _ _ (hget i hi) (hget j hj) hij)
  have hge : ∀ i, i < rN → s.heap.size ≤ ad72 cA q u q2 u8 i := fun i hi => hD.2 _ _ (hget i hi)
  have hsub : ∀ z, rA (ad72 cA q u q2 u8) z → s.heap.size ≤ z := fun z hz => by obtain ⟨i, hi, he⟩ := hz; rw [he]; exact hge i hi
  have hZ : rZ t (ad72 cA q u q2 u8) s := ⟨hZ0.narrow hsub, ⟨wf, hT.narrow hsub⟩, va_Nw.of rfl (hts (.methodLinkNest RX3 62 yX7_exitsOf "JourneyRoads") (by decide +kernel)), va_Nw.of rfl (hts (.methodLinkNest RX6 73 yX7_exitsOf "JourneyRoads") (by decide +kernel))⟩
  have hP' : va_P D vwCl (rW (ad72 cA q u q2 u8) (F72 cA q u q2 u8)) H := hP.by (fun k => rPi.getD k k) (fun k q9 hk => by obtain ⟨h1, rfl⟩ := rW_of hk; exact hget k h1)
  refine va_forget (fun z hz => hS.2.2 z hz) ?_
  have hS' : va_S (rA (ad72 cA q u q2 u8)) s.heap H [] := ⟨hS.1, fun z h1 _ => hS.2.1 z h1 (Nat.not_le.mpr h1), fun z hz => by cases hz⟩
  exact law_loop l hL C0 hK hZ hI hge (L + 1) 0 (F72 cA q u q2 u8) H [] (Nat.zero_le _) (by omega) (WT_start cA q u q2 u8 huX7.1 huX7.2.1 huX7.2.2) hP' hS' (RR_start cA q u q2 u8 hI huX7.1 huX7.2.1 huX7.2.2) ls (lv_sub hl [3, 2, 1, 0] rfl)
