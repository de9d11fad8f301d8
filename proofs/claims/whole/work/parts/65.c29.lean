theorem in4N_o {q : Int} (h : ¬ (4443 ≤ q ∧ q ≤ 4502 ∧ (q - 4443) % 4 = 3)) : ∀ n : Nat, n ≤ 15 → in4N n q = in3N 4 q
  | 0, _ => rfl
  | n + 1, hn => by
    show up (in4N n) (4443 + 4 * n + 3) (-1) q = _
    rw [up_n (by omega)]
    exact in4N_o h n (by omega)
theorem in4N_i {k : Int} (h : 0 ≤ k) : ∀ n : Nat, k < n → in4N n (4443 + 4 * k + 3) = -1
  | 0, hk => by omega
  | n + 1, hk => by
    show up (in4N n) (4443 + 4 * n + 3) (-1) (4443 + 4 * k + 3) = _
    by_cases e : k = n
    · rw [e, up_s]
    · rw [up_n (by omega)]; exact in4N_i h n (by omega)
theorem in3N_4 (q : Int) : in3N 4 q = if 29 ≤ q ∧ q ≤ 32 then 50 else if 50 ≤ q ∧ q ≤ 53 then -1 else in2 q := by
  show up (up (up (up (up (up (up (up in2 (29 + (0 : Nat)) 50) (50 + (0 : Nat)) (-1)) (29 + (1 : Nat)) 50) (50 + (1 : Nat)) (-1)) (29 + (2 : Nat)) 50) (50 + (2 : Nat)) (-1)) (29 + (3 : Nat)) 50) (50 + (3 : Nat)) (-1) q = _
  unfold up
  by_cases h1 : 29 ≤ q ∧ q ≤ 32
  · rw [if_pos h1]
    (repeat' split) <;> omega
  · rw [if_neg h1]
    by_cases h2 : 50 ≤ q ∧ q ≤ 53
    · rw [if_pos h2]
      (repeat' split) <;> omega
    · rw [if_neg h2]
      (repeat' split) <;> omega
theorem in2_v (q : Int) : in2 q = if 3390 ≤ q ∧ q ≤ 3394 then -1 else in1 q := by
  show up (up (up (up (up in1 (3390 + 1 * (0 : Nat)) (-1)) (3390 + 1 * (1 : Nat)) (-1)) (3390 + 1 * (2 : Nat)) (-1)) (3390 + 1 * (3 : Nat)) (-1)) (3390 + 1 * (4 : Nat)) (-1) q = _
  unfold up
  by_cases h1 : 3390 ≤ q ∧ q ≤ 3394
  · rw [if_pos h1]
    (repeat' split) <;> omega
  · rw [if_neg h1]
    (repeat' split) <;> omega
theorem in1_v (q : Int) : in1 q = if q = 3389 then -1 else if q = 2 then 250 else if q = 0 then 16 else 0 := rfl
theorem ini_0 {q : Int} (h : q ≠ 0 ∧ q ≠ 2 ∧ ¬ (29 ≤ q ∧ q ≤ 32) ∧ ¬ (50 ≤ q ∧ q ≤ 53) ∧ ¬ (3389 ≤ q ∧ q ≤ 3394) ∧ ¬ (4443 ≤ q ∧ q ≤ 4502 ∧ (q - 4443) % 4 = 3)) : ini q = 0 := by
  unfold ini
  rw [in4N_o (by omega) 15 (by omega), in3N_4, if_neg (by omega), if_neg (by omega), in2_v, if_neg (by omega), in1_v, if_neg (by omega), if_neg (by omega), if_neg (by omega)]
theorem ini_50 {q : Int} (h : 29 ≤ q ∧ q ≤ 32) : ini q = 50 := by
  unfold ini
  rw [in4N_o (by omega) 15 (by omega), in3N_4, if_pos (by omega)]
theorem ini_m {q : Int} (h : (50 ≤ q ∧ q ≤ 53) ∨ (3389 ≤ q ∧ q ≤ 3394)) : ini q = -1 := by
  unfold ini
  rw [in4N_o (by omega) 15 (by omega), in3N_4, if_neg (by omega)]
  by_cases h1 : 50 ≤ q ∧ q ≤ 53
  · rw [if_pos h1]
  · rw [if_neg h1, in2_v]
    by_cases h2 : 3390 ≤ q ∧ q ≤ 3394
    · rw [if_pos h2]
    · rw [if_neg h2, in1_v, if_pos (by omega)]
theorem ini_a {a : Int} (h : 0 ≤ a ∧ a ≤ 14) : ini (4443 + 4 * a + 3) = -1 := in4N_i h.1 15 (by omega)
theorem ini_c0 : ini 0 = 16 := by
  unfold ini
  rw [in4N_o (by omega) 15 (by omega), in3N_4, if_neg (by omega), if_neg (by omega), in2_v, if_neg (by omega)]; rfl
theorem ini_c2 : ini 2 = 250 := by
  unfold ini
  rw [in4N_o (by omega) 15 (by omega), in3N_4, if_neg (by omega), if_neg (by omega), in2_v, if_neg (by omega)]; rfl
theorem ini_pd {c : Int} (hc : 0 ≤ c ∧ c ≤ 3) : pend ini c = 0 := by
  unfold pend
  rw [ini_0 (q := 58 + c) (by omega), ini_0 (q := 54 + c) (by omega)]; rfl
theorem IV.ini : IV 0 ini := by
  have e382 : _root_.Jvm.Pilot.@@N@@.ini 382 = 0 := ini_0 (by omega)
  have e4503 : _root_.Jvm.Pilot.@@N@@.ini 4503 = 0 := ini_0 (by omega)
  have e12304 : _root_.Jvm.Pilot.@@N@@.ini 12304 = 0 := ini_0 (by omega)
  have hAi : Ai _root_.Jvm.Pilot.@@N@@.ini := ⟨fun a x y => by rw [ini_a ⟨x, y⟩]; omega, by rw [e4503]; omega, fun i x y => by rw [e4503] at y; omega⟩
  refine ⟨⟨⟨by rw [ini_c0]; omega, fun c a b => ⟨⟨⟨by rw [ini_0 (by omega)]; omega, by rw [ini_0 (by omega)]; omega, fun i x y => by rw [ini_0 (by omega)] at y; omega⟩, Or.inl ⟨ini_0 (by omega), ini_0 (by omega)⟩⟩, ⟨by rw [ini_0 (by omega)]; omega, by rw [ini_50 (by omega)]; omega, by rw [ini_0 (by omega)]; omega, by rw [ini_0 (by omega)]; omega⟩, by rw [ini_m (by omega)]; omega, by rw [ini_m (by omega)]; omega, by rw [ini_0 (by omega), ini_0 (by omega)]; omega⟩, by rw [ini_0 (by omega)]; omega, by rw [ini_0 (by omega)]; omega, by rw [ini_0 (by omega)]; omega, fun i a b => by rw [ini_0 (by omega)]; omega, by rw [e382]; omega, by rw [ini_c2]; omega⟩, ⟨by rw [ini_0 (by omega), ini_0 (by omega)]; rfl, fun i a b => by rw [ini_0 (by omega), ini_0 (by omega)]; rfl, fun a x y => by rw [ini_0 (by omega)]; omega⟩, by rw [ini_0 (by omega)]; omega, fun c a b => ⟨fun i x y => by rw [ini_0 (q := 54 + c) (by omega)] at y; omega, fun x => by rw [ini_0 (q := 54 + c) (by omega)] at x; omega⟩⟩, ⟨by rw [e382]; omega, fun f a b => by rw [e382] at b; omega⟩, ⟨by rw [ini_m (by omega)]; omega, fun c a b => by rw [ini_m (by omega)]; omega, fun c a b => ⟨⟨by rw [ini_0 (by omega)]; omega, fun k x y => by rw [ini_0 (q := 3407 + c) (by omega)] at y; omega, Or.inl (by rw [ini_0 (by omega)]; omega)⟩, by rw [ini_0 (by omega)]; omega, by rw [ini_0 (by omega)]; omega⟩, hAi, ⟨by rw [e12304]; omega, fun k a b => by rw [ini_0 (by omega)]; omega⟩⟩, ⟨⟨by rw [ini_0 (by omega)]; omega, by rw [ini_m (by omega), ini_0 (by omega)]; omega⟩, fun c a b => ⟨by rw [ini_0 (by omega)]; omega, by rw [ini_m (by omega), ini_0 (by omega)]; omega⟩, fun a x y => ⟨by rw [ini_0 (by omega)]; omega, by rw [ini_a ⟨x, y⟩, ini_0 (by omega)]; omega⟩, fun k a b => by rw [e4503] at b; omega⟩⟩
