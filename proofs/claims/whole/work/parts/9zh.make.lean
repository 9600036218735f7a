/-! KM: both sides are made -/
set_option maxRecDepth 100000 in
set_option maxHeartbeats 100000000 in
theorem s_make (L : Nat) (xs : Nat → Int32) : ∃ H1 H2 : KH, kx kpf kmaxl kmrc 210 10 87 0 (kent (kmaxl 87) [.ref 0]) [] (kmake (kh0 L xs) 10 0 16) = some (none, H1) ∧ H1.2.2.2.2.1 = 59 ∧ kx kpf kmaxl kmrc 130 10 169 0 (kent (kmaxl 169) [.ref 59]) [] (kmake H1 11 0 31) = some (none, H2) ∧ H2.2.2.2.2 = (75, 6598)
 ∧ (H2.1 0 = (10, 0) ∧ H2.1 1 = (1, 0) ∧ H2.1 2 = (20, 24) ∧ H2.1 3 = (20, 5) ∧ H2.1 4 = (1, 0) ∧ H2.1 5 = (20, 24) ∧ H2.1 6 = (20, 5) ∧ H2.1 7 = (1, 0) ∧ H2.1 8 = (20, 24) ∧ H2.1 9 = (20, 5) ∧ H2.1 10 = (5, 0) ∧ H2.1 11 = (24, 5) ∧ H2.1 12 = (20, 4) ∧ H2.1 13 = (20, 4) ∧ H2.1 14 = (1, 0) ∧ H2.1 15 = (20, 24) ∧ H2.1 16 = (20, 5) ∧ H2.1 17 = (1, 0) ∧ H2.1 18 = (20, 24) ∧ H2.1 19 = (20, 5) ∧ H2.1 20 = (1, 0) ∧ H2.1 21 = (20, 24) ∧ H2.1 22 = (20, 5) ∧ H2.1 23 = (1, 0) ∧ H2.1 24 = (20, 24) ∧ H2.1 25 = (20, 5) ∧ H2.1 26 = (1, 0) ∧ H2.1 27 = (20, 24) ∧ H2.1 28 = (20, 5) ∧ H2.1 29 = (6, 0) ∧ H2.1 30 = (21, 200) ∧ H2.1 31 = (20, 201) ∧ H2.1 32 = (20, 201) ∧ H2.1 33 = (26, 4) ∧ H2.1 34 = (20, 3) ∧ H2.1 35 = (20, 3) ∧ H2.1 36 = (20, 3) ∧ H2.1 37 = (20, 3) ∧ H2.1 38 = (20, 4) ∧ H2.1 39 = (20, 4) ∧ H2.1 40 = (26, 4) ∧ H2.1 41 = (20, 40) ∧ H2.1 42 = (20, 40) ∧ H2.1 43 = (20, 40) ∧ H2.1 44 = (20, 40) ∧ H2.1 45 = (20, 4) ∧ H2.1 46 = (20, 4) ∧ H2.1 47 = (20, 4) ∧ H2.1 48 = (25, 6) ∧ H2.1 49 = (0, 0) ∧ H2.1 50 = (20, 30) ∧ H2.1 51 = (3, 0) ∧ H2.1 52 = (20, 30) ∧ H2.1 53 = (4, 0) ∧ H2.1 54 = (20, 30) ∧ H2.1 55 = (8, 0) ∧ H2.1 56 = (20, 30) ∧ H2.1 57 = (2, 0) ∧ H2.1 58 = (20, 30) ∧ H2.1 59 = (11, 0) ∧ H2.1 60 = (20, 585) ∧ H2.1 61 = (20, 585) ∧ H2.1 62 = (20, 585) ∧ H2.1 63 = (20, 200) ∧ H2.1 64 = (22, 100) ∧ H2.1 65 = (20, 2340) ∧ H2.1 66 = (20, 585) ∧ H2.1 67 = (20, 12) ∧ H2.1 68 = (20, 4) ∧ H2.1 69 = (20, 4) ∧ H2.1 70 = (23, 160) ∧ H2.1 71 = (20, 4) ∧ H2.1 72 = (20, 4) ∧ H2.1 73 = (20, 4) ∧ H2.1 74 = (20, 30) ∧ True)
 ∧ (H2.2.1 0 0 = some 1 ∧ H2.2.1 0 1 = some 4 ∧ H2.2.1 0 2 = some 7 ∧ H2.2.1 0 3 = some 10 ∧ H2.2.1 0 5 = some 29 ∧ H2.2.1 0 6 = some 33 ∧ H2.2.1 0 8 = some 38 ∧ H2.2.1 0 9 = some 39 ∧ H2.2.1 0 10 = some 40 ∧ H2.2.1 0 11 = some 45 ∧ H2.2.1 0 12 = some 46 ∧ H2.2.1 0 13 = some 47 ∧ H2.2.1 0 14 = some 48 ∧ H2.2.1 1 0 = some 2 ∧ H2.2.1 1 12 = some 3 ∧ H2.2.1 4 0 = some 5 ∧ H2.2.1 4 12 = some 6 ∧ H2.2.1 7 0 = some 8 ∧ H2.2.1 7 12 = some 9 ∧ H2.2.1 10 0 = some 11 ∧ H2.2.1 10 1 = some 12 ∧ H2.2.1 10 2 = some 13 ∧ H2.2.1 11 0 = some 14 ∧ H2.2.1 11 1 = some 17 ∧ H2.2.1 11 2 = some 20 ∧ H2.2.1 11 3 = some 23 ∧ H2.2.1 11 4 = some 26 ∧ H2.2.1 14 0 = some 15 ∧ H2.2.1 14 12 = some 16 ∧ H2.2.1 17 0 = some 18 ∧ H2.2.1 17 12 = some 19 ∧ H2.2.1 20 0 = some 21 ∧ H2.2.1 20 12 = some 22 ∧ H2.2.1 23 0 = some 24 ∧ H2.2.1 23 12 = some 25 ∧ H2.2.1 26 0 = some 27 ∧ H2.2.1 26 12 = some 28 ∧ H2.2.1 29 0 = some 30 ∧ H2.2.1 29 2 = some 31 ∧ H2.2.1 29 3 = some 32 ∧ H2.2.1 33 0 = some 34 ∧ H2.2.1 33 1 = some 35 ∧ H2.2.1 33 2 = some 36 ∧ H2.2.1 33 3 = some 37 ∧ H2.2.1 40 0 = some 41 ∧ H2.2.1 40 1 = some 42 ∧ H2.2.1 40 2 = some 43 ∧ H2.2.1 40 3 = some 44 ∧ H2.2.1 48 1 = some 49 ∧ H2.2.1 48 2 = some 51 ∧ H2.2.1 48 3 = some 53 ∧ H2.2.1 48 4 = some 55 ∧ H2.2.1 48 5 = some 57 ∧ H2.2.1 49 0 = some 50 ∧ H2.2.1 51 0 = some 52 ∧ H2.2.1 53 0 = some 54 ∧ H2.2.1 55 0 = some 56 ∧ H2.2.1 57 0 = some 58 ∧ H2.2.1 59 0 = some 60 ∧ H2.2.1 59 1 = some 61 ∧ H2.2.1 59 2 = some 62 ∧ H2.2.1 59 4 = some 63 ∧ H2.2.1 59 13 = some 64 ∧ H2.2.1 59 18 = some 65 ∧ H2.2.1 59 19 = some 66 ∧ H2.2.1 59 21 = some 67 ∧ H2.2.1 59 22 = some 68 ∧ H2.2.1 59 23 = some 69 ∧ H2.2.1 59 24 = some 70 ∧ H2.2.1 59 25 = some 71 ∧ H2.2.1 59 26 = some 72 ∧ H2.2.1 59 27 = some 73 ∧ H2.2.1 59 28 = some 74 ∧ True)
 ∧ H2.1 1000000000 = (30, 126)
 ∧ H2.1 1000000001 = (31, 0)
 ∧ H2.2.1 1000000001 0 = some 1000000002
 ∧ H2.1 1000000002 = (32, 93)
 ∧ H2.1 1000000003 = (30, L)
 ∧ H2.2.2.1 1000000000 = (kh0 L xs).2.2.1 1000000000
 ∧ H2.2.2.1 1000000001 = (kh0 L xs).2.2.1 1000000001
 ∧ H2.2.2.1 1000000002 = (kh0 L xs).2.2.1 1000000002
 ∧ H2.2.2.1 1000000003 = xs
 ∧ H2.2.2.1 1 = ku (ku (fun _ => 0) 6 12) 9 1
 ∧ H2.2.2.1 2 = (fun _ => 0)
 ∧ H2.2.2.1 60 = ku (ku (fun _ => 0) 0 12) 7 1
 ∧ H2.2.1 1 10 = none
 ∧ H2.2.1 1 11 = none
 ∧ H2.2.1 4 10 = none
 ∧ H2.2.1 0 15 = none
 ∧ H2.2.2.1 0 4 = 0
 ∧ H2.2.2.1 0 7 = 0
 ∧ H2.2.2.1 59 3 = 0
 ∧ H2.2.2.1 59 5 = 0
 ∧ H2.2.2.1 59 20 = 0
 ∧ H2.2.2.1 59 29 = 0
 ∧ H2.2.2.1 29 1 = 0
 ∧ H2.2.2.1 (34 + 0) = (fun _ => 0)
 ∧ H2.2.2.1 (34 + 1) = (fun _ => 0)
 ∧ H2.2.2.1 (34 + 2) = (fun _ => 0)
 ∧ H2.2.2.1 (34 + 3) = (fun _ => 0)
 ∧ H2.2.2.1 67 = (fun _ => 0)
 ∧ (H2.2.2.1 38 0 = -1 ∧ H2.2.2.1 68 0 = -1 ∧ H2.2.2.1 39 0 = 0 ∧ H2.2.2.1 69 0 = 0 ∧ H2.2.2.1 45 0 = 2 ∧ H2.2.2.1 71 0 = 2)
 ∧ (H2.2.2.1 38 1 = -1 ∧ H2.2.2.1 68 1 = -1 ∧ H2.2.2.1 39 1 = 0 ∧ H2.2.2.1 69 1 = 0 ∧ H2.2.2.1 45 1 = 2 ∧ H2.2.2.1 71 1 = 2)
 ∧ (H2.2.2.1 38 2 = -1 ∧ H2.2.2.1 68 2 = -1 ∧ H2.2.2.1 39 2 = 0 ∧ H2.2.2.1 69 2 = 0 ∧ H2.2.2.1 45 2 = 2 ∧ H2.2.2.1 71 2 = 2)
 ∧ (H2.2.2.1 38 3 = -1 ∧ H2.2.2.1 68 3 = -1 ∧ H2.2.2.1 39 3 = 0 ∧ H2.2.2.1 69 3 = 0 ∧ H2.2.2.1 45 3 = 2 ∧ H2.2.2.1 71 3 = 2) := ⟨_, _, rfl, rfl, rfl, rfl, ⟨rfl, rfl, rfl, rfl, rfl, rfl, rfl, rfl, rfl, rfl, rfl, rfl, rfl, rfl, rfl, rfl, rfl, rfl, rfl, rfl, rfl, rfl, rfl, rfl, rfl, rfl, rfl, rfl, rfl, rfl, rfl, rfl, rfl, rfl, rfl, rfl, rfl, rfl, rfl, rfl, rfl, rfl, rfl, rfl, rfl, rfl, rfl, rfl, rfl, rfl, rfl, rfl, rfl, rfl, rfl, rfl, rfl, rfl, rfl, rfl, rfl, rfl, rfl, rfl, rfl, rfl, rfl, rfl, rfl, rfl, rfl, rfl, rfl, rfl, rfl, trivial⟩, ⟨rfl, rfl, rfl, rfl, rfl, rfl, rfl, rfl, rfl, rfl, rfl, rfl, rfl, rfl, rfl, rfl, rfl, rfl, rfl, rfl, rfl, rfl, rfl, rfl, rfl, rfl, rfl, rfl, rfl, rfl, rfl, rfl, rfl, rfl, rfl, rfl, rfl, rfl, rfl, rfl, rfl, rfl, rfl, rfl, rfl, rfl, rfl, rfl, rfl, rfl, rfl, rfl, rfl, rfl, rfl, rfl, rfl, rfl, rfl, rfl, rfl, rfl, rfl, rfl, rfl, rfl, rfl, rfl, rfl, rfl, rfl, rfl, rfl, trivial⟩, rfl, rfl, rfl, rfl, rfl, rfl, rfl, rfl, rfl, rfl, rfl, rfl, rfl, rfl, rfl, rfl, rfl, rfl, rfl, rfl, rfl, rfl, rfl, rfl, rfl, rfl, rfl, rfl, ⟨rfl, rfl, rfl, rfl, rfl, rfl⟩, ⟨rfl, rfl, rfl, rfl, rfl, rfl⟩, ⟨rfl, rfl, rfl, rfl, rfl, rfl⟩, ⟨rfl, rfl, rfl, rfl, rfl, rfl⟩⟩
