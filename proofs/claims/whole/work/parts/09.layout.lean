def LX3 (S : sS) (r : sR) (a : Nat) : Prop := S a = some (3, 0) ∧ (r a 0 = some (a + 1) ∧ S (a + 1) = some (20, 8))
theorem LX3.o {S : sS} {r : sR} {a : Nat} (h : LX3 S r a) : S a = some (3, 0) := h.1
theorem LX3.r_letters {S : sS} {r : sR} {a : Nat} (h : LX3 S r a) : r a 0 = some (a + 1) := h.2.1
theorem LX3.s_letters {S : sS} {r : sR} {a : Nat} (h : LX3 S r a) : S (a + 1) = some (20, 8) := h.2.2
def LX4 (S : sS) (r : sR) (a : Nat) : Prop := S a = some (4, 0) ∧ (r a 0 = some (a + 1) ∧ S (a + 1) = some (20, 8))
theorem LX4.o {S : sS} {r : sR} {a : Nat} (h : LX4 S r a) : S a = some (4, 0) := h.1
theorem LX4.r_signs {S : sS} {r : sR} {a : Nat} (h : LX4 S r a) : r a 0 = some (a + 1) := h.2.1
theorem LX4.s_signs {S : sS} {r : sR} {a : Nat} (h : LX4 S r a) : S (a + 1) = some (20, 8) := h.2.2
def LX10 (S : sS) (r : sR) (a : Nat) : Prop := S a = some (10, 0) ∧ (r a 0 = some (a + 1) ∧ S (a + 1) = some (20, 200))
theorem LX10.o {S : sS} {r : sR} {a : Nat} (h : LX10 S r a) : S a = some (10, 0) := h.1
theorem LX10.r_bytes {S : sS} {r : sR} {a : Nat} (h : LX10 S r a) : r a 0 = some (a + 1) := h.2.1
theorem LX10.s_bytes {S : sS} {r : sR} {a : Nat} (h : LX10 S r a) : S (a + 1) = some (20, 200) := h.2.2
def LX0 (S : sS) (r : sR) (a : Nat) : Prop := S a = some (0, 0) ∧ (r a 0 = some (a + 1) ∧ LX3 S r (a + 1))
theorem LX0.o {S : sS} {r : sR} {a : Nat} (h : LX0 S r a) : S a = some (0, 0) := h.1
theorem LX0.r_name {S : sS} {r : sR} {a : Nat} (h : LX0 S r a) : r a 0 = some (a + 1) := h.2.1
theorem LX0.n_name {S : sS} {r : sR} {a : Nat} (h : LX0 S r a) : LX3 S r (a + 1) := h.2.2
def LX1 (S : sS) (r : sR) (a : Nat) : Prop := S a = some (1, 0) ∧ (r a 0 = some (a + 1) ∧ S (a + 1) = some (20, 20)) ∧ (r a 1 = some (a + 2) ∧ S (a + 2) = some (20, 20)) ∧ (r a 2 = some (a + 3) ∧ S (a + 3) = some (20, 20))
theorem LX1.o {S : sS} {r : sR} {a : Nat} (h : LX1 S r a) : S a = some (1, 0) := h.1
theorem LX1.r_truly {S : sS} {r : sR} {a : Nat} (h : LX1 S r a) : r a 0 = some (a + 1) := h.2.1.1
theorem LX1.s_truly {S : sS} {r : sR} {a : Nat} (h : LX1 S r a) : S (a + 1) = some (20, 20) := h.2.1.2
theorem LX1.r_written {S : sS} {r : sR} {a : Nat} (h : LX1 S r a) : r a 1 = some (a + 2) := h.2.2.1.1
theorem LX1.s_written {S : sS} {r : sR} {a : Nat} (h : LX1 S r a) : S (a + 2) = some (20, 20) := h.2.2.1.2
theorem LX1.r_costs {S : sS} {r : sR} {a : Nat} (h : LX1 S r a) : r a 2 = some (a + 3) := h.2.2.2.1
theorem LX1.s_costs {S : sS} {r : sR} {a : Nat} (h : LX1 S r a) : S (a + 3) = some (20, 20) := h.2.2.2.2
def LX6 (S : sS) (r : sR) (a : Nat) : Prop := S a = some (6, 0) ∧ (r a 0 = some (a + 1) ∧ S (a + 1) = some (20, 21)) ∧ (r a 1 = some (a + 2) ∧ S (a + 2) = some (20, 21))
theorem LX6.o {S : sS} {r : sR} {a : Nat} (h : LX6 S r a) : S a = some (6, 0) := h.1
theorem LX6.r_values {S : sS} {r : sR} {a : Nat} (h : LX6 S r a) : r a 0 = some (a + 1) := h.2.1.1
theorem LX6.s_values {S : sS} {r : sR} {a : Nat} (h : LX6 S r a) : S (a + 1) = some (20, 21) := h.2.1.2
theorem LX6.r_costs {S : sS} {r : sR} {a : Nat} (h : LX6 S r a) : r a 1 = some (a + 2) := h.2.2.1
theorem LX6.s_costs {S : sS} {r : sR} {a : Nat} (h : LX6 S r a) : S (a + 2) = some (20, 21) := h.2.2.2
def LX8 (S : sS) (r : sR) (a : Nat) : Prop := S a = some (8, 0)
theorem LX8.o {S : sS} {r : sR} {a : Nat} (h : LX8 S r a) : S a = some (8, 0) := h
def LX9 (S : sS) (r : sR) (a : Nat) : Prop := S a = some (9, 0) ∧ (r a 0 = some (a + 1) ∧ S (a + 1) = some (20, 26)) ∧ (r a 1 = some (a + 2) ∧ S (a + 2) = some (20, 9))
theorem LX9.o {S : sS} {r : sR} {a : Nat} (h : LX9 S r a) : S a = some (9, 0) := h.1
theorem LX9.r_groups {S : sS} {r : sR} {a : Nat} (h : LX9 S r a) : r a 0 = some (a + 1) := h.2.1.1
theorem LX9.s_groups {S : sS} {r : sR} {a : Nat} (h : LX9 S r a) : S (a + 1) = some (20, 26) := h.2.1.2
theorem LX9.r_row {S : sS} {r : sR} {a : Nat} (h : LX9 S r a) : r a 1 = some (a + 2) := h.2.2.1
theorem LX9.s_row {S : sS} {r : sR} {a : Nat} (h : LX9 S r a) : S (a + 2) = some (20, 9) := h.2.2.2
def LX7 (S : sS) (r : sR) (a : Nat) : Prop := S a = some (7, 0) ∧ (r a 0 = some (a + 1) ∧ S (a + 1) = some (24, 10) ∧ ∀ j : Int, 0 ≤ j → j < 10 → r (a + 1) j = some (a + 4 + 4 * j.toNat) ∧ LX3 S r (a + 4 + 4 * j.toNat)) ∧ (r a 1 = some (a + 2) ∧ S (a + 2) = some (25, 10) ∧ ∀ j : Int, 0 ≤ j → j < 10 → r (a + 2) j = some (a + 6 + 4 * j.toNat) ∧ LX4 S r (a + 6 + 4 * j.toNat)) ∧ (r a 2 = some (a + 3) ∧ S (a + 3) = some (22, 10))
theorem LX7.o {S : sS} {r : sR} {a : Nat} (h : LX7 S r a) : S a = some (7, 0) := h.1
theorem LX7.r_names {S : sS} {r : sR} {a : Nat} (h : LX7 S r a) : r a 0 = some (a + 1) := h.2.1.1
theorem LX7.s_names {S : sS} {r : sR} {a : Nat} (h : LX7 S r a) : S (a + 1) = some (24, 10) := h.2.1.2.1
theorem LX7.e_names {S : sS} {r : sR} {a : Nat} (h : LX7 S r a) {j : Int} (h0 : 0 ≤ j) (h1 : j < 10) : r (a + 1) j = some (a + 4 + 4 * j.toNat) := (h.2.1.2.2 j h0 h1).1
theorem LX7.n_names {S : sS} {r : sR} {a : Nat} (h : LX7 S r a) {j : Int} (h0 : 0 ≤ j) (h1 : j < 10) : LX3 S r (a + 4 + 4 * j.toNat) := (h.2.1.2.2 j h0 h1).2
theorem LX7.r_numerals {S : sS} {r : sR} {a : Nat} (h : LX7 S r a) : r a 1 = some (a + 2) := h.2.2.1.1
theorem LX7.s_numerals {S : sS} {r : sR} {a : Nat} (h : LX7 S r a) : S (a + 2) = some (25, 10) := h.2.2.1.2.1
theorem LX7.e_numerals {S : sS} {r : sR} {a : Nat} (h : LX7 S r a) {j : Int} (h0 : 0 ≤ j) (h1 : j < 10) : r (a + 2) j = some (a + 6 + 4 * j.toNat) := (h.2.2.1.2.2 j h0 h1).1
theorem LX7.n_numerals {S : sS} {r : sR} {a : Nat} (h : LX7 S r a) {j : Int} (h0 : 0 ≤ j) (h1 : j < 10) : LX4 S r (a + 6 + 4 * j.toNat) := (h.2.2.1.2.2 j h0 h1).2
theorem LX7.r_misread {S : sS} {r : sR} {a : Nat} (h : LX7 S r a) : r a 2 = some (a + 3) := h.2.2.2.1
theorem LX7.s_misread {S : sS} {r : sR} {a : Nat} (h : LX7 S r a) : S (a + 3) = some (22, 10) := h.2.2.2.2
def LX2 (S : sS) (r : sR) (a : Nat) : Prop := S a = some (2, 0) ∧ (r a 0 = some (a + 1) ∧ S (a + 1) = some (27, 12) ∧ ∀ j : Int, 0 ≤ j → j < 12 → r (a + 1) j = some (a + 3 + 6 * j.toNat) ∧ LX0 S r (a + 3 + 6 * j.toNat)) ∧ (r a 1 = some (a + 2) ∧ S (a + 2) = some (27, 12) ∧ ∀ j : Int, 0 ≤ j → j < 12 → r (a + 2) j = some (a + 6 + 6 * j.toNat) ∧ LX0 S r (a + 6 + 6 * j.toNat))
theorem LX2.o {S : sS} {r : sR} {a : Nat} (h : LX2 S r a) : S a = some (2, 0) := h.1
theorem LX2.r_ruins {S : sS} {r : sR} {a : Nat} (h : LX2 S r a) : r a 0 = some (a + 1) := h.2.1.1
theorem LX2.s_ruins {S : sS} {r : sR} {a : Nat} (h : LX2 S r a) : S (a + 1) = some (27, 12) := h.2.1.2.1
theorem LX2.e_ruins {S : sS} {r : sR} {a : Nat} (h : LX2 S r a) {j : Int} (h0 : 0 ≤ j) (h1 : j < 12) : r (a + 1) j = some (a + 3 + 6 * j.toNat) := (h.2.1.2.2 j h0 h1).1
theorem LX2.n_ruins {S : sS} {r : sR} {a : Nat} (h : LX2 S r a) {j : Int} (h0 : 0 ≤ j) (h1 : j < 12) : LX0 S r (a + 3 + 6 * j.toNat) := (h.2.1.2.2 j h0 h1).2
theorem LX2.r_stones {S : sS} {r : sR} {a : Nat} (h : LX2 S r a) : r a 1 = some (a + 2) := h.2.2.1
theorem LX2.s_stones {S : sS} {r : sR} {a : Nat} (h : LX2 S r a) : S (a + 2) = some (27, 12) := h.2.2.2.1
theorem LX2.e_stones {S : sS} {r : sR} {a : Nat} (h : LX2 S r a) {j : Int} (h0 : 0 ≤ j) (h1 : j < 12) : r (a + 2) j = some (a + 6 + 6 * j.toNat) := (h.2.2.2.2 j h0 h1).1
theorem LX2.n_stones {S : sS} {r : sR} {a : Nat} (h : LX2 S r a) {j : Int} (h0 : 0 ≤ j) (h1 : j < 12) : LX0 S r (a + 6 + 6 * j.toNat) := (h.2.2.2.2 j h0 h1).2
def LX5 (S : sS) (r : sR) (a : Nat) : Prop := S a = some (5, 0) ∧ (r a 0 = some (a + 1) ∧ S (a + 1) = some (29, 10) ∧ ∀ j : Int, 0 ≤ j → j < 10 → r (a + 1) j = some (a + 2 + j.toNat) ∧ S (a + 2 + j.toNat) = some (20, 601)) ∧ (r a 1 = some (a + 12) ∧ S (a + 12) = some (29, 10) ∧ ∀ j : Int, 0 ≤ j → j < 10 → r (a + 12) j = some (a + 13 + j.toNat) ∧ S (a + 13 + j.toNat) = some (20, 601)) ∧ (r a 2 = some (a + 23) ∧ S (a + 23) = some (20, 601)) ∧ (r a 3 = some (a + 24) ∧ S (a + 24) = some (23, 12621)) ∧ (r a 4 = some (a + 25) ∧ S (a + 25) = some (28, 10) ∧ ∀ j : Int, 0 ≤ j → j < 10 → r (a + 25) j = some (a + 30 + 3 * j.toNat) ∧ LX6 S r (a + 30 + 3 * j.toNat)) ∧ (r a 5 = some (a + 26) ∧ LX6 S r (a + 26)) ∧ (r a 6 = some (a + 29) ∧ S (a + 29) = some (20, 10))
theorem LX5.o {S : sS} {r : sR} {a : Nat} (h : LX5 S r a) : S a = some (5, 0) := h.1
theorem LX5.r_own {S : sS} {r : sR} {a : Nat} (h : LX5 S r a) : r a 0 = some (a + 1) := h.2.1.1
theorem LX5.s_own {S : sS} {r : sR} {a : Nat} (h : LX5 S r a) : S (a + 1) = some (29, 10) := h.2.1.2.1
theorem LX5.e_own {S : sS} {r : sR} {a : Nat} (h : LX5 S r a) {j : Int} (h0 : 0 ≤ j) (h1 : j < 10) : r (a + 1) j = some (a + 2 + j.toNat) := (h.2.1.2.2 j h0 h1).1
theorem LX5.n_own {S : sS} {r : sR} {a : Nat} (h : LX5 S r a) {j : Int} (h0 : 0 ≤ j) (h1 : j < 10) : S (a + 2 + j.toNat) = some (20, 601) := (h.2.1.2.2 j h0 h1).2
theorem LX5.r_rest {S : sS} {r : sR} {a : Nat} (h : LX5 S r a) : r a 1 = some (a + 12) := h.2.2.1.1
theorem LX5.s_rest {S : sS} {r : sR} {a : Nat} (h : LX5 S r a) : S (a + 12) = some (29, 10) := h.2.2.1.2.1
theorem LX5.e_rest {S : sS} {r : sR} {a : Nat} (h : LX5 S r a) {j : Int} (h0 : 0 ≤ j) (h1 : j < 10) : r (a + 12) j = some (a + 13 + j.toNat) := (h.2.2.1.2.2 j h0 h1).1
theorem LX5.n_rest {S : sS} {r : sR} {a : Nat} (h : LX5 S r a) {j : Int} (h0 : 0 ≤ j) (h1 : j < 10) : S (a + 13 + j.toNat) = some (20, 601) := (h.2.2.1.2.2 j h0 h1).2
theorem LX5.r_before {S : sS} {r : sR} {a : Nat} (h : LX5 S r a) : r a 2 = some (a + 23) := h.2.2.2.1.1
theorem LX5.s_before {S : sS} {r : sR} {a : Nat} (h : LX5 S r a) : S (a + 23) = some (20, 601) := h.2.2.2.1.2
theorem LX5.r_ways {S : sS} {r : sR} {a : Nat} (h : LX5 S r a) : r a 3 = some (a + 24) := h.2.2.2.2.1.1
theorem LX5.s_ways {S : sS} {r : sR} {a : Nat} (h : LX5 S r a) : S (a + 24) = some (23, 12621) := h.2.2.2.2.1.2
theorem LX5.r_readings {S : sS} {r : sR} {a : Nat} (h : LX5 S r a) : r a 4 = some (a + 25) := h.2.2.2.2.2.1.1
theorem LX5.s_readings {S : sS} {r : sR} {a : Nat} (h : LX5 S r a) : S (a + 25) = some (28, 10) := h.2.2.2.2.2.1.2.1
theorem LX5.e_readings {S : sS} {r : sR} {a : Nat} (h : LX5 S r a) {j : Int} (h0 : 0 ≤ j) (h1 : j < 10) : r (a + 25) j = some (a + 30 + 3 * j.toNat) := (h.2.2.2.2.2.1.2.2 j h0 h1).1
theorem LX5.n_readings {S : sS} {r : sR} {a : Nat} (h : LX5 S r a) {j : Int} (h0 : 0 ≤ j) (h1 : j < 10) : LX6 S r (a + 30 + 3 * j.toNat) := (h.2.2.2.2.2.1.2.2 j h0 h1).2
theorem LX5.r_asked {S : sS} {r : sR} {a : Nat} (h : LX5 S r a) : r a 5 = some (a + 26) := h.2.2.2.2.2.2.1.1
theorem LX5.n_asked {S : sS} {r : sR} {a : Nat} (h : LX5 S r a) : LX6 S r (a + 26) := h.2.2.2.2.2.2.1.2
theorem LX5.r_bestPlaces {S : sS} {r : sR} {a : Nat} (h : LX5 S r a) : r a 6 = some (a + 29) := h.2.2.2.2.2.2.2.1
theorem LX5.s_bestPlaces {S : sS} {r : sR} {a : Nat} (h : LX5 S r a) : S (a + 29) = some (20, 10) := h.2.2.2.2.2.2.2.2
def LX11 (S : sS) (r : sR) (a : Nat) : Prop := S a = some (11, 0) ∧ (r a 0 = some (a + 1) ∧ LX10 S r (a + 1)) ∧ (r a 1 = some (a + 3) ∧ LX3 S r (a + 3)) ∧ (r a 2 = some (a + 5) ∧ LX8 S r (a + 5)) ∧ (r a 3 = some (a + 6) ∧ S (a + 6) = some (26, 4) ∧ ∀ j : Int, 0 ≤ j → j < 4 → r (a + 6) j = some (a + 7 + 44 * j.toNat) ∧ LX7 S r (a + 7 + 44 * j.toNat)) ∧ (r a 6 = some (a + 183) ∧ LX2 S r (a + 183)) ∧ (r a 7 = some (a + 258) ∧ LX1 S r (a + 258)) ∧ (r a 8 = some (a + 262) ∧ LX9 S r (a + 262)) ∧ (r a 9 = some (a + 265) ∧ LX5 S r (a + 265))
theorem LX11.o {S : sS} {r : sR} {a : Nat} (h : LX11 S r a) : S a = some (11, 0) := h.1
theorem LX11.r_tape {S : sS} {r : sR} {a : Nat} (h : LX11 S r a) : r a 0 = some (a + 1) := h.2.1.1
theorem LX11.n_tape {S : sS} {r : sR} {a : Nat} (h : LX11 S r a) : LX10 S r (a + 1) := h.2.1.2
theorem LX11.r_spoken {S : sS} {r : sR} {a : Nat} (h : LX11 S r a) : r a 1 = some (a + 3) := h.2.2.1.1
theorem LX11.n_spoken {S : sS} {r : sR} {a : Nat} (h : LX11 S r a) : LX3 S r (a + 3) := h.2.2.1.2
theorem LX11.r_scribe {S : sS} {r : sR} {a : Nat} (h : LX11 S r a) : r a 2 = some (a + 5) := h.2.2.2.1.1
theorem LX11.n_scribe {S : sS} {r : sR} {a : Nat} (h : LX11 S r a) : LX8 S r (a + 5) := h.2.2.2.1.2
theorem LX11.r_routes {S : sS} {r : sR} {a : Nat} (h : LX11 S r a) : r a 3 = some (a + 6) := h.2.2.2.2.1.1
theorem LX11.s_routes {S : sS} {r : sR} {a : Nat} (h : LX11 S r a) : S (a + 6) = some (26, 4) := h.2.2.2.2.1.2.1
theorem LX11.e_routes {S : sS} {r : sR} {a : Nat} (h : LX11 S r a) {j : Int} (h0 : 0 ≤ j) (h1 : j < 4) : r (a + 6) j = some (a + 7 + 44 * j.toNat) := (h.2.2.2.2.1.2.2 j h0 h1).1
theorem LX11.n_routes {S : sS} {r : sR} {a : Nat} (h : LX11 S r a) {j : Int} (h0 : 0 ≤ j) (h1 : j < 4) : LX7 S r (a + 7 + 44 * j.toNat) := (h.2.2.2.2.1.2.2 j h0 h1).2
theorem LX11.r_land {S : sS} {r : sR} {a : Nat} (h : LX11 S r a) : r a 6 = some (a + 183) := h.2.2.2.2.2.1.1
theorem LX11.n_land {S : sS} {r : sR} {a : Nat} (h : LX11 S r a) : LX2 S r (a + 183) := h.2.2.2.2.2.1.2
theorem LX11.r_habits {S : sS} {r : sR} {a : Nat} (h : LX11 S r a) : r a 7 = some (a + 258) := h.2.2.2.2.2.2.1.1
theorem LX11.n_habits {S : sS} {r : sR} {a : Nat} (h : LX11 S r a) : LX1 S r (a + 258) := h.2.2.2.2.2.2.1.2
theorem LX11.r_sounds {S : sS} {r : sR} {a : Nat} (h : LX11 S r a) : r a 8 = some (a + 262) := h.2.2.2.2.2.2.2.1.1
theorem LX11.n_sounds {S : sS} {r : sR} {a : Nat} (h : LX11 S r a) : LX9 S r (a + 262) := h.2.2.2.2.2.2.2.1.2
theorem LX11.r_placer {S : sS} {r : sR} {a : Nat} (h : LX11 S r a) : r a 9 = some (a + 265) := h.2.2.2.2.2.2.2.2.1
theorem LX11.n_placer {S : sS} {r : sR} {a : Nat} (h : LX11 S r a) : LX5 S r (a + 265) := h.2.2.2.2.2.2.2.2.2
def LX12 (S : sS) (r : sR) (a : Nat) : Prop := S a = some (12, 0) ∧ (r a 1 = some (a + 1) ∧ S (a + 1) = some (21, 200)) ∧ (r a 3 = some (a + 2) ∧ S (a + 2) = some (20, 26)) ∧ (r a 4 = some (a + 3) ∧ S (a + 3) = some (20, 81)) ∧ (r a 6 = some (a + 4) ∧ S (a + 4) = some (20, 5)) ∧ (r a 7 = some (a + 5) ∧ S (a + 5) = some (20, 5)) ∧ (r a 8 = some (a + 6) ∧ S (a + 6) = some (23, 50)) ∧ (r a 9 = some (a + 7) ∧ S (a + 7) = some (20, 450)) ∧ (r a 10 = some (a + 8) ∧ S (a + 8) = some (20, 50)) ∧ (r a 15 = some (a + 9) ∧ S (a + 9) = some (20, 12)) ∧ (r a 16 = some (a + 10) ∧ S (a + 10) = some (23, 12)) ∧ (r a 17 = some (a + 11) ∧ S (a + 11) = some (20, 12)) ∧ (r a 19 = some (a + 12) ∧ S (a + 12) = some (20, 12)) ∧ (r a 20 = some (a + 13) ∧ S (a + 13) = some (23, 12)) ∧ (r a 21 = some (a + 14) ∧ S (a + 14) = some (20, 12)) ∧ (r a 22 = some (a + 15) ∧ S (a + 15) = some (20, 12)) ∧ (r a 24 = some (a + 16) ∧ S (a + 16) = some (20, 20)) ∧ (r a 25 = some (a + 17) ∧ S (a + 17) = some (20, 20)) ∧ (r a 26 = some (a + 18) ∧ S (a + 18) = some (20, 20)) ∧ (r a 30 = some (a + 19) ∧ S (a + 19) = some (20, 210)) ∧ (r a 31 = some (a + 20) ∧ S (a + 20) = some (20, 210)) ∧ (r a 32 = some (a + 21) ∧ S (a + 21) = some (20, 10)) ∧ (r a 33 = some (a + 22) ∧ S (a + 22) = some (20, 6010)) ∧ (r a 34 = some (a + 23) ∧ S (a + 23) = some (20, 6010)) ∧ (r a 35 = some (a + 24) ∧ S (a + 24) = some (20, 6010)) ∧ (r a 36 = some (a + 25) ∧ S (a + 25) = some (20, 10)) ∧ (r a 37 = some (a + 26) ∧ S (a + 26) = some (20, 10)) ∧ (r a 38 = some (a + 27) ∧ S (a + 27) = some (20, 25242)) ∧ (r a 39 = some (a + 28) ∧ S (a + 28) = some (20, 10))
theorem LX12.o {S : sS} {r : sR} {a : Nat} (h : LX12 S r a) : S a = some (12, 0) := h.1
theorem LX12.r_tape {S : sS} {r : sR} {a : Nat} (h : LX12 S r a) : r a 1 = some (a + 1) := h.2.1.1
theorem LX12.s_tape {S : sS} {r : sR} {a : Nat} (h : LX12 S r a) : S (a + 1) = some (21, 200) := h.2.1.2
theorem LX12.r_sound {S : sS} {r : sR} {a : Nat} (h : LX12 S r a) : r a 3 = some (a + 2) := h.2.2.1.1
theorem LX12.s_sound {S : sS} {r : sR} {a : Nat} (h : LX12 S r a) : S (a + 2) = some (20, 26) := h.2.2.1.2
theorem LX12.r_ends {S : sS} {r : sR} {a : Nat} (h : LX12 S r a) : r a 4 = some (a + 3) := h.2.2.2.1.1
theorem LX12.s_ends {S : sS} {r : sR} {a : Nat} (h : LX12 S r a) : S (a + 3) = some (20, 81) := h.2.2.2.1.2
theorem LX12.r_unit {S : sS} {r : sR} {a : Nat} (h : LX12 S r a) : r a 6 = some (a + 4) := h.2.2.2.2.1.1
theorem LX12.s_unit {S : sS} {r : sR} {a : Nat} (h : LX12 S r a) : S (a + 4) = some (20, 5) := h.2.2.2.2.1.2
theorem LX12.r_stations {S : sS} {r : sR} {a : Nat} (h : LX12 S r a) : r a 7 = some (a + 5) := h.2.2.2.2.2.1.1
theorem LX12.s_stations {S : sS} {r : sR} {a : Nat} (h : LX12 S r a) : S (a + 5) = some (20, 5) := h.2.2.2.2.2.1.2
theorem LX12.r_name {S : sS} {r : sR} {a : Nat} (h : LX12 S r a) : r a 8 = some (a + 6) := h.2.2.2.2.2.2.1.1
theorem LX12.s_name {S : sS} {r : sR} {a : Nat} (h : LX12 S r a) : S (a + 6) = some (23, 50) := h.2.2.2.2.2.2.1.2
theorem LX12.r_signs {S : sS} {r : sR} {a : Nat} (h : LX12 S r a) : r a 9 = some (a + 7) := h.2.2.2.2.2.2.2.1.1
theorem LX12.s_signs {S : sS} {r : sR} {a : Nat} (h : LX12 S r a) : S (a + 7) = some (20, 450) := h.2.2.2.2.2.2.2.1.2
theorem LX12.r_many {S : sS} {r : sR} {a : Nat} (h : LX12 S r a) : r a 10 = some (a + 8) := h.2.2.2.2.2.2.2.2.1.1
theorem LX12.s_many {S : sS} {r : sR} {a : Nat} (h : LX12 S r a) : S (a + 8) = some (20, 50) := h.2.2.2.2.2.2.2.2.1.2
theorem LX12.r_ruinAt {S : sS} {r : sR} {a : Nat} (h : LX12 S r a) : r a 15 = some (a + 9) := h.2.2.2.2.2.2.2.2.2.1.1
theorem LX12.s_ruinAt {S : sS} {r : sR} {a : Nat} (h : LX12 S r a) : S (a + 9) = some (20, 12) := h.2.2.2.2.2.2.2.2.2.1.2
theorem LX12.r_ruinName {S : sS} {r : sR} {a : Nat} (h : LX12 S r a) : r a 16 = some (a + 10) := h.2.2.2.2.2.2.2.2.2.2.1.1
theorem LX12.s_ruinName {S : sS} {r : sR} {a : Nat} (h : LX12 S r a) : S (a + 10) = some (23, 12) := h.2.2.2.2.2.2.2.2.2.2.1.2
theorem LX12.r_ruinDay {S : sS} {r : sR} {a : Nat} (h : LX12 S r a) : r a 17 = some (a + 11) := h.2.2.2.2.2.2.2.2.2.2.2.1.1
theorem LX12.s_ruinDay {S : sS} {r : sR} {a : Nat} (h : LX12 S r a) : S (a + 11) = some (20, 12) := h.2.2.2.2.2.2.2.2.2.2.2.1.2
theorem LX12.r_stoneAt {S : sS} {r : sR} {a : Nat} (h : LX12 S r a) : r a 19 = some (a + 12) := h.2.2.2.2.2.2.2.2.2.2.2.2.1.1
theorem LX12.s_stoneAt {S : sS} {r : sR} {a : Nat} (h : LX12 S r a) : S (a + 12) = some (20, 12) := h.2.2.2.2.2.2.2.2.2.2.2.2.1.2
theorem LX12.r_stoneName {S : sS} {r : sR} {a : Nat} (h : LX12 S r a) : r a 20 = some (a + 13) := h.2.2.2.2.2.2.2.2.2.2.2.2.2.1.1
theorem LX12.s_stoneName {S : sS} {r : sR} {a : Nat} (h : LX12 S r a) : S (a + 13) = some (23, 12) := h.2.2.2.2.2.2.2.2.2.2.2.2.2.1.2
theorem LX12.r_stoneFar {S : sS} {r : sR} {a : Nat} (h : LX12 S r a) : r a 21 = some (a + 14) := h.2.2.2.2.2.2.2.2.2.2.2.2.2.2.1.1
theorem LX12.s_stoneFar {S : sS} {r : sR} {a : Nat} (h : LX12 S r a) : S (a + 14) = some (20, 12) := h.2.2.2.2.2.2.2.2.2.2.2.2.2.2.1.2
theorem LX12.r_stoneDay {S : sS} {r : sR} {a : Nat} (h : LX12 S r a) : r a 22 = some (a + 15) := h.2.2.2.2.2.2.2.2.2.2.2.2.2.2.2.1.1
theorem LX12.s_stoneDay {S : sS} {r : sR} {a : Nat} (h : LX12 S r a) : S (a + 15) = some (20, 12) := h.2.2.2.2.2.2.2.2.2.2.2.2.2.2.2.1.2
theorem LX12.r_truly {S : sS} {r : sR} {a : Nat} (h : LX12 S r a) : r a 24 = some (a + 16) := h.2.2.2.2.2.2.2.2.2.2.2.2.2.2.2.2.1.1
theorem LX12.s_truly {S : sS} {r : sR} {a : Nat} (h : LX12 S r a) : S (a + 16) = some (20, 20) := h.2.2.2.2.2.2.2.2.2.2.2.2.2.2.2.2.1.2
theorem LX12.r_written {S : sS} {r : sR} {a : Nat} (h : LX12 S r a) : r a 25 = some (a + 17) := h.2.2.2.2.2.2.2.2.2.2.2.2.2.2.2.2.2.1.1
theorem LX12.s_written {S : sS} {r : sR} {a : Nat} (h : LX12 S r a) : S (a + 17) = some (20, 20) := h.2.2.2.2.2.2.2.2.2.2.2.2.2.2.2.2.2.1.2
theorem LX12.r_habitCost {S : sS} {r : sR} {a : Nat} (h : LX12 S r a) : r a 26 = some (a + 18) := h.2.2.2.2.2.2.2.2.2.2.2.2.2.2.2.2.2.2.1.1
theorem LX12.s_habitCost {S : sS} {r : sR} {a : Nat} (h : LX12 S r a) : S (a + 18) = some (20, 20) := h.2.2.2.2.2.2.2.2.2.2.2.2.2.2.2.2.2.2.1.2
theorem LX12.r_value {S : sS} {r : sR} {a : Nat} (h : LX12 S r a) : r a 30 = some (a + 19) := h.2.2.2.2.2.2.2.2.2.2.2.2.2.2.2.2.2.2.2.1.1
theorem LX12.s_value {S : sS} {r : sR} {a : Nat} (h : LX12 S r a) : S (a + 19) = some (20, 210) := h.2.2.2.2.2.2.2.2.2.2.2.2.2.2.2.2.2.2.2.1.2
theorem LX12.r_cost {S : sS} {r : sR} {a : Nat} (h : LX12 S r a) : r a 31 = some (a + 20) := h.2.2.2.2.2.2.2.2.2.2.2.2.2.2.2.2.2.2.2.2.1.1
theorem LX12.s_cost {S : sS} {r : sR} {a : Nat} (h : LX12 S r a) : S (a + 20) = some (20, 210) := h.2.2.2.2.2.2.2.2.2.2.2.2.2.2.2.2.2.2.2.2.1.2
theorem LX12.r_values {S : sS} {r : sR} {a : Nat} (h : LX12 S r a) : r a 32 = some (a + 21) := h.2.2.2.2.2.2.2.2.2.2.2.2.2.2.2.2.2.2.2.2.2.1.1
theorem LX12.s_values {S : sS} {r : sR} {a : Nat} (h : LX12 S r a) : S (a + 21) = some (20, 10) := h.2.2.2.2.2.2.2.2.2.2.2.2.2.2.2.2.2.2.2.2.2.1.2
theorem LX12.r_own {S : sS} {r : sR} {a : Nat} (h : LX12 S r a) : r a 33 = some (a + 22) := h.2.2.2.2.2.2.2.2.2.2.2.2.2.2.2.2.2.2.2.2.2.2.1.1
theorem LX12.s_own {S : sS} {r : sR} {a : Nat} (h : LX12 S r a) : S (a + 22) = some (20, 6010) := h.2.2.2.2.2.2.2.2.2.2.2.2.2.2.2.2.2.2.2.2.2.2.1.2
theorem LX12.r_rest {S : sS} {r : sR} {a : Nat} (h : LX12 S r a) : r a 34 = some (a + 23) := h.2.2.2.2.2.2.2.2.2.2.2.2.2.2.2.2.2.2.2.2.2.2.2.1.1
theorem LX12.s_rest {S : sS} {r : sR} {a : Nat} (h : LX12 S r a) : S (a + 23) = some (20, 6010) := h.2.2.2.2.2.2.2.2.2.2.2.2.2.2.2.2.2.2.2.2.2.2.2.1.2
theorem LX12.r_ahead {S : sS} {r : sR} {a : Nat} (h : LX12 S r a) : r a 35 = some (a + 24) := h.2.2.2.2.2.2.2.2.2.2.2.2.2.2.2.2.2.2.2.2.2.2.2.2.1.1
theorem LX12.s_ahead {S : sS} {r : sR} {a : Nat} (h : LX12 S r a) : S (a + 24) = some (20, 6010) := h.2.2.2.2.2.2.2.2.2.2.2.2.2.2.2.2.2.2.2.2.2.2.2.2.1.2
theorem LX12.r_row {S : sS} {r : sR} {a : Nat} (h : LX12 S r a) : r a 36 = some (a + 25) := h.2.2.2.2.2.2.2.2.2.2.2.2.2.2.2.2.2.2.2.2.2.2.2.2.2.1.1
theorem LX12.s_row {S : sS} {r : sR} {a : Nat} (h : LX12 S r a) : S (a + 25) = some (20, 10) := h.2.2.2.2.2.2.2.2.2.2.2.2.2.2.2.2.2.2.2.2.2.2.2.2.2.1.2
theorem LX12.r_taken {S : sS} {r : sR} {a : Nat} (h : LX12 S r a) : r a 37 = some (a + 26) := h.2.2.2.2.2.2.2.2.2.2.2.2.2.2.2.2.2.2.2.2.2.2.2.2.2.2.1.1
theorem LX12.s_taken {S : sS} {r : sR} {a : Nat} (h : LX12 S r a) : S (a + 26) = some (20, 10) := h.2.2.2.2.2.2.2.2.2.2.2.2.2.2.2.2.2.2.2.2.2.2.2.2.2.2.1.2
theorem LX12.r_ways {S : sS} {r : sR} {a : Nat} (h : LX12 S r a) : r a 38 = some (a + 27) := h.2.2.2.2.2.2.2.2.2.2.2.2.2.2.2.2.2.2.2.2.2.2.2.2.2.2.2.1.1
theorem LX12.s_ways {S : sS} {r : sR} {a : Nat} (h : LX12 S r a) : S (a + 27) = some (20, 25242) := h.2.2.2.2.2.2.2.2.2.2.2.2.2.2.2.2.2.2.2.2.2.2.2.2.2.2.2.1.2
theorem LX12.r_took {S : sS} {r : sR} {a : Nat} (h : LX12 S r a) : r a 39 = some (a + 28) := h.2.2.2.2.2.2.2.2.2.2.2.2.2.2.2.2.2.2.2.2.2.2.2.2.2.2.2.2.1
theorem LX12.s_took {S : sS} {r : sR} {a : Nat} (h : LX12 S r a) : S (a + 28) = some (20, 10) := h.2.2.2.2.2.2.2.2.2.2.2.2.2.2.2.2.2.2.2.2.2.2.2.2.2.2.2.2.2
