/-! Safety of SaltOffice, its plain calls: by program (spec.py). -/
def TOffice : qTb := fun i k => match i with
  | 0 => (match k with | 7 => (0, 100000, 1) | _ => (-2147483648, 2147483647, 0))
  | 1 => TTape 0 k
  | 2 => TTape 1 k
  | 3 => TTape 2 k
  | 4 => TTape 3 k
  | 5 => TTape 4 k
  | 6 => TTape 5 k
  | 7 => TTape 6 k
  | 8 => TLand 0 k
  | 9 => TLand 1 k
  | 10 => TLand 2 k
  | 11 => TLand 3 k
  | 12 => TLand 4 k
  | 13 => TLand 5 k
  | 14 => TLand 6 k
  | 15 => TLand 7 k
  | 16 => TLand 8 k
  | 17 => TLand 9 k
  | 18 => TLand 10 k
  | 19 => TLand 11 k
  | 20 => TLand 12 k
  | 21 => TLand 13 k
  | 22 => TLand 14 k
  | 23 => TLand 15 k
  | 24 => TLand 0 k
  | 25 => TLand 1 k
  | 26 => TLand 2 k
  | 27 => TLand 3 k
  | 28 => TLand 4 k
  | 29 => TLand 5 k
  | 30 => TLand 6 k
  | 31 => TLand 7 k
  | 32 => TLand 8 k
  | 33 => TLand 9 k
  | 34 => TLand 10 k
  | 35 => TLand 11 k
  | 36 => TLand 12 k
  | 37 => TLand 13 k
  | 38 => TLand 14 k
  | 39 => TLand 15 k
  | 41 => TReform 0 k
  | 42 => TReform 1 k
  | 43 => TReform 2 k
  | 44 => TReform 3 k
  | 45 => TReform 4 k
  | 46 => TTrade 0 k
  | 47 => TTrade 1 k
  | 48 => TFacts 0 k
  | 49 => TFacts 1 k
  | 50 => TFacts 2 k
  | 51 => TFacts 3 k
  | 52 => TFacts 4 k
  | 53 => TFacts 5 k
  | 54 => TFacts 6 k
  | 55 => TRun 0 k
  | 56 => TRun 1 k
  | 57 => TRun 2 k
  | 58 => TRun 3 k
  | 59 => TRun 4 k
  | 60 => TRun 5 k
  | 61 => TRun 6 k
  | 62 => TRun 7 k
  | 63 => TRun 8 k
  | 64 => TRun 9 k
  | 65 => TRun 10 k
  | 66 => TRun 11 k
  | 67 => TRun 12 k
  | 68 => TRun 13 k
  | 69 => TRun 14 k
  | 70 => TRun 15 k
  | 71 => TRun 16 k
  | 72 => TRun 17 k
  | 73 => TRun 18 k
  | 74 => TRun 19 k
  | 75 => TRun 20 k
  | 76 => TRun 21 k
  | 77 => TRun 22 k
  | 78 => TRun 23 k
  | 79 => TRun 24 k
  | 80 => TRun 25 k
  | 81 => TRun 26 k
  | 82 => TRun 27 k
  | 83 => TRun 28 k
  | 84 => TRun 29 k
  | 85 => TRun 30 k
  | 86 => TRun 31 k
  | 87 => TRun 32 k
  | 88 => TRun 33 k
  | 89 => TRun 34 k
  | 90 => TRun 35 k
  | 91 => TRun 36 k
  | 92 => TRun 37 k
  | 93 => TRun 38 k
  | 94 => TRun 39 k
  | 95 => TRun 40 k
  | 96 => TRun 41 k
  | 97 => TRun 42 k
  | 98 => TRun 43 k
  | 99 => TRun 44 k
  | 100 => TRun 45 k
  | 101 => TRun 46 k
  | 102 => TRun 47 k
  | 103 => TRun 48 k
  | 104 => TRun 49 k
  | 105 => TRun 50 k
  | 106 => TRun 51 k
  | 107 => TRun 52 k
  | 108 => TRun 53 k
  | 109 => TRun 54 k
  | 110 => TRun 55 k
  | 111 => TRun 56 k
  | 112 => TRun 57 k
  | 113 => TRun 58 k
  | 114 => TRun 59 k
  | 115 => TRun 60 k
  | 116 => TRun 61 k
  | 117 => TRun 62 k
  | 118 => TRun 63 k
  | 119 => TRun 64 k
  | 120 => TRun 65 k
  | 121 => TRun 0 k
  | 122 => TRun 1 k
  | 123 => TRun 2 k
  | 124 => TRun 3 k
  | 125 => TRun 4 k
  | 126 => TRun 5 k
  | 127 => TRun 6 k
  | 128 => TRun 7 k
  | 129 => TRun 8 k
  | 130 => TRun 9 k
  | 131 => TRun 10 k
  | 132 => TRun 11 k
  | 133 => TRun 12 k
  | 134 => TRun 13 k
  | 135 => TRun 14 k
  | 136 => TRun 15 k
  | 137 => TRun 16 k
  | 138 => TRun 17 k
  | 139 => TRun 18 k
  | 140 => TRun 19 k
  | 141 => TRun 20 k
  | 142 => TRun 21 k
  | 143 => TRun 22 k
  | 144 => TRun 23 k
  | 145 => TRun 24 k
  | 146 => TRun 25 k
  | 147 => TRun 26 k
  | 148 => TRun 27 k
  | 149 => TRun 28 k
  | 150 => TRun 29 k
  | 151 => TRun 30 k
  | 152 => TRun 31 k
  | 153 => TRun 32 k
  | 154 => TRun 33 k
  | 155 => TRun 34 k
  | 156 => TRun 35 k
  | 157 => TRun 36 k
  | 158 => TRun 37 k
  | 159 => TRun 38 k
  | 160 => TRun 39 k
  | 161 => TRun 40 k
  | 162 => TRun 41 k
  | 163 => TRun 42 k
  | 164 => TRun 43 k
  | 165 => TRun 44 k
  | 166 => TRun 45 k
  | 167 => TRun 46 k
  | 168 => TRun 47 k
  | 169 => TRun 48 k
  | 170 => TRun 49 k
  | 171 => TRun 50 k
  | 172 => TRun 51 k
  | 173 => TRun 52 k
  | 174 => TRun 53 k
  | 175 => TRun 54 k
  | 176 => TRun 55 k
  | 177 => TRun 56 k
  | 178 => TRun 57 k
  | 179 => TRun 58 k
  | 180 => TRun 59 k
  | 181 => TRun 60 k
  | 182 => TRun 61 k
  | 183 => TRun 62 k
  | 184 => TRun 63 k
  | 185 => TRun 64 k
  | 186 => TRun 65 k
  | 187 => TReform 0 k
  | 188 => TReform 1 k
  | 189 => TReform 2 k
  | 190 => TReform 3 k
  | 191 => TReform 4 k
  | 192 => TReform 0 k
  | 193 => TReform 1 k
  | 194 => TReform 2 k
  | 195 => TReform 3 k
  | 196 => TReform 4 k
  | 197 => TReform 0 k
  | 198 => TReform 1 k
  | 199 => TReform 2 k
  | 200 => TReform 3 k
  | 201 => TReform 4 k
  | 202 => TReform 0 k
  | 203 => TReform 1 k
  | 204 => TReform 2 k
  | 205 => TReform 3 k
  | 206 => TReform 4 k
  | _ => (-2147483648, 2147483647, 0)
abbrev RAOffice (R : qRg) (a : Nat) : Prop := RAt TOffice 207 R a
theorem rsOffice_0 {R : qRg} {a : Nat} (h : RAOffice R a) : RATape R (a + 1) := fun i hi k => by
  rw [Nat.add_assoc]
  match i, hi with
  | 0, _ => exact h (1 + 0) (by decide) k
  | 1, _ => exact h (1 + 1) (by decide) k
  | 2, _ => exact h (1 + 2) (by decide) k
  | 3, _ => exact h (1 + 3) (by decide) k
  | 4, _ => exact h (1 + 4) (by decide) k
  | 5, _ => exact h (1 + 5) (by decide) k
  | 6, _ => exact h (1 + 6) (by decide) k
  | (i + 7), h => exact absurd h (by omega)
theorem rsOffice_5 {R : qRg} {a : Nat} (h : RAOffice R a) : RATrade R (a + 46) := fun i hi k => by
  rw [Nat.add_assoc]
  match i, hi with
  | 0, _ => exact h (46 + 0) (by decide) k
  | 1, _ => exact h (46 + 1) (by decide) k
  | (i + 2), h => exact absurd h (by omega)
theorem rsOffice_6 {R : qRg} {a : Nat} (h : RAOffice R a) : RAFacts R (a + 48) := fun i hi k => by
  rw [Nat.add_assoc]
  match i, hi with
  | 0, _ => exact h (48 + 0) (by decide) k
  | 1, _ => exact h (48 + 1) (by decide) k
  | 2, _ => exact h (48 + 2) (by decide) k
  | 3, _ => exact h (48 + 3) (by decide) k
  | 4, _ => exact h (48 + 4) (by decide) k
  | 5, _ => exact h (48 + 5) (by decide) k
  | 6, _ => exact h (48 + 6) (by decide) k
  | (i + 7), h => exact absurd h (by omega)
theorem rsOffice_8 {R : qRg} {a : Nat} (h : RAOffice R a) : RARun R (a + 55) := fun i hi k => by
  rw [Nat.add_assoc]
  match i, hi with
  | 0, _ => exact h (55 + 0) (by decide) k
  | 1, _ => exact h (55 + 1) (by decide) k
  | 2, _ => exact h (55 + 2) (by decide) k
  | 3, _ => exact h (55 + 3) (by decide) k
  | 4, _ => exact h (55 + 4) (by decide) k
  | 5, _ => exact h (55 + 5) (by decide) k
  | 6, _ => exact h (55 + 6) (by decide) k
  | 7, _ => exact h (55 + 7) (by decide) k
  | 8, _ => exact h (55 + 8) (by decide) k
  | 9, _ => exact h (55 + 9) (by decide) k
  | 10, _ => exact h (55 + 10) (by decide) k
  | 11, _ => exact h (55 + 11) (by decide) k
  | 12, _ => exact h (55 + 12) (by decide) k
  | 13, _ => exact h (55 + 13) (by decide) k
  | 14, _ => exact h (55 + 14) (by decide) k
  | 15, _ => exact h (55 + 15) (by decide) k
  | 16, _ => exact h (55 + 16) (by decide) k
  | 17, _ => exact h (55 + 17) (by decide) k
  | 18, _ => exact h (55 + 18) (by decide) k
  | 19, _ => exact h (55 + 19) (by decide) k
  | 20, _ => exact h (55 + 20) (by decide) k
  | 21, _ => exact h (55 + 21) (by decide) k
  | 22, _ => exact h (55 + 22) (by decide) k
  | 23, _ => exact h (55 + 23) (by decide) k
  | 24, _ => exact h (55 + 24) (by decide) k
  | 25, _ => exact h (55 + 25) (by decide) k
  | 26, _ => exact h (55 + 26) (by decide) k
  | 27, _ => exact h (55 + 27) (by decide) k
  | 28, _ => exact h (55 + 28) (by decide) k
  | 29, _ => exact h (55 + 29) (by decide) k
  | 30, _ => exact h (55 + 30) (by decide) k
  | 31, _ => exact h (55 + 31) (by decide) k
  | 32, _ => exact h (55 + 32) (by decide) k
  | 33, _ => exact h (55 + 33) (by decide) k
  | 34, _ => exact h (55 + 34) (by decide) k
  | 35, _ => exact h (55 + 35) (by decide) k
  | 36, _ => exact h (55 + 36) (by decide) k
  | 37, _ => exact h (55 + 37) (by decide) k
  | 38, _ => exact h (55 + 38) (by decide) k
  | 39, _ => exact h (55 + 39) (by decide) k
  | 40, _ => exact h (55 + 40) (by decide) k
  | 41, _ => exact h (55 + 41) (by decide) k
  | 42, _ => exact h (55 + 42) (by decide) k
  | 43, _ => exact h (55 + 43) (by decide) k
  | 44, _ => exact h (55 + 44) (by decide) k
  | 45, _ => exact h (55 + 45) (by decide) k
  | 46, _ => exact h (55 + 46) (by decide) k
  | 47, _ => exact h (55 + 47) (by decide) k
  | 48, _ => exact h (55 + 48) (by decide) k
  | 49, _ => exact h (55 + 49) (by decide) k
  | 50, _ => exact h (55 + 50) (by decide) k
  | 51, _ => exact h (55 + 51) (by decide) k
  | 52, _ => exact h (55 + 52) (by decide) k
  | 53, _ => exact h (55 + 53) (by decide) k
  | 54, _ => exact h (55 + 54) (by decide) k
  | 55, _ => exact h (55 + 55) (by decide) k
  | 56, _ => exact h (55 + 56) (by decide) k
  | 57, _ => exact h (55 + 57) (by decide) k
  | 58, _ => exact h (55 + 58) (by decide) k
  | 59, _ => exact h (55 + 59) (by decide) k
  | 60, _ => exact h (55 + 60) (by decide) k
  | 61, _ => exact h (55 + 61) (by decide) k
  | 62, _ => exact h (55 + 62) (by decide) k
  | 63, _ => exact h (55 + 63) (by decide) k
  | 64, _ => exact h (55 + 64) (by decide) k
  | 65, _ => exact h (55 + 65) (by decide) k
  | (i + 66), h => exact absurd h (by omega)
theorem rsOffice_9 {R : qRg} {a : Nat} (h : RAOffice R a) : RARun R (a + 121) := fun i hi k => by
  rw [Nat.add_assoc]
  match i, hi with
  | 0, _ => exact h (121 + 0) (by decide) k
  | 1, _ => exact h (121 + 1) (by decide) k
  | 2, _ => exact h (121 + 2) (by decide) k
  | 3, _ => exact h (121 + 3) (by decide) k
  | 4, _ => exact h (121 + 4) (by decide) k
  | 5, _ => exact h (121 + 5) (by decide) k
  | 6, _ => exact h (121 + 6) (by decide) k
  | 7, _ => exact h (121 + 7) (by decide) k
  | 8, _ => exact h (121 + 8) (by decide) k
  | 9, _ => exact h (121 + 9) (by decide) k
  | 10, _ => exact h (121 + 10) (by decide) k
  | 11, _ => exact h (121 + 11) (by decide) k
  | 12, _ => exact h (121 + 12) (by decide) k
  | 13, _ => exact h (121 + 13) (by decide) k
  | 14, _ => exact h (121 + 14) (by decide) k
  | 15, _ => exact h (121 + 15) (by decide) k
  | 16, _ => exact h (121 + 16) (by decide) k
  | 17, _ => exact h (121 + 17) (by decide) k
  | 18, _ => exact h (121 + 18) (by decide) k
  | 19, _ => exact h (121 + 19) (by decide) k
  | 20, _ => exact h (121 + 20) (by decide) k
  | 21, _ => exact h (121 + 21) (by decide) k
  | 22, _ => exact h (121 + 22) (by decide) k
  | 23, _ => exact h (121 + 23) (by decide) k
  | 24, _ => exact h (121 + 24) (by decide) k
  | 25, _ => exact h (121 + 25) (by decide) k
  | 26, _ => exact h (121 + 26) (by decide) k
  | 27, _ => exact h (121 + 27) (by decide) k
  | 28, _ => exact h (121 + 28) (by decide) k
  | 29, _ => exact h (121 + 29) (by decide) k
  | 30, _ => exact h (121 + 30) (by decide) k
  | 31, _ => exact h (121 + 31) (by decide) k
  | 32, _ => exact h (121 + 32) (by decide) k
  | 33, _ => exact h (121 + 33) (by decide) k
  | 34, _ => exact h (121 + 34) (by decide) k
  | 35, _ => exact h (121 + 35) (by decide) k
  | 36, _ => exact h (121 + 36) (by decide) k
  | 37, _ => exact h (121 + 37) (by decide) k
  | 38, _ => exact h (121 + 38) (by decide) k
  | 39, _ => exact h (121 + 39) (by decide) k
  | 40, _ => exact h (121 + 40) (by decide) k
  | 41, _ => exact h (121 + 41) (by decide) k
  | 42, _ => exact h (121 + 42) (by decide) k
  | 43, _ => exact h (121 + 43) (by decide) k
  | 44, _ => exact h (121 + 44) (by decide) k
  | 45, _ => exact h (121 + 45) (by decide) k
  | 46, _ => exact h (121 + 46) (by decide) k
  | 47, _ => exact h (121 + 47) (by decide) k
  | 48, _ => exact h (121 + 48) (by decide) k
  | 49, _ => exact h (121 + 49) (by decide) k
  | 50, _ => exact h (121 + 50) (by decide) k
  | 51, _ => exact h (121 + 51) (by decide) k
  | 52, _ => exact h (121 + 52) (by decide) k
  | 53, _ => exact h (121 + 53) (by decide) k
  | 54, _ => exact h (121 + 54) (by decide) k
  | 55, _ => exact h (121 + 55) (by decide) k
  | 56, _ => exact h (121 + 56) (by decide) k
  | 57, _ => exact h (121 + 57) (by decide) k
  | 58, _ => exact h (121 + 58) (by decide) k
  | 59, _ => exact h (121 + 59) (by decide) k
  | 60, _ => exact h (121 + 60) (by decide) k
  | 61, _ => exact h (121 + 61) (by decide) k
  | 62, _ => exact h (121 + 62) (by decide) k
  | 63, _ => exact h (121 + 63) (by decide) k
  | 64, _ => exact h (121 + 64) (by decide) k
  | 65, _ => exact h (121 + 65) (by decide) k
  | (i + 66), h => exact absurd h (by omega)
theorem rsOffice_8l {R : qRg} {a : Nat} (h : RAOffice R a) : RALand R (a + 8) := fun i hi k => by
  rw [Nat.add_assoc]
  match i, hi with
  | 0, _ => exact h (8 + 0) (by decide) k
  | 1, _ => exact h (8 + 1) (by decide) k
  | 2, _ => exact h (8 + 2) (by decide) k
  | 3, _ => exact h (8 + 3) (by decide) k
  | 4, _ => exact h (8 + 4) (by decide) k
  | 5, _ => exact h (8 + 5) (by decide) k
  | 6, _ => exact h (8 + 6) (by decide) k
  | 7, _ => exact h (8 + 7) (by decide) k
  | 8, _ => exact h (8 + 8) (by decide) k
  | 9, _ => exact h (8 + 9) (by decide) k
  | 10, _ => exact h (8 + 10) (by decide) k
  | 11, _ => exact h (8 + 11) (by decide) k
  | 12, _ => exact h (8 + 12) (by decide) k
  | 13, _ => exact h (8 + 13) (by decide) k
  | 14, _ => exact h (8 + 14) (by decide) k
  | 15, _ => exact h (8 + 15) (by decide) k
  | (i + 16), h => exact absurd h (by omega)
theorem rsOffice_24l {R : qRg} {a : Nat} (h : RAOffice R a) : RALand R (a + 24) := fun i hi k => by
  rw [Nat.add_assoc]
  match i, hi with
  | 0, _ => exact h (24 + 0) (by decide) k
  | 1, _ => exact h (24 + 1) (by decide) k
  | 2, _ => exact h (24 + 2) (by decide) k
  | 3, _ => exact h (24 + 3) (by decide) k
  | 4, _ => exact h (24 + 4) (by decide) k
  | 5, _ => exact h (24 + 5) (by decide) k
  | 6, _ => exact h (24 + 6) (by decide) k
  | 7, _ => exact h (24 + 7) (by decide) k
  | 8, _ => exact h (24 + 8) (by decide) k
  | 9, _ => exact h (24 + 9) (by decide) k
  | 10, _ => exact h (24 + 10) (by decide) k
  | 11, _ => exact h (24 + 11) (by decide) k
  | 12, _ => exact h (24 + 12) (by decide) k
  | 13, _ => exact h (24 + 13) (by decide) k
  | 14, _ => exact h (24 + 14) (by decide) k
  | 15, _ => exact h (24 + 15) (by decide) k
  | (i + 16), h => exact absurd h (by omega)
theorem rsOffice_41r {R : qRg} {a : Nat} (h : RAOffice R a) : RAReform R (a + 41) := fun i hi k => by
  rw [Nat.add_assoc]
  match i, hi with
  | 0, _ => exact h (41 + 0) (by decide) k
  | 1, _ => exact h (41 + 1) (by decide) k
  | 2, _ => exact h (41 + 2) (by decide) k
  | 3, _ => exact h (41 + 3) (by decide) k
  | 4, _ => exact h (41 + 4) (by decide) k
  | (i + 5), h => exact absurd h (by omega)
theorem rsOffice_187r {R : qRg} {a : Nat} (h : RAOffice R a) : RAReform R (a + 187) := fun i hi k => by
  rw [Nat.add_assoc]
  match i, hi with
  | 0, _ => exact h (187 + 0) (by decide) k
  | 1, _ => exact h (187 + 1) (by decide) k
  | 2, _ => exact h (187 + 2) (by decide) k
  | 3, _ => exact h (187 + 3) (by decide) k
  | 4, _ => exact h (187 + 4) (by decide) k
  | (i + 5), h => exact absurd h (by omega)
theorem rsOffice_192r {R : qRg} {a : Nat} (h : RAOffice R a) : RAReform R (a + 192) := fun i hi k => by
  rw [Nat.add_assoc]
  match i, hi with
  | 0, _ => exact h (192 + 0) (by decide) k
  | 1, _ => exact h (192 + 1) (by decide) k
  | 2, _ => exact h (192 + 2) (by decide) k
  | 3, _ => exact h (192 + 3) (by decide) k
  | 4, _ => exact h (192 + 4) (by decide) k
  | (i + 5), h => exact absurd h (by omega)
theorem rsOffice_197r {R : qRg} {a : Nat} (h : RAOffice R a) : RAReform R (a + 197) := fun i hi k => by
  rw [Nat.add_assoc]
  match i, hi with
  | 0, _ => exact h (197 + 0) (by decide) k
  | 1, _ => exact h (197 + 1) (by decide) k
  | 2, _ => exact h (197 + 2) (by decide) k
  | 3, _ => exact h (197 + 3) (by decide) k
  | 4, _ => exact h (197 + 4) (by decide) k
  | (i + 5), h => exact absurd h (by omega)
theorem rsOffice_202r {R : qRg} {a : Nat} (h : RAOffice R a) : RAReform R (a + 202) := fun i hi k => by
  rw [Nat.add_assoc]
  match i, hi with
  | 0, _ => exact h (202 + 0) (by decide) k
  | 1, _ => exact h (202 + 1) (by decide) k
  | 2, _ => exact h (202 + 2) (by decide) k
  | 3, _ => exact h (202 + 3) (by decide) k
  | 4, _ => exact h (202 + 4) (by decide) k
  | (i + 5), h => exact absurd h (by omega)
set_option maxHeartbeats 4000000 in
set_option maxRecDepth 20000 in
theorem y_Office_within {D : va_G} {cA : FieldType → ClassId} {b : Nat} {E : State → Prop} {R : qRg} {n : Nat} {sh : Nat → qC} {Rf : Nat → Nat → Option Nat} {I0 : Nat → Nat → Int32} {L0 : Nat → Nat → Int64} {post : Option Value → qS → Prop} {p0 : Int32} {p1 : Int32} {p2 : Int32} (hok : q_ok (qGG D cA b E)) (hR : RI R I0) (hp : ∀ (r : Int32) , (Bz r) → (Im (r.toInt ≠ 0) (p1.toInt ≤ p0.toInt ∧ p0.toInt ≤ p2.toInt)) → (r = aIn p0 p1 p2) → post (some (.int r)) (n, sh, Rf, I0, L0)) : Ev (qGG D cA b E) mOffice_within 0 (0, 0) 0 (lv_args 0 [.int p0, .int p1, .int p2]) [] (n, sh, Rf, I0, L0) post := by
  refine sOffice_within_0 n sh Rf I0 L0 post p0 p1 p2 hok  ?_
  unfold fOffice_within_0
  refine ⟨fun c_1 => ?_, fun c_1 => ?_⟩
  · have d_2 := iLt c_1
    have l_3 : (0 : Int32).toInt = 0 := rfl
    exact (hp _ (Or.inl rfl) (by intro _; omega) (by simp [aIn, *] <;> (intro h; exact absurd h (Int32.not_lt.mpr (by assumption)))))
  · have d_4 := iNlt c_1
    refine ⟨fun c_5 => ?_, fun c_5 => ?_⟩
    · have d_6 := iLt c_5
      have l_7 : (0 : Int32).toInt = 0 := rfl
      exact (hp _ (Or.inl rfl) (by intro _; omega) (by simp [aIn, *] <;> (intro h; exact absurd h (Int32.not_lt.mpr (by assumption)))))
    · have d_8 := iNlt c_5
      have l_9 : (1 : Int32).toInt = 1 := rfl
      exact (hp _ (Or.inr rfl) (by intro _; omega) (by simp [aIn, *] <;> (intro h; exact absurd h (Int32.not_lt.mpr (by assumption)))))
set_option maxHeartbeats 4000000 in
set_option maxRecDepth 20000 in
theorem y_Office_ranMonth {D : va_G} {cA : FieldType → ClassId} {b : Nat} {E : State → Prop} {R : qRg} {o n : Nat} {sh : Nat → qC} {Rf : Nat → Nat → Option Nat} {I0 : Nat → Nat → Int32} {L0 : Nat → Nat → Int64} {post : Option Value → qS → Prop} {p1 : Int32} (hok : q_ok (qGG D cA b E)) (hw : WfOffice (qGG D cA b E) n sh Rf o) (ra : RAOffice R o) (hR : RI R I0) (hp : ∀ (r : Int32) , (Bz r) → (Im (r.toInt ≠ 0) (0 ≤ p1.toInt ∧ p1.toInt ≤ 239)) → post (some (.int r)) (n, sh, Rf, I0, L0)) : Ev (qGG D cA b E) mOffice_ranMonth 0 (0, 0) 0 (lv_args 0 [.ref o, .int p1]) [] (n, sh, Rf, I0, L0) post := by
  refine sOffice_ranMonth_0 o n sh Rf I0 L0 post p1 hok hw ?_
  unfold fOffice_ranMonth_0
  have l_1 : (0 : Int32).toInt = 0 := rfl
  refine ⟨fun c_2 => ?_, fun c_2 => ?_⟩
  · have d_3 := iEq c_2
    exact (hp _ (Or.inl rfl) (by intro _; omega))
  · have d_4 := iNe c_2
    refine ⟨fun c_5 => ?_, fun c_5 => ?_⟩
    · have d_6 := iLt c_5
      exact (hp _ (Or.inl rfl) (by intro _; omega))
    · have d_7 := iNlt c_5
      have g_8 : (0 : Int) ≤ (I0 (o + 55) 16).toInt ∧ (I0 (o + 55) 16).toInt ≤ 240 := hR.at0 (rsOffice_8 ra) 16 (by decide)
      refine ⟨fun c_9 => ?_, fun c_9 => ?_⟩
      · have d_10 := iLe c_9
        exact (hp _ (Or.inl rfl) (by intro _; omega))
      · have d_11 := iNle c_9
        have l_12 : (1 : Int32).toInt = 1 := rfl
        exact (hp _ (Or.inr rfl) (by intro _; omega))
set_option maxHeartbeats 4000000 in
set_option maxRecDepth 20000 in
theorem y_Long_compare_74951 {D : va_G} {cA : FieldType → ClassId} {b : Nat} {E : State → Prop} {R : qRg} {n : Nat} {sh : Nat → qC} {Rf : Nat → Nat → Option Nat} {I0 : Nat → Nat → Int32} {L0 : Nat → Nat → Int64} {post : Option Value → qS → Prop} {p0 : Int64} {p2 : Int64} (hok : q_ok (qGG D cA b E)) (hR : RI R I0) (hp : ∀ (r : Int32) , post (some (.int r)) (n, sh, Rf, I0, L0)) : Ev (qGG D cA b E) mLong_compare_74951 0 (0, 0) 0 (lv_args 0 [.long p0, .long p2]) [] (n, sh, Rf, I0, L0) post := by
  refine sLong_compare_74951_0 n sh Rf I0 L0 post p0 p2 hok  ?_
  unfold fLong_compare_74951_0
  have l_1 : (0 : Int32).toInt = 0 := rfl
  refine ⟨fun c_2 => ?_, fun c_2 => ?_⟩
  · have d_3 := iLe c_2
    refine ⟨fun c_4 => ?_, fun c_4 => ?_⟩
    · have d_5 := iNe c_4
      have l_6 : (1 : Int32).toInt = 1 := rfl
      exact (hp _ )
    · have d_7 := iEq c_4
      exact (hp _ )
  · have d_8 := iNle c_2
    have l_9 : (-1 : Int32).toInt = -1 := rfl
    exact (hp _ )
set_option maxHeartbeats 4000000 in
set_option maxRecDepth 20000 in
theorem y_Office_compareWaits {D : va_G} {cA : FieldType → ClassId} {b : Nat} {E : State → Prop} {R : qRg} {n : Nat} {sh : Nat → qC} {Rf : Nat → Nat → Option Nat} {I0 : Nat → Nat → Int32} {L0 : Nat → Nat → Int64} {post : Option Value → qS → Prop} {p0 : Int64} {p2 : Int64} {p4 : Int64} {p6 : Int64} (hok : q_ok (qGG D cA b E)) (hR : RI R I0) (hp : ∀ (r : Int32) , post (some (.int r)) (n, sh, Rf, I0, L0)) : Ev (qGG D cA b E) mOffice_compareWaits 1 (0, 0) 0 (lv_args 0 [.long p0, .long p2, .long p4, .long p6]) [] (n, sh, Rf, I0, L0) post := by
  refine sOffice_compareWaits_0 n sh Rf I0 L0 post p0 p2 p4 p6 hok  ?_
  unfold fOffice_compareWaits_0
  have l_1 : (0 : Int32).toInt = 0 := rfl
  refine ⟨fun c_2 => ?_, fun c_2 => ?_⟩
  · have d_3 := iEq c_2
    unfold fOffice_compareWaits_13
    refine ⟨fun c_4 => ?_, fun c_4 => ?_⟩
    · have d_5 := iNe c_4
      unfold fOffice_compareWaits_25
      refine ⟨fun c_6 => ?_, fun c_6 => ?_⟩
      · have d_7 := iNe c_6
        exfalso; omega
      · have d_8 := iEq c_6
        have l_9 : (1 : Int32).toInt = 1 := rfl
        refine y_Long_compare_74951 hok hR (fun r_10  => ⟨r_10, I0, L0, rfl, rfl, ?_⟩)
        exact (hp _ )
    · have d_11 := iEq c_4
      unfold fOffice_compareWaits_25
      refine ⟨fun c_12 => ?_, fun c_12 => ?_⟩
      · have d_13 := iNe c_12
        exfalso; omega
      · have d_14 := iEq c_12
        refine y_Long_compare_74951 hok hR (fun r_15  => ⟨r_15, I0, L0, rfl, rfl, ?_⟩)
        exact (hp _ )
  · have d_16 := iNe c_2
    refine ⟨fun c_17 => ?_, fun c_17 => ?_⟩
    · have d_18 := iNe c_17
      refine y_Long_compare_74951 hok hR (fun r_19  => ⟨r_19, I0, L0, rfl, rfl, ?_⟩)
      exact (hp _ )
    · have d_20 := iEq c_17
      unfold fOffice_compareWaits_13
      refine ⟨fun c_21 => ?_, fun c_21 => ?_⟩
      · have d_22 := iNe c_21
        exfalso; omega
      · have d_23 := iEq c_21
        unfold fOffice_compareWaits_25
        refine ⟨fun c_24 => ?_, fun c_24 => ?_⟩
        · have d_25 := iNe c_24
          have l_26 : (1 : Int32).toInt = 1 := rfl
          refine y_Long_compare_74951 hok hR (fun r_27  => ⟨r_27, I0, L0, rfl, rfl, ?_⟩)
          exact (hp _ )
        · have d_28 := iEq c_24
          refine y_Long_compare_74951 hok hR (fun r_29  => ⟨r_29, I0, L0, rfl, rfl, ?_⟩)
          exact (hp _ )
set_option maxHeartbeats 4000000 in
set_option maxRecDepth 20000 in
theorem y_Office_feed {D : va_G} {cA : FieldType → ClassId} {b : Nat} {E : State → Prop} {R : qRg} {o n : Nat} {sh : Nat → qC} {Rf : Nat → Nat → Option Nat} {I0 : Nat → Nat → Int32} {L0 : Nat → Nat → Int64} {post : Option Value → qS → Prop} {p1 : Int32} {p2 : Int32} {p3 : Int32} {p4 : Int32} {p5 : Int32} (hok : q_ok (qGG D cA b E)) (hw : WfOffice (qGG D cA b E) n sh Rf o) (ra : RAOffice R o) (hz3 : R.2 3 = true) (hR : RI R I0) (hp : ∀ (r : Int32) (I' : Nat → Nat → Int32) (L' : Nat → Nat → Int64), RI R I' → Fm (fun c => c = o + 1 ∨ c = o + 2) I0 I' → post (some (.int r)) (n, sh, Rf, I', L')) : Ev (qGG D cA b E) mOffice_feed 1 (0, 0) 0 (lv_args 0 [.ref o, .int p1, .int p2, .int p3, .int p4, .int p5]) [] (n, sh, Rf, I0, L0) post := by
  have hf : Fm (fun c => c = o + 1 ∨ c = o + 2) I0 I0 := Fm.rf
  refine sOffice_feed_0 o n sh Rf I0 L0 post p1 p2 p3 p4 p5 hok hw ?_
  unfold fOffice_feed_0
  have g_1 : (0 : Int) ≤ (I0 (o + 1) 6).toInt ∧ (I0 (o + 1) 6).toInt ≤ 1600 := hR.at0 (rsOffice_0 ra) 6 (by decide)
  have l_2 : (20 : Int32).toInt = 20 := rfl
  have a_3 : ((I0 (o + 1) 6) + 20).toInt = (I0 (o + 1) 6).toInt + (20 : Int32).toInt := tAdd (by omega) (by omega)
  have l_4 : (1600 : Int32).toInt = 1600 := rfl
  refine ⟨fun c_5 => ?_, fun c_5 => ?_⟩
  · have d_6 := iLe c_5
    refine y_Tape_append hok (wsOffice_0 hw) (rsOffice_0 ra) hz3 hR (fun I_8 L_9 hR_10 fr_11  => ⟨I_8, L_9, rfl, rfl, ?_⟩)
    have hf_12 : Fm (fun c => c = o + 1 ∨ c = o + 2) I0 I_8 := hf.call fr_11 (fun c hc => by first | exact hc | (dsimp only at hc ⊢; omega) | omega)
    have g_13 : (0 : Int) ≤ (I_8 (o + 1) 6).toInt ∧ (I_8 (o + 1) 6).toInt ≤ 1600 := hR_10.at0 (rsOffice_0 ra) 6 (by decide)
    refine y_Tape_append hok (wsOffice_0 hw) (rsOffice_0 ra) hz3 hR_10 (fun I_15 L_16 hR_17 fr_18  => ⟨I_15, L_16, rfl, rfl, ?_⟩)
    have hf_19 : Fm (fun c => c = o + 1 ∨ c = o + 2) I0 I_15 := hf_12.call fr_18 (fun c hc => by first | exact hc | (dsimp only at hc ⊢; omega) | omega)
    have g_20 : (0 : Int) ≤ (I_15 (o + 1) 6).toInt ∧ (I_15 (o + 1) 6).toInt ≤ 1600 := hR_17.at0 (rsOffice_0 ra) 6 (by decide)
    refine y_Tape_append hok (wsOffice_0 hw) (rsOffice_0 ra) hz3 hR_17 (fun I_22 L_23 hR_24 fr_25  => ⟨I_22, L_23, rfl, rfl, ?_⟩)
    have hf_26 : Fm (fun c => c = o + 1 ∨ c = o + 2) I0 I_22 := hf_19.call fr_25 (fun c hc => by first | exact hc | (dsimp only at hc ⊢; omega) | omega)
    have g_27 : (0 : Int) ≤ (I_22 (o + 1) 6).toInt ∧ (I_22 (o + 1) 6).toInt ≤ 1600 := hR_24.at0 (rsOffice_0 ra) 6 (by decide)
    refine y_Tape_append hok (wsOffice_0 hw) (rsOffice_0 ra) hz3 hR_24 (fun I_29 L_30 hR_31 fr_32  => ⟨I_29, L_30, rfl, rfl, ?_⟩)
    have hf_33 : Fm (fun c => c = o + 1 ∨ c = o + 2) I0 I_29 := hf_26.call fr_32 (fun c hc => by first | exact hc | (dsimp only at hc ⊢; omega) | omega)
    have g_34 : (0 : Int) ≤ (I_29 (o + 1) 6).toInt ∧ (I_29 (o + 1) 6).toInt ≤ 1600 := hR_31.at0 (rsOffice_0 ra) 6 (by decide)
    refine y_Tape_append hok (wsOffice_0 hw) (rsOffice_0 ra) hz3 hR_31 (fun I_36 L_37 hR_38 fr_39  => ⟨I_36, L_37, rfl, rfl, ?_⟩)
    have hf_40 : Fm (fun c => c = o + 1 ∨ c = o + 2) I0 I_36 := hf_33.call fr_39 (fun c hc => by first | exact hc | (dsimp only at hc ⊢; omega) | omega)
    have g_41 : (0 : Int) ≤ (I_36 (o + 1) 6).toInt ∧ (I_36 (o + 1) 6).toInt ≤ 1600 := hR_38.at0 (rsOffice_0 ra) 6 (by decide)
    have g_42 : (0 : Int) ≤ (I_36 (o + 1) 6).toInt ∧ (I_36 (o + 1) 6).toInt ≤ 1600 := hR_38.at0 (rsOffice_0 ra) 6 (by decide)
    exact (hp _ _ _ hR_38 hf_40 )
  · have d_43 := iNle c_5
    have l_44 : (-1 : Int32).toInt = -1 := rfl
    exact (hp _ _ _ hR hf )
set_option maxHeartbeats 4000000 in
set_option maxRecDepth 20000 in
theorem y_Office_end {D : va_G} {cA : FieldType → ClassId} {b : Nat} {E : State → Prop} {R : qRg} {o n : Nat} {sh : Nat → qC} {Rf : Nat → Nat → Option Nat} {I0 : Nat → Nat → Int32} {L0 : Nat → Nat → Int64} {post : Option Value → qS → Prop} {p1 : Int32} (hok : q_ok (qGG D cA b E)) (hw : WfOffice (qGG D cA b E) n sh Rf o) (ra : RAOffice R o) (hz3 : R.2 3 = true) (hR : RI R I0) (hp : ∀ (r : Int32) (I' : Nat → Nat → Int32) (L' : Nat → Nat → Int64), RI R I' → Fm (fun c => c = o + 1) I0 I' → post (some (.int r)) (n, sh, Rf, I', L')) : Ev (qGG D cA b E) mOffice_end 0 (0, 0) 0 (lv_args 0 [.ref o, .int p1]) [] (n, sh, Rf, I0, L0) post := by
  have hf : Fm (fun c => c = o + 1) I0 I0 := Fm.rf
  refine sOffice_end_0 o n sh Rf I0 L0 post p1 hok hw ?_
  unfold fOffice_end_0
  have l_1 : (0 : Int32).toInt = 0 := rfl
  refine ⟨fun c_2 => ?_, fun c_2 => ?_⟩
  · have d_3 := iLt c_2
    have l_4 : (-1 : Int32).toInt = -1 := rfl
    exact (hp _ _ _ hR hf )
  · have d_5 := iNlt c_2
    have g_6 : (0 : Int) ≤ (I0 (o + 1) 6).toInt ∧ (I0 (o + 1) 6).toInt ≤ 1600 := hR.at0 (rsOffice_0 ra) 6 (by decide)
    refine ⟨fun c_7 => ?_, fun c_7 => ?_⟩
    · have d_8 := iLe c_7
      refine fun I_9 e_10 => ?_
      have hR_11 : RI R I_9 := hR.up0 (k := 6) (rsOffice_0 ra) (by decide) (Or.inr hz3) e_10 (show (0 : Int) ≤ p1.toInt by omega) (show p1.toInt ≤ (1600 : Int) by omega)
      have hf_12 : Fm (fun c => c = o + 1) I0 I_9 := hf.set (by first | rfl | omega | (dsimp only; omega)) e_10
      have t_13 : (I_9 (o + 1) 6).toInt = p1.toInt := by rw [← e_10, q_u_at]
      exact (hp _ _ _ hR_11 hf_12 )
    · have d_14 := iNle c_7
      have l_15 : (-1 : Int32).toInt = -1 := rfl
      exact (hp _ _ _ hR hf )
set_option maxHeartbeats 4000000 in
set_option maxRecDepth 20000 in
theorem y_Office_fault {D : va_G} {cA : FieldType → ClassId} {b : Nat} {E : State → Prop} {R : qRg} {o n : Nat} {sh : Nat → qC} {Rf : Nat → Nat → Option Nat} {I0 : Nat → Nat → Int32} {L0 : Nat → Nat → Int64} {post : Option Value → qS → Prop} {p1 : Int32} (hok : q_ok (qGG D cA b E)) (hw : WfOffice (qGG D cA b E) n sh Rf o) (ra : RAOffice R o) (hR : RI R I0) (hp : ∀ (r : Int32) , post (some (.int r)) (n, sh, Rf, I0, L0)) : Ev (qGG D cA b E) mOffice_fault 0 (0, 0) 0 (lv_args 0 [.ref o, .int p1]) [] (n, sh, Rf, I0, L0) post := by
  refine sOffice_fault_0 o n sh Rf I0 L0 post p1 hok hw ?_
  unfold fOffice_fault_0
  have l_1 : (0 : Int32).toInt = 0 := rfl
  refine ⟨fun c_2 => ?_, fun c_2 => ?_⟩
  · have d_3 := iNe c_2
    have l_4 : (1 : Int32).toInt = 1 := rfl
    refine ⟨fun c_5 => ?_, fun c_5 => ?_⟩
    · have d_6 := iNe c_5
      have l_7 : (-1 : Int32).toInt = -1 := rfl
      exact (hp _ )
    · have d_8 := iEq c_5
      exact (hp _ )
  · have d_9 := iEq c_2
    have g_10 : (0 : Int) ≤ (I0 (o + 1) 7).toInt ∧ (I0 (o + 1) 7).toInt ≤ 5 := hR.at0 (rsOffice_0 ra) 7 (by decide)
    exact (hp _ )
set_option maxHeartbeats 4000000 in
set_option maxRecDepth 20000 in
theorem y_Office_days {D : va_G} {cA : FieldType → ClassId} {b : Nat} {E : State → Prop} {R : qRg} {o n : Nat} {sh : Nat → qC} {Rf : Nat → Nat → Option Nat} {I0 : Nat → Nat → Int32} {L0 : Nat → Nat → Int64} {post : Option Value → qS → Prop} {uo_1 : Nat} {p1 : Int32} {p2 : Int32} (hok : q_ok (qGG D cA b E)) (hw : WfOffice (qGG D cA b E) n sh Rf o) (ra : RAOffice R o) (hwuo_1 : WfLand (qGG D cA b E) n sh Rf uo_1) (rauo_1 : RALand R uo_1) (huo_1 : Rf o 1 = some uo_1) (hR : RI R I0) (hp : ∀ (r : Int32) , post (some (.int r)) (n, sh, Rf, I0, L0)) : Ev (qGG D cA b E) mOffice_days 1 (0, 0) 0 (lv_args 0 [.ref o, .int p1, .int p2]) [] (n, sh, Rf, I0, L0) post := by
  refine sOffice_days_0 o n sh Rf I0 L0 post p1 p2 uo_1 hok hw huo_1 hwuo_1 ?_
  unfold fOffice_days_0
  refine y_Land_daysBetween hok hwuo_1 rauo_1 hR (fun r_1  => ⟨r_1, I0, L0, rfl, rfl, ?_⟩)
  exact (hp _ )
set_option maxHeartbeats 4000000 in
set_option maxRecDepth 20000 in
theorem y_Office_merchant {D : va_G} {cA : FieldType → ClassId} {b : Nat} {E : State → Prop} {R : qRg} {o n : Nat} {sh : Nat → qC} {Rf : Nat → Nat → Option Nat} {I0 : Nat → Nat → Int32} {L0 : Nat → Nat → Int64} {post : Option Value → qS → Prop} {p1 : Int32} (hok : q_ok (qGG D cA b E)) (hw : WfOffice (qGG D cA b E) n sh Rf o) (ra : RAOffice R o) (hz2 : R.2 2 = true) (hR : RI R I0) (hp : ∀ (r : Int32) (I' : Nat → Nat → Int32) (L' : Nat → Nat → Int64), RI R I' → Fm (fun c => c = o + 46 ∨ c = o + 47 ∨ c = o + 55) I0 I' → post (some (.int r)) (n, sh, Rf, I', L')) : Ev (qGG D cA b E) mOffice_merchant 0 (0, 0) 0 (lv_args 0 [.ref o, .int p1]) [] (n, sh, Rf, I0, L0) post := by
  have hf : Fm (fun c => c = o + 46 ∨ c = o + 47 ∨ c = o + 55) I0 I0 := Fm.rf
  refine sOffice_merchant_0 o n sh Rf I0 L0 post p1 hok hw ?_
  unfold fOffice_merchant_0
  have l_1 : (0 : Int32).toInt = 0 := rfl
  refine ⟨fun c_2 => ?_, fun c_2 => ?_⟩
  · have d_3 := iLt c_2
    have l_4 : (-1 : Int32).toInt = -1 := rfl
    exact (hp _ _ _ hR hf )
  · have d_5 := iNlt c_2
    have l_6 : (30000 : Int32).toInt = 30000 := rfl
    refine ⟨fun c_7 => ?_, fun c_7 => ?_⟩
    · have d_8 := iLt c_7
      have l_9 : (-1 : Int32).toInt = -1 := rfl
      exact (hp _ _ _ hR hf )
    · have d_10 := iNlt c_7
      have g_11 : (0 : Int) ≤ (I0 (o + 46) 1).toInt ∧ (I0 (o + 46) 1).toInt ≤ 6 := hR.at0 (rsOffice_5 ra) 1 (by decide)
      have l_12 : (6 : Int32).toInt = 6 := rfl
      refine ⟨fun c_13 => ?_, fun c_13 => ?_⟩
      · have d_14 := iLt c_13
        refine fun I_15 e_16 => ?_
        have hR_17 : RI R I_15 := hR.up0 (k := 15) (rsOffice_8 ra) (by decide) (Or.inl rfl) e_16 (i_lo _) (i_hi _)
        have hf_18 : Fm (fun c => c = o + 46 ∨ c = o + 47 ∨ c = o + 55) I0 I_15 := hf.set (by first | rfl | omega | (dsimp only; omega)) e_16
        have t_19 : (I_15 (o + 46) 1).toInt = (I0 (o + 46) 1).toInt := by rw [← e_16, q_u_ne (by omega)]
        have g_20 : (0 : Int) ≤ (I_15 (o + 46) 1).toInt ∧ (I_15 (o + 46) 1).toInt ≤ 6 := hR_17.at0 (rsOffice_5 ra) 1 (by decide)
        refine ⟨tIn (by omega) (by omega), fun I_21 e_22 => ?_⟩
        have hR_23 : RI R I_21 := hR_17.up (rsOffice_5 ra) 1 (by decide) (Or.inl rfl) e_22 (i_lo _) (i_hi _)
        have hf_24 : Fm (fun c => c = o + 46 ∨ c = o + 47 ∨ c = o + 55) I0 I_21 := hf_18.set (by first | rfl | omega | (dsimp only; omega)) e_22
        have t_25 : (I_21 (o + 46) 1).toInt = (I_15 (o + 46) 1).toInt := by rw [← e_22, q_u_ne (by omega)]
        have g_26 : (0 : Int) ≤ (I_21 (o + 46) 1).toInt ∧ (I_21 (o + 46) 1).toInt ≤ 6 := hR_23.at0 (rsOffice_5 ra) 1 (by decide)
        have l_27 : (1 : Int32).toInt = 1 := rfl
        have a_28 : ((I_21 (o + 46) 1) + 1).toInt = (I_21 (o + 46) 1).toInt + (1 : Int32).toInt := tAdd (by omega) (by omega)
        refine fun I_29 e_30 => ?_
        have hR_31 : RI R I_29 := hR_23.up0 (k := 1) (rsOffice_5 ra) (by decide) (Or.inr hz2) e_30 (show (0 : Int) ≤ ((I_21 (o + 46) 1) + 1).toInt by omega) (show ((I_21 (o + 46) 1) + 1).toInt ≤ (6 : Int) by omega)
        have hf_32 : Fm (fun c => c = o + 46 ∨ c = o + 47 ∨ c = o + 55) I0 I_29 := hf_24.set (by first | rfl | omega | (dsimp only; omega)) e_30
        have t_33 : (I_29 (o + 46) 1).toInt = ((I_21 (o + 46) 1) + 1).toInt := by rw [← e_30, q_u_at]
        have g_34 : (0 : Int) ≤ (I_29 (o + 46) 1).toInt ∧ (I_29 (o + 46) 1).toInt ≤ 6 := hR_31.at0 (rsOffice_5 ra) 1 (by decide)
        have a_35 : ((I_29 (o + 46) 1) - 1).toInt = (I_29 (o + 46) 1).toInt - (1 : Int32).toInt := tSub (by omega) (by omega)
        exact (hp _ _ _ hR_31 hf_32 )
      · have d_36 := iNlt c_13
        have l_37 : (-1 : Int32).toInt = -1 := rfl
        exact (hp _ _ _ hR hf )
set_option maxHeartbeats 4000000 in
set_option maxRecDepth 20000 in
theorem y_Office_costs {D : va_G} {cA : FieldType → ClassId} {b : Nat} {E : State → Prop} {R : qRg} {o n : Nat} {sh : Nat → qC} {Rf : Nat → Nat → Option Nat} {I0 : Nat → Nat → Int32} {L0 : Nat → Nat → Int64} {post : Option Value → qS → Prop} {p1 : Int32} {p2 : Int32} {p3 : Int32} {p4 : Int32} {p5 : Int32} (hok : q_ok (qGG D cA b E)) (hw : WfOffice (qGG D cA b E) n sh Rf o) (ra : RAOffice R o) (hR : RI R I0) (hp : ∀ (r : Int32) (I' : Nat → Nat → Int32) (L' : Nat → Nat → Int64), RI R I' → Fm (fun c => c = o + 46 ∨ c = o + 55) I0 I' → (Bz r) → (r = aCosts p1 p2 p3 p4 p5) → post (some (.int r)) (n, sh, Rf, I', L')) : Ev (qGG D cA b E) mOffice_costs 1 (0, 0) 0 (lv_args 0 [.ref o, .int p1, .int p2, .int p3, .int p4, .int p5]) [] (n, sh, Rf, I0, L0) post := by
  have hf : Fm (fun c => c = o + 46 ∨ c = o + 55) I0 I0 := Fm.rf
  refine sOffice_costs_0 o n sh Rf I0 L0 post p1 p2 p3 p4 p5 hok hw ?_
  unfold fOffice_costs_0
  have l_1 : (0 : Int32).toInt = 0 := rfl
  have l_2 : (99 : Int32).toInt = 99 := rfl
  refine y_Office_within hok hR (fun r_3 u_4 u_5 u_6 => ⟨r_3, I0, L0, rfl, rfl, ?_⟩)
  have b_7 : 0 ≤ r_3.toInt ∧ r_3.toInt ≤ 1 := u_4.rg
  refine ⟨fun c_8 => ?_, fun c_8 => ?_⟩
  · have d_9 := iEq c_8
    unfold fOffice_costs_34
    unfold fOffice_costs_35
    refine ⟨fun c_10 => ?_, fun c_10 => ?_⟩
    · have d_11 := iEq c_10
      exact (hp _ _ _ hR hf (Or.inl rfl) (by subst_vars; simp_all [aCosts]))
    · have d_12 := iNe c_10
      exfalso; omega
  · have d_13 := iNe c_8
    have l_14 : (1 : Int32).toInt = 1 := rfl
    have l_15 : (50 : Int32).toInt = 50 := rfl
    refine y_Office_within hok hR (fun r_16 u_17 u_18 u_19 => ⟨r_16, I0, L0, rfl, rfl, ?_⟩)
    have b_20 : 0 ≤ r_16.toInt ∧ r_16.toInt ≤ 1 := u_17.rg
    refine ⟨fun c_21 => ?_, fun c_21 => ?_⟩
    · have d_22 := iEq c_21
      unfold fOffice_costs_34
      unfold fOffice_costs_35
      refine ⟨fun c_23 => ?_, fun c_23 => ?_⟩
      · have d_24 := iEq c_23
        exact (hp _ _ _ hR hf (Or.inl rfl) (by subst_vars; simp_all [aCosts]))
      · have d_25 := iNe c_23
        exfalso; omega
    · have d_26 := iNe c_21
      refine y_Office_within hok hR (fun r_27 u_28 u_29 u_30 => ⟨r_27, I0, L0, rfl, rfl, ?_⟩)
      have b_31 : 0 ≤ r_27.toInt ∧ r_27.toInt ≤ 1 := u_28.rg
      refine ⟨fun c_32 => ?_, fun c_32 => ?_⟩
      · have d_33 := iEq c_32
        unfold fOffice_costs_34
        unfold fOffice_costs_35
        refine ⟨fun c_34 => ?_, fun c_34 => ?_⟩
        · have d_35 := iEq c_34
          exact (hp _ _ _ hR hf (Or.inl rfl) (by subst_vars; simp_all [aCosts]))
        · have d_36 := iNe c_34
          exfalso; omega
      · have d_37 := iNe c_32
        unfold fOffice_costs_35
        refine ⟨fun c_38 => ?_, fun c_38 => ?_⟩
        · have d_39 := iEq c_38
          exfalso; omega
        · have d_40 := iNe c_38
          have l_41 : (9999 : Int32).toInt = 9999 := rfl
          refine y_Office_within hok hR (fun r_42 u_43 u_44 u_45 => ⟨r_42, I0, L0, rfl, rfl, ?_⟩)
          have b_46 : 0 ≤ r_42.toInt ∧ r_42.toInt ≤ 1 := u_43.rg
          refine ⟨fun c_47 => ?_, fun c_47 => ?_⟩
          · have d_48 := iEq c_47
            exact (hp _ _ _ hR hf (Or.inl rfl) (by subst_vars; simp_all [aCosts]))
          · have d_49 := iNe c_47
            have l_50 : (999 : Int32).toInt = 999 := rfl
            refine y_Office_within hok hR (fun r_51 u_52 u_53 u_54 => ⟨r_51, I0, L0, rfl, rfl, ?_⟩)
            have b_55 : 0 ≤ r_51.toInt ∧ r_51.toInt ≤ 1 := u_52.rg
            refine ⟨fun c_56 => ?_, fun c_56 => ?_⟩
            · have d_57 := iNe c_56
              refine fun I_58 e_59 => ?_
              have hR_60 : RI R I_58 := hR.up0 (k := 2) (rsOffice_5 ra) (by decide) (Or.inl rfl) e_59 (i_lo _) (i_hi _)
              have hf_61 : Fm (fun c => c = o + 46 ∨ c = o + 55) I0 I_58 := hf.set (by first | rfl | omega | (dsimp only; omega)) e_59
              refine fun I_62 e_63 => ?_
              have hR_64 : RI R I_62 := hR_60.up0 (k := 3) (rsOffice_5 ra) (by decide) (Or.inl rfl) e_63 (i_lo _) (i_hi _)
              have hf_65 : Fm (fun c => c = o + 46 ∨ c = o + 55) I0 I_62 := hf_61.set (by first | rfl | omega | (dsimp only; omega)) e_63
              refine fun I_66 e_67 => ?_
              have hR_68 : RI R I_66 := hR_64.up0 (k := 4) (rsOffice_5 ra) (by decide) (Or.inl rfl) e_67 (i_lo _) (i_hi _)
              have hf_69 : Fm (fun c => c = o + 46 ∨ c = o + 55) I0 I_66 := hf_65.set (by first | rfl | omega | (dsimp only; omega)) e_67
              refine fun I_70 e_71 => ?_
              have hR_72 : RI R I_70 := hR_68.up0 (k := 5) (rsOffice_5 ra) (by decide) (Or.inl rfl) e_71 (i_lo _) (i_hi _)
              have hf_73 : Fm (fun c => c = o + 46 ∨ c = o + 55) I0 I_70 := hf_69.set (by first | rfl | omega | (dsimp only; omega)) e_71
              refine fun I_74 e_75 => ?_
              have hR_76 : RI R I_74 := hR_72.up0 (k := 6) (rsOffice_5 ra) (by decide) (Or.inl rfl) e_75 (i_lo _) (i_hi _)
              have hf_77 : Fm (fun c => c = o + 46 ∨ c = o + 55) I0 I_74 := hf_73.set (by first | rfl | omega | (dsimp only; omega)) e_75
              refine fun I_78 e_79 => ?_
              have hR_80 : RI R I_78 := hR_76.up0 (k := 15) (rsOffice_8 ra) (by decide) (Or.inl rfl) e_79 (i_lo _) (i_hi _)
              have hf_81 : Fm (fun c => c = o + 46 ∨ c = o + 55) I0 I_78 := hf_77.set (by first | rfl | omega | (dsimp only; omega)) e_79
              exact (hp _ _ _ hR_80 hf_81 (Or.inr rfl) (by subst_vars; simp_all [aCosts]))
            · have d_82 := iEq c_56
              exact (hp _ _ _ hR hf (Or.inl rfl) (by subst_vars; simp_all [aCosts]))
set_option maxHeartbeats 4000000 in
set_option maxRecDepth 20000 in
theorem y_Office_tellFact {D : va_G} {cA : FieldType → ClassId} {b : Nat} {E : State → Prop} {R : qRg} {o n : Nat} {sh : Nat → qC} {Rf : Nat → Nat → Option Nat} {I0 : Nat → Nat → Int32} {L0 : Nat → Nat → Int64} {post : Option Value → qS → Prop} {p1 : Int32} {p2 : Int32} {p3 : Int32} {p4 : Int32} (hok : q_ok (qGG D cA b E)) (hw : WfOffice (qGG D cA b E) n sh Rf o) (ra : RAOffice R o) (hq0 : Im (p1.toInt = 2) (0 ≤ p2.toInt ∧ p2.toInt ≤ 5 ∧ -1 ≤ p4.toInt ∧ p4.toInt ≤ 5)) (hq1 : FacOK I0 (o + 48)) (hR : RI R I0) (hp : ∀ (r : Int32) (I' : Nat → Nat → Int32) (L' : Nat → Nat → Int64), RI R I' → Fm (fun c => (o + 48 ≤ c ∧ c < o + 55)) I0 I' → (FacOK I' (o + 48)) → post (some (.int r)) (n, sh, Rf, I', L')) : Ev (qGG D cA b E) mOffice_tellFact 1 (0, 0) 0 (lv_args 0 [.ref o, .int p1, .int p2, .int p3, .int p4]) [] (n, sh, Rf, I0, L0) post := by
  have hf : Fm (fun c => (o + 48 ≤ c ∧ c < o + 55)) I0 I0 := Fm.rf
  refine sOffice_tellFact_0 o n sh Rf I0 L0 post p1 p2 p3 p4 hok hw ?_
  unfold fOffice_tellFact_0
  have l_1 : (0 : Int32).toInt = 0 := rfl
  refine ⟨fun c_2 => ?_, fun c_2 => ?_⟩
  · have d_3 := iLt c_2
    have l_4 : (-1 : Int32).toInt = -1 := rfl
    exact (hp _ _ _ hR hf  hq1)
  · have d_5 := iNlt c_2
    have l_6 : (240 : Int32).toInt = 240 := rfl
    refine ⟨fun c_7 => ?_, fun c_7 => ?_⟩
    · have d_8 := iLt c_7
      have g_9 : (0 : Int) ≤ (I0 o 7).toInt ∧ (I0 o 7).toInt ≤ 100000 := hR.at0 ra 7 (by decide)
      refine y_Facts_add hok (wsOffice_6 hw) (rsOffice_6 ra) (by exact hq0) hq1 hR (fun r_10 I_12 L_13 hR_14 fr_15 u_11 => ⟨r_10, I_12, L_13, rfl, rfl, ?_⟩)
      have hf_16 : Fm (fun c => (o + 48 ≤ c ∧ c < o + 55)) I0 I_12 := hf.call fr_15 (fun c hc => by first | exact hc | (dsimp only at hc ⊢; omega) | omega)
      have t_17 : (I_12 o 7).toInt = (I0 o 7).toInt := by rw [fr_15 o (by first | omega | (dsimp only; omega))]
      exact (hp _ _ _ hR_14 hf_16  u_11)
    · have d_18 := iNlt c_7
      have l_19 : (-1 : Int32).toInt = -1 := rfl
      exact (hp _ _ _ hR hf  hq1)
set_option maxHeartbeats 4000000 in
set_option maxRecDepth 20000 in
theorem y_Office_weather {D : va_G} {cA : FieldType → ClassId} {b : Nat} {E : State → Prop} {R : qRg} {o n : Nat} {sh : Nat → qC} {Rf : Nat → Nat → Option Nat} {I0 : Nat → Nat → Int32} {L0 : Nat → Nat → Int64} {post : Option Value → qS → Prop} {uo_1 : Nat} {p1 : Int32} {p2 : Int32} {p3 : Int32} (hok : q_ok (qGG D cA b E)) (hw : WfOffice (qGG D cA b E) n sh Rf o) (ra : RAOffice R o) (hwuo_1 : WfLand (qGG D cA b E) n sh Rf uo_1) (rauo_1 : RALand R uo_1) (huo_1 : Rf o 1 = some uo_1) (hq0 : FacOK I0 (o + 48)) (hR : RI R I0) (hp : ∀ (r : Int32) (I' : Nat → Nat → Int32) (L' : Nat → Nat → Int64), RI R I' → Fm (fun c => (o + 48 ≤ c ∧ c < o + 55)) I0 I' → (FacOK I' (o + 48)) → post (some (.int r)) (n, sh, Rf, I', L')) : Ev (qGG D cA b E) mOffice_weather 2 (0, 0) 0 (lv_args 0 [.ref o, .int p1, .int p2, .int p3]) [] (n, sh, Rf, I0, L0) post := by
  have hf : Fm (fun c => (o + 48 ≤ c ∧ c < o + 55)) I0 I0 := Fm.rf
  refine sOffice_weather_0 o n sh Rf I0 L0 post p1 p2 p3 uo_1 hok hw huo_1 hwuo_1 ?_
  unfold fOffice_weather_0
  have l_1 : (0 : Int32).toInt = 0 := rfl
  refine ⟨fun c_2 => ?_, fun c_2 => ?_⟩
  · have d_3 := iLt c_2
    have l_4 : (-1 : Int32).toInt = -1 := rfl
    exact (hp _ _ _ hR hf  hq0)
  · have d_5 := iNlt c_2
    have g_6 : (0 : Int) ≤ (I0 uo_1 2).toInt ∧ (I0 uo_1 2).toInt ≤ 3 := hR.at0 rauo_1 2 (by decide)
    refine ⟨fun c_7 => ?_, fun c_7 => ?_⟩
    · have d_8 := iLe c_7
      have l_9 : (-1 : Int32).toInt = -1 := rfl
      exact (hp _ _ _ hR hf  hq0)
    · have d_10 := iNle c_7
      have l_11 : (300 : Int32).toInt = 300 := rfl
      refine y_Office_within hok hR (fun r_12 u_13 u_14 u_15 => ⟨r_12, I0, L0, rfl, rfl, ?_⟩)
      have b_16 : 0 ≤ r_12.toInt ∧ r_12.toInt ≤ 1 := u_13.rg
      refine ⟨fun c_17 => ?_, fun c_17 => ?_⟩
      · have d_18 := iNe c_17
        refine y_Office_tellFact hok hw ra (by first | omega | (intro h; omega) | exact Or.inl rfl | exact Or.inr rfl) hq0 hR (fun r_19 I_21 L_22 hR_23 fr_24 u_20 => ⟨r_19, I_21, L_22, rfl, rfl, ?_⟩)
        have hf_25 : Fm (fun c => (o + 48 ≤ c ∧ c < o + 55)) I0 I_21 := hf.call fr_24 (fun c hc => by first | exact hc | (dsimp only at hc ⊢; omega) | omega)
        have g_26 : (0 : Int) ≤ (I_21 uo_1 2).toInt ∧ (I_21 uo_1 2).toInt ≤ 3 := hR_23.at0 rauo_1 2 (by decide)
        exact (hp _ _ _ hR_23 hf_25  u_20)
      · have d_27 := iEq c_17
        have l_28 : (-1 : Int32).toInt = -1 := rfl
        exact (hp _ _ _ hR hf  hq0)
set_option maxHeartbeats 4000000 in
set_option maxRecDepth 20000 in
theorem y_Office_forged {D : va_G} {cA : FieldType → ClassId} {b : Nat} {E : State → Prop} {R : qRg} {o n : Nat} {sh : Nat → qC} {Rf : Nat → Nat → Option Nat} {I0 : Nat → Nat → Int32} {L0 : Nat → Nat → Int64} {post : Option Value → qS → Prop} {p1 : Int32} {p2 : Int32} (hok : q_ok (qGG D cA b E)) (hw : WfOffice (qGG D cA b E) n sh Rf o) (ra : RAOffice R o) (hq0 : FacOK I0 (o + 48)) (hR : RI R I0) (hp : ∀ (r : Int32) (I' : Nat → Nat → Int32) (L' : Nat → Nat → Int64), RI R I' → Fm (fun c => (o + 48 ≤ c ∧ c < o + 55)) I0 I' → (FacOK I' (o + 48)) → post (some (.int r)) (n, sh, Rf, I', L')) : Ev (qGG D cA b E) mOffice_forged 2 (0, 0) 0 (lv_args 0 [.ref o, .int p1, .int p2]) [] (n, sh, Rf, I0, L0) post := by
  have hf : Fm (fun c => (o + 48 ≤ c ∧ c < o + 55)) I0 I0 := Fm.rf
  refine sOffice_forged_0 o n sh Rf I0 L0 post p1 p2 hok hw ?_
  unfold fOffice_forged_0
  have l_1 : (0 : Int32).toInt = 0 := rfl
  refine ⟨fun c_2 => ?_, fun c_2 => ?_⟩
  · have d_3 := iLt c_2
    have l_4 : (-1 : Int32).toInt = -1 := rfl
    exact (hp _ _ _ hR hf  hq0)
  · have d_5 := iNlt c_2
    have l_6 : (2000 : Int32).toInt = 2000 := rfl
    refine ⟨fun c_7 => ?_, fun c_7 => ?_⟩
    · have d_8 := iLt c_7
      have l_9 : (1 : Int32).toInt = 1 := rfl
      refine y_Office_tellFact hok hw ra (by first | omega | (intro h; omega) | exact Or.inl rfl | exact Or.inr rfl) hq0 hR (fun r_10 I_12 L_13 hR_14 fr_15 u_11 => ⟨r_10, I_12, L_13, rfl, rfl, ?_⟩)
      have hf_16 : Fm (fun c => (o + 48 ≤ c ∧ c < o + 55)) I0 I_12 := hf.call fr_15 (fun c hc => by first | exact hc | (dsimp only at hc ⊢; omega) | omega)
      exact (hp _ _ _ hR_14 hf_16  u_11)
    · have d_17 := iNlt c_7
      have l_18 : (-1 : Int32).toInt = -1 := rfl
      exact (hp _ _ _ hR hf  hq0)
set_option maxHeartbeats 4000000 in
set_option maxRecDepth 20000 in
theorem y_Office_dead {D : va_G} {cA : FieldType → ClassId} {b : Nat} {E : State → Prop} {R : qRg} {o n : Nat} {sh : Nat → qC} {Rf : Nat → Nat → Option Nat} {I0 : Nat → Nat → Int32} {L0 : Nat → Nat → Int64} {post : Option Value → qS → Prop} {p1 : Int32} {p2 : Int32} {p3 : Int32} (hok : q_ok (qGG D cA b E)) (hw : WfOffice (qGG D cA b E) n sh Rf o) (ra : RAOffice R o) (hq0 : FacOK I0 (o + 48)) (hR : RI R I0) (hp : ∀ (r : Int32) (I' : Nat → Nat → Int32) (L' : Nat → Nat → Int64), RI R I' → Fm (fun c => (o + 48 ≤ c ∧ c < o + 55)) I0 I' → (FacOK I' (o + 48)) → post (some (.int r)) (n, sh, Rf, I', L')) : Ev (qGG D cA b E) mOffice_dead 2 (0, 0) 0 (lv_args 0 [.ref o, .int p1, .int p2, .int p3]) [] (n, sh, Rf, I0, L0) post := by
  have hf : Fm (fun c => (o + 48 ≤ c ∧ c < o + 55)) I0 I0 := Fm.rf
  refine sOffice_dead_0 o n sh Rf I0 L0 post p1 p2 p3 hok hw ?_
  unfold fOffice_dead_0
  have l_1 : (0 : Int32).toInt = 0 := rfl
  refine ⟨fun c_2 => ?_, fun c_2 => ?_⟩
  · have d_3 := iLt c_2
    have l_4 : (-1 : Int32).toInt = -1 := rfl
    exact (hp _ _ _ hR hf  hq0)
  · have d_5 := iNlt c_2
    have g_6 : (0 : Int) ≤ (I0 (o + 46) 1).toInt ∧ (I0 (o + 46) 1).toInt ≤ 6 := hR.at0 (rsOffice_5 ra) 1 (by decide)
    refine ⟨fun c_7 => ?_, fun c_7 => ?_⟩
    · have d_8 := iLe c_7
      have l_9 : (-1 : Int32).toInt = -1 := rfl
      exact (hp _ _ _ hR hf  hq0)
    · have d_10 := iNle c_7
      refine ⟨fun c_11 => ?_, fun c_11 => ?_⟩
      · have d_12 := iNe c_11
        have l_13 : (-1 : Int32).toInt = -1 := rfl
        refine ⟨fun c_14 => ?_, fun c_14 => ?_⟩
        · have d_15 := iEq c_14
          unfold fOffice_dead_44
          have l_16 : (2 : Int32).toInt = 2 := rfl
          refine y_Office_tellFact hok hw ra (by first | omega | (intro h; omega) | exact Or.inl rfl | exact Or.inr rfl) hq0 hR (fun r_17 I_19 L_20 hR_21 fr_22 u_18 => ⟨r_17, I_19, L_20, rfl, rfl, ?_⟩)
          have hf_23 : Fm (fun c => (o + 48 ≤ c ∧ c < o + 55)) I0 I_19 := hf.call fr_22 (fun c hc => by first | exact hc | (dsimp only at hc ⊢; omega) | omega)
          have t_24 : (I_19 (o + 46) 1).toInt = (I0 (o + 46) 1).toInt := by rw [fr_22 (o + 46) (by first | omega | (dsimp only; omega))]
          exact (hp _ _ _ hR_21 hf_23  u_18)
        · have d_25 := iNe c_14
          refine ⟨fun c_26 => ?_, fun c_26 => ?_⟩
          · have d_27 := iLt c_26
            exact (hp _ _ _ hR hf  hq0)
          · have d_28 := iNlt c_26
            have g_29 : (0 : Int) ≤ (I0 (o + 46) 1).toInt ∧ (I0 (o + 46) 1).toInt ≤ 6 := hR.at0 (rsOffice_5 ra) 1 (by decide)
            refine ⟨fun c_30 => ?_, fun c_30 => ?_⟩
            · have d_31 := iLt c_30
              unfold fOffice_dead_44
              have l_32 : (2 : Int32).toInt = 2 := rfl
              refine y_Office_tellFact hok hw ra (by first | omega | (intro h; omega) | exact Or.inl rfl | exact Or.inr rfl) hq0 hR (fun r_33 I_35 L_36 hR_37 fr_38 u_34 => ⟨r_33, I_35, L_36, rfl, rfl, ?_⟩)
              have hf_39 : Fm (fun c => (o + 48 ≤ c ∧ c < o + 55)) I0 I_35 := hf.call fr_38 (fun c hc => by first | exact hc | (dsimp only at hc ⊢; omega) | omega)
              have t_40 : (I_35 (o + 46) 1).toInt = (I0 (o + 46) 1).toInt := by rw [fr_38 (o + 46) (by first | omega | (dsimp only; omega))]
              exact (hp _ _ _ hR_37 hf_39  u_34)
            · have d_41 := iNlt c_30
              exact (hp _ _ _ hR hf  hq0)
      · have d_42 := iEq c_11
        have l_43 : (-1 : Int32).toInt = -1 := rfl
        exact (hp _ _ _ hR hf  hq0)
set_option maxHeartbeats 4000000 in
set_option maxRecDepth 20000 in
theorem y_Office_untell {D : va_G} {cA : FieldType → ClassId} {b : Nat} {E : State → Prop} {R : qRg} {o n : Nat} {sh : Nat → qC} {Rf : Nat → Nat → Option Nat} {I0 : Nat → Nat → Int32} {L0 : Nat → Nat → Int64} {post : Option Value → qS → Prop} {p1 : Int32} (hok : q_ok (qGG D cA b E)) (hw : WfOffice (qGG D cA b E) n sh Rf o) (ra : RAOffice R o) (hR : RI R I0) (hp : ∀ (r : Int32) (I' : Nat → Nat → Int32) (L' : Nat → Nat → Int64), RI R I' → Fm (fun c => c = o + 54) I0 I' → (Bz r) → post (some (.int r)) (n, sh, Rf, I', L')) : Ev (qGG D cA b E) mOffice_untell 0 (0, 0) 0 (lv_args 0 [.ref o, .int p1]) [] (n, sh, Rf, I0, L0) post := by
  have hf : Fm (fun c => c = o + 54) I0 I0 := Fm.rf
  refine sOffice_untell_0 o n sh Rf I0 L0 post p1 hok hw ?_
  unfold fOffice_untell_0
  have l_1 : (0 : Int32).toInt = 0 := rfl
  refine ⟨fun c_2 => ?_, fun c_2 => ?_⟩
  · have d_3 := iLt c_2
    exact (hp _ _ _ hR hf (Or.inl rfl))
  · have d_4 := iNlt c_2
    have g_5 : (0 : Int) ≤ (I0 (o + 48) 6).toInt ∧ (I0 (o + 48) 6).toInt ≤ 40 := hR.at0 (rsOffice_6 ra) 6 (by decide)
    refine ⟨fun c_6 => ?_, fun c_6 => ?_⟩
    · have d_7 := iLe c_6
      exact (hp _ _ _ hR hf (Or.inl rfl))
    · have d_8 := iNle c_6
      refine ⟨tIn (by omega) (by omega), ?_⟩
      have l_9 : (-1 : Int32).toInt = -1 := rfl
      refine ⟨fun c_10 => ?_, fun c_10 => ?_⟩
      · have d_11 := iEq c_10
        have g_12 : (0 : Int) ≤ (I0 o 7).toInt ∧ (I0 o 7).toInt ≤ 100000 := hR.at0 ra 7 (by decide)
        refine ⟨tIn (by omega) (by omega), fun I_13 e_14 => ?_⟩
        have hR_15 : RI R I_13 := hR.up (rsOffice_6 ra) 6 (by decide) (Or.inl rfl) e_14 (i_lo _) (i_hi _)
        have hf_16 : Fm (fun c => c = o + 54) I0 I_13 := hf.set (by first | rfl | omega | (dsimp only; omega)) e_14
        have t_17 : (I_13 (o + 48) 6).toInt = (I0 (o + 48) 6).toInt := by rw [← e_14, q_u_ne (by omega)]
        have t_18 : (I_13 o 7).toInt = (I0 o 7).toInt := by rw [← e_14, q_u_ne (by omega)]
        have l_19 : (1 : Int32).toInt = 1 := rfl
        exact (hp _ _ _ hR_15 hf_16 (Or.inr rfl))
      · have d_20 := iNe c_10
        exact (hp _ _ _ hR hf (Or.inl rfl))
set_option maxHeartbeats 4000000 in
set_option maxRecDepth 20000 in
theorem y_Office_later {D : va_G} {cA : FieldType → ClassId} {b : Nat} {E : State → Prop} {R : qRg} {o n : Nat} {sh : Nat → qC} {Rf : Nat → Nat → Option Nat} {I0 : Nat → Nat → Int32} {L0 : Nat → Nat → Int64} {post : Option Value → qS → Prop} {p1 : Int32} (hok : q_ok (qGG D cA b E)) (hw : WfOffice (qGG D cA b E) n sh Rf o) (ra : RAOffice R o) (hz1 : R.2 1 = true) (hR : RI R I0) (hp : ∀ (r : Int32) (I' : Nat → Nat → Int32) (L' : Nat → Nat → Int64), RI R I' → Fm (fun c => c = o) I0 I' → post (some (.int r)) (n, sh, Rf, I', L')) : Ev (qGG D cA b E) mOffice_later 0 (0, 0) 0 (lv_args 0 [.ref o, .int p1]) [] (n, sh, Rf, I0, L0) post := by
  have hf : Fm (fun c => c = o) I0 I0 := Fm.rf
  refine sOffice_later_0 o n sh Rf I0 L0 post p1 hok hw ?_
  unfold fOffice_later_0
  have l_1 : (0 : Int32).toInt = 0 := rfl
  refine ⟨fun c_2 => ?_, fun c_2 => ?_⟩
  · have d_3 := iLt c_2
    have l_4 : (-1 : Int32).toInt = -1 := rfl
    exact (hp _ _ _ hR hf )
  · have d_5 := iNlt c_2
    have l_6 : (1000 : Int32).toInt = 1000 := rfl
    refine ⟨fun c_7 => ?_, fun c_7 => ?_⟩
    · have d_8 := iLt c_7
      have l_9 : (-1 : Int32).toInt = -1 := rfl
      exact (hp _ _ _ hR hf )
    · have d_10 := iNlt c_7
      have g_11 : (0 : Int) ≤ (I0 o 7).toInt ∧ (I0 o 7).toInt ≤ 100000 := hR.at0 ra 7 (by decide)
      have a_12 : ((I0 o 7) + p1).toInt = (I0 o 7).toInt + p1.toInt := tAdd (by omega) (by omega)
      have l_13 : (100000 : Int32).toInt = 100000 := rfl
      refine ⟨fun c_14 => ?_, fun c_14 => ?_⟩
      · have d_15 := iLe c_14
        have g_16 : (0 : Int) ≤ (I0 o 7).toInt ∧ (I0 o 7).toInt ≤ 100000 := hR.at0 ra 7 (by decide)
        have a_17 : ((I0 o 7) + p1).toInt = (I0 o 7).toInt + p1.toInt := tAdd (by omega) (by omega)
        refine fun I_18 e_19 => ?_
        have hR_20 : RI R I_18 := hR.up0 (k := 7) ra (by decide) (Or.inr hz1) e_19 (show (0 : Int) ≤ ((I0 o 7) + p1).toInt by omega) (show ((I0 o 7) + p1).toInt ≤ (100000 : Int) by omega)
        have hf_21 : Fm (fun c => c = o) I0 I_18 := hf.set (by first | rfl | omega | (dsimp only; omega)) e_19
        have t_22 : (I_18 o 7).toInt = ((I0 o 7) + p1).toInt := by rw [← e_19, q_u_at]
        have g_23 : (0 : Int) ≤ (I_18 o 7).toInt ∧ (I_18 o 7).toInt ≤ 100000 := hR_20.at0 ra 7 (by decide)
        exact (hp _ _ _ hR_20 hf_21 )
      · have d_24 := iNle c_14
        have l_25 : (-1 : Int32).toInt = -1 := rfl
        exact (hp _ _ _ hR hf )
set_option maxHeartbeats 4000000 in
set_option maxRecDepth 20000 in
theorem y_Office_ran {D : va_G} {cA : FieldType → ClassId} {b : Nat} {E : State → Prop} {R : qRg} {o n : Nat} {sh : Nat → qC} {Rf : Nat → Nat → Option Nat} {I0 : Nat → Nat → Int32} {L0 : Nat → Nat → Int64} {post : Option Value → qS → Prop} {p1 : Int32} (hok : q_ok (qGG D cA b E)) (hw : WfOffice (qGG D cA b E) n sh Rf o) (ra : RAOffice R o) (hR : RI R I0) (hp : ∀ (r : Int64) , post (some (.long r)) (n, sh, Rf, I0, L0)) : Ev (qGG D cA b E) mOffice_ran 0 (0, 0) 0 (lv_args 0 [.ref o, .int p1]) [] (n, sh, Rf, I0, L0) post := by
  refine sOffice_ran_0 o n sh Rf I0 L0 post p1 hok hw ?_
  unfold fOffice_ran_0
  have l_1 : (0 : Int32).toInt = 0 := rfl
  refine ⟨fun c_2 => ?_, fun c_2 => ?_⟩
  · have d_3 := iEq c_2
    exact (hp _ )
  · have d_4 := iNe c_2
    refine ⟨fun c_5 => ?_, fun c_5 => ?_⟩
    · have d_6 := iLt c_5
      exact (hp _ )
    · have d_7 := iNlt c_5
      have l_8 : (11 : Int32).toInt = 11 := rfl
      refine ⟨fun c_9 => ?_, fun c_9 => ?_⟩
      · have d_10 := iLt c_9
        refine ⟨tIn (by omega) (by omega), ?_⟩
        exact (hp _ )
      · have d_11 := iNlt c_9
        exact (hp _ )
set_option maxHeartbeats 4000000 in
set_option maxRecDepth 20000 in
theorem y_Office_fort {D : va_G} {cA : FieldType → ClassId} {b : Nat} {E : State → Prop} {R : qRg} {o n : Nat} {sh : Nat → qC} {Rf : Nat → Nat → Option Nat} {I0 : Nat → Nat → Int32} {L0 : Nat → Nat → Int64} {post : Option Value → qS → Prop} {uo_1 : Nat} {p1 : Int32} {p2 : Int32} {p3 : Int32} (hok : q_ok (qGG D cA b E)) (hw : WfOffice (qGG D cA b E) n sh Rf o) (ra : RAOffice R o) (hwuo_1 : WfLand (qGG D cA b E) n sh Rf uo_1) (rauo_1 : RALand R uo_1) (huo_1 : Rf o 1 = some uo_1) (hR : RI R I0) (hp : ∀ (r : Int32) , post (some (.int r)) (n, sh, Rf, I0, L0)) : Ev (qGG D cA b E) mOffice_fort 1 (0, 0) 0 (lv_args 0 [.ref o, .int p1, .int p2, .int p3]) [] (n, sh, Rf, I0, L0) post := by
  refine sOffice_fort_0 o n sh Rf I0 L0 post p1 p2 p3 uo_1 hok hw huo_1 hwuo_1 ?_
  unfold fOffice_fort_0
  refine y_Office_ranMonth hok hw ra hR (fun r_1 u_2 u_3 => ⟨r_1, I0, L0, rfl, rfl, ?_⟩)
  have b_4 : 0 ≤ r_1.toInt ∧ r_1.toInt ≤ 1 := u_2.rg
  have l_5 : (0 : Int32).toInt = 0 := rfl
  refine ⟨fun c_6 => ?_, fun c_6 => ?_⟩
  · have d_7 := iEq c_6
    have l_8 : (-1 : Int32).toInt = -1 := rfl
    exact (hp _ )
  · have d_9 := iNe c_6
    have rm := u_3 (by omega)
    refine ⟨fun c_10 => ?_, fun c_10 => ?_⟩
    · have d_11 := iLt c_10
      have l_12 : (-1 : Int32).toInt = -1 := rfl
      exact (hp _ )
    · have d_13 := iNlt c_10
      have g_14 : (0 : Int) ≤ (I0 uo_1 1).toInt ∧ (I0 uo_1 1).toInt ≤ 3 := hR.at0 rauo_1 1 (by decide)
      refine ⟨fun c_15 => ?_, fun c_15 => ?_⟩
      · have d_16 := iLe c_15
        have l_17 : (-1 : Int32).toInt = -1 := rfl
        exact (hp _ )
      · have d_18 := iNle c_15
        have l_19 : (1 : Int32).toInt = 1 := rfl
        refine y_Office_within hok hR (fun r_20 u_21 u_22 u_23 => ⟨r_20, I0, L0, rfl, rfl, ?_⟩)
        have b_24 : 0 ≤ r_20.toInt ∧ r_20.toInt ≤ 1 := u_21.rg
        refine ⟨fun c_25 => ?_, fun c_25 => ?_⟩
        · have d_26 := iNe c_25
          have wn := u_22 (by omega)
          have l_27 : (3 : Int32).toInt = 3 := rfl
          have a_28 : (p2 * 3).toInt = p2.toInt * 3 := tMul rfl (by omega) (by omega)
          have a_29 : ((p2 * 3) + p1).toInt = (p2 * 3).toInt + p1.toInt := tAdd (by omega) (by omega)
          have l_30 : (2 : Int32).toInt = 2 := rfl
          have a_31 : (((p2 * 3) + p1) * 2).toInt = ((p2 * 3) + p1).toInt * 2 := tMul rfl (by omega) (by omega)
          have a_32 : ((((p2 * 3) + p1) * 2) + p3).toInt = (((p2 * 3) + p1) * 2).toInt + p3.toInt := tAdd (by omega) (by omega)
          refine ⟨tIn (by omega) (by omega), ?_⟩
          exact (hp _ )
        · have d_33 := iEq c_25
          have l_34 : (-1 : Int32).toInt = -1 := rfl
          exact (hp _ )
set_option maxHeartbeats 4000000 in
set_option maxRecDepth 20000 in
theorem y_Office_pan {D : va_G} {cA : FieldType → ClassId} {b : Nat} {E : State → Prop} {R : qRg} {o n : Nat} {sh : Nat → qC} {Rf : Nat → Nat → Option Nat} {I0 : Nat → Nat → Int32} {L0 : Nat → Nat → Int64} {post : Option Value → qS → Prop} {uo_1 : Nat} {p1 : Int32} {p2 : Int32} {p3 : Int32} (hok : q_ok (qGG D cA b E)) (hw : WfOffice (qGG D cA b E) n sh Rf o) (ra : RAOffice R o) (hwuo_1 : WfLand (qGG D cA b E) n sh Rf uo_1) (rauo_1 : RALand R uo_1) (huo_1 : Rf o 1 = some uo_1) (hR : RI R I0) (hp : ∀ (r : Int32) , post (some (.int r)) (n, sh, Rf, I0, L0)) : Ev (qGG D cA b E) mOffice_pan 1 (0, 0) 0 (lv_args 0 [.ref o, .int p1, .int p2, .int p3]) [] (n, sh, Rf, I0, L0) post := by
  refine sOffice_pan_0 o n sh Rf I0 L0 post p1 p2 p3 uo_1 hok hw huo_1 hwuo_1 ?_
  unfold fOffice_pan_0
  refine y_Office_ranMonth hok hw ra hR (fun r_1 u_2 u_3 => ⟨r_1, I0, L0, rfl, rfl, ?_⟩)
  have b_4 : 0 ≤ r_1.toInt ∧ r_1.toInt ≤ 1 := u_2.rg
  have l_5 : (0 : Int32).toInt = 0 := rfl
  refine ⟨fun c_6 => ?_, fun c_6 => ?_⟩
  · have d_7 := iEq c_6
    have l_8 : (-1 : Int32).toInt = -1 := rfl
    exact (hp _ )
  · have d_9 := iNe c_6
    have rm := u_3 (by omega)
    refine ⟨fun c_10 => ?_, fun c_10 => ?_⟩
    · have d_11 := iLt c_10
      have l_12 : (-1 : Int32).toInt = -1 := rfl
      exact (hp _ )
    · have d_13 := iNlt c_10
      have g_14 : (0 : Int) ≤ (I0 uo_1 2).toInt ∧ (I0 uo_1 2).toInt ≤ 3 := hR.at0 rauo_1 2 (by decide)
      refine ⟨fun c_15 => ?_, fun c_15 => ?_⟩
      · have d_16 := iLe c_15
        have l_17 : (-1 : Int32).toInt = -1 := rfl
        exact (hp _ )
      · have d_18 := iNle c_15
        have l_19 : (1 : Int32).toInt = 1 := rfl
        refine y_Office_within hok hR (fun r_20 u_21 u_22 u_23 => ⟨r_20, I0, L0, rfl, rfl, ?_⟩)
        have b_24 : 0 ≤ r_20.toInt ∧ r_20.toInt ≤ 1 := u_21.rg
        refine ⟨fun c_25 => ?_, fun c_25 => ?_⟩
        · have d_26 := iNe c_25
          have wn := u_22 (by omega)
          have l_27 : (3 : Int32).toInt = 3 := rfl
          have a_28 : (p2 * 3).toInt = p2.toInt * 3 := tMul rfl (by omega) (by omega)
          have a_29 : ((p2 * 3) + p1).toInt = (p2 * 3).toInt + p1.toInt := tAdd (by omega) (by omega)
          have l_30 : (2 : Int32).toInt = 2 := rfl
          have a_31 : (((p2 * 3) + p1) * 2).toInt = ((p2 * 3) + p1).toInt * 2 := tMul rfl (by omega) (by omega)
          have a_32 : ((((p2 * 3) + p1) * 2) + p3).toInt = (((p2 * 3) + p1) * 2).toInt + p3.toInt := tAdd (by omega) (by omega)
          refine ⟨tIn (by omega) (by omega), ?_⟩
          exact (hp _ )
        · have d_33 := iEq c_25
          have l_34 : (-1 : Int32).toInt = -1 := rfl
          exact (hp _ )
set_option maxHeartbeats 4000000 in
set_option maxRecDepth 20000 in
theorem y_Office_town {D : va_G} {cA : FieldType → ClassId} {b : Nat} {E : State → Prop} {R : qRg} {o n : Nat} {sh : Nat → qC} {Rf : Nat → Nat → Option Nat} {I0 : Nat → Nat → Int32} {L0 : Nat → Nat → Int64} {post : Option Value → qS → Prop} {uo_1 : Nat} {p1 : Int32} {p2 : Int32} {p3 : Int32} (hok : q_ok (qGG D cA b E)) (hw : WfOffice (qGG D cA b E) n sh Rf o) (ra : RAOffice R o) (hwuo_1 : WfLand (qGG D cA b E) n sh Rf uo_1) (rauo_1 : RALand R uo_1) (huo_1 : Rf o 1 = some uo_1) (hR : RI R I0) (hp : ∀ (r : Int32) , post (some (.int r)) (n, sh, Rf, I0, L0)) : Ev (qGG D cA b E) mOffice_town 1 (0, 0) 0 (lv_args 0 [.ref o, .int p1, .int p2, .int p3]) [] (n, sh, Rf, I0, L0) post := by
  refine sOffice_town_0 o n sh Rf I0 L0 post p1 p2 p3 uo_1 hok hw huo_1 hwuo_1 ?_
  unfold fOffice_town_0
  refine y_Office_ranMonth hok hw ra hR (fun r_1 u_2 u_3 => ⟨r_1, I0, L0, rfl, rfl, ?_⟩)
  have b_4 : 0 ≤ r_1.toInt ∧ r_1.toInt ≤ 1 := u_2.rg
  have l_5 : (0 : Int32).toInt = 0 := rfl
  refine ⟨fun c_6 => ?_, fun c_6 => ?_⟩
  · have d_7 := iEq c_6
    have l_8 : (-1 : Int32).toInt = -1 := rfl
    exact (hp _ )
  · have d_9 := iNe c_6
    have rm := u_3 (by omega)
    refine ⟨fun c_10 => ?_, fun c_10 => ?_⟩
    · have d_11 := iLt c_10
      have l_12 : (-1 : Int32).toInt = -1 := rfl
      exact (hp _ )
    · have d_13 := iNlt c_10
      have g_14 : (0 : Int) ≤ (I0 uo_1 3).toInt ∧ (I0 uo_1 3).toInt ≤ 5 := hR.at0 rauo_1 3 (by decide)
      refine ⟨fun c_15 => ?_, fun c_15 => ?_⟩
      · have d_16 := iLe c_15
        have l_17 : (-1 : Int32).toInt = -1 := rfl
        exact (hp _ )
      · have d_18 := iNle c_15
        have l_19 : (2 : Int32).toInt = 2 := rfl
        refine y_Office_within hok hR (fun r_20 u_21 u_22 u_23 => ⟨r_20, I0, L0, rfl, rfl, ?_⟩)
        have b_24 : 0 ≤ r_20.toInt ∧ r_20.toInt ≤ 1 := u_21.rg
        refine ⟨fun c_25 => ?_, fun c_25 => ?_⟩
        · have d_26 := iNe c_25
          have wn := u_22 (by omega)
          have l_27 : (5 : Int32).toInt = 5 := rfl
          have a_28 : (p2 * 5).toInt = p2.toInt * 5 := tMul rfl (by omega) (by omega)
          have a_29 : ((p2 * 5) + p1).toInt = (p2 * 5).toInt + p1.toInt := tAdd (by omega) (by omega)
          have l_30 : (3 : Int32).toInt = 3 := rfl
          have a_31 : (((p2 * 5) + p1) * 3).toInt = ((p2 * 5) + p1).toInt * 3 := tMul rfl (by omega) (by omega)
          have a_32 : ((((p2 * 5) + p1) * 3) + p3).toInt = (((p2 * 5) + p1) * 3).toInt + p3.toInt := tAdd (by omega) (by omega)
          refine ⟨tIn (by omega) (by omega), ?_⟩
          exact (hp _ )
        · have d_33 := iEq c_25
          have l_34 : (-1 : Int32).toInt = -1 := rfl
          exact (hp _ )
set_option maxHeartbeats 4000000 in
set_option maxRecDepth 20000 in
theorem y_Office_book {D : va_G} {cA : FieldType → ClassId} {b : Nat} {E : State → Prop} {R : qRg} {o n : Nat} {sh : Nat → qC} {Rf : Nat → Nat → Option Nat} {I0 : Nat → Nat → Int32} {L0 : Nat → Nat → Int64} {post : Option Value → qS → Prop} {p1 : Int32} {p2 : Int32} {p3 : Int32} (hok : q_ok (qGG D cA b E)) (hw : WfOffice (qGG D cA b E) n sh Rf o) (ra : RAOffice R o) (hR : RI R I0) (hp : ∀ (r : Int64) , post (some (.long r)) (n, sh, Rf, I0, L0)) : Ev (qGG D cA b E) mOffice_book 1 (0, 0) 0 (lv_args 0 [.ref o, .int p1, .int p2, .int p3]) [] (n, sh, Rf, I0, L0) post := by
  refine sOffice_book_0 o n sh Rf I0 L0 post p1 p2 p3 hok hw ?_
  unfold fOffice_book_0
  refine y_Office_ranMonth hok hw ra hR (fun r_1 u_2 u_3 => ⟨r_1, I0, L0, rfl, rfl, ?_⟩)
  have b_4 : 0 ≤ r_1.toInt ∧ r_1.toInt ≤ 1 := u_2.rg
  have l_5 : (0 : Int32).toInt = 0 := rfl
  refine ⟨fun c_6 => ?_, fun c_6 => ?_⟩
  · have d_7 := iEq c_6
    exact (hp _ )
  · have d_8 := iNe c_6
    have rm := u_3 (by omega)
    refine ⟨fun c_9 => ?_, fun c_9 => ?_⟩
    · have d_10 := iLt c_9
      exact (hp _ )
    · have d_11 := iNlt c_9
      have g_12 : (0 : Int) ≤ (I0 (o + 46) 1).toInt ∧ (I0 (o + 46) 1).toInt ≤ 6 := hR.at0 (rsOffice_5 ra) 1 (by decide)
      refine ⟨fun c_13 => ?_, fun c_13 => ?_⟩
      · have d_14 := iLe c_13
        exact (hp _ )
      · have d_15 := iNle c_13
        have l_16 : (2 : Int32).toInt = 2 := rfl
        refine y_Office_within hok hR (fun r_17 u_18 u_19 u_20 => ⟨r_17, I0, L0, rfl, rfl, ?_⟩)
        have b_21 : 0 ≤ r_17.toInt ∧ r_17.toInt ≤ 1 := u_18.rg
        refine ⟨fun c_22 => ?_, fun c_22 => ?_⟩
        · have d_23 := iNe c_22
          have wn := u_19 (by omega)
          have l_24 : (6 : Int32).toInt = 6 := rfl
          have a_25 : (p2 * 6).toInt = p2.toInt * 6 := tMul rfl (by omega) (by omega)
          have a_26 : ((p2 * 6) + p1).toInt = (p2 * 6).toInt + p1.toInt := tAdd (by omega) (by omega)
          have l_27 : (3 : Int32).toInt = 3 := rfl
          have a_28 : (((p2 * 6) + p1) * 3).toInt = ((p2 * 6) + p1).toInt * 3 := tMul rfl (by omega) (by omega)
          have a_29 : ((((p2 * 6) + p1) * 3) + p3).toInt = (((p2 * 6) + p1) * 3).toInt + p3.toInt := tAdd (by omega) (by omega)
          refine ⟨tIn (by omega) (by omega), ?_⟩
          exact (hp _ )
        · have d_30 := iEq c_22
          exact (hp _ )
set_option maxHeartbeats 4000000 in
set_option maxRecDepth 20000 in
theorem y_Office_paper {D : va_G} {cA : FieldType → ClassId} {b : Nat} {E : State → Prop} {R : qRg} {o n : Nat} {sh : Nat → qC} {Rf : Nat → Nat → Option Nat} {I0 : Nat → Nat → Int32} {L0 : Nat → Nat → Int64} {post : Option Value → qS → Prop} {p1 : Int32} {p2 : Int32} (hok : q_ok (qGG D cA b E)) (hw : WfOffice (qGG D cA b E) n sh Rf o) (ra : RAOffice R o) (hR : RI R I0) (hp : ∀ (r : Int32) , post (some (.int r)) (n, sh, Rf, I0, L0)) : Ev (qGG D cA b E) mOffice_paper 1 (0, 0) 0 (lv_args 0 [.ref o, .int p1, .int p2]) [] (n, sh, Rf, I0, L0) post := by
  refine sOffice_paper_0 o n sh Rf I0 L0 post p1 p2 hok hw ?_
  unfold fOffice_paper_0
  have l_1 : (0 : Int32).toInt = 0 := rfl
  refine ⟨fun c_2 => ?_, fun c_2 => ?_⟩
  · have d_3 := iEq c_2
    have l_4 : (-1 : Int32).toInt = -1 := rfl
    exact (hp _ )
  · have d_5 := iNe c_2
    refine ⟨fun c_6 => ?_, fun c_6 => ?_⟩
    · have d_7 := iLt c_6
      have l_8 : (-1 : Int32).toInt = -1 := rfl
      exact (hp _ )
    · have d_9 := iNlt c_6
      have g_10 : (0 : Int) ≤ (I0 ((o + 55) + 31) 12).toInt ∧ (I0 ((o + 55) + 31) 12).toInt ≤ 1440 := hR.at0 (rsRun_4 (rsOffice_8 ra)) 12 (by decide)
      refine ⟨fun c_11 => ?_, fun c_11 => ?_⟩
      · have d_12 := iLt c_11
        refine y_Papers_detail hok (wsRun_4 (wsOffice_8 hw)) (rsRun_4 (rsOffice_8 ra)) (by first | omega | (intro h; omega) | exact Or.inl rfl | exact Or.inr rfl) hR (fun r_13  => ⟨r_13, I0, L0, rfl, rfl, ?_⟩)
        exact (hp _ )
      · have d_14 := iNlt c_11
        have l_15 : (-1 : Int32).toInt = -1 := rfl
        exact (hp _ )
set_option maxHeartbeats 4000000 in
set_option maxRecDepth 20000 in
theorem y_Office_way {D : va_G} {cA : FieldType → ClassId} {b : Nat} {E : State → Prop} {R : qRg} {o n : Nat} {sh : Nat → qC} {Rf : Nat → Nat → Option Nat} {I0 : Nat → Nat → Int32} {L0 : Nat → Nat → Int64} {post : Option Value → qS → Prop} {ul : Nat} {ut : Nat} {p1 : Int32} {p2 : Int32} (hok : q_ok (qGG D cA b E)) (hw : WfOffice (qGG D cA b E) n sh Rf o) (ra : RAOffice R o) (hwul : WfLand (qGG D cA b E) n sh Rf ul) (raul : RALand R ul) (hwut : WfTrade (qGG D cA b E) n sh Rf ut) (raut : RATrade R ut) (hul : Rf (o + 55) 0 = some ul) (hut : Rf (o + 55) 1 = some ut) (hEN : qEN E) (hR : RI R I0) (hp : ∀ (r : Int64) (I' : Nat → Nat → Int32) (L' : Nat → Nat → Int64), RI R I' → Fm (fun c => c = o + 55 + 58 ∨ c = o + 55 + 59 ∨ (o + 55 + 19 ≤ c ∧ c < o + 55 + 24)) I0 I' → post (some (.long r)) (n, sh, Rf, I', L')) : Ev (qGG D cA b E) mOffice_way 5 (0, 0) 0 (lv_args 0 [.ref o, .int p1, .int p2]) [] (n, sh, Rf, I0, L0) post := by
  have hf : Fm (fun c => c = o + 55 + 58 ∨ c = o + 55 + 59 ∨ (o + 55 + 19 ≤ c ∧ c < o + 55 + 24)) I0 I0 := Fm.rf
  refine sOffice_way_0 o n sh Rf I0 L0 post p1 p2 hok hw ?_
  unfold fOffice_way_0
  have l_1 : (0 : Int32).toInt = 0 := rfl
  refine ⟨fun c_2 => ?_, fun c_2 => ?_⟩
  · have d_3 := iEq c_2
    exact (hp _ _ _ hR hf )
  · have d_4 := iNe c_2
    refine ⟨fun c_5 => ?_, fun c_5 => ?_⟩
    · have d_6 := iLt c_5
      exact (hp _ _ _ hR hf )
    · have d_7 := iNlt c_5
      have g_8 : (0 : Int) ≤ (I0 (o + 46) 1).toInt ∧ (I0 (o + 46) 1).toInt ≤ 6 := hR.at0 (rsOffice_5 ra) 1 (by decide)
      refine ⟨fun c_9 => ?_, fun c_9 => ?_⟩
      · have d_10 := iLe c_9
        exact (hp _ _ _ hR hf )
      · have d_11 := iNle c_9
        refine y_Run_isDead hok (wsOffice_8 hw) (rsOffice_8 ra) (by first | omega | (intro h; omega) | exact Or.inl rfl | exact Or.inr rfl) hR (fun r_12 u_13 => ⟨r_12, I0, L0, rfl, rfl, ?_⟩)
        have b_14 : 0 ≤ r_12.toInt ∧ r_12.toInt ≤ 1 := u_13.rg
        refine ⟨fun c_15 => ?_, fun c_15 => ?_⟩
        · have d_16 := iEq c_15
          refine y_Way_choose hok (wsRun_7 (wsOffice_8 hw)) (rsRun_7 (rsOffice_8 ra)) (wsOffice_8 hw) (rsOffice_8 ra) hwul raul hwut raut hul hut hEN (by first | omega | (intro h; omega) | exact Or.inl rfl | exact Or.inr rfl) (by first | omega | (intro h; omega) | exact Or.inl rfl | exact Or.inr rfl) hR (fun I_19 L_20 hR_21 fr_22 u_18 => ⟨I_19, L_20, rfl, rfl, ?_⟩)
          have hf_23 : Fm (fun c => c = o + 55 + 58 ∨ c = o + 55 + 59 ∨ (o + 55 + 19 ≤ c ∧ c < o + 55 + 24)) I0 I_19 := hf.call fr_22 (fun c hc => by first | exact hc | (dsimp only at hc ⊢; omega) | omega)
          have t_24 : (I_19 (o + 46) 1).toInt = (I0 (o + 46) 1).toInt := by rw [fr_22 (o + 46) (by first | omega | (dsimp only; omega))]
          refine ⟨fun c_25 => ?_, fun c_25 => ?_⟩
          · have d_26 := iEq c_25
            have g_27 : (0 : Int) ≤ (I_19 ((o + 55) + 58) 0).toInt ∧ (I_19 ((o + 55) + 58) 0).toInt ≤ 4 := hR_21.at0 (rsRun_7 (rsOffice_8 ra)) 0 (by decide)
            exact (hp _ _ _ hR_21 hf_23 )
          have d_28 := iNe c_25
          have l_30 : (1 : Int32).toInt = 1 := rfl
          refine ⟨fun c_29 => ?_, fun c_29 => ?_⟩
          · have d_31 := iEq c_29
            have g_32 : (-1 : Int) ≤ (I_19 ((o + 55) + 58) 1).toInt ∧ (I_19 ((o + 55) + 58) 1).toInt ≤ 2 := hR_21.at0 (rsRun_7 (rsOffice_8 ra)) 1 (by decide)
            exact (hp _ _ _ hR_21 hf_23 )
          have d_33 := iNe c_29
          have l_35 : (2 : Int32).toInt = 2 := rfl
          refine ⟨fun c_34 => ?_, fun c_34 => ?_⟩
          · have d_36 := iEq c_34
            have g_37 : (-1 : Int) ≤ (I_19 ((o + 55) + 58) 2).toInt ∧ (I_19 ((o + 55) + 58) 2).toInt ≤ 4 := hR_21.at0 (rsRun_7 (rsOffice_8 ra)) 2 (by decide)
            exact (hp _ _ _ hR_21 hf_23 )
          have d_38 := iNe c_34
          have l_40 : (3 : Int32).toInt = 3 := rfl
          refine ⟨fun c_39 => ?_, fun c_39 => ?_⟩
          · have d_41 := iEq c_39
            exact (hp _ _ _ hR_21 hf_23 )
          have d_42 := iNe c_39
          have l_44 : (4 : Int32).toInt = 4 := rfl
          refine ⟨fun c_43 => ?_, fun c_43 => ?_⟩
          · have d_45 := iEq c_43
            exact (hp _ _ _ hR_21 hf_23 )
          have d_46 := iNe c_43
          exact (hp _ _ _ hR_21 hf_23 )
        · have d_47 := iNe c_15
          exact (hp _ _ _ hR hf )
set_option maxHeartbeats 4000000 in
set_option maxRecDepth 20000 in
theorem y_Office_worth {D : va_G} {cA : FieldType → ClassId} {b : Nat} {E : State → Prop} {R : qRg} {o n : Nat} {sh : Nat → qC} {Rf : Nat → Nat → Option Nat} {I0 : Nat → Nat → Int32} {L0 : Nat → Nat → Int64} {post : Option Value → qS → Prop} {uo_1 : Nat} {ul : Nat} {ut : Nat} {p1 : Int32} (hok : q_ok (qGG D cA b E)) (hw : WfOffice (qGG D cA b E) n sh Rf o) (ra : RAOffice R o) (hwuo_1 : WfLand (qGG D cA b E) n sh Rf uo_1) (rauo_1 : RALand R uo_1) (hwul : WfLand (qGG D cA b E) n sh Rf ul) (raul : RALand R ul) (hwut : WfTrade (qGG D cA b E) n sh Rf ut) (raut : RATrade R ut) (huo_1 : Rf o 1 = some uo_1) (hul : Rf (o + 55) 0 = some ul) (hut : Rf (o + 55) 1 = some ut) (hEN : qEN E) (hR : RI R I0) (hp : ∀ (r : Int64) (L' : Nat → Nat → Int64), post (some (.long r)) (n, sh, Rf, I0, L')) : Ev (qGG D cA b E) mOffice_worth 4 (0, 0) 0 (lv_args 0 [.ref o, .int p1]) [] (n, sh, Rf, I0, L0) post := by
  refine sOffice_worth_0 o n sh Rf I0 L0 post p1 uo_1 hok hw huo_1 hwuo_1 ?_
  unfold fOffice_worth_0
  have l_1 : (0 : Int32).toInt = 0 := rfl
  refine ⟨fun c_2 => ?_, fun c_2 => ?_⟩
  · have d_3 := iEq c_2
    exact (hp _ _ )
  · have d_4 := iNe c_2
    refine ⟨fun c_5 => ?_, fun c_5 => ?_⟩
    · have d_6 := iLt c_5
      exact (hp _ _ )
    · have d_7 := iNlt c_5
      have g_8 : (0 : Int) ≤ (I0 uo_1 2).toInt ∧ (I0 uo_1 2).toInt ≤ 3 := hR.at0 rauo_1 2 (by decide)
      refine ⟨fun c_9 => ?_, fun c_9 => ?_⟩
      · have d_10 := iLt c_9
        refine y_Run_townFor hok (wsOffice_8 hw) (rsOffice_8 ra) hwul raul hwut raut hul hut hEN (by first | omega | (intro h; omega) | exact Or.inl rfl | exact Or.inr rfl) hR (fun r_11 L_13 u_12 => ⟨r_11, I0, L_13, rfl, rfl, ?_⟩)
        exact (hp _ _ )
      · have d_14 := iNlt c_9
        exact (hp _ _ )
