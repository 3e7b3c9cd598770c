-- part 49w
section
noncomputable section
/-! the cells that stand as a tree: found in few steps -/
def e_lT (k : Nat) (a b : Nat → Option eY) : Nat → Option eY := fun n => bif Nat.ble n k then a n else b n
def e_lt : Nat → Option eY := (e_lT 177 (e_lT 88 (e_lT 43 (e_lT 21 (e_lT 10 (e_lT 4 (e_lT 1 (e_lT 0 (fun n => bif Nat.beq n 0 then some (0, 11, 15) else none) (fun n => bif Nat.beq n 1 then some (0, 8, 17) else none)) (e_lT 2 (fun n => bif Nat.beq n 2 then some (0, 1, 5) else none) (e_lT 3 (fun n => bif Nat.beq n 3 then some (1, 0, 32) else none) (fun n => bif Nat.beq n 4 then some (1, 0, 4000) else none)))) (e_lT 7 (e_lT 5 (fun n => bif Nat.beq n 5 then some (2, 0, 4000) else none) (e_lT 6 (fun n => bif Nat.beq n 6 then some (1, 0, 32) else none) (fun n => bif Nat.beq n 7 then some (1, 0, 500) else none))) (e_lT 8 (fun n => bif Nat.beq n 8 then some (0, 3, 12) else none) (e_lT 9 (fun n => bif Nat.beq n 9 then some (5, 0, 4) else none) (fun n => bif Nat.beq n 10 then some (0, 7, 8) else none))))) (e_lT 15 (e_lT 12 (e_lT 11 (fun n => bif Nat.beq n 11 then some (1, 0, 64) else none) (fun n => bif Nat.beq n 12 then some (1, 0, 64) else none)) (e_lT 13 (fun n => bif Nat.beq n 13 then some (1, 0, 64) else none) (e_lT 14 (fun n => bif Nat.beq n 14 then some (1, 0, 64) else none) (fun n => bif Nat.beq n 15 then some (1, 0, 64) else none)))) (e_lT 18 (e_lT 16 (fun n => bif Nat.beq n 16 then some (3, 0, 64) else none) (e_lT 17 (fun n => bif Nat.beq n 17 then some (3, 0, 64) else none) (fun n => bif Nat.beq n 18 then some (1, 0, 64) else none))) (e_lT 19 (fun n => bif Nat.beq n 19 then some (0, 4, 20) else none) (e_lT 20 (fun n => bif Nat.beq n 20 then some (1, 0, 4) else none) (fun n => bif Nat.beq n 21 then some (1, 0, 4) else none)))))) (e_lT 32 (e_lT 26 (e_lT 23 (e_lT 22 (fun n => bif Nat.beq n 22 then some (1, 0, 4) else none) (fun n => bif Nat.beq n 23 then some (1, 0, 4) else none)) (e_lT 24 (fun n => bif Nat.beq n 24 then some (1, 0, 4) else none) (e_lT 25 (fun n => bif Nat.beq n 25 then some (1, 0, 4) else none) (fun n => bif Nat.beq n 26 then some (1, 0, 4) else none)))) (e_lT 29 (e_lT 27 (fun n => bif Nat.beq n 27 then some (1, 0, 4) else none) (e_lT 28 (fun n => bif Nat.beq n 28 then some (1, 0, 4) else none) (fun n => bif Nat.beq n 29 then some (1, 0, 4) else none))) (e_lT 30 (fun n => bif Nat.beq n 30 then some (6, 0, 4) else none) (e_lT 31 (fun n => bif Nat.beq n 31 then some (1, 0, 32) else none) (fun n => bif Nat.beq n 32 then some (1, 0, 32) else none))))) (e_lT 37 (e_lT 34 (e_lT 33 (fun n => bif Nat.beq n 33 then some (1, 0, 32) else none) (fun n => bif Nat.beq n 34 then some (1, 0, 32) else none)) (e_lT 35 (fun n => bif Nat.beq n 35 then some (1, 0, 4) else none) (e_lT 36 (fun n => bif Nat.beq n 36 then some (1, 0, 32) else none) (fun n => bif Nat.beq n 37 then some (1, 0, 32) else none)))) (e_lT 40 (e_lT 38 (fun n => bif Nat.beq n 38 then some (1, 0, 32) else none) (e_lT 39 (fun n => bif Nat.beq n 39 then some (1, 0, 32) else none) (fun n => bif Nat.beq n 40 then some (1, 0, 32) else none))) (e_lT 41 (fun n => bif Nat.beq n 41 then some (6, 0, 32) else none) (e_lT 42 (fun n => bif Nat.beq n 42 then some (1, 0, 4) else none) (fun n => bif Nat.beq n 43 then some (1, 0, 4) else none))))))) (e_lT 65 (e_lT 54 (e_lT 48 (e_lT 45 (e_lT 44 (fun n => bif Nat.beq n 44 then some (1, 0, 4) else none) (fun n => bif Nat.beq n 45 then some (1, 0, 4) else none)) (e_lT 46 (fun n => bif Nat.beq n 46 then some (1, 0, 4) else none) (e_lT 47 (fun n => bif Nat.beq n 47 then some (1, 0, 4) else none) (fun n => bif Nat.beq n 48 then some (1, 0, 4) else none)))) (e_lT 51 (e_lT 49 (fun n => bif Nat.beq n 49 then some (1, 0, 4) else none) (e_lT 50 (fun n => bif Nat.beq n 50 then some (1, 0, 4) else none) (fun n => bif Nat.beq n 51 then some (1, 0, 4) else none))) (e_lT 52 (fun n => bif Nat.beq n 52 then some (1, 0, 4) else none) (e_lT 53 (fun n => bif Nat.beq n 53 then some (1, 0, 4) else none) (fun n => bif Nat.beq n 54 then some (1, 0, 4) else none))))) (e_lT 59 (e_lT 56 (e_lT 55 (fun n => bif Nat.beq n 55 then some (1, 0, 4) else none) (fun n => bif Nat.beq n 56 then some (1, 0, 4) else none)) (e_lT 57 (fun n => bif Nat.beq n 57 then some (1, 0, 4) else none) (e_lT 58 (fun n => bif Nat.beq n 58 then some (1, 0, 4) else none) (fun n => bif Nat.beq n 59 then some (1, 0, 4) else none)))) (e_lT 62 (e_lT 60 (fun n => bif Nat.beq n 60 then some (1, 0, 4) else none) (e_lT 61 (fun n => bif Nat.beq n 61 then some (1, 0, 4) else none) (fun n => bif Nat.beq n 62 then some (1, 0, 4) else none))) (e_lT 63 (fun n => bif Nat.beq n 63 then some (1, 0, 4) else none) (e_lT 64 (fun n => bif Nat.beq n 64 then some (1, 0, 4) else none) (fun n => bif Nat.beq n 65 then some (1, 0, 4) else none)))))) (e_lT 76 (e_lT 70 (e_lT 67 (e_lT 66 (fun n => bif Nat.beq n 66 then some (1, 0, 4) else none) (fun n => bif Nat.beq n 67 then some (1, 0, 4) else none)) (e_lT 68 (fun n => bif Nat.beq n 68 then some (1, 0, 4) else none) (e_lT 69 (fun n => bif Nat.beq n 69 then some (1, 0, 4) else none) (fun n => bif Nat.beq n 70 then some (1, 0, 4) else none)))) (e_lT 73 (e_lT 71 (fun n => bif Nat.beq n 71 then some (1, 0, 4) else none) (e_lT 72 (fun n => bif Nat.beq n 72 then some (1, 0, 4) else none) (fun n => bif Nat.beq n 73 then some (1, 0, 4) else none))) (e_lT 74 (fun n => bif Nat.beq n 74 then some (0, 2, 15) else none) (e_lT 75 (fun n => bif Nat.beq n 75 then some (1, 0, 8000) else none) (fun n => bif Nat.beq n 76 then some (1, 0, 8) else none))))) (e_lT 82 (e_lT 79 (e_lT 77 (fun n => bif Nat.beq n 77 then some (3, 0, 8) else none) (e_lT 78 (fun n => bif Nat.beq n 78 then some (3, 0, 8) else none) (fun n => bif Nat.beq n 79 then some (3, 0, 8) else none))) (e_lT 80 (fun n => bif Nat.beq n 80 then some (3, 0, 8) else none) (e_lT 81 (fun n => bif Nat.beq n 81 then some (1, 0, 8) else none) (fun n => bif Nat.beq n 82 then some (5, 10, 16) else none)))) (e_lT 85 (e_lT 83 (fun n => bif Nat.beq n 83 then some (1, 0, 8) else none) (e_lT 84 (fun n => bif Nat.beq n 84 then some (1, 0, 128) else none) (fun n => bif Nat.beq n 85 then some (1, 0, 6) else none))) (e_lT 86 (fun n => bif Nat.beq n 86 then some (0, 0, 20) else none) (e_lT 87 (fun n => bif Nat.beq n 87 then some (5, 5, 6) else none) (fun n => bif Nat.beq n 88 then some (1, 0, 8) else none)))))))) (e_lT 132 (e_lT 110 (e_lT 99 (e_lT 93 (e_lT 90 (e_lT 89 (fun n => bif Nat.beq n 89 then some (1, 0, 8) else none) (fun n => bif Nat.beq n 90 then some (1, 0, 7) else none)) (e_lT 91 (fun n => bif Nat.beq n 91 then some (1, 0, 7) else none) (e_lT 92 (fun n => bif Nat.beq n 92 then some (1, 0, 7) else none) (fun n => bif Nat.beq n 93 then some (1, 0, 32) else none)))) (e_lT 96 (e_lT 94 (fun n => bif Nat.beq n 94 then some (0, 1, 5) else none) (e_lT 95 (fun n => bif Nat.beq n 95 then some (1, 0, 32) else none) (fun n => bif Nat.beq n 96 then some (1, 0, 4000) else none))) (e_lT 97 (fun n => bif Nat.beq n 97 then some (0, 5, 12) else none) (e_lT 98 (fun n => bif Nat.beq n 98 then some (0, 5, 12) else none) (fun n => bif Nat.beq n 99 then some (0, 5, 12) else none))))) (e_lT 104 (e_lT 101 (e_lT 100 (fun n => bif Nat.beq n 100 then some (0, 5, 12) else none) (fun n => bif Nat.beq n 101 then some (0, 5, 12) else none)) (e_lT 102 (fun n => bif Nat.beq n 102 then some (0, 5, 12) else none) (e_lT 103 (fun n => bif Nat.beq n 103 then some (0, 0, 20) else none) (fun n => bif Nat.beq n 104 then some (5, 5, 6) else none)))) (e_lT 107 (e_lT 105 (fun n => bif Nat.beq n 105 then some (1, 0, 8) else none) (e_lT 106 (fun n => bif Nat.beq n 106 then some (1, 0, 8) else none) (fun n => bif Nat.beq n 107 then some (1, 0, 7) else none))) (e_lT 108 (fun n => bif Nat.beq n 108 then some (1, 0, 7) else none) (e_lT 109 (fun n => bif Nat.beq n 109 then some (1, 0, 7) else none) (fun n => bif Nat.beq n 110 then some (1, 0, 32) else none)))))) (e_lT 121 (e_lT 115 (e_lT 112 (e_lT 111 (fun n => bif Nat.beq n 111 then some (0, 1, 5) else none) (fun n => bif Nat.beq n 112 then some (1, 0, 32) else none)) (e_lT 113 (fun n => bif Nat.beq n 113 then some (1, 0, 4000) else none) (e_lT 114 (fun n => bif Nat.beq n 114 then some (0, 5, 12) else none) (fun n => bif Nat.beq n 115 then some (0, 5, 12) else none)))) (e_lT 118 (e_lT 116 (fun n => bif Nat.beq n 116 then some (0, 5, 12) else none) (e_lT 117 (fun n => bif Nat.beq n 117 then some (0, 5, 12) else none) (fun n => bif Nat.beq n 118 then some (0, 5, 12) else none))) (e_lT 119 (fun n => bif Nat.beq n 119 then some (0, 5, 12) else none) (e_lT 120 (fun n => bif Nat.beq n 120 then some (0, 0, 20) else none) (fun n => bif Nat.beq n 121 then some (5, 5, 6) else none))))) (e_lT 126 (e_lT 123 (e_lT 122 (fun n => bif Nat.beq n 122 then some (1, 0, 8) else none) (fun n => bif Nat.beq n 123 then some (1, 0, 8) else none)) (e_lT 124 (fun n => bif Nat.beq n 124 then some (1, 0, 7) else none) (e_lT 125 (fun n => bif Nat.beq n 125 then some (1, 0, 7) else none) (fun n => bif Nat.beq n 126 then some (1, 0, 7) else none)))) (e_lT 129 (e_lT 127 (fun n => bif Nat.beq n 127 then some (1, 0, 32) else none) (e_lT 128 (fun n => bif Nat.beq n 128 then some (0, 1, 5) else none) (fun n => bif Nat.beq n 129 then some (1, 0, 32) else none))) (e_lT 130 (fun n => bif Nat.beq n 130 then some (1, 0, 4000) else none) (e_lT 131 (fun n => bif Nat.beq n 131 then some (0, 5, 12) else none) (fun n => bif Nat.beq n 132 then some (0, 5, 12) else none))))))) (e_lT 154 (e_lT 143 (e_lT 137 (e_lT 134 (e_lT 133 (fun n => bif Nat.beq n 133 then some (0, 5, 12) else none) (fun n => bif Nat.beq n 134 then some (0, 5, 12) else none)) (e_lT 135 (fun n => bif Nat.beq n 135 then some (0, 5, 12) else none) (e_lT 136 (fun n => bif Nat.beq n 136 then some (0, 5, 12) else none) (fun n => bif Nat.beq n 137 then some (0, 0, 20) else none)))) (e_lT 140 (e_lT 138 (fun n => bif Nat.beq n 138 then some (5, 5, 6) else none) (e_lT 139 (fun n => bif Nat.beq n 139 then some (1, 0, 8) else none) (fun n => bif Nat.beq n 140 then some (1, 0, 8) else none))) (e_lT 141 (fun n => bif Nat.beq n 141 then some (1, 0, 7) else none) (e_lT 142 (fun n => bif Nat.beq n 142 then some (1, 0, 7) else none) (fun n => bif Nat.beq n 143 then some (1, 0, 7) else none))))) (e_lT 148 (e_lT 145 (e_lT 144 (fun n => bif Nat.beq n 144 then some (1, 0, 32) else none) (fun n => bif Nat.beq n 145 then some (0, 1, 5) else none)) (e_lT 146 (fun n => bif Nat.beq n 146 then some (1, 0, 32) else none) (e_lT 147 (fun n => bif Nat.beq n 147 then some (1, 0, 4000) else none) (fun n => bif Nat.beq n 148 then some (0, 5, 12) else none)))) (e_lT 151 (e_lT 149 (fun n => bif Nat.beq n 149 then some (0, 5, 12) else none) (e_lT 150 (fun n => bif Nat.beq n 150 then some (0, 5, 12) else none) (fun n => bif Nat.beq n 151 then some (0, 5, 12) else none))) (e_lT 152 (fun n => bif Nat.beq n 152 then some (0, 5, 12) else none) (e_lT 153 (fun n => bif Nat.beq n 153 then some (0, 5, 12) else none) (fun n => bif Nat.beq n 154 then some (0, 10, 21) else none)))))) (e_lT 165 (e_lT 159 (e_lT 156 (e_lT 155 (fun n => bif Nat.beq n 155 then some (1, 0, 20) else none) (fun n => bif Nat.beq n 156 then some (1, 0, 20) else none)) (e_lT 157 (fun n => bif Nat.beq n 157 then some (1, 0, 600) else none) (e_lT 158 (fun n => bif Nat.beq n 158 then some (1, 0, 600) else none) (fun n => bif Nat.beq n 159 then some (1, 0, 600) else none)))) (e_lT 162 (e_lT 160 (fun n => bif Nat.beq n 160 then some (0, 10, 21) else none) (e_lT 161 (fun n => bif Nat.beq n 161 then some (1, 0, 20) else none) (fun n => bif Nat.beq n 162 then some (1, 0, 20) else none))) (e_lT 163 (fun n => bif Nat.beq n 163 then some (1, 0, 600) else none) (e_lT 164 (fun n => bif Nat.beq n 164 then some (1, 0, 600) else none) (fun n => bif Nat.beq n 165 then some (1, 0, 600) else none))))) (e_lT 171 (e_lT 168 (e_lT 166 (fun n => bif Nat.beq n 166 then some (0, 10, 21) else none) (e_lT 167 (fun n => bif Nat.beq n 167 then some (1, 0, 20) else none) (fun n => bif Nat.beq n 168 then some (1, 0, 20) else none))) (e_lT 169 (fun n => bif Nat.beq n 169 then some (1, 0, 600) else none) (e_lT 170 (fun n => bif Nat.beq n 170 then some (1, 0, 600) else none) (fun n => bif Nat.beq n 171 then some (1, 0, 600) else none)))) (e_lT 174 (e_lT 172 (fun n => bif Nat.beq n 172 then some (0, 10, 21) else none) (e_lT 173 (fun n => bif Nat.beq n 173 then some (1, 0, 20) else none) (fun n => bif Nat.beq n 174 then some (1, 0, 20) else none))) (e_lT 175 (fun n => bif Nat.beq n 175 then some (1, 0, 600) else none) (e_lT 176 (fun n => bif Nat.beq n 176 then some (1, 0, 600) else none) (fun n => bif Nat.beq n 177 then some (1, 0, 600) else none))))))))) (e_lT 266 (e_lT 221 (e_lT 199 (e_lT 188 (e_lT 182 (e_lT 179 (e_lT 178 (fun n => bif Nat.beq n 178 then some (0, 10, 21) else none) (fun n => bif Nat.beq n 179 then some (1, 0, 20) else none)) (e_lT 180 (fun n => bif Nat.beq n 180 then some (1, 0, 20) else none) (e_lT 181 (fun n => bif Nat.beq n 181 then some (1, 0, 600) else none) (fun n => bif Nat.beq n 182 then some (1, 0, 600) else none)))) (e_lT 185 (e_lT 183 (fun n => bif Nat.beq n 183 then some (1, 0, 600) else none) (e_lT 184 (fun n => bif Nat.beq n 184 then some (0, 10, 21) else none) (fun n => bif Nat.beq n 185 then some (1, 0, 20) else none))) (e_lT 186 (fun n => bif Nat.beq n 186 then some (1, 0, 20) else none) (e_lT 187 (fun n => bif Nat.beq n 187 then some (1, 0, 600) else none) (fun n => bif Nat.beq n 188 then some (1, 0, 600) else none))))) (e_lT 193 (e_lT 190 (e_lT 189 (fun n => bif Nat.beq n 189 then some (1, 0, 600) else none) (fun n => bif Nat.beq n 190 then some (0, 10, 21) else none)) (e_lT 191 (fun n => bif Nat.beq n 191 then some (1, 0, 20) else none) (e_lT 192 (fun n => bif Nat.beq n 192 then some (1, 0, 20) else none) (fun n => bif Nat.beq n 193 then some (1, 0, 600) else none)))) (e_lT 196 (e_lT 194 (fun n => bif Nat.beq n 194 then some (1, 0, 600) else none) (e_lT 195 (fun n => bif Nat.beq n 195 then some (1, 0, 600) else none) (fun n => bif Nat.beq n 196 then some (0, 10, 21) else none))) (e_lT 197 (fun n => bif Nat.beq n 197 then some (1, 0, 20) else none) (e_lT 198 (fun n => bif Nat.beq n 198 then some (1, 0, 20) else none) (fun n => bif Nat.beq n 199 then some (1, 0, 600) else none)))))) (e_lT 210 (e_lT 204 (e_lT 201 (e_lT 200 (fun n => bif Nat.beq n 200 then some (1, 0, 600) else none) (fun n => bif Nat.beq n 201 then some (1, 0, 600) else none)) (e_lT 202 (fun n => bif Nat.beq n 202 then some (0, 10, 21) else none) (e_lT 203 (fun n => bif Nat.beq n 203 then some (1, 0, 20) else none) (fun n => bif Nat.beq n 204 then some (1, 0, 20) else none)))) (e_lT 207 (e_lT 205 (fun n => bif Nat.beq n 205 then some (1, 0, 600) else none) (e_lT 206 (fun n => bif Nat.beq n 206 then some (1, 0, 600) else none) (fun n => bif Nat.beq n 207 then some (1, 0, 600) else none))) (e_lT 208 (fun n => bif Nat.beq n 208 then some (0, 10, 21) else none) (e_lT 209 (fun n => bif Nat.beq n 209 then some (1, 0, 20) else none) (fun n => bif Nat.beq n 210 then some (1, 0, 20) else none))))) (e_lT 215 (e_lT 212 (e_lT 211 (fun n => bif Nat.beq n 211 then some (1, 0, 600) else none) (fun n => bif Nat.beq n 212 then some (1, 0, 600) else none)) (e_lT 213 (fun n => bif Nat.beq n 213 then some (1, 0, 600) else none) (e_lT 214 (fun n => bif Nat.beq n 214 then some (0, 10, 21) else none) (fun n => bif Nat.beq n 215 then some (1, 0, 20) else none)))) (e_lT 218 (e_lT 216 (fun n => bif Nat.beq n 216 then some (1, 0, 20) else none) (e_lT 217 (fun n => bif Nat.beq n 217 then some (1, 0, 600) else none) (fun n => bif Nat.beq n 218 then some (1, 0, 600) else none))) (e_lT 219 (fun n => bif Nat.beq n 219 then some (1, 0, 600) else none) (e_lT 220 (fun n => bif Nat.beq n 220 then some (0, 10, 21) else none) (fun n => bif Nat.beq n 221 then some (1, 0, 20) else none))))))) (e_lT 243 (e_lT 232 (e_lT 226 (e_lT 223 (e_lT 222 (fun n => bif Nat.beq n 222 then some (1, 0, 20) else none) (fun n => bif Nat.beq n 223 then some (1, 0, 600) else none)) (e_lT 224 (fun n => bif Nat.beq n 224 then some (1, 0, 600) else none) (e_lT 225 (fun n => bif Nat.beq n 225 then some (1, 0, 600) else none) (fun n => bif Nat.beq n 226 then some (0, 10, 21) else none)))) (e_lT 229 (e_lT 227 (fun n => bif Nat.beq n 227 then some (1, 0, 20) else none) (e_lT 228 (fun n => bif Nat.beq n 228 then some (1, 0, 20) else none) (fun n => bif Nat.beq n 229 then some (1, 0, 600) else none))) (e_lT 230 (fun n => bif Nat.beq n 230 then some (1, 0, 600) else none) (e_lT 231 (fun n => bif Nat.beq n 231 then some (1, 0, 600) else none) (fun n => bif Nat.beq n 232 then some (0, 10, 21) else none))))) (e_lT 237 (e_lT 234 (e_lT 233 (fun n => bif Nat.beq n 233 then some (1, 0, 20) else none) (fun n => bif Nat.beq n 234 then some (1, 0, 20) else none)) (e_lT 235 (fun n => bif Nat.beq n 235 then some (1, 0, 600) else none) (e_lT 236 (fun n => bif Nat.beq n 236 then some (1, 0, 600) else none) (fun n => bif Nat.beq n 237 then some (1, 0, 600) else none)))) (e_lT 240 (e_lT 238 (fun n => bif Nat.beq n 238 then some (0, 10, 21) else none) (e_lT 239 (fun n => bif Nat.beq n 239 then some (1, 0, 20) else none) (fun n => bif Nat.beq n 240 then some (1, 0, 20) else none))) (e_lT 241 (fun n => bif Nat.beq n 241 then some (1, 0, 600) else none) (e_lT 242 (fun n => bif Nat.beq n 242 then some (1, 0, 600) else none) (fun n => bif Nat.beq n 243 then some (1, 0, 600) else none)))))) (e_lT 254 (e_lT 248 (e_lT 245 (e_lT 244 (fun n => bif Nat.beq n 244 then some (0, 10, 21) else none) (fun n => bif Nat.beq n 245 then some (1, 0, 20) else none)) (e_lT 246 (fun n => bif Nat.beq n 246 then some (1, 0, 20) else none) (e_lT 247 (fun n => bif Nat.beq n 247 then some (1, 0, 600) else none) (fun n => bif Nat.beq n 248 then some (1, 0, 600) else none)))) (e_lT 251 (e_lT 249 (fun n => bif Nat.beq n 249 then some (1, 0, 600) else none) (e_lT 250 (fun n => bif Nat.beq n 250 then some (0, 9, 17) else none) (fun n => bif Nat.beq n 251 then some (1, 0, 16) else none))) (e_lT 252 (fun n => bif Nat.beq n 252 then some (1, 0, 16) else none) (e_lT 253 (fun n => bif Nat.beq n 253 then some (1, 0, 16) else none) (fun n => bif Nat.beq n 254 then some (1, 0, 16) else none))))) (e_lT 260 (e_lT 257 (e_lT 255 (fun n => bif Nat.beq n 255 then some (1, 0, 16) else none) (e_lT 256 (fun n => bif Nat.beq n 256 then some (1, 0, 8) else none) (fun n => bif Nat.beq n 257 then some (1, 0, 8) else none))) (e_lT 258 (fun n => bif Nat.beq n 258 then some (1, 0, 8) else none) (e_lT 259 (fun n => bif Nat.beq n 259 then some (1, 0, 8) else none) (fun n => bif Nat.beq n 260 then some (1, 0, 8) else none)))) (e_lT 263 (e_lT 261 (fun n => bif Nat.beq n 261 then some (1, 0, 8) else none) (e_lT 262 (fun n => bif Nat.beq n 262 then some (0, 6, 13) else none) (fun n => bif Nat.beq n 263 then some (1, 0, 6) else none))) (e_lT 264 (fun n => bif Nat.beq n 264 then some (1, 0, 6) else none) (e_lT 265 (fun n => bif Nat.beq n 265 then some (1, 0, 6) else none) (fun n => bif Nat.beq n 266 then some (1, 0, 6) else none)))))))) (e_lT 311 (e_lT 288 (e_lT 277 (e_lT 271 (e_lT 268 (e_lT 267 (fun n => bif Nat.beq n 267 then some (1, 0, 1000) else none) (fun n => bif Nat.beq n 268 then some (1, 0, 1000) else none)) (e_lT 269 (fun n => bif Nat.beq n 269 then some (2, 0, 60000) else none) (e_lT 270 (fun n => bif Nat.beq n 270 then some (1, 0, 60) else none) (fun n => bif Nat.beq n 271 then some (1, 0, 60) else none)))) (e_lT 274 (e_lT 272 (fun n => bif Nat.beq n 272 then some (1, 0, 6) else none) (e_lT 273 (fun n => bif Nat.beq n 273 then some (1, 0, 8000) else none) (fun n => bif Nat.beq n 274 then some (1, 0, 4) else none))) (e_lT 275 (fun n => bif Nat.beq n 275 then some (0, 12, 119) else none) (e_lT 276 (fun n => bif Nat.beq n 276 then some (1, 0, 33060) else none) (fun n => bif Nat.beq n 277 then some (1, 0, 33060) else none))))) (e_lT 282 (e_lT 279 (e_lT 278 (fun n => bif Nat.beq n 278 then some (1, 0, 661200) else none) (fun n => bif Nat.beq n 279 then some (1, 0, 8000) else none)) (e_lT 280 (fun n => bif Nat.beq n 280 then some (1, 0, 4) else none) (e_lT 281 (fun n => bif Nat.beq n 281 then some (2, 0, 4000) else none) (fun n => bif Nat.beq n 282 then some (1, 0, 4) else none)))) (e_lT 285 (e_lT 283 (fun n => bif Nat.beq n 283 then some (1, 0, 4) else none) (e_lT 284 (fun n => bif Nat.beq n 284 then some (1, 0, 4) else none) (fun n => bif Nat.beq n 285 then some (1, 0, 4) else none))) (e_lT 286 (fun n => bif Nat.beq n 286 then some (1, 0, 4) else none) (e_lT 287 (fun n => bif Nat.beq n 287 then some (1, 0, 24) else none) (fun n => bif Nat.beq n 288 then some (1, 0, 24) else none)))))) (e_lT 299 (e_lT 293 (e_lT 290 (e_lT 289 (fun n => bif Nat.beq n 289 then some (1, 0, 24) else none) (fun n => bif Nat.beq n 290 then some (1, 0, 24) else none)) (e_lT 291 (fun n => bif Nat.beq n 291 then some (1, 0, 24) else none) (e_lT 292 (fun n => bif Nat.beq n 292 then some (1, 0, 24) else none) (fun n => bif Nat.beq n 293 then some (1, 0, 24) else none)))) (e_lT 296 (e_lT 294 (fun n => bif Nat.beq n 294 then some (3, 0, 16) else none) (e_lT 295 (fun n => bif Nat.beq n 295 then some (1, 0, 16) else none) (fun n => bif Nat.beq n 296 then some (1, 0, 16) else none))) (e_lT 297 (fun n => bif Nat.beq n 297 then some (1, 0, 16) else none) (e_lT 298 (fun n => bif Nat.beq n 298 then some (1, 0, 16) else none) (fun n => bif Nat.beq n 299 then some (3, 0, 448) else none))))) (e_lT 305 (e_lT 302 (e_lT 300 (fun n => bif Nat.beq n 300 then some (1, 0, 4) else none) (e_lT 301 (fun n => bif Nat.beq n 301 then some (1, 0, 4) else none) (fun n => bif Nat.beq n 302 then some (1, 0, 4) else none))) (e_lT 303 (fun n => bif Nat.beq n 303 then some (1, 0, 4) else none) (e_lT 304 (fun n => bif Nat.beq n 304 then some (1, 0, 4) else none) (fun n => bif Nat.beq n 305 then some (1, 0, 4) else none)))) (e_lT 308 (e_lT 306 (fun n => bif Nat.beq n 306 then some (1, 0, 4) else none) (e_lT 307 (fun n => bif Nat.beq n 307 then some (1, 0, 4) else none) (fun n => bif Nat.beq n 308 then some (1, 0, 4) else none))) (e_lT 309 (fun n => bif Nat.beq n 309 then some (1, 0, 32) else none) (e_lT 310 (fun n => bif Nat.beq n 310 then some (1, 0, 8) else none) (fun n => bif Nat.beq n 311 then some (1, 0, 8) else none))))))) (e_lT 333 (e_lT 322 (e_lT 316 (e_lT 313 (e_lT 312 (fun n => bif Nat.beq n 312 then some (1, 0, 8) else none) (fun n => bif Nat.beq n 313 then some (1, 0, 8) else none)) (e_lT 314 (fun n => bif Nat.beq n 314 then some (1, 0, 8) else none) (e_lT 315 (fun n => bif Nat.beq n 315 then some (1, 0, 8) else none) (fun n => bif Nat.beq n 316 then some (1, 0, 8) else none)))) (e_lT 319 (e_lT 317 (fun n => bif Nat.beq n 317 then some (3, 0, 8) else none) (e_lT 318 (fun n => bif Nat.beq n 318 then some (1, 0, 64) else none) (fun n => bif Nat.beq n 319 then some (3, 0, 64) else none))) (e_lT 320 (fun n => bif Nat.beq n 320 then some (1, 0, 1025) else none) (e_lT 321 (fun n => bif Nat.beq n 321 then some (1, 0, 35) else none) (fun n => bif Nat.beq n 322 then some (1, 0, 35) else none))))) (e_lT 327 (e_lT 324 (e_lT 323 (fun n => bif Nat.beq n 323 then some (1, 0, 6) else none) (fun n => bif Nat.beq n 324 then some (1, 0, 4) else none)) (e_lT 325 (fun n => bif Nat.beq n 325 then some (1, 0, 4) else none) (e_lT 326 (fun n => bif Nat.beq n 326 then some (1, 0, 65) else none) (fun n => bif Nat.beq n 327 then some (3, 0, 64) else none)))) (e_lT 330 (e_lT 328 (fun n => bif Nat.beq n 328 then some (1, 0, 50000) else none) (e_lT 329 (fun n => bif Nat.beq n 329 then some (1, 0, 50000) else none) (fun n => bif Nat.beq n 330 then some (1, 0, 50000) else none))) (e_lT 331 (fun n => bif Nat.beq n 331 then some (1, 0, 4500) else none) (e_lT 332 (fun n => bif Nat.beq n 332 then some (1, 0, 4500) else none) (fun n => bif Nat.beq n 333 then some (1, 0, 4500) else none)))))) (e_lT 344 (e_lT 338 (e_lT 335 (e_lT 334 (fun n => bif Nat.beq n 334 then some (1, 0, 4500) else none) (fun n => bif Nat.beq n 335 then some (1, 0, 4500) else none)) (e_lT 336 (fun n => bif Nat.beq n 336 then some (1, 0, 4500) else none) (e_lT 337 (fun n => bif Nat.beq n 337 then some (1, 0, 160) else none) (fun n => bif Nat.beq n 338 then some (1, 0, 5) else none)))) (e_lT 341 (e_lT 339 (fun n => bif Nat.beq n 339 then some (1, 0, 5) else none) (e_lT 340 (fun n => bif Nat.beq n 340 then some (3, 0, 5) else none) (fun n => bif Nat.beq n 341 then some (1, 0, 4100) else none))) (e_lT 342 (fun n => bif Nat.beq n 342 then some (1, 0, 4100) else none) (e_lT 343 (fun n => bif Nat.beq n 343 then some (1, 0, 4100) else none) (fun n => bif Nat.beq n 344 then some (1, 0, 4100) else none))))) (e_lT 350 (e_lT 347 (e_lT 345 (fun n => bif Nat.beq n 345 then some (1, 0, 4200) else none) (e_lT 346 (fun n => bif Nat.beq n 346 then some (1, 0, 24) else none) (fun n => bif Nat.beq n 347 then some (1, 0, 6) else none))) (e_lT 348 (fun n => bif Nat.beq n 348 then some (1, 0, 6) else none) (e_lT 349 (fun n => bif Nat.beq n 349 then some (1, 0, 1000) else none) (fun n => bif Nat.beq n 350 then some (1, 0, 1000) else none)))) (e_lT 353 (e_lT 351 (fun n => bif Nat.beq n 351 then some (1, 0, 1000) else none) (e_lT 352 (fun n => bif Nat.beq n 352 then some (1, 0, 6000) else none) (fun n => bif Nat.beq n 353 then some (1, 0, 1000) else none))) (e_lT 354 (fun n => bif Nat.beq n 354 then some (1, 0, 200000) else none) (e_lT 355 (fun n => bif Nat.beq n 355 then some (1, 0, 2000) else none) (fun n => bif Nat.beq n 356 then some (1, 0, 2000) else none))))))))))
set_option maxRecDepth 20000 in
theorem el_all : ∀ n, n < 357 → e_lt n = elay[n]? := by decide +kernel
theorem el_of {c : Int} {y : eY} (hc : c.toNat < 357) (h : e_lt c.toNat = some y) : elay[c.toNat]? = some y := by
  rw [← el_all _ hc]
  exact h
theorem el_o {c : Int} {y : eY} (h : (bif Nat.ble 357 c.toNat then none else e_lt c.toNat) = some y) : elay[c.toNat]? = some y := by
  cases hb : Nat.ble 357 c.toNat with
  | true => rw [hb] at h; cases h
  | false =>
    rw [hb] at h
    have hc : c.toNat < 357 := by
      rcases Nat.lt_or_ge c.toNat 357 with q | q
      · exact q
      · rw [Nat.ble_eq_true_of_le q] at hb
        cases hb
    exact el_of hc h
end
end
-- part 49x
section
noncomputable section
/-! short ways -/
theorem e_dq {K m d : Nat} (h : K ≤ d + 1) (q : Nat.ble (m + 1) K = true) : m ≤ d := by
  have := Nat.le_of_ble_eq_true q
  omega
theorem e_dq0 {K m d : Nat} (h : K ≤ d) (q : Nat.ble m K = true) : m ≤ d := Nat.le_trans (Nat.le_of_ble_eq_true q) h
theorem e_bq {lo hi z : Int} (h : lo ≤ z ∧ z ≤ hi) (a : (-2147483648 : Int) ≤ lo) (b : hi ≤ 2147483647) : -2147483648 ≤ z ∧ z ≤ 2147483647 := ⟨Int.le_trans a h.1, Int.le_trans h.2 b⟩
theorem e_neo {x m n : Int} (h : m ≠ n) : x + m ≠ x + n := fun e => h (by omega)
theorem e_ne1 {x n : Int} (h : n ≠ 0) : x ≠ x + n := fun e => h (by omega)
theorem e_ne2 {x n : Int} (h : n ≠ 0) : x + n ≠ x := fun e => h (by omega)
theorem e_adl {x m n p : Int} (h : m + n = p) : x + m + n = x + p := by omega
theorem e_adr {x m n p : Int} (h : n + m = p) : n + (x + m) = x + p := by omega
theorem e_sbl {x m n p : Int} (h : m - n = p) : x + m - n = x + p := by omega
theorem e_ue {w w' : eW} {c k v : Int} (h : e_up w c k v = w') : w' c k = v := by rw [← h]; exact e_up_eq _ _ _ _
theorem e_uq {w w' : eW} {c k v c' k' z : Int} (h : e_up w c k v = w') (n : c' ≠ c ∨ k' ≠ k) (p : w c' k' = z) : w' c' k' = z := by rw [← h]; exact (e_up_ne _ _ n).trans p
theorem e_un {w w' : eW} {c k v c' k' : Int} (h : e_up w c k v = w') (n : c' ≠ c ∨ k' ≠ k) : w' c' k' = w c' k' := by rw [← h]; exact e_up_ne _ _ n
section
variable {fd : Nat} {lay : List eY} {code : Nat → Nat → eE} {I : Nat → xM} {d M p q : Nat} {l : eL} {st st' : List eV} {w : eW} {Q : List eV → eW → Prop}
theorem e_Ok.ps0 (n : Nat) (h0 : e_steps code M n (p, l, st, w) = some (q, l, st, w)) (h : e_Ok fd lay code I d M (q, l, st, w) Q) : e_Ok fd lay code I d M (p, l, st, w) Q := e_Ok.run n h0 h
theorem e_Ok.ps1 {x : eV} (n : Nat) (h0 : e_steps code M n (p, l, st, w) = some (q, l, x :: st, w)) (h : e_Ok fd lay code I d M (q, l, x :: st, w) Q) : e_Ok fd lay code I d M (p, l, st, w) Q := e_Ok.run n h0 h
theorem e_Ok.ps2 {x y : eV} (n : Nat) (h0 : e_steps code M n (p, l, st, w) = some (q, l, x :: y :: st, w)) (h : e_Ok fd lay code I d M (q, l, x :: y :: st, w) Q) : e_Ok fd lay code I d M (p, l, st, w) Q := e_Ok.run n h0 h
theorem e_Ok.ps3 {x y z : eV} (n : Nat) (h0 : e_steps code M n (p, l, st, w) = some (q, l, x :: y :: z :: st, w)) (h : e_Ok fd lay code I d M (q, l, x :: y :: z :: st, w) Q) : e_Ok fd lay code I d M (p, l, st, w) Q := e_Ok.run n h0 h
theorem e_Ok.ps4 {x y z u : eV} (n : Nat) (h0 : e_steps code M n (p, l, st, w) = some (q, l, x :: y :: z :: u :: st, w)) (h : e_Ok fd lay code I d M (q, l, x :: y :: z :: u :: st, w) Q) : e_Ok fd lay code I d M (p, l, st, w) Q := e_Ok.run n h0 h
theorem e_Ok.nrm (hp : p = q) (hs : st = st') (h : e_Ok fd lay code I d M (q, l, st', w) Q) : e_Ok fd lay code I d M (p, l, st, w) Q := by subst hp; subst hs; exact h
end
end
end
-- part 49y
section
noncomputable section
/-! types of the model's cells and kinds of its fields, found in few steps -/
def e_mT (k : Nat) (a b : Nat → Int × Int) : Nat → Int × Int := fun n => bif Nat.ble n k then a n else b n
def mFldT : Nat → Int × Int := (e_mT 59 (e_mT 29 (e_mT 14 (e_mT 7 (e_mT 3 (e_mT 1 (e_mT 0 (fun _ => (276, 276)) (fun _ => (277, 277))) (e_mT 2 (fun _ => (278, 278)) (fun _ => (0, 1)))) (e_mT 5 (e_mT 4 (fun _ => (279, 279)) (fun _ => (1, 0))) (e_mT 6 (fun _ => (1, 0)) (fun _ => (280, 280))))) (e_mT 11 (e_mT 9 (e_mT 8 (fun _ => (281, 281)) (fun _ => (1, 0))) (e_mT 10 (fun _ => (0, 4)) (fun _ => (282, 282)))) (e_mT 13 (e_mT 12 (fun _ => (283, 283)) (fun _ => (284, 284))) (fun _ => (285, 285))))) (e_mT 22 (e_mT 18 (e_mT 16 (e_mT 15 (fun _ => (286, 286)) (fun _ => (287, 287))) (e_mT 17 (fun _ => (288, 288)) (fun _ => (289, 289)))) (e_mT 20 (e_mT 19 (fun _ => (290, 290)) (fun _ => (291, 291))) (e_mT 21 (fun _ => (292, 292)) (fun _ => (293, 293))))) (e_mT 26 (e_mT 24 (e_mT 23 (fun _ => (0, 16)) (fun _ => (294, 294))) (e_mT 25 (fun _ => (295, 295)) (fun _ => (296, 296)))) (e_mT 28 (e_mT 27 (fun _ => (297, 297)) (fun _ => (298, 298))) (fun _ => (299, 299)))))) (e_mT 44 (e_mT 37 (e_mT 33 (e_mT 31 (e_mT 30 (fun _ => (0, 4)) (fun _ => (300, 300))) (e_mT 32 (fun _ => (301, 301)) (fun _ => (302, 302)))) (e_mT 35 (e_mT 34 (fun _ => (303, 303)) (fun _ => (304, 304))) (e_mT 36 (fun _ => (305, 305)) (fun _ => (306, 306))))) (e_mT 41 (e_mT 39 (e_mT 38 (fun _ => (307, 307)) (fun _ => (308, 308))) (e_mT 40 (fun _ => (0, 32)) (fun _ => (309, 309)))) (e_mT 43 (e_mT 42 (fun _ => (0, 8)) (fun _ => (310, 310))) (fun _ => (311, 311))))) (e_mT 52 (e_mT 48 (e_mT 46 (e_mT 45 (fun _ => (312, 312)) (fun _ => (313, 313))) (e_mT 47 (fun _ => (314, 314)) (fun _ => (315, 315)))) (e_mT 50 (e_mT 49 (fun _ => (0, 8)) (fun _ => (316, 316))) (e_mT 51 (fun _ => (317, 317)) (fun _ => (318, 318))))) (e_mT 56 (e_mT 54 (e_mT 53 (fun _ => (319, 319)) (fun _ => (320, 320))) (e_mT 55 (fun _ => (321, 321)) (fun _ => (322, 322)))) (e_mT 58 (e_mT 57 (fun _ => (323, 323)) (fun _ => (1, 0))) (fun _ => (1, 0))))))) (e_mT 89 (e_mT 74 (e_mT 67 (e_mT 63 (e_mT 61 (e_mT 60 (fun _ => (1, 0)) (fun _ => (324, 324))) (e_mT 62 (fun _ => (325, 325)) (fun _ => (326, 326)))) (e_mT 65 (e_mT 64 (fun _ => (327, 327)) (fun _ => (328, 328))) (e_mT 66 (fun _ => (329, 329)) (fun _ => (330, 330))))) (e_mT 71 (e_mT 69 (e_mT 68 (fun _ => (331, 331)) (fun _ => (332, 332))) (e_mT 70 (fun _ => (333, 333)) (fun _ => (334, 334)))) (e_mT 73 (e_mT 72 (fun _ => (335, 335)) (fun _ => (336, 336))) (fun _ => (337, 337))))) (e_mT 82 (e_mT 78 (e_mT 76 (e_mT 75 (fun _ => (338, 338)) (fun _ => (339, 339))) (e_mT 77 (fun _ => (340, 340)) (fun _ => (1, 0)))) (e_mT 80 (e_mT 79 (fun _ => (1, 0)) (fun _ => (1, 0))) (e_mT 81 (fun _ => (1, 0)) (fun _ => (1, 0))))) (e_mT 86 (e_mT 84 (e_mT 83 (fun _ => (1, 0)) (fun _ => (1, 0))) (e_mT 85 (fun _ => (1, 0)) (fun _ => (1, 0)))) (e_mT 88 (e_mT 87 (fun _ => (1, 0)) (fun _ => (1, 0))) (fun _ => (1, 0)))))) (e_mT 104 (e_mT 97 (e_mT 93 (e_mT 91 (e_mT 90 (fun _ => (341, 341)) (fun _ => (342, 342))) (e_mT 92 (fun _ => (343, 343)) (fun _ => (344, 344)))) (e_mT 95 (e_mT 94 (fun _ => (1, 0)) (fun _ => (1, 0))) (e_mT 96 (fun _ => (1, 0)) (fun _ => (1, 0))))) (e_mT 101 (e_mT 99 (e_mT 98 (fun _ => (1, 0)) (fun _ => (1, 0))) (e_mT 100 (fun _ => (1, 0)) (fun _ => (345, 345)))) (e_mT 103 (e_mT 102 (fun _ => (1, 0)) (fun _ => (346, 346))) (fun _ => (347, 347))))) (e_mT 111 (e_mT 108 (e_mT 106 (e_mT 105 (fun _ => (348, 348)) (fun _ => (349, 349))) (e_mT 107 (fun _ => (350, 350)) (fun _ => (351, 351)))) (e_mT 110 (e_mT 109 (fun _ => (352, 352)) (fun _ => (1, 0))) (fun _ => (1, 0)))) (e_mT 115 (e_mT 113 (e_mT 112 (fun _ => (1, 0)) (fun _ => (353, 353))) (e_mT 114 (fun _ => (354, 354)) (fun _ => (355, 355)))) (e_mT 117 (e_mT 116 (fun _ => (356, 356)) (fun _ => (1, 0))) (fun _ => (1, 0))))))))
def mArrT : Nat → Int × Int := (e_mT 39 (e_mT 19 (e_mT 9 (e_mT 4 (e_mT 2 (e_mT 1 (e_mT 0 (fun _ => (1, 0)) (fun _ => (1, 0))) (fun _ => (1, 0))) (e_mT 3 (fun _ => (1, 0)) (fun _ => (1, 0)))) (e_mT 7 (e_mT 6 (e_mT 5 (fun _ => (-8000, 8000)) (fun _ => (-8000, 8000))) (fun _ => (0, 4095))) (e_mT 8 (fun _ => (0, 800)) (fun _ => (0, 6))))) (e_mT 14 (e_mT 12 (e_mT 11 (e_mT 10 (fun _ => (0, 1)) (fun _ => (-100000, 0))) (fun _ => (0, 100000))) (e_mT 13 (fun _ => (0, 2000)) (fun _ => (0, 2000)))) (e_mT 17 (e_mT 16 (e_mT 15 (fun _ => (0, 8000)) (fun _ => (0, 800))) (fun _ => (0, 1))) (e_mT 18 (fun _ => (-16000, 16000)) (fun _ => (-16000, 16000)))))) (e_mT 29 (e_mT 24 (e_mT 22 (e_mT 21 (e_mT 20 (fun _ => (-2147483648, 2147483647)) (fun _ => (-2147483648, 2147483647))) (fun _ => (0, 1))) (e_mT 23 (fun _ => (-16000, 16000)) (fun _ => (-16000, 16000)))) (e_mT 27 (e_mT 26 (e_mT 25 (fun _ => (0, 3)) (fun _ => (0, 16000))) (fun _ => (0, 100))) (e_mT 28 (fun _ => (0, 2000)) (fun _ => (-1, 63))))) (e_mT 34 (e_mT 32 (e_mT 31 (e_mT 30 (fun _ => (-2147483648, 2147483647)) (fun _ => (-2147483648, 2147483647))) (fun _ => (0, 800))) (e_mT 33 (fun _ => (0, 3)) (fun _ => (-16000, 16000)))) (e_mT 37 (e_mT 36 (e_mT 35 (fun _ => (-16000, 16000)) (fun _ => (0, 32000))) (fun _ => (0, 32000))) (e_mT 38 (fun _ => (-2147483648, 2147483647)) (fun _ => (0, 1000))))))) (e_mT 59 (e_mT 49 (e_mT 44 (e_mT 42 (e_mT 41 (e_mT 40 (fun _ => (0, 1)) (fun _ => (-1, 63))) (fun _ => (0, 1))) (e_mT 43 (fun _ => (-2147483648, 2147483647)) (fun _ => (1, 0)))) (e_mT 47 (e_mT 46 (e_mT 45 (fun _ => (1, 0)) (fun _ => (1, 0))) (fun _ => (1, 0))) (e_mT 48 (fun _ => (1, 0)) (fun _ => (1, 0))))) (e_mT 54 (e_mT 52 (e_mT 51 (e_mT 50 (fun _ => (1, 0)) (fun _ => (-2147483648, 2147483647))) (fun _ => (-2147483648, 2147483647))) (e_mT 53 (fun _ => (-2147483648, 2147483647)) (fun _ => (-2147483648, 2147483647)))) (e_mT 57 (e_mT 56 (e_mT 55 (fun _ => (-2147483648, 2147483647)) (fun _ => (-2147483648, 2147483647))) (fun _ => (-2147483648, 2147483647))) (e_mT 58 (fun _ => (-2147483648, 2147483647)) (fun _ => (-2147483648, 2147483647)))))) (e_mT 69 (e_mT 64 (e_mT 62 (e_mT 61 (e_mT 60 (fun _ => (-2147483648, 2147483647)) (fun _ => (0, 32))) (fun _ => (0, 32))) (e_mT 63 (fun _ => (0, 1)) (fun _ => (1, 0)))) (e_mT 67 (e_mT 66 (e_mT 65 (fun _ => (1, 0)) (fun _ => (1, 0))) (fun _ => (1, 0))) (e_mT 68 (fun _ => (1, 0)) (fun _ => (1, 0))))) (e_mT 74 (e_mT 72 (e_mT 71 (e_mT 70 (fun _ => (1, 0)) (fun _ => (1, 0))) (fun _ => (1, 0))) (e_mT 73 (fun _ => (1, 0)) (fun _ => (1, 0)))) (e_mT 77 (e_mT 76 (e_mT 75 (fun _ => (1, 0)) (fun _ => (1, 0))) (fun _ => (1, 0))) (e_mT 78 (fun _ => (1, 0)) (fun _ => (1, 0))))))))
theorem mf_all : ∀ n, n < 119 → mFldT n = x_nthP mFld n := by decide +kernel
theorem ma_all : ∀ n, n < 80 → mArrT n = x_nthP mArr n := by decide +kernel
theorem nthP_ge {l : List (Int × Int)} {m n : Nat} (hl : l.length = m) (h : m ≤ n) : x_nthP l n = (1, 0) := by
  unfold x_nthP
  rw [x_at_eq, List.getElem?_eq_none (by omega)]
theorem mf_len : mFld.length = 119 := by decide +kernel
theorem ma_len : mArr.length = 80 := by decide +kernel
def mTyQ (c k : Int) : Int × Int := match c.toNat - 275 with
  | 0 => if c = 275 then (bif Nat.ble 119 k.toNat then (1, 0) else mFldT k.toNat) else (1, 0)
  | 1 => nowR k
  | n + 2 => bif Nat.ble 80 n then (1, 0) else mArrT n
theorem bl_cases (m n : Nat) : (Nat.ble m n = true ∧ m ≤ n) ∨ (Nat.ble m n = false ∧ n < m) := by
  cases hb : Nat.ble m n with
  | true => exact Or.inl ⟨rfl, Nat.le_of_ble_eq_true hb⟩
  | false =>
    refine Or.inr ⟨rfl, ?_⟩
    rcases Nat.lt_or_ge n m with q | q
    · exact q
    · rw [Nat.ble_eq_true_of_le q] at hb
      cases hb
theorem mt_o {c k : Int} {p : Int × Int} (h : mTyQ c k = p) : mTy c k = p := by
  rw [← h]
  have h1 : x_nthP mFld k.toNat = (bif Nat.ble 119 k.toNat then (1, 0) else mFldT k.toNat) := by
    rcases bl_cases 119 k.toNat with ⟨e, q⟩ | ⟨e, q⟩
    · rw [e, nthP_ge mf_len q]; rfl
    · rw [e, ← mf_all _ q]; rfl
  have h2 : ∀ n, x_nthP mArr n = (bif Nat.ble 80 n then (1, 0) else mArrT n) := fun n => by
    rcases bl_cases 80 n with ⟨e, q⟩ | ⟨e, q⟩
    · rw [e, nthP_ge ma_len q]; rfl
    · rw [e, ← ma_all _ q]; rfl
  unfold mTy mTyQ
  generalize c.toNat - 275 = m
  match m with
  | 0 => simp only [h1]
  | 1 => rfl
  | n + 2 => exact h2 n
def eftQ (ci k : Nat) : Nat := bif Nat.beq ci 12 && Nat.ble k 118 then (157059392636479985104065232864541079 >>> k) % 2 else eft ci k
theorem ef_all : ∀ k, k < 119 → (157059392636479985104065232864541079 >>> k) % 2 = eft 12 k := by decide +kernel
theorem ef_o {ci k v : Nat} (h : eftQ ci k = v) : eft ci k = v := by
  rw [← h]
  unfold eftQ
  cases hb : (Nat.beq ci 12 && Nat.ble k 118) with
  | false => rfl
  | true =>
    simp only [Bool.and_eq_true] at hb
    have e := Nat.eq_of_beq_eq_true hb.1
    have q := Nat.le_of_ble_eq_true hb.2
    subst e
    exact (ef_all k (by omega)).symm
end
end
-- part 50
section
noncomputable section
theorem c_266 {d : Nat} {w : eW} {v lo hi : Int} : e_Ok 20 elay ecode eI d 266 (0, [(0, (4, v)), (2, (4, lo)), (4, (4, hi))], [], w) (fun r w' => ∃ z : Int, r = [(0, z)] ∧ w = w' ∧ ((z = 1 ∧ lo ≤ v ∧ v ≤ hi) ∨ (z = 0 ∧ (v < lo ∨ hi < v)))) := by
  refine e_Ok.ps2 (x := (4, lo)) (y := (4, v)) (q := 2) 2 rfl ?_
  refine e_Ok.lcmp rfl (fun z1 z1a z1b z1c => ?_)
  refine e_Ok.if1 rfl (fun h2 => ?_) (fun h2 => ?_)
  · replace h2 : (z1 : Int) < 0 := h2
    refine e_Ok.ps1 (x := (0, 0)) (q := 18) 1 rfl ?_
    refine e_Ok.rets rfl rfl ?_
    exact ⟨_, rfl, rfl, Or.inr ⟨rfl, by omega⟩⟩
  · replace h2 : (z1 : Int) ≥ 0 := Int.not_lt.mp (show ¬ ((z1 : Int) < 0) from h2)
    refine e_Ok.ps2 (x := (4, hi)) (y := (4, v)) (q := 9) 2 rfl ?_
    refine e_Ok.lcmp rfl (fun z3 z3a z3b z3c => ?_)
    refine e_Ok.if1 rfl (fun h4 => ?_) (fun h4 => ?_)
    · replace h4 : (z3 : Int) > 0 := h4
      refine e_Ok.ps1 (x := (0, 0)) (q := 18) 1 rfl ?_
      refine e_Ok.rets rfl rfl ?_
      exact ⟨_, rfl, rfl, Or.inr ⟨rfl, by omega⟩⟩
    · replace h4 : (z3 : Int) ≤ 0 := Int.not_lt.mp (show ¬ ((z3 : Int) > 0) from h4)
      refine e_Ok.ps1 (x := (0, 1)) (q := 18) 2 rfl ?_
      refine e_Ok.rets rfl rfl ?_
      exact ⟨_, rfl, rfl, Or.inl ⟨rfl, by omega, by omega⟩⟩
theorem c_268 {d : Nat} {w : eW} {a : Int} (h : 0 ≤ a ∧ a ≤ 100) : e_Ok 20 elay ecode eI d 268 (0, [(0, (0, a))], [], w) (fun r w' => r = [(0, 36 * a + 16)] ∧ w = w') := by
  refine e_Ok.ps3 (x := (0, a)) (y := (0, 36)) (z := (0, 16)) (q := 5) 3 rfl ?_
  refine e_Ok.mul (z := 36 * a) rfl rfl (by omega) ?_
  refine e_Ok.add (z := 36 * a + 16) rfl (Int.add_comm _ _) (by omega) ?_
  refine e_Ok.rets rfl rfl ?_
  exact ⟨rfl, rfl⟩
theorem c_269 {d : Nat} {w : eW} {a : Int} (h : 0 ≤ a ∧ a ≤ 100) : e_Ok 20 elay ecode eI d 269 (0, [(0, (0, a))], [], w) (fun r w' => r = [(0, 1260 * a + 416)] ∧ w = w') := by
  refine e_Ok.ps3 (x := (0, a)) (y := (0, 1260)) (z := (0, 416)) (q := 7) 3 rfl ?_
  refine e_Ok.mul (z := 1260 * a) rfl rfl (by omega) ?_
  refine e_Ok.add (z := 1260 * a + 416) rfl (Int.add_comm _ _) (by omega) ?_
  refine e_Ok.rets rfl rfl ?_
  exact ⟨rfl, rfl⟩
theorem c_392 {d : Nat} {w : eW} {a : Int} (h : 0 ≤ a ∧ a ≤ 100) : e_Ok 20 elay ecode eI d 392 (0, [(0, (0, a))], [], w) (fun r w' => r = [(0, 4 * a + 20576)] ∧ w = w') := by
  refine e_Ok.ps3 (x := (0, a)) (y := (0, 4)) (z := (0, 20576)) (q := 5) 3 rfl ?_
  refine e_Ok.mul (z := 4 * a) rfl rfl (by omega) ?_
  refine e_Ok.add (z := 4 * a + 20576) rfl (Int.add_comm _ _) (by omega) ?_
  refine e_Ok.rets rfl rfl ?_
  exact ⟨rfl, rfl⟩
theorem c_270 {d : Nat} (hd : 21 ≤ d) {w : eW} (hT : e_Has mTy w) {a : Int} : e_Ok 20 elay ecode eI d 270 (0, [(0, (1, 275)), (1, (0, a))], [], w) (fun r w' => ∃ z : Int, r = [(0, z)] ∧ w = w' ∧ ((z = 1 ∧ 0 ≤ a ∧ a < w 275 10) ∨ (z = 0 ∧ (a < 0 ∨ w 275 10 ≤ a)))) := by
  obtain ⟨d, rfl⟩ : ∃ e, d = e + 1 := ⟨d - 1, by omega⟩
  refine e_Ok.ps3 (x := (1, 275)) (y := (4, 0)) (z := (4, a)) (q := 4) 4 rfl ?_
  have h1 := (e_Has.get hT (c := 275) (k := 10) (lo := 0) (hi := 4) (mt_o rfl) (by decide))
  refine e_Ok.getf (z := w 275 10) rfl (el_o rfl) rfl (ef_o rfl) rfl (e_bq h1 (by decide) (by decide)) ?_
  refine e_Ok.ps1 (x := (0, 1)) (q := 8) 1 rfl ?_
  refine e_Ok.sub' (z := w 275 10 - 1) rfl rfl (by omega) ?_
  refine e_Ok.run (t' := (10, [(0, (1, 275)), (1, (0, a))], [(4, w 275 10 - 1), (4, 0), (4, a)], w)) 1 rfl ?_
  refine e_Ok.callS rfl (e_dq hd rfl) rfl rfl (c_266) (fun r2 w3 h4 => ?_)
  obtain ⟨z5, rfl, rfl, q6⟩ := h4
  obtain ⟨rfl, q6⟩ | ⟨rfl, q6⟩ := q6
  · refine e_Ok.nrm (q := 13) (st' := [(0, 1)]) rfl rfl ?_
    refine e_Ok.rets rfl rfl ?_
    exact ⟨_, rfl, rfl, Or.inl ⟨rfl, by omega, by omega⟩⟩
  · refine e_Ok.nrm (q := 13) (st' := [(0, 0)]) rfl rfl ?_
    refine e_Ok.rets rfl rfl ?_
    exact ⟨_, rfl, rfl, Or.inr ⟨rfl, by omega⟩⟩
theorem c_306 {d : Nat} {w : eW} {a1 a2 a3 : Int} : e_Ok 20 elay ecode eI d 306 (0, [(0, (4, a1)), (2, (4, a2)), (4, (4, a3))], [], w) (fun r w' => ∃ z : Int, r = [(0, z)] ∧ w = w' ∧ 0 ≤ z ∧ z ≤ 1) := by
  refine e_Ok.ps2 (x := (4, a1)) (y := (4, a1)) (q := 2) 2 rfl ?_
  refine e_Ok.anyL rfl ⟨_, rfl⟩ (fun x1 => ?_)
  refine e_Ok.ps2 (x := (4, a2)) (y := (4, a2)) (q := 5) 2 rfl ?_
  refine e_Ok.anyL rfl ⟨_, rfl⟩ (fun x2 => ?_)
  refine e_Ok.anyL rfl ⟨_, rfl⟩ (fun x3 => ?_)
  refine e_Ok.ps2 (x := (4, a3)) (y := (4, a3)) (q := 11) 2 rfl ?_
  refine e_Ok.anyL rfl ⟨_, rfl⟩ (fun x4 => ?_)
  refine e_Ok.lcmp rfl (fun z5 z5a z5b z5c => ?_)
  have hJ8 : ∀ m7 : Int, 0 ≤ m7 ∧ m7 ≤ 1 → e_Ok 20 elay ecode eI d 306 (21, [(0, (4, a1)), (2, (4, a2)), (4, (4, a3))], [(0, m7)], w) (fun r w' => ∃ z : Int, r = [(0, z)] ∧ w = w' ∧ 0 ≤ z ∧ z ≤ 1) := by
    intro m7 m7r
    refine e_Ok.retb rfl (by omega) ?_
    exact ⟨_, rfl, rfl, by omega, by omega⟩
  refine e_Ok.if1 rfl (fun h6 => ?_) (fun h6 => ?_)
  · exact e_Ok.run 1 rfl (hJ8 0 (by omega))
  · exact e_Ok.run 2 rfl (hJ8 1 (by omega))
theorem c_308 {d : Nat} {w : eW} {a1 a2 a3 a4 a5 a6 : Int} : e_Ok 20 elay ecode eI d 308 (0, [(0, (4, a1)), (2, (4, a2)), (4, (4, a3)), (6, (4, a4)), (8, (4, a5)), (10, (4, a6))], [], w) (fun r w' => ∃ z : Int, r = [(0, z)] ∧ w = w' ∧ (-1) ≤ z ∧ z ≤ 1) := by
  refine e_Ok.ps2 (x := (4, a1)) (y := (4, a3)) (q := 3) 2 rfl ?_
  refine e_Ok.anyL rfl ⟨_, rfl⟩ (fun x1 => ?_)
  refine e_Ok.ps2 (x := (4, a2)) (y := (4, a6)) (q := 7) 2 rfl ?_
  refine e_Ok.anyL rfl ⟨_, rfl⟩ (fun x2 => ?_)
  refine e_Ok.anyL rfl ⟨_, rfl⟩ (fun x3 => ?_)
  refine e_Ok.ps2 (x := (4, a2)) (y := (4, a4)) (q := 12) 2 rfl ?_
  refine e_Ok.anyL rfl ⟨_, rfl⟩ (fun x4 => ?_)
  refine e_Ok.ps2 (x := (4, a1)) (y := (4, a5)) (q := 16) 2 rfl ?_
  refine e_Ok.anyL rfl ⟨_, rfl⟩ (fun x5 => ?_)
  refine e_Ok.anyL rfl ⟨_, rfl⟩ (fun x6 => ?_)
  refine e_Ok.anyL rfl ⟨_, rfl⟩ (fun x7 => ?_)
  refine e_Ok.run (t' := (24, [(12, (4, x7)), (0, (4, a1)), (2, (4, a2)), (4, (4, a3)), (6, (4, a4)), (8, (4, a5)), (10, (4, a6))], [(4, 0), (4, x7)], w)) 3 rfl ?_
  refine e_Ok.lcmp rfl (fun z8 z8a z8b z8c => ?_)
  refine e_Ok.if1 rfl (fun h9 => ?_) (fun h9 => ?_)
  · replace h9 : (z8 : Int) ≤ 0 := h9
    refine e_Ok.ps2 (x := (4, 0)) (y := (4, x7)) (q := 35) 2 rfl ?_
    refine e_Ok.lcmp rfl (fun z10 z10a z10b z10c => ?_)
    have hJ13 : ∀ m12 : Int, (-1) ≤ m12 ∧ m12 ≤ 0 → e_Ok 20 elay ecode eI d 308 (44, [(12, (4, x7)), (0, (4, a1)), (2, (4, a2)), (4, (4, a3)), (6, (4, a4)), (8, (4, a5)), (10, (4, a6))], [(0, m12)], w) (fun r w' => ∃ z : Int, r = [(0, z)] ∧ w = w' ∧ (-1) ≤ z ∧ z ≤ 1) := by
      intro m12 m12r
      refine e_Ok.rets rfl rfl ?_
      exact ⟨_, rfl, rfl, by omega, by omega⟩
    refine e_Ok.if1 rfl (fun h11 => ?_) (fun h11 => ?_)
    · exact e_Ok.run 1 rfl (hJ13 0 (by omega))
    · exact e_Ok.run 2 rfl (hJ13 (-1) (by omega))
  · replace h9 : (z8 : Int) > 0 := Int.not_le.mp (show ¬ ((z8 : Int) ≤ 0) from h9)
    refine e_Ok.ps1 (x := (0, 1)) (q := 44) 2 rfl ?_
    refine e_Ok.rets rfl rfl ?_
    exact ⟨_, rfl, rfl, by omega, by omega⟩
theorem c_309 {d : Nat} {w : eW} {a1 a2 a3 a4 a5 : Int} : e_Ok 20 elay ecode eI d 309 (0, [(0, (4, a1)), (2, (4, a2)), (4, (4, a3)), (6, (4, a4)), (8, (4, a5))], [], w) (fun r w' => ∃ z : Int, r = [(0, z)] ∧ w = w' ∧ 0 ≤ z ∧ z ≤ 1) := by
  refine e_Ok.ps2 (x := (4, a2)) (y := (4, a1)) (q := 2) 2 rfl ?_
  refine e_Ok.lcmp rfl (fun z1 z1a z1b z1c => ?_)
  have hJ4 : ∀ m3 : Int, e_Ok 20 elay ecode eI d 309 (11, [(0, (4, a1)), (2, (4, a2)), (4, (4, a3)), (6, (4, a4)), (8, (4, a5))], [(4, m3)], w) (fun r w' => ∃ z : Int, r = [(0, z)] ∧ w = w' ∧ 0 ≤ z ∧ z ≤ 1) := by
    intro m3
    refine e_Ok.run (t' := (15, [(0, (4, a1)), (2, (4, a2)), (4, (4, a3)), (6, (4, a4)), (8, (4, a5))], [(4, a4), (4, a3), (4, m3)], w)) 2 rfl ?_
    refine e_Ok.lcmp rfl (fun z5 z5a z5b z5c => ?_)
    have hJ8 : ∀ m7 : Int, e_Ok 20 elay ecode eI d 309 (26, [(0, (4, a1)), (2, (4, a2)), (4, (4, a3)), (6, (4, a4)), (8, (4, a5))], [(4, m7), (4, m3)], w) (fun r w' => ∃ z : Int, r = [(0, z)] ∧ w = w' ∧ 0 ≤ z ∧ z ≤ 1) := by
      intro m7
      refine e_Ok.anyL rfl ⟨_, rfl⟩ (fun x9 => ?_)
      refine e_Ok.run (t' := (29, [(0, (4, a1)), (2, (4, a2)), (4, (4, a3)), (6, (4, a4)), (8, (4, a5))], [(4, a5), (4, x9)], w)) 1 rfl ?_
      refine e_Ok.lcmp rfl (fun z10 z10a z10b z10c => ?_)
      refine e_Ok.if1 rfl (fun h11 => ?_) (fun h11 => ?_)
      · replace h11 : (z10 : Int) > 0 := h11
        refine e_Ok.ps1 (x := (0, 1)) (q := 71) 2 rfl ?_
        refine e_Ok.rets rfl rfl ?_
        exact ⟨_, rfl, rfl, by omega, by omega⟩
      · replace h11 : (z10 : Int) ≤ 0 := Int.not_lt.mp (show ¬ ((z10 : Int) > 0) from h11)
        refine e_Ok.ps2 (x := (4, a4)) (y := (4, a3)) (q := 37) 2 rfl ?_
        refine e_Ok.lcmp rfl (fun z12 z12a z12b z12c => ?_)
        have hJ15 : ∀ m14 : Int, e_Ok 20 elay ecode eI d 309 (48, [(0, (4, a1)), (2, (4, a2)), (4, (4, a3)), (6, (4, a4)), (8, (4, a5))], [(4, m14)], w) (fun r w' => ∃ z : Int, r = [(0, z)] ∧ w = w' ∧ 0 ≤ z ∧ z ≤ 1) := by
          intro m14
          refine e_Ok.run (t' := (50, [(0, (4, a1)), (2, (4, a2)), (4, (4, a3)), (6, (4, a4)), (8, (4, a5))], [(4, a2), (4, a1), (4, m14)], w)) 2 rfl ?_
          refine e_Ok.lcmp rfl (fun z16 z16a z16b z16c => ?_)
          have hJ19 : ∀ m18 : Int, e_Ok 20 elay ecode eI d 309 (59, [(0, (4, a1)), (2, (4, a2)), (4, (4, a3)), (6, (4, a4)), (8, (4, a5))], [(4, m18), (4, m14)], w) (fun r w' => ∃ z : Int, r = [(0, z)] ∧ w = w' ∧ 0 ≤ z ∧ z ≤ 1) := by
            intro m18
            refine e_Ok.anyL rfl ⟨_, rfl⟩ (fun x20 => ?_)
            refine e_Ok.run (t' := (62, [(0, (4, a1)), (2, (4, a2)), (4, (4, a3)), (6, (4, a4)), (8, (4, a5))], [(4, a5), (4, x20)], w)) 1 rfl ?_
            refine e_Ok.lcmp rfl (fun z21 z21a z21b z21c => ?_)
            have hJ24 : ∀ m23 : Int, 0 ≤ m23 ∧ m23 ≤ 1 → e_Ok 20 elay ecode eI d 309 (71, [(0, (4, a1)), (2, (4, a2)), (4, (4, a3)), (6, (4, a4)), (8, (4, a5))], [(0, m23)], w) (fun r w' => ∃ z : Int, r = [(0, z)] ∧ w = w' ∧ 0 ≤ z ∧ z ≤ 1) := by
              intro m23 m23r
              refine e_Ok.retb rfl (by omega) ?_
              exact ⟨_, rfl, rfl, by omega, by omega⟩
            refine e_Ok.if1 rfl (fun h22 => ?_) (fun h22 => ?_)
            · exact e_Ok.run 1 rfl (hJ24 0 (by omega))
            · exact e_Ok.run 2 rfl (hJ24 1 (by omega))
          refine e_Ok.if1 rfl (fun h17 => ?_) (fun h17 => ?_)
          · exact e_Ok.run 1 rfl (hJ19 a1)
          · exact e_Ok.run 2 rfl (hJ19 a2)
        refine e_Ok.if1 rfl (fun h13 => ?_) (fun h13 => ?_)
        · exact e_Ok.run 1 rfl (hJ15 a4)
        · exact e_Ok.run 2 rfl (hJ15 a3)
    refine e_Ok.if1 rfl (fun h6 => ?_) (fun h6 => ?_)
    · exact e_Ok.run 1 rfl (hJ8 a3)
    · exact e_Ok.run 2 rfl (hJ8 a4)
  refine e_Ok.if1 rfl (fun h2 => ?_) (fun h2 => ?_)
  · exact e_Ok.run 1 rfl (hJ4 a2)
  · exact e_Ok.run 2 rfl (hJ4 a1)
theorem c_307 {d : Nat} (hd : 21 ≤ d) {w : eW} {a1 a2 a3 a4 a5 a6 a7 : Int} : e_Ok 20 elay ecode eI d 307 (0, [(0, (4, a1)), (2, (4, a2)), (4, (4, a3)), (6, (4, a4)), (8, (4, a5)), (10, (4, a6)), (12, (4, a7))], [], w) (fun r w' => ∃ z : Int, r = [(0, z)] ∧ w = w' ∧ 0 ≤ z ∧ z ≤ 1) := by
  obtain ⟨d, rfl⟩ : ∃ e, d = e + 1 := ⟨d - 1, by omega⟩
  refine e_Ok.ps2 (x := (4, a3)) (y := (4, a5)) (q := 4) 2 rfl ?_
  refine e_Ok.anyL rfl ⟨_, rfl⟩ (fun x1 => ?_)
  refine e_Ok.run (t' := (11, [(14, (4, x1)), (0, (4, a1)), (2, (4, a2)), (4, (4, a3)), (6, (4, a4)), (8, (4, a5)), (10, (4, a6)), (12, (4, a7))], [(4, a4), (4, a6)], w)) 3 rfl ?_
  refine e_Ok.anyL rfl ⟨_, rfl⟩ (fun x2 => ?_)
  refine e_Ok.run (t' := (17, [(16, (4, x2)), (14, (4, x1)), (0, (4, a1)), (2, (4, a2)), (4, (4, a3)), (6, (4, a4)), (8, (4, a5)), (10, (4, a6)), (12, (4, a7))], [(4, a3), (4, a1)], w)) 3 rfl ?_
  refine e_Ok.anyL rfl ⟨_, rfl⟩ (fun x3 => ?_)
  refine e_Ok.run (t' := (23, [(18, (4, x3)), (16, (4, x2)), (14, (4, x1)), (0, (4, a1)), (2, (4, a2)), (4, (4, a3)), (6, (4, a4)), (8, (4, a5)), (10, (4, a6)), (12, (4, a7))], [(4, a4), (4, a2)], w)) 3 rfl ?_
  refine e_Ok.anyL rfl ⟨_, rfl⟩ (fun x4 => ?_)
  refine e_Ok.run (t' := (30, [(20, (4, x4)), (18, (4, x3)), (16, (4, x2)), (14, (4, x1)), (0, (4, a1)), (2, (4, a2)), (4, (4, a3)), (6, (4, a4)), (8, (4, a5)), (10, (4, a6)), (12, (4, a7))], [(4, x3), (4, x1)], w)) 3 rfl ?_
  refine e_Ok.anyL rfl ⟨_, rfl⟩ (fun x5 => ?_)
  refine e_Ok.ps2 (x := (4, x4)) (y := (4, x2)) (q := 35) 2 rfl ?_
  refine e_Ok.anyL rfl ⟨_, rfl⟩ (fun x6 => ?_)
  refine e_Ok.anyL rfl ⟨_, rfl⟩ (fun x7 => ?_)
  refine e_Ok.run (t' := (43, [(22, (4, x7)), (20, (4, x4)), (18, (4, x3)), (16, (4, x2)), (14, (4, x1)), (0, (4, a1)), (2, (4, a2)), (4, (4, a3)), (6, (4, a4)), (8, (4, a5)), (10, (4, a6)), (12, (4, a7))], [(4, x1), (4, x1)], w)) 3 rfl ?_
  refine e_Ok.anyL rfl ⟨_, rfl⟩ (fun x8 => ?_)
  refine e_Ok.ps2 (x := (4, x2)) (y := (4, x2)) (q := 48) 2 rfl ?_
  refine e_Ok.anyL rfl ⟨_, rfl⟩ (fun x9 => ?_)
  refine e_Ok.anyL rfl ⟨_, rfl⟩ (fun x10 => ?_)
  refine e_Ok.run (t' := (55, [(24, (4, x10)), (22, (4, x7)), (20, (4, x4)), (18, (4, x3)), (16, (4, x2)), (14, (4, x1)), (0, (4, a1)), (2, (4, a2)), (4, (4, a3)), (6, (4, a4)), (8, (4, a5)), (10, (4, a6)), (12, (4, a7))], [(4, 0), (4, x7)], w)) 3 rfl ?_
  refine e_Ok.lcmp rfl (fun z11 z11a z11b z11c => ?_)
  refine e_Ok.if1 rfl (fun h12 => ?_) (fun h12 => ?_)
  · replace h12 : (z11 : Int) > 0 := h12
    refine e_Ok.ps2 (x := (4, x10)) (y := (4, x7)) (q := 73) 2 rfl ?_
    refine e_Ok.lcmp rfl (fun z13 z13a z13b z13c => ?_)
    refine e_Ok.if1 rfl (fun h14 => ?_) (fun h14 => ?_)
    · replace h14 : (z13 : Int) < 0 := h14
      refine e_Ok.ps2 (x := (4, x4)) (y := (4, x1)) (q := 95) 2 rfl ?_
      refine e_Ok.anyL rfl ⟨_, rfl⟩ (fun x15 => ?_)
      refine e_Ok.ps2 (x := (4, x3)) (y := (4, x2)) (q := 100) 2 rfl ?_
      refine e_Ok.anyL rfl ⟨_, rfl⟩ (fun x16 => ?_)
      refine e_Ok.anyL rfl ⟨_, rfl⟩ (fun x17 => ?_)
      refine e_Ok.run (t' := (108, [(26, (4, x17)), (24, (4, x10)), (22, (4, x7)), (20, (4, x4)), (18, (4, x3)), (16, (4, x2)), (14, (4, x1)), (0, (4, a1)), (2, (4, a2)), (4, (4, a3)), (6, (4, a4)), (8, (4, a5)), (10, (4, a6)), (12, (4, a7))], [(4, x17), (4, x17)], w)) 3 rfl ?_
      refine e_Ok.anyL rfl ⟨_, rfl⟩ (fun x18 => ?_)
      refine e_Ok.ps2 (x := (4, a7)) (y := (4, a7)) (q := 113) 2 rfl ?_
      refine e_Ok.anyL rfl ⟨_, rfl⟩ (fun x19 => ?_)
      refine e_Ok.ps1 (x := (4, x10)) (q := 116) 1 rfl ?_
      refine e_Ok.anyL rfl ⟨_, rfl⟩ (fun x20 => ?_)
      refine e_Ok.lcmp rfl (fun z21 z21a z21b z21c => ?_)
      have hJ24 : ∀ m23 : Int, 0 ≤ m23 ∧ m23 ≤ 1 → e_Ok 20 elay ecode eI (d + 1) 307 (126, [(26, (4, x17)), (24, (4, x10)), (22, (4, x7)), (20, (4, x4)), (18, (4, x3)), (16, (4, x2)), (14, (4, x1)), (0, (4, a1)), (2, (4, a2)), (4, (4, a3)), (6, (4, a4)), (8, (4, a5)), (10, (4, a6)), (12, (4, a7))], [(0, m23)], w) (fun r w' => ∃ z : Int, r = [(0, z)] ∧ w = w' ∧ 0 ≤ z ∧ z ≤ 1) := by
        intro m23 m23r
        refine e_Ok.retb rfl (by omega) ?_
        exact ⟨_, rfl, rfl, by omega, by omega⟩
      refine e_Ok.if1 rfl (fun h22 => ?_) (fun h22 => ?_)
      · exact e_Ok.run 1 rfl (hJ24 0 (by omega))
      · exact e_Ok.run 2 rfl (hJ24 1 (by omega))
    · replace h14 : (z13 : Int) ≥ 0 := Int.not_lt.mp (show ¬ ((z13 : Int) < 0) from h14)
      refine e_Ok.ps2 (x := (4, a5)) (y := (4, a1)) (q := 80) 2 rfl ?_
      refine e_Ok.anyL rfl ⟨_, rfl⟩ (fun x25 => ?_)
      refine e_Ok.ps2 (x := (4, a6)) (y := (4, a2)) (q := 84) 2 rfl ?_
      refine e_Ok.anyL rfl ⟨_, rfl⟩ (fun x26 => ?_)
      refine e_Ok.ps1 (x := (4, a7)) (q := 87) 1 rfl ?_
      refine e_Ok.callS rfl (e_dq hd rfl) rfl rfl (c_306) (fun r27 w28 h29 => ?_)
      obtain ⟨z30, rfl, rfl, q31a, q31b⟩ := h29
      refine e_Ok.nrm (q := 90) (st' := [(0, z30)]) rfl rfl ?_
      refine e_Ok.retb rfl (by omega) ?_
      exact ⟨_, rfl, rfl, by omega, by omega⟩
  · replace h12 : (z11 : Int) ≤ 0 := Int.not_lt.mp (show ¬ ((z11 : Int) > 0) from h12)
    refine e_Ok.ps3 (x := (4, a7)) (y := (4, x4)) (z := (4, x3)) (q := 65) 3 rfl ?_
    refine e_Ok.callS rfl (e_dq hd rfl) rfl rfl (c_306) (fun r32 w33 h34 => ?_)
    obtain ⟨z35, rfl, rfl, q36a, q36b⟩ := h34
    refine e_Ok.nrm (q := 68) (st' := [(0, z35)]) rfl rfl ?_
    refine e_Ok.retb rfl (by omega) ?_
    exact ⟨_, rfl, rfl, by omega, by omega⟩
theorem c_310 {d : Nat} (hd : 22 ≤ d) {w : eW} {a : Int} (k1 : e_kn w 324 0 3) (k2 : e_kn w 325 0 3) : e_Ok 20 elay ecode eI d 310 (0, [(0, (1, 324)), (1, (1, 325)), (2, (4, a))], [], w) (fun r w' => ∃ z : Int, r = [(0, z)] ∧ w = w' ∧ 0 ≤ z ∧ z ≤ 1) := by
  obtain ⟨d, rfl⟩ : ∃ e, d = e + 1 := ⟨d - 1, by omega⟩
  refine e_Ok.ps2 (x := (0, 0)) (y := (1, 324)) (q := 2) 2 rfl ?_
  have h1 := (k1 0 (by omega) (by omega))
  refine e_Ok.ald (z := w 324 0) rfl (el_o rfl) rfl (by omega) rfl (by omega) ?_
  refine e_Ok.run (t' := (6, [(0, (1, 324)), (1, (1, 325)), (2, (4, a))], [(0, 2), (1, 324), (4, w 324 0)], w)) 3 rfl ?_
  have h2 := (k1 2 (by omega) (by omega))
  refine e_Ok.ald (z := w 324 2) rfl (el_o rfl) rfl (by omega) rfl (by omega) ?_
  refine e_Ok.run (t' := (10, [(0, (1, 324)), (1, (1, 325)), (2, (4, a))], [(0, 0), (1, 325), (4, w 324 2), (4, w 324 0)], w)) 3 rfl ?_
  have h3 := (k2 0 (by omega) (by omega))
  refine e_Ok.ald (z := w 325 0) rfl (el_o rfl) rfl (by omega) rfl (by omega) ?_
  refine e_Ok.run (t' := (14, [(0, (1, 324)), (1, (1, 325)), (2, (4, a))], [(0, 2), (1, 325), (4, w 325 0), (4, w 324 2), (4, w 324 0)], w)) 3 rfl ?_
  have h4 := (k2 2 (by omega) (by omega))
  refine e_Ok.ald (z := w 325 2) rfl (el_o rfl) rfl (by omega) rfl (by omega) ?_
  refine e_Ok.run (t' := (17, [(0, (1, 324)), (1, (1, 325)), (2, (4, a))], [(4, a), (4, w 325 2), (4, w 325 0), (4, w 324 2), (4, w 324 0)], w)) 2 rfl ?_
  refine e_Ok.callS rfl (e_dq hd rfl) rfl rfl (c_309) (fun r5 w6 h7 => ?_)
  obtain ⟨z8, rfl, rfl, q9a, q9b⟩ := h7
  refine e_Ok.nrm (q := 20) (st' := [(0, z8)]) rfl rfl ?_
  refine e_Ok.if1 rfl (fun h10 => ?_) (fun h10 => ?_)
  · replace h10 : (z8 : Int) ≠ 0 := h10
    refine e_Ok.ps1 (x := (0, 0)) (q := 47) 1 rfl ?_
    refine e_Ok.rets rfl rfl ?_
    exact ⟨_, rfl, rfl, by omega, by omega⟩
  · replace h10 : (z8 : Int) = 0 := Classical.not_not.mp (show ¬ ((z8 : Int) ≠ 0) from h10)
    refine e_Ok.ps2 (x := (0, 1)) (y := (1, 324)) (q := 25) 2 rfl ?_
    have h11 := (k1 1 (by omega) (by omega))
    refine e_Ok.ald (z := w 324 1) rfl (el_o rfl) rfl (by omega) rfl (by omega) ?_
    refine e_Ok.run (t' := (29, [(0, (1, 324)), (1, (1, 325)), (2, (4, a))], [(0, 3), (1, 324), (4, w 324 1)], w)) 3 rfl ?_
    have h12 := (k1 3 (by omega) (by omega))
    refine e_Ok.ald (z := w 324 3) rfl (el_o rfl) rfl (by omega) rfl (by omega) ?_
    refine e_Ok.run (t' := (33, [(0, (1, 324)), (1, (1, 325)), (2, (4, a))], [(0, 1), (1, 325), (4, w 324 3), (4, w 324 1)], w)) 3 rfl ?_
    have h13 := (k2 1 (by omega) (by omega))
    refine e_Ok.ald (z := w 325 1) rfl (el_o rfl) rfl (by omega) rfl (by omega) ?_
    refine e_Ok.run (t' := (37, [(0, (1, 324)), (1, (1, 325)), (2, (4, a))], [(0, 3), (1, 325), (4, w 325 1), (4, w 324 3), (4, w 324 1)], w)) 3 rfl ?_
    have h14 := (k2 3 (by omega) (by omega))
    refine e_Ok.ald (z := w 325 3) rfl (el_o rfl) rfl (by omega) rfl (by omega) ?_
    refine e_Ok.run (t' := (40, [(0, (1, 324)), (1, (1, 325)), (2, (4, a))], [(4, a), (4, w 325 3), (4, w 325 1), (4, w 324 3), (4, w 324 1)], w)) 2 rfl ?_
    refine e_Ok.callS rfl (e_dq hd rfl) rfl rfl (c_309) (fun r15 w16 h17 => ?_)
    obtain ⟨z18, rfl, rfl, q19a, q19b⟩ := h17
    refine e_Ok.nrm (q := 43) (st' := [(0, z18)]) rfl rfl ?_
    refine e_Ok.if1 rfl (fun h20 => ?_) (fun h20 => ?_)
    · replace h20 : (z18 : Int) = 0 := h20
      refine e_Ok.ps2 (x := (0, 0)) (y := (1, 324)) (q := 50) 2 rfl ?_
      refine e_Ok.ald (z := w 324 0) rfl (el_o rfl) rfl (by omega) rfl (by omega) ?_
      refine e_Ok.run (t' := (54, [(0, (1, 324)), (1, (1, 325)), (2, (4, a))], [(0, 1), (1, 324), (4, w 324 0)], w)) 3 rfl ?_
      refine e_Ok.ald (z := w 324 1) rfl (el_o rfl) rfl (by omega) rfl (by omega) ?_
      refine e_Ok.run (t' := (58, [(0, (1, 324)), (1, (1, 325)), (2, (4, a))], [(0, 2), (1, 324), (4, w 324 1), (4, w 324 0)], w)) 3 rfl ?_
      refine e_Ok.ald (z := w 324 2) rfl (el_o rfl) rfl (by omega) rfl (by omega) ?_
      refine e_Ok.run (t' := (62, [(0, (1, 324)), (1, (1, 325)), (2, (4, a))], [(0, 3), (1, 324), (4, w 324 2), (4, w 324 1), (4, w 324 0)], w)) 3 rfl ?_
      refine e_Ok.ald (z := w 324 3) rfl (el_o rfl) rfl (by omega) rfl (by omega) ?_
      refine e_Ok.run (t' := (66, [(0, (1, 324)), (1, (1, 325)), (2, (4, a))], [(0, 0), (1, 325), (4, w 324 3), (4, w 324 2), (4, w 324 1), (4, w 324 0)], w)) 3 rfl ?_
      refine e_Ok.ald (z := w 325 0) rfl (el_o rfl) rfl (by omega) rfl (by omega) ?_
      refine e_Ok.run (t' := (70, [(0, (1, 324)), (1, (1, 325)), (2, (4, a))], [(0, 1), (1, 325), (4, w 325 0), (4, w 324 3), (4, w 324 2), (4, w 324 1), (4, w 324 0)], w)) 3 rfl ?_
      refine e_Ok.ald (z := w 325 1) rfl (el_o rfl) rfl (by omega) rfl (by omega) ?_
      refine e_Ok.run (t' := (72, [(0, (1, 324)), (1, (1, 325)), (2, (4, a))], [(4, w 325 1), (4, w 325 0), (4, w 324 3), (4, w 324 2), (4, w 324 1), (4, w 324 0)], w)) 1 rfl ?_
      refine e_Ok.callS rfl (e_dq hd rfl) rfl rfl (c_308) (fun r21 w22 h23 => ?_)
      obtain ⟨z24, rfl, rfl, q25a, q25b⟩ := h23
      refine e_Ok.nrm (q := 75) (st' := [(0, z24)]) rfl rfl ?_
      refine e_Ok.ps2 (x := (0, 0)) (y := (1, 324)) (q := 77) 2 rfl ?_
      refine e_Ok.ald (z := w 324 0) rfl (el_o rfl) rfl (by omega) rfl (by omega) ?_
      refine e_Ok.run (t' := (81, [(0, (1, 324)), (1, (1, 325)), (2, (4, a))], [(0, 1), (1, 324), (4, w 324 0), (0, z24)], w)) 3 rfl ?_
      refine e_Ok.ald (z := w 324 1) rfl (el_o rfl) rfl (by omega) rfl (by omega) ?_
      refine e_Ok.run (t' := (85, [(0, (1, 324)), (1, (1, 325)), (2, (4, a))], [(0, 2), (1, 324), (4, w 324 1), (4, w 324 0), (0, z24)], w)) 3 rfl ?_
      refine e_Ok.ald (z := w 324 2) rfl (el_o rfl) rfl (by omega) rfl (by omega) ?_
      refine e_Ok.run (t' := (89, [(0, (1, 324)), (1, (1, 325)), (2, (4, a))], [(0, 3), (1, 324), (4, w 324 2), (4, w 324 1), (4, w 324 0), (0, z24)], w)) 3 rfl ?_
      refine e_Ok.ald (z := w 324 3) rfl (el_o rfl) rfl (by omega) rfl (by omega) ?_
      refine e_Ok.run (t' := (93, [(0, (1, 324)), (1, (1, 325)), (2, (4, a))], [(0, 2), (1, 325), (4, w 324 3), (4, w 324 2), (4, w 324 1), (4, w 324 0), (0, z24)], w)) 3 rfl ?_
      refine e_Ok.ald (z := w 325 2) rfl (el_o rfl) rfl (by omega) rfl (by omega) ?_
      refine e_Ok.run (t' := (97, [(0, (1, 324)), (1, (1, 325)), (2, (4, a))], [(0, 3), (1, 325), (4, w 325 2), (4, w 324 3), (4, w 324 2), (4, w 324 1), (4, w 324 0), (0, z24)], w)) 3 rfl ?_
      refine e_Ok.ald (z := w 325 3) rfl (el_o rfl) rfl (by omega) rfl (by omega) ?_
      refine e_Ok.run (t' := (99, [(0, (1, 324)), (1, (1, 325)), (2, (4, a))], [(4, w 325 3), (4, w 325 2), (4, w 324 3), (4, w 324 2), (4, w 324 1), (4, w 324 0), (0, z24)], w)) 1 rfl ?_
      refine e_Ok.callS rfl (e_dq hd rfl) rfl rfl (c_308) (fun r26 w27 h28 => ?_)
      obtain ⟨z29, rfl, rfl, q30a, q30b⟩ := h28
      refine e_Ok.nrm (q := 102) (st' := [(0, z29), (0, z24)]) rfl rfl ?_
      refine e_Ok.any rfl (eF_mul_any _ _) (fun z31 z31a z31b => ?_)
      have hJ34 : ∀ m33 : Int, 0 ≤ m33 ∧ m33 ≤ 1 → e_Ok 20 elay ecode eI (d + 1) 310 (111, [(0, (1, 324)), (1, (1, 325)), (2, (4, a))], [(0, m33)], w) (fun r w' => ∃ z : Int, r = [(0, z)] ∧ w = w' ∧ 0 ≤ z ∧ z ≤ 1) := by
        intro m33 m33r
        refine e_Ok.run (t' := (115, [(4, (0, m33)), (0, (1, 324)), (1, (1, 325)), (2, (4, a))], [(0, m33)], w)) 2 rfl ?_
        refine e_Ok.if1 rfl (fun h35 => ?_) (fun h35 => ?_)
        · replace h35 : (m33 : Int) = 0 := h35
          refine e_Ok.ps2 (x := (0, 0)) (y := (1, 324)) (q := 180) 2 rfl ?_
          refine e_Ok.ald (z := w 324 0) rfl (el_o rfl) rfl (by omega) rfl (by omega) ?_
          refine e_Ok.run (t' := (184, [(4, (0, m33)), (0, (1, 324)), (1, (1, 325)), (2, (4, a))], [(0, 1), (1, 324), (4, w 324 0)], w)) 3 rfl ?_
          refine e_Ok.ald (z := w 324 1) rfl (el_o rfl) rfl (by omega) rfl (by omega) ?_
          refine e_Ok.run (t' := (188, [(4, (0, m33)), (0, (1, 324)), (1, (1, 325)), (2, (4, a))], [(0, 0), (1, 325), (4, w 324 1), (4, w 324 0)], w)) 3 rfl ?_
          refine e_Ok.ald (z := w 325 0) rfl (el_o rfl) rfl (by omega) rfl (by omega) ?_
          refine e_Ok.run (t' := (192, [(4, (0, m33)), (0, (1, 324)), (1, (1, 325)), (2, (4, a))], [(0, 1), (1, 325), (4, w 325 0), (4, w 324 1), (4, w 324 0)], w)) 3 rfl ?_
          refine e_Ok.ald (z := w 325 1) rfl (el_o rfl) rfl (by omega) rfl (by omega) ?_
          refine e_Ok.run (t' := (196, [(4, (0, m33)), (0, (1, 324)), (1, (1, 325)), (2, (4, a))], [(0, 2), (1, 325), (4, w 325 1), (4, w 325 0), (4, w 324 1), (4, w 324 0)], w)) 3 rfl ?_
          refine e_Ok.ald (z := w 325 2) rfl (el_o rfl) rfl (by omega) rfl (by omega) ?_
          refine e_Ok.run (t' := (200, [(4, (0, m33)), (0, (1, 324)), (1, (1, 325)), (2, (4, a))], [(0, 3), (1, 325), (4, w 325 2), (4, w 325 1), (4, w 325 0), (4, w 324 1), (4, w 324 0)], w)) 3 rfl ?_
          refine e_Ok.ald (z := w 325 3) rfl (el_o rfl) rfl (by omega) rfl (by omega) ?_
          refine e_Ok.run (t' := (203, [(4, (0, m33)), (0, (1, 324)), (1, (1, 325)), (2, (4, a))], [(4, a), (4, w 325 3), (4, w 325 2), (4, w 325 1), (4, w 325 0), (4, w 324 1), (4, w 324 0)], w)) 2 rfl ?_
          refine e_Ok.callS rfl (e_dq hd rfl) rfl rfl (c_307 (e_dq hd rfl)) (fun r36 w37 h38 => ?_)
          obtain ⟨z39, rfl, rfl, q40a, q40b⟩ := h38
          refine e_Ok.nrm (q := 206) (st' := [(0, z39)]) rfl rfl ?_
          refine e_Ok.if1 rfl (fun h41 => ?_) (fun h41 => ?_)
          · replace h41 : (z39 : Int) ≠ 0 := h41
            refine e_Ok.ps1 (x := (0, 1)) (q := 307) 2 rfl ?_
            refine e_Ok.rets rfl rfl ?_
            exact ⟨_, rfl, rfl, by omega, by omega⟩
          · replace h41 : (z39 : Int) = 0 := Classical.not_not.mp (show ¬ ((z39 : Int) ≠ 0) from h41)
            refine e_Ok.ps2 (x := (0, 2)) (y := (1, 324)) (q := 211) 2 rfl ?_
            refine e_Ok.ald (z := w 324 2) rfl (el_o rfl) rfl (by omega) rfl (by omega) ?_
            refine e_Ok.run (t' := (215, [(4, (0, m33)), (0, (1, 324)), (1, (1, 325)), (2, (4, a))], [(0, 3), (1, 324), (4, w 324 2)], w)) 3 rfl ?_
            refine e_Ok.ald (z := w 324 3) rfl (el_o rfl) rfl (by omega) rfl (by omega) ?_
            refine e_Ok.run (t' := (219, [(4, (0, m33)), (0, (1, 324)), (1, (1, 325)), (2, (4, a))], [(0, 0), (1, 325), (4, w 324 3), (4, w 324 2)], w)) 3 rfl ?_
            refine e_Ok.ald (z := w 325 0) rfl (el_o rfl) rfl (by omega) rfl (by omega) ?_
            refine e_Ok.run (t' := (223, [(4, (0, m33)), (0, (1, 324)), (1, (1, 325)), (2, (4, a))], [(0, 1), (1, 325), (4, w 325 0), (4, w 324 3), (4, w 324 2)], w)) 3 rfl ?_
            refine e_Ok.ald (z := w 325 1) rfl (el_o rfl) rfl (by omega) rfl (by omega) ?_
            refine e_Ok.run (t' := (227, [(4, (0, m33)), (0, (1, 324)), (1, (1, 325)), (2, (4, a))], [(0, 2), (1, 325), (4, w 325 1), (4, w 325 0), (4, w 324 3), (4, w 324 2)], w)) 3 rfl ?_
            refine e_Ok.ald (z := w 325 2) rfl (el_o rfl) rfl (by omega) rfl (by omega) ?_
            refine e_Ok.run (t' := (231, [(4, (0, m33)), (0, (1, 324)), (1, (1, 325)), (2, (4, a))], [(0, 3), (1, 325), (4, w 325 2), (4, w 325 1), (4, w 325 0), (4, w 324 3), (4, w 324 2)], w)) 3 rfl ?_
            refine e_Ok.ald (z := w 325 3) rfl (el_o rfl) rfl (by omega) rfl (by omega) ?_
            refine e_Ok.run (t' := (234, [(4, (0, m33)), (0, (1, 324)), (1, (1, 325)), (2, (4, a))], [(4, a), (4, w 325 3), (4, w 325 2), (4, w 325 1), (4, w 325 0), (4, w 324 3), (4, w 324 2)], w)) 2 rfl ?_
            refine e_Ok.callS rfl (e_dq hd rfl) rfl rfl (c_307 (e_dq hd rfl)) (fun r42 w43 h44 => ?_)
            obtain ⟨z45, rfl, rfl, q46a, q46b⟩ := h44
            refine e_Ok.nrm (q := 237) (st' := [(0, z45)]) rfl rfl ?_
            refine e_Ok.if1 rfl (fun h47 => ?_) (fun h47 => ?_)
            · replace h47 : (z45 : Int) ≠ 0 := h47
              refine e_Ok.ps1 (x := (0, 1)) (q := 307) 2 rfl ?_
              refine e_Ok.rets rfl rfl ?_
              exact ⟨_, rfl, rfl, by omega, by omega⟩
            · replace h47 : (z45 : Int) = 0 := Classical.not_not.mp (show ¬ ((z45 : Int) ≠ 0) from h47)
              refine e_Ok.ps2 (x := (0, 0)) (y := (1, 325)) (q := 242) 2 rfl ?_
              refine e_Ok.ald (z := w 325 0) rfl (el_o rfl) rfl (by omega) rfl (by omega) ?_
              refine e_Ok.run (t' := (246, [(4, (0, m33)), (0, (1, 324)), (1, (1, 325)), (2, (4, a))], [(0, 1), (1, 325), (4, w 325 0)], w)) 3 rfl ?_
              refine e_Ok.ald (z := w 325 1) rfl (el_o rfl) rfl (by omega) rfl (by omega) ?_
              refine e_Ok.run (t' := (250, [(4, (0, m33)), (0, (1, 324)), (1, (1, 325)), (2, (4, a))], [(0, 0), (1, 324), (4, w 325 1), (4, w 325 0)], w)) 3 rfl ?_
              refine e_Ok.ald (z := w 324 0) rfl (el_o rfl) rfl (by omega) rfl (by omega) ?_
              refine e_Ok.run (t' := (254, [(4, (0, m33)), (0, (1, 324)), (1, (1, 325)), (2, (4, a))], [(0, 1), (1, 324), (4, w 324 0), (4, w 325 1), (4, w 325 0)], w)) 3 rfl ?_
              refine e_Ok.ald (z := w 324 1) rfl (el_o rfl) rfl (by omega) rfl (by omega) ?_
              refine e_Ok.run (t' := (258, [(4, (0, m33)), (0, (1, 324)), (1, (1, 325)), (2, (4, a))], [(0, 2), (1, 324), (4, w 324 1), (4, w 324 0), (4, w 325 1), (4, w 325 0)], w)) 3 rfl ?_
              refine e_Ok.ald (z := w 324 2) rfl (el_o rfl) rfl (by omega) rfl (by omega) ?_
              refine e_Ok.run (t' := (262, [(4, (0, m33)), (0, (1, 324)), (1, (1, 325)), (2, (4, a))], [(0, 3), (1, 324), (4, w 324 2), (4, w 324 1), (4, w 324 0), (4, w 325 1), (4, w 325 0)], w)) 3 rfl ?_
              refine e_Ok.ald (z := w 324 3) rfl (el_o rfl) rfl (by omega) rfl (by omega) ?_
              refine e_Ok.run (t' := (265, [(4, (0, m33)), (0, (1, 324)), (1, (1, 325)), (2, (4, a))], [(4, a), (4, w 324 3), (4, w 324 2), (4, w 324 1), (4, w 324 0), (4, w 325 1), (4, w 325 0)], w)) 2 rfl ?_
              refine e_Ok.callS rfl (e_dq hd rfl) rfl rfl (c_307 (e_dq hd rfl)) (fun r48 w49 h50 => ?_)
              obtain ⟨z51, rfl, rfl, q52a, q52b⟩ := h50
              refine e_Ok.nrm (q := 268) (st' := [(0, z51)]) rfl rfl ?_
              refine e_Ok.if1 rfl (fun h53 => ?_) (fun h53 => ?_)
              · replace h53 : (z51 : Int) ≠ 0 := h53
                refine e_Ok.ps1 (x := (0, 1)) (q := 307) 2 rfl ?_
                refine e_Ok.rets rfl rfl ?_
                exact ⟨_, rfl, rfl, by omega, by omega⟩
              · replace h53 : (z51 : Int) = 0 := Classical.not_not.mp (show ¬ ((z51 : Int) ≠ 0) from h53)
                refine e_Ok.ps2 (x := (0, 2)) (y := (1, 325)) (q := 273) 2 rfl ?_
                refine e_Ok.ald (z := w 325 2) rfl (el_o rfl) rfl (by omega) rfl (by omega) ?_
                refine e_Ok.run (t' := (277, [(4, (0, m33)), (0, (1, 324)), (1, (1, 325)), (2, (4, a))], [(0, 3), (1, 325), (4, w 325 2)], w)) 3 rfl ?_
                refine e_Ok.ald (z := w 325 3) rfl (el_o rfl) rfl (by omega) rfl (by omega) ?_
                refine e_Ok.run (t' := (281, [(4, (0, m33)), (0, (1, 324)), (1, (1, 325)), (2, (4, a))], [(0, 0), (1, 324), (4, w 325 3), (4, w 325 2)], w)) 3 rfl ?_
                refine e_Ok.ald (z := w 324 0) rfl (el_o rfl) rfl (by omega) rfl (by omega) ?_
                refine e_Ok.run (t' := (285, [(4, (0, m33)), (0, (1, 324)), (1, (1, 325)), (2, (4, a))], [(0, 1), (1, 324), (4, w 324 0), (4, w 325 3), (4, w 325 2)], w)) 3 rfl ?_
                refine e_Ok.ald (z := w 324 1) rfl (el_o rfl) rfl (by omega) rfl (by omega) ?_
                refine e_Ok.run (t' := (289, [(4, (0, m33)), (0, (1, 324)), (1, (1, 325)), (2, (4, a))], [(0, 2), (1, 324), (4, w 324 1), (4, w 324 0), (4, w 325 3), (4, w 325 2)], w)) 3 rfl ?_
                refine e_Ok.ald (z := w 324 2) rfl (el_o rfl) rfl (by omega) rfl (by omega) ?_
                refine e_Ok.run (t' := (293, [(4, (0, m33)), (0, (1, 324)), (1, (1, 325)), (2, (4, a))], [(0, 3), (1, 324), (4, w 324 2), (4, w 324 1), (4, w 324 0), (4, w 325 3), (4, w 325 2)], w)) 3 rfl ?_
                refine e_Ok.ald (z := w 324 3) rfl (el_o rfl) rfl (by omega) rfl (by omega) ?_
                refine e_Ok.run (t' := (296, [(4, (0, m33)), (0, (1, 324)), (1, (1, 325)), (2, (4, a))], [(4, a), (4, w 324 3), (4, w 324 2), (4, w 324 1), (4, w 324 0), (4, w 325 3), (4, w 325 2)], w)) 2 rfl ?_
                refine e_Ok.callS rfl (e_dq hd rfl) rfl rfl (c_307 (e_dq hd rfl)) (fun r54 w55 h56 => ?_)
                obtain ⟨z57, rfl, rfl, q58a, q58b⟩ := h56
                refine e_Ok.nrm (q := 299) (st' := [(0, z57)]) rfl rfl ?_
                have hJ61 : ∀ m60 : Int, 0 ≤ m60 ∧ m60 ≤ 1 → e_Ok 20 elay ecode eI (d + 1) 310 (307, [(4, (0, m33)), (0, (1, 324)), (1, (1, 325)), (2, (4, a))], [(0, m60)], w) (fun r w' => ∃ z : Int, r = [(0, z)] ∧ w = w' ∧ 0 ≤ z ∧ z ≤ 1) := by
                  intro m60 m60r
                  refine e_Ok.retb rfl (by omega) ?_
                  exact ⟨_, rfl, rfl, by omega, by omega⟩
                refine e_Ok.if1 rfl (fun h59 => ?_) (fun h59 => ?_)
                · exact e_Ok.run 1 rfl (hJ61 0 (by omega))
                · exact e_Ok.run 2 rfl (hJ61 1 (by omega))
        · replace h35 : (m33 : Int) ≠ 0 := (show ¬ ((m33 : Int) = 0) from h35)
          refine e_Ok.ps2 (x := (0, 0)) (y := (1, 325)) (q := 120) 2 rfl ?_
          refine e_Ok.ald (z := w 325 0) rfl (el_o rfl) rfl (by omega) rfl (by omega) ?_
          refine e_Ok.run (t' := (124, [(4, (0, m33)), (0, (1, 324)), (1, (1, 325)), (2, (4, a))], [(0, 1), (1, 325), (4, w 325 0)], w)) 3 rfl ?_
          refine e_Ok.ald (z := w 325 1) rfl (el_o rfl) rfl (by omega) rfl (by omega) ?_
          refine e_Ok.run (t' := (128, [(4, (0, m33)), (0, (1, 324)), (1, (1, 325)), (2, (4, a))], [(0, 2), (1, 325), (4, w 325 1), (4, w 325 0)], w)) 3 rfl ?_
          refine e_Ok.ald (z := w 325 2) rfl (el_o rfl) rfl (by omega) rfl (by omega) ?_
          refine e_Ok.run (t' := (132, [(4, (0, m33)), (0, (1, 324)), (1, (1, 325)), (2, (4, a))], [(0, 3), (1, 325), (4, w 325 2), (4, w 325 1), (4, w 325 0)], w)) 3 rfl ?_
          refine e_Ok.ald (z := w 325 3) rfl (el_o rfl) rfl (by omega) rfl (by omega) ?_
          refine e_Ok.run (t' := (136, [(4, (0, m33)), (0, (1, 324)), (1, (1, 325)), (2, (4, a))], [(0, 0), (1, 324), (4, w 325 3), (4, w 325 2), (4, w 325 1), (4, w 325 0)], w)) 3 rfl ?_
          refine e_Ok.ald (z := w 324 0) rfl (el_o rfl) rfl (by omega) rfl (by omega) ?_
          refine e_Ok.run (t' := (140, [(4, (0, m33)), (0, (1, 324)), (1, (1, 325)), (2, (4, a))], [(0, 1), (1, 324), (4, w 324 0), (4, w 325 3), (4, w 325 2), (4, w 325 1), (4, w 325 0)], w)) 3 rfl ?_
          refine e_Ok.ald (z := w 324 1) rfl (el_o rfl) rfl (by omega) rfl (by omega) ?_
          refine e_Ok.run (t' := (142, [(4, (0, m33)), (0, (1, 324)), (1, (1, 325)), (2, (4, a))], [(4, w 324 1), (4, w 324 0), (4, w 325 3), (4, w 325 2), (4, w 325 1), (4, w 325 0)], w)) 1 rfl ?_
          refine e_Ok.callS rfl (e_dq hd rfl) rfl rfl (c_308) (fun r62 w63 h64 => ?_)
          obtain ⟨z65, rfl, rfl, q66a, q66b⟩ := h64
          refine e_Ok.nrm (q := 145) (st' := [(0, z65)]) rfl rfl ?_
          refine e_Ok.ps2 (x := (0, 0)) (y := (1, 325)) (q := 147) 2 rfl ?_
          refine e_Ok.ald (z := w 325 0) rfl (el_o rfl) rfl (by omega) rfl (by omega) ?_
          refine e_Ok.run (t' := (151, [(4, (0, m33)), (0, (1, 324)), (1, (1, 325)), (2, (4, a))], [(0, 1), (1, 325), (4, w 325 0), (0, z65)], w)) 3 rfl ?_
          refine e_Ok.ald (z := w 325 1) rfl (el_o rfl) rfl (by omega) rfl (by omega) ?_
          refine e_Ok.run (t' := (155, [(4, (0, m33)), (0, (1, 324)), (1, (1, 325)), (2, (4, a))], [(0, 2), (1, 325), (4, w 325 1), (4, w 325 0), (0, z65)], w)) 3 rfl ?_
          refine e_Ok.ald (z := w 325 2) rfl (el_o rfl) rfl (by omega) rfl (by omega) ?_
          refine e_Ok.run (t' := (159, [(4, (0, m33)), (0, (1, 324)), (1, (1, 325)), (2, (4, a))], [(0, 3), (1, 325), (4, w 325 2), (4, w 325 1), (4, w 325 0), (0, z65)], w)) 3 rfl ?_
          refine e_Ok.ald (z := w 325 3) rfl (el_o rfl) rfl (by omega) rfl (by omega) ?_
          refine e_Ok.run (t' := (163, [(4, (0, m33)), (0, (1, 324)), (1, (1, 325)), (2, (4, a))], [(0, 2), (1, 324), (4, w 325 3), (4, w 325 2), (4, w 325 1), (4, w 325 0), (0, z65)], w)) 3 rfl ?_
          refine e_Ok.ald (z := w 324 2) rfl (el_o rfl) rfl (by omega) rfl (by omega) ?_
          refine e_Ok.run (t' := (167, [(4, (0, m33)), (0, (1, 324)), (1, (1, 325)), (2, (4, a))], [(0, 3), (1, 324), (4, w 324 2), (4, w 325 3), (4, w 325 2), (4, w 325 1), (4, w 325 0), (0, z65)], w)) 3 rfl ?_
          refine e_Ok.ald (z := w 324 3) rfl (el_o rfl) rfl (by omega) rfl (by omega) ?_
          refine e_Ok.run (t' := (169, [(4, (0, m33)), (0, (1, 324)), (1, (1, 325)), (2, (4, a))], [(4, w 324 3), (4, w 324 2), (4, w 325 3), (4, w 325 2), (4, w 325 1), (4, w 325 0), (0, z65)], w)) 1 rfl ?_
          refine e_Ok.callS rfl (e_dq hd rfl) rfl rfl (c_308) (fun r67 w68 h69 => ?_)
          obtain ⟨z70, rfl, rfl, q71a, q71b⟩ := h69
          refine e_Ok.nrm (q := 172) (st' := [(0, z70), (0, z65)]) rfl rfl ?_
          refine e_Ok.any rfl (eF_mul_any _ _) (fun z72 z72a z72b => ?_)
          refine e_Ok.if1 rfl (fun h73 => ?_) (fun h73 => ?_)
          · replace h73 : (z72 : Int) ≥ 0 := h73
            refine e_Ok.ps2 (x := (0, 0)) (y := (1, 324)) (q := 180) 2 rfl ?_
            refine e_Ok.ald (z := w 324 0) rfl (el_o rfl) rfl (by omega) rfl (by omega) ?_
            refine e_Ok.run (t' := (184, [(4, (0, m33)), (0, (1, 324)), (1, (1, 325)), (2, (4, a))], [(0, 1), (1, 324), (4, w 324 0)], w)) 3 rfl ?_
            refine e_Ok.ald (z := w 324 1) rfl (el_o rfl) rfl (by omega) rfl (by omega) ?_
            refine e_Ok.run (t' := (188, [(4, (0, m33)), (0, (1, 324)), (1, (1, 325)), (2, (4, a))], [(0, 0), (1, 325), (4, w 324 1), (4, w 324 0)], w)) 3 rfl ?_
            refine e_Ok.ald (z := w 325 0) rfl (el_o rfl) rfl (by omega) rfl (by omega) ?_
            refine e_Ok.run (t' := (192, [(4, (0, m33)), (0, (1, 324)), (1, (1, 325)), (2, (4, a))], [(0, 1), (1, 325), (4, w 325 0), (4, w 324 1), (4, w 324 0)], w)) 3 rfl ?_
            refine e_Ok.ald (z := w 325 1) rfl (el_o rfl) rfl (by omega) rfl (by omega) ?_
            refine e_Ok.run (t' := (196, [(4, (0, m33)), (0, (1, 324)), (1, (1, 325)), (2, (4, a))], [(0, 2), (1, 325), (4, w 325 1), (4, w 325 0), (4, w 324 1), (4, w 324 0)], w)) 3 rfl ?_
            refine e_Ok.ald (z := w 325 2) rfl (el_o rfl) rfl (by omega) rfl (by omega) ?_
            refine e_Ok.run (t' := (200, [(4, (0, m33)), (0, (1, 324)), (1, (1, 325)), (2, (4, a))], [(0, 3), (1, 325), (4, w 325 2), (4, w 325 1), (4, w 325 0), (4, w 324 1), (4, w 324 0)], w)) 3 rfl ?_
            refine e_Ok.ald (z := w 325 3) rfl (el_o rfl) rfl (by omega) rfl (by omega) ?_
            refine e_Ok.run (t' := (203, [(4, (0, m33)), (0, (1, 324)), (1, (1, 325)), (2, (4, a))], [(4, a), (4, w 325 3), (4, w 325 2), (4, w 325 1), (4, w 325 0), (4, w 324 1), (4, w 324 0)], w)) 2 rfl ?_
            refine e_Ok.callS rfl (e_dq hd rfl) rfl rfl (c_307 (e_dq hd rfl)) (fun r74 w75 h76 => ?_)
            obtain ⟨z77, rfl, rfl, q78a, q78b⟩ := h76
            refine e_Ok.nrm (q := 206) (st' := [(0, z77)]) rfl rfl ?_
            refine e_Ok.if1 rfl (fun h79 => ?_) (fun h79 => ?_)
            · replace h79 : (z77 : Int) ≠ 0 := h79
              refine e_Ok.ps1 (x := (0, 1)) (q := 307) 2 rfl ?_
              refine e_Ok.rets rfl rfl ?_
              exact ⟨_, rfl, rfl, by omega, by omega⟩
            · replace h79 : (z77 : Int) = 0 := Classical.not_not.mp (show ¬ ((z77 : Int) ≠ 0) from h79)
              refine e_Ok.ps2 (x := (0, 2)) (y := (1, 324)) (q := 211) 2 rfl ?_
              refine e_Ok.ald (z := w 324 2) rfl (el_o rfl) rfl (by omega) rfl (by omega) ?_
              refine e_Ok.run (t' := (215, [(4, (0, m33)), (0, (1, 324)), (1, (1, 325)), (2, (4, a))], [(0, 3), (1, 324), (4, w 324 2)], w)) 3 rfl ?_
              refine e_Ok.ald (z := w 324 3) rfl (el_o rfl) rfl (by omega) rfl (by omega) ?_
              refine e_Ok.run (t' := (219, [(4, (0, m33)), (0, (1, 324)), (1, (1, 325)), (2, (4, a))], [(0, 0), (1, 325), (4, w 324 3), (4, w 324 2)], w)) 3 rfl ?_
              refine e_Ok.ald (z := w 325 0) rfl (el_o rfl) rfl (by omega) rfl (by omega) ?_
              refine e_Ok.run (t' := (223, [(4, (0, m33)), (0, (1, 324)), (1, (1, 325)), (2, (4, a))], [(0, 1), (1, 325), (4, w 325 0), (4, w 324 3), (4, w 324 2)], w)) 3 rfl ?_
              refine e_Ok.ald (z := w 325 1) rfl (el_o rfl) rfl (by omega) rfl (by omega) ?_
              refine e_Ok.run (t' := (227, [(4, (0, m33)), (0, (1, 324)), (1, (1, 325)), (2, (4, a))], [(0, 2), (1, 325), (4, w 325 1), (4, w 325 0), (4, w 324 3), (4, w 324 2)], w)) 3 rfl ?_
              refine e_Ok.ald (z := w 325 2) rfl (el_o rfl) rfl (by omega) rfl (by omega) ?_
              refine e_Ok.run (t' := (231, [(4, (0, m33)), (0, (1, 324)), (1, (1, 325)), (2, (4, a))], [(0, 3), (1, 325), (4, w 325 2), (4, w 325 1), (4, w 325 0), (4, w 324 3), (4, w 324 2)], w)) 3 rfl ?_
              refine e_Ok.ald (z := w 325 3) rfl (el_o rfl) rfl (by omega) rfl (by omega) ?_
              refine e_Ok.run (t' := (234, [(4, (0, m33)), (0, (1, 324)), (1, (1, 325)), (2, (4, a))], [(4, a), (4, w 325 3), (4, w 325 2), (4, w 325 1), (4, w 325 0), (4, w 324 3), (4, w 324 2)], w)) 2 rfl ?_
              refine e_Ok.callS rfl (e_dq hd rfl) rfl rfl (c_307 (e_dq hd rfl)) (fun r80 w81 h82 => ?_)
              obtain ⟨z83, rfl, rfl, q84a, q84b⟩ := h82
              refine e_Ok.nrm (q := 237) (st' := [(0, z83)]) rfl rfl ?_
              refine e_Ok.if1 rfl (fun h85 => ?_) (fun h85 => ?_)
              · replace h85 : (z83 : Int) ≠ 0 := h85
                refine e_Ok.ps1 (x := (0, 1)) (q := 307) 2 rfl ?_
                refine e_Ok.rets rfl rfl ?_
                exact ⟨_, rfl, rfl, by omega, by omega⟩
              · replace h85 : (z83 : Int) = 0 := Classical.not_not.mp (show ¬ ((z83 : Int) ≠ 0) from h85)
                refine e_Ok.ps2 (x := (0, 0)) (y := (1, 325)) (q := 242) 2 rfl ?_
                refine e_Ok.ald (z := w 325 0) rfl (el_o rfl) rfl (by omega) rfl (by omega) ?_
                refine e_Ok.run (t' := (246, [(4, (0, m33)), (0, (1, 324)), (1, (1, 325)), (2, (4, a))], [(0, 1), (1, 325), (4, w 325 0)], w)) 3 rfl ?_
                refine e_Ok.ald (z := w 325 1) rfl (el_o rfl) rfl (by omega) rfl (by omega) ?_
                refine e_Ok.run (t' := (250, [(4, (0, m33)), (0, (1, 324)), (1, (1, 325)), (2, (4, a))], [(0, 0), (1, 324), (4, w 325 1), (4, w 325 0)], w)) 3 rfl ?_
                refine e_Ok.ald (z := w 324 0) rfl (el_o rfl) rfl (by omega) rfl (by omega) ?_
                refine e_Ok.run (t' := (254, [(4, (0, m33)), (0, (1, 324)), (1, (1, 325)), (2, (4, a))], [(0, 1), (1, 324), (4, w 324 0), (4, w 325 1), (4, w 325 0)], w)) 3 rfl ?_
                refine e_Ok.ald (z := w 324 1) rfl (el_o rfl) rfl (by omega) rfl (by omega) ?_
                refine e_Ok.run (t' := (258, [(4, (0, m33)), (0, (1, 324)), (1, (1, 325)), (2, (4, a))], [(0, 2), (1, 324), (4, w 324 1), (4, w 324 0), (4, w 325 1), (4, w 325 0)], w)) 3 rfl ?_
                refine e_Ok.ald (z := w 324 2) rfl (el_o rfl) rfl (by omega) rfl (by omega) ?_
                refine e_Ok.run (t' := (262, [(4, (0, m33)), (0, (1, 324)), (1, (1, 325)), (2, (4, a))], [(0, 3), (1, 324), (4, w 324 2), (4, w 324 1), (4, w 324 0), (4, w 325 1), (4, w 325 0)], w)) 3 rfl ?_
                refine e_Ok.ald (z := w 324 3) rfl (el_o rfl) rfl (by omega) rfl (by omega) ?_
                refine e_Ok.run (t' := (265, [(4, (0, m33)), (0, (1, 324)), (1, (1, 325)), (2, (4, a))], [(4, a), (4, w 324 3), (4, w 324 2), (4, w 324 1), (4, w 324 0), (4, w 325 1), (4, w 325 0)], w)) 2 rfl ?_
                refine e_Ok.callS rfl (e_dq hd rfl) rfl rfl (c_307 (e_dq hd rfl)) (fun r86 w87 h88 => ?_)
                obtain ⟨z89, rfl, rfl, q90a, q90b⟩ := h88
                refine e_Ok.nrm (q := 268) (st' := [(0, z89)]) rfl rfl ?_
                refine e_Ok.if1 rfl (fun h91 => ?_) (fun h91 => ?_)
                · replace h91 : (z89 : Int) ≠ 0 := h91
                  refine e_Ok.ps1 (x := (0, 1)) (q := 307) 2 rfl ?_
                  refine e_Ok.rets rfl rfl ?_
                  exact ⟨_, rfl, rfl, by omega, by omega⟩
                · replace h91 : (z89 : Int) = 0 := Classical.not_not.mp (show ¬ ((z89 : Int) ≠ 0) from h91)
                  refine e_Ok.ps2 (x := (0, 2)) (y := (1, 325)) (q := 273) 2 rfl ?_
                  refine e_Ok.ald (z := w 325 2) rfl (el_o rfl) rfl (by omega) rfl (by omega) ?_
                  refine e_Ok.run (t' := (277, [(4, (0, m33)), (0, (1, 324)), (1, (1, 325)), (2, (4, a))], [(0, 3), (1, 325), (4, w 325 2)], w)) 3 rfl ?_
                  refine e_Ok.ald (z := w 325 3) rfl (el_o rfl) rfl (by omega) rfl (by omega) ?_
                  refine e_Ok.run (t' := (281, [(4, (0, m33)), (0, (1, 324)), (1, (1, 325)), (2, (4, a))], [(0, 0), (1, 324), (4, w 325 3), (4, w 325 2)], w)) 3 rfl ?_
                  refine e_Ok.ald (z := w 324 0) rfl (el_o rfl) rfl (by omega) rfl (by omega) ?_
                  refine e_Ok.run (t' := (285, [(4, (0, m33)), (0, (1, 324)), (1, (1, 325)), (2, (4, a))], [(0, 1), (1, 324), (4, w 324 0), (4, w 325 3), (4, w 325 2)], w)) 3 rfl ?_
                  refine e_Ok.ald (z := w 324 1) rfl (el_o rfl) rfl (by omega) rfl (by omega) ?_
                  refine e_Ok.run (t' := (289, [(4, (0, m33)), (0, (1, 324)), (1, (1, 325)), (2, (4, a))], [(0, 2), (1, 324), (4, w 324 1), (4, w 324 0), (4, w 325 3), (4, w 325 2)], w)) 3 rfl ?_
                  refine e_Ok.ald (z := w 324 2) rfl (el_o rfl) rfl (by omega) rfl (by omega) ?_
                  refine e_Ok.run (t' := (293, [(4, (0, m33)), (0, (1, 324)), (1, (1, 325)), (2, (4, a))], [(0, 3), (1, 324), (4, w 324 2), (4, w 324 1), (4, w 324 0), (4, w 325 3), (4, w 325 2)], w)) 3 rfl ?_
                  refine e_Ok.ald (z := w 324 3) rfl (el_o rfl) rfl (by omega) rfl (by omega) ?_
                  refine e_Ok.run (t' := (296, [(4, (0, m33)), (0, (1, 324)), (1, (1, 325)), (2, (4, a))], [(4, a), (4, w 324 3), (4, w 324 2), (4, w 324 1), (4, w 324 0), (4, w 325 3), (4, w 325 2)], w)) 2 rfl ?_
                  refine e_Ok.callS rfl (e_dq hd rfl) rfl rfl (c_307 (e_dq hd rfl)) (fun r92 w93 h94 => ?_)
                  obtain ⟨z95, rfl, rfl, q96a, q96b⟩ := h94
                  refine e_Ok.nrm (q := 299) (st' := [(0, z95)]) rfl rfl ?_
                  have hJ99 : ∀ m98 : Int, 0 ≤ m98 ∧ m98 ≤ 1 → e_Ok 20 elay ecode eI (d + 1) 310 (307, [(4, (0, m33)), (0, (1, 324)), (1, (1, 325)), (2, (4, a))], [(0, m98)], w) (fun r w' => ∃ z : Int, r = [(0, z)] ∧ w = w' ∧ 0 ≤ z ∧ z ≤ 1) := by
                    intro m98 m98r
                    refine e_Ok.retb rfl (by omega) ?_
                    exact ⟨_, rfl, rfl, by omega, by omega⟩
                  refine e_Ok.if1 rfl (fun h97 => ?_) (fun h97 => ?_)
                  · exact e_Ok.run 1 rfl (hJ99 0 (by omega))
                  · exact e_Ok.run 2 rfl (hJ99 1 (by omega))
          · replace h73 : (z72 : Int) < 0 := Int.not_le.mp (show ¬ ((z72 : Int) ≥ 0) from h73)
            refine e_Ok.ps1 (x := (0, 1)) (q := 177) 1 rfl ?_
            refine e_Ok.rets rfl rfl ?_
            exact ⟨_, rfl, rfl, by omega, by omega⟩
      refine e_Ok.if1 rfl (fun h32 => ?_) (fun h32 => ?_)
      · exact e_Ok.run 1 rfl (hJ34 0 (by omega))
      · exact e_Ok.run 2 rfl (hJ34 1 (by omega))
    · replace h20 : (z18 : Int) ≠ 0 := (show ¬ ((z18 : Int) = 0) from h20)
      refine e_Ok.ps1 (x := (0, 0)) (q := 47) 1 rfl ?_
      refine e_Ok.rets rfl rfl ?_
      exact ⟨_, rfl, rfl, by omega, by omega⟩
theorem c_304 {d : Nat} (hd : 21 ≤ d) {w : eW} (hT : e_Has mTy w) {a : Int} (ha : 0 ≤ a ∧ a ≤ 3) : e_Ok 20 elay ecode eI d 304 (0, [(0, (1, 275)), (1, (0, a))], [], w) (fun r w' => ∃ z : Int, r = [(0, z)] ∧ w = w' ∧ ((0 ≤ w 276 (36 * a + 17) ∧ z = w 286 a + 1) ∨ (w 276 (36 * a + 17) < 0 ∧ z = w 286 a))) := by
  obtain ⟨d, rfl⟩ : ∃ e, d = e + 1 := ⟨d - 1, by omega⟩
  refine e_Ok.ps1 (x := (1, 275)) (q := 1) 1 rfl ?_
  refine e_Ok.getr (z := 286) rfl (el_o rfl) rfl (ef_o rfl) (e_Has.eq hT (mt_o rfl)) ⟨by decide, by decide⟩ ?_
  refine e_Ok.ps1 (x := (0, a)) (q := 5) 1 rfl ?_
  have h1 := (e_Has.get hT (c := 286) (k := a) (lo := 0) (hi := 6) (mt_o rfl) (by decide))
  refine e_Ok.ald (z := w 286 a) rfl (el_o rfl) rfl (by omega) rfl (e_bq h1 (by decide) (by decide)) ?_
  refine e_Ok.ps1 (x := (1, 275)) (q := 7) 1 rfl ?_
  refine e_Ok.getr (z := 276) rfl (el_o rfl) rfl (ef_o rfl) (e_Has.eq hT (mt_o rfl)) ⟨by decide, by decide⟩ ?_
  refine e_Ok.ps1 (x := (0, a)) (q := 11) 1 rfl ?_
  refine e_Ok.callS rfl (e_dq hd rfl) rfl rfl (c_268 (by omega)) (fun r2 w3 h4 => ?_)
  obtain ⟨rfl, rfl⟩ := h4
  refine e_Ok.nrm (q := 14) (st' := [(0, 36 * a + 16), (1, 276), (0, w 286 a)]) rfl rfl ?_
  refine e_Ok.ps1 (x := (0, 1)) (q := 15) 1 rfl ?_
  refine e_Ok.add (z := 36 * a + 17) rfl (e_adl (by decide)) (by omega) ?_
  have h5 := (e_Has.get hT (c := 276) (nR_HOLDS (a := a) (by omega)) (by decide))
  refine e_Ok.ald (z := w 276 (36 * a + 17)) rfl (el_o rfl) rfl (by omega) rfl (by omega) ?_
  refine e_Ok.if1 rfl (fun h6 => ?_) (fun h6 => ?_)
  · replace h6 : (w 276 (36 * a + 17) : Int) < 0 := h6
    refine e_Ok.ps1 (x := (0, 0)) (q := 25) 1 rfl ?_
    refine e_Ok.add (z := w 286 a) rfl (by omega) (by omega) ?_
    refine e_Ok.rets rfl rfl ?_
    exact ⟨_, rfl, rfl, by omega⟩
  · replace h6 : (w 276 (36 * a + 17) : Int) ≥ 0 := Int.not_lt.mp (show ¬ ((w 276 (36 * a + 17) : Int) < 0) from h6)
    refine e_Ok.ps1 (x := (0, 1)) (q := 25) 2 rfl ?_
    refine e_Ok.add (z := w 286 a + 1) rfl rfl (by omega) ?_
    refine e_Ok.rets rfl rfl ?_
    exact ⟨_, rfl, rfl, by omega⟩
theorem c_305 {d : Nat} (hd : 21 ≤ d) {w : eW} (hT : e_Has mTy w) {a i b : Int} (ha : 0 ≤ a ∧ a ≤ 3) (hi : 0 ≤ i ∧ (i < w 286 a ∨ (i = w 286 a ∧ 0 ≤ w 276 (36 * a + 17)))) (hb : 0 ≤ b ∧ b ≤ 28) : e_Ok 20 elay ecode eI d 305 (0, [(0, (1, 275)), (1, (0, a)), (2, (0, i)), (3, (0, b))], [], w) (fun r w' => r = [] ∧ e_fr mB w w' ∧ w' 275 58 = b + i ∧ ((w' 275 59 = b + i ∧ i = w 286 a) ∨ (w' 275 59 = b + i + 1 ∧ i < w 286 a)) ∧ (0 ≤ w' 275 60 ∧ w' 275 60 ≤ 800)) := by
  obtain ⟨d, rfl⟩ : ∃ e, d = e + 1 := ⟨d - 1, by omega⟩
  have hj := (e_Has.get hT (c := 286) (k := a) (lo := 0) (hi := 6) (mt_o rfl) (by decide))
  refine e_Ok.ps2 (x := (1, 275)) (y := (0, i)) (q := 2) 2 rfl ?_
  refine e_Ok.getr (z := 286) rfl (el_o rfl) rfl (ef_o rfl) (e_Has.eq hT (mt_o rfl)) ⟨by decide, by decide⟩ ?_
  refine e_Ok.ps1 (x := (0, a)) (q := 6) 1 rfl ?_
  have h1 := (e_Has.get hT (c := 286) (k := a) (lo := 0) (hi := 6) (mt_o rfl) (by decide))
  refine e_Ok.ald (z := w 286 a) rfl (el_o rfl) rfl (by omega) rfl (e_bq h1 (by decide) (by decide)) ?_
  refine e_Ok.if2 rfl (fun h2 => ?_) (fun h2 => ?_)
  · replace h2 : (i : Int) ≠ w 286 a := h2
    refine e_Ok.run (t' := (20, [(4, (0, 0)), (0, (1, 275)), (1, (0, a)), (2, (0, i)), (3, (0, b))], [(0, i), (0, b), (1, 275)], w)) 5 rfl ?_
    refine e_Ok.add (z := b + i) rfl rfl (by omega) ?_
    refine e_Ok.putf rfl (el_o rfl) rfl (ef_o rfl) ?_
    generalize hw3 : e_up w 275 58 (b + i) = w3
    refine e_Ok.ps2 (x := (0, 0)) (y := (1, 275)) (q := 27) 2 rfl ?_
    refine e_Ok.if1 rfl (fun h5 => ?_) (fun h5 => ?_)
    · replace h5 : (0 : Int) = 0 := h5
      refine e_Ok.ps2 (x := (0, i)) (y := (0, b)) (q := 38) 2 rfl ?_
      refine e_Ok.add (z := b + i) rfl rfl (by omega) ?_
      refine e_Ok.ps1 (x := (0, 1)) (q := 40) 1 rfl ?_
      refine e_Ok.add (z := b + i + 1) rfl rfl (by omega) ?_
      refine e_Ok.putf rfl (el_o rfl) rfl (ef_o rfl) ?_
      generalize hw6 : e_up w3 275 59 (b + i + 1) = w6
      refine e_Ok.ps2 (x := (0, 0)) (y := (1, 275)) (q := 47) 2 rfl ?_
      refine e_Ok.if1 rfl (fun h8 => ?_) (fun h8 => ?_)
      · replace h8 : (0 : Int) = 0 := h8
        refine e_Ok.ps1 (x := (1, 275)) (q := 70) 1 rfl ?_
        refine e_Ok.getr (z := 293) rfl (el_o rfl) rfl (ef_o rfl) (e_uq hw6 (Or.inr (by decide)) (e_uq hw3 (Or.inr (by decide)) (e_Has.eq hT (mt_o rfl)))) ⟨by decide, by decide⟩ ?_
        refine e_Ok.ps2 (x := (0, a)) (y := (0, 6)) (q := 76) 2 rfl ?_
        refine e_Ok.mul (z := 6 * a) rfl rfl (by omega) ?_
        refine e_Ok.ps1 (x := (0, i)) (q := 78) 1 rfl ?_
        refine e_Ok.add (z := 6 * a + i) rfl rfl (by omega) ?_
        have h9 := (e_Has.get hT (c := 293) (k := 6 * a + i) (lo := 0) (hi := 800) (mt_o rfl) (by decide))
        refine e_Ok.ald (z := w 293 (6 * a + i)) rfl (el_o rfl) rfl (by omega) (e_uq hw6 (Or.inl (by decide)) (e_uq hw3 (Or.inl (by decide)) rfl)) (e_bq h9 (by decide) (by decide)) ?_
        refine e_Ok.putf rfl (el_o rfl) rfl (ef_o rfl) ?_
        generalize hw10 : e_up w6 275 60 (w 293 (6 * a + i)) = w10
        refine e_Ok.rets rfl rfl ?_
        have e58 : w10 275 58 = b + i := (e_uq hw10 (Or.inr (by decide)) (e_uq hw6 (Or.inr (by decide)) (e_ue hw3)))
        have e59 : w10 275 59 = b + i + 1 := (e_uq hw10 (Or.inr (by decide)) (e_ue hw6))
        have e60 : w10 275 60 = w 293 (6 * a + i) := (e_ue hw10)
        exact ⟨rfl, (show e_fr mB w w10 from e_fr.up (show e_fr mB w w6 from e_fr.up (show e_fr mB w w3 from e_fr.up (e_fr.refl w) hw3 (by first | exact ⟨rfl, ⟨(by decide), (by decide)⟩⟩ | (unfold mB; omega))) hw6 (by first | exact ⟨rfl, ⟨(by decide), (by decide)⟩⟩ | (unfold mB; omega))) hw10 (by first | exact ⟨rfl, ⟨(by decide), (by decide)⟩⟩ | (unfold mB; omega))), by omega, by omega, by omega⟩
      · replace h8 : (0 : Int) ≠ 0 := (show ¬ ((0 : Int) = 0) from h8)
        exfalso; omega
    · replace h5 : (0 : Int) ≠ 0 := (show ¬ ((0 : Int) = 0) from h5)
      exfalso; omega
  · replace h2 : (i : Int) = w 286 a := Classical.not_not.mp (show ¬ ((i : Int) ≠ w 286 a) from h2)
    refine e_Ok.run (t' := (20, [(4, (0, 1)), (0, (1, 275)), (1, (0, a)), (2, (0, i)), (3, (0, b))], [(0, i), (0, b), (1, 275)], w)) 6 rfl ?_
    refine e_Ok.add (z := b + i) rfl rfl (by omega) ?_
    refine e_Ok.putf rfl (el_o rfl) rfl (ef_o rfl) ?_
    generalize hw12 : e_up w 275 58 (b + i) = w12
    refine e_Ok.ps2 (x := (0, 1)) (y := (1, 275)) (q := 27) 2 rfl ?_
    refine e_Ok.if1 rfl (fun h14 => ?_) (fun h14 => ?_)
    · replace h14 : (1 : Int) = 0 := h14
      exfalso; omega
    · replace h14 : (1 : Int) ≠ 0 := (show ¬ ((1 : Int) = 0) from h14)
      refine e_Ok.ps2 (x := (0, i)) (y := (0, b)) (q := 32) 2 rfl ?_
      refine e_Ok.add (z := b + i) rfl rfl (by omega) ?_
      refine e_Ok.ps0 (q := 41) 1 rfl ?_
      refine e_Ok.putf rfl (el_o rfl) rfl (ef_o rfl) ?_
      generalize hw15 : e_up w12 275 59 (b + i) = w15
      refine e_Ok.ps2 (x := (0, 1)) (y := (1, 275)) (q := 47) 2 rfl ?_
      refine e_Ok.if1 rfl (fun h17 => ?_) (fun h17 => ?_)
      · replace h17 : (1 : Int) = 0 := h17
        exfalso; omega
      · replace h17 : (1 : Int) ≠ 0 := (show ¬ ((1 : Int) = 0) from h17)
        refine e_Ok.ps1 (x := (1, 275)) (q := 51) 1 rfl ?_
        refine e_Ok.getr (z := 309) rfl (el_o rfl) rfl (ef_o rfl) (e_uq hw15 (Or.inr (by decide)) (e_uq hw12 (Or.inr (by decide)) (e_Has.eq hT (mt_o rfl)))) ⟨by decide, by decide⟩ ?_
        refine e_Ok.ps1 (x := (1, 275)) (q := 55) 1 rfl ?_
        refine e_Ok.getr (z := 276) rfl (el_o rfl) rfl (ef_o rfl) (e_uq hw15 (Or.inr (by decide)) (e_uq hw12 (Or.inr (by decide)) (e_Has.eq hT (mt_o rfl)))) ⟨by decide, by decide⟩ ?_
        refine e_Ok.ps1 (x := (0, a)) (q := 59) 1 rfl ?_
        refine e_Ok.callS rfl (e_dq hd rfl) rfl rfl (c_268 (by omega)) (fun r18 w19 h20 => ?_)
        obtain ⟨rfl, rfl⟩ := h20
        refine e_Ok.nrm (q := 62) (st' := [(0, 36 * a + 16), (1, 276), (1, 309), (1, 275)]) rfl rfl ?_
        refine e_Ok.ps1 (x := (0, 1)) (q := 63) 1 rfl ?_
        refine e_Ok.add (z := 36 * a + 17) rfl (e_adl (by decide)) (by omega) ?_
        have h21 := (e_Has.get hT (c := 276) (nR_HOLDS (a := a) (by omega)) (by decide))
        refine e_Ok.ald (z := w 276 (36 * a + 17)) rfl (el_o rfl) rfl (by omega) (e_uq hw15 (Or.inl (by decide)) (e_uq hw12 (Or.inl (by decide)) rfl)) (by omega) ?_
        have h22 := (e_Has.get hT (c := 309) (k := w 276 (36 * a + 17)) (lo := 0) (hi := 800) rfl (by decide))
        refine e_Ok.ald (z := w 309 (w 276 (36 * a + 17))) rfl rfl rfl (by omega) (e_uq hw15 (Or.inl (by decide)) (e_uq hw12 (Or.inl (by decide)) rfl)) (e_bq h22 (by decide) (by decide)) ?_
        refine e_Ok.ps0 (q := 80) 1 rfl ?_
        refine e_Ok.putf rfl (el_o rfl) rfl (ef_o rfl) ?_
        generalize hw23 : e_up w15 275 60 (w 309 (w 276 (36 * a + 17))) = w23
        refine e_Ok.rets rfl rfl ?_
        have e58 : w23 275 58 = b + i := (e_uq hw23 (Or.inr (by decide)) (e_uq hw15 (Or.inr (by decide)) (e_ue hw12)))
        have e59 : w23 275 59 = b + i := (e_uq hw23 (Or.inr (by decide)) (e_ue hw15))
        have e60 : w23 275 60 = w 309 (w 276 (36 * a + 17)) := (e_ue hw23)
        exact ⟨rfl, (show e_fr mB w w23 from e_fr.up (show e_fr mB w w15 from e_fr.up (show e_fr mB w w12 from e_fr.up (e_fr.refl w) hw12 (by first | exact ⟨rfl, ⟨(by decide), (by decide)⟩⟩ | (unfold mB; omega))) hw15 (by first | exact ⟨rfl, ⟨(by decide), (by decide)⟩⟩ | (unfold mB; omega))) hw23 (by first | exact ⟨rfl, ⟨(by decide), (by decide)⟩⟩ | (unfold mB; omega))), by omega, by omega, by omega⟩
theorem c_311_324 {d : Nat} {w : eW} {x y z v : Int} (hx : -2147483648 ≤ x ∧ x ≤ 2147483647) (hy : -2147483648 ≤ y ∧ y ≤ 2147483647) (hz : -2147483648 ≤ z ∧ z ≤ 2147483647) (hv : -2147483648 ≤ v ∧ v ≤ 2147483647) : e_Ok 20 elay ecode eI d 311 (0, [(0, (1, 275)), (1, (1, 324)), (2, (0, x)), (3, (0, y)), (4, (0, z)), (5, (0, v))], [], w) (fun r w' => r = [] ∧ e_fr m1 w w' ∧ e_kn w' 324 0 3) := by
  refine e_Ok.ps3 (x := (0, x)) (y := (0, 0)) (z := (1, 324)) (q := 3) 3 rfl ?_
  refine e_Ok.ast rfl (el_o rfl) rfl rfl (by omega) ?_
  generalize hw1 : e_up w 324 0 x = w1
  refine e_Ok.ps3 (x := (0, y)) (y := (0, 1)) (z := (1, 324)) (q := 7) 3 rfl ?_
  refine e_Ok.ast rfl (el_o rfl) rfl rfl (by omega) ?_
  generalize hw3 : e_up w1 324 1 y = w3
  refine e_Ok.ps3 (x := (0, z)) (y := (0, 2)) (z := (1, 324)) (q := 12) 3 rfl ?_
  refine e_Ok.ast rfl (el_o rfl) rfl rfl (by omega) ?_
  generalize hw5 : e_up w3 324 2 z = w5
  refine e_Ok.ps3 (x := (0, v)) (y := (0, 3)) (z := (1, 324)) (q := 17) 3 rfl ?_
  refine e_Ok.ast rfl (el_o rfl) rfl rfl (by omega) ?_
  generalize hw7 : e_up w5 324 3 v = w7
  refine e_Ok.rets rfl rfl ?_
  refine ⟨rfl, (show e_fr m1 w w7 from e_fr.up (show e_fr m1 w w5 from e_fr.up (show e_fr m1 w w3 from e_fr.up (show e_fr m1 w w1 from e_fr.up (e_fr.refl w) hw1 (by first | exact rfl | (unfold m1; omega))) hw3 (by first | exact rfl | (unfold m1; omega))) hw5 (by first | exact rfl | (unfold m1; omega))) hw7 (by first | exact rfl | (unfold m1; omega))), fun i g1 g2 => ?_⟩
  obtain rfl | rfl | rfl | rfl : i = 0 ∨ i = 1 ∨ i = 2 ∨ i = 3 := by omega
  · rw [show w7 324 0 = x from (e_uq hw7 (Or.inr (by first | decide | omega)) (e_uq hw5 (Or.inr (by first | decide | omega)) (e_uq hw3 (Or.inr (by first | decide | omega)) (e_ue hw1))))]; omega
  · rw [show w7 324 1 = y from (e_uq hw7 (Or.inr (by first | decide | omega)) (e_uq hw5 (Or.inr (by first | decide | omega)) (e_ue hw3)))]; omega
  · rw [show w7 324 2 = z from (e_uq hw7 (Or.inr (by first | decide | omega)) (e_ue hw5))]; omega
  · rw [show w7 324 3 = v from (e_ue hw7)]; omega
theorem c_311_325 {d : Nat} {w : eW} {x y z v : Int} (hx : -2147483648 ≤ x ∧ x ≤ 2147483647) (hy : -2147483648 ≤ y ∧ y ≤ 2147483647) (hz : -2147483648 ≤ z ∧ z ≤ 2147483647) (hv : -2147483648 ≤ v ∧ v ≤ 2147483647) : e_Ok 20 elay ecode eI d 311 (0, [(0, (1, 275)), (1, (1, 325)), (2, (0, x)), (3, (0, y)), (4, (0, z)), (5, (0, v))], [], w) (fun r w' => r = [] ∧ e_fr m2 w w' ∧ e_kn w' 325 0 3) := by
  refine e_Ok.ps3 (x := (0, x)) (y := (0, 0)) (z := (1, 325)) (q := 3) 3 rfl ?_
  refine e_Ok.ast rfl (el_o rfl) rfl rfl (by omega) ?_
  generalize hw1 : e_up w 325 0 x = w1
  refine e_Ok.ps3 (x := (0, y)) (y := (0, 1)) (z := (1, 325)) (q := 7) 3 rfl ?_
  refine e_Ok.ast rfl (el_o rfl) rfl rfl (by omega) ?_
  generalize hw3 : e_up w1 325 1 y = w3
  refine e_Ok.ps3 (x := (0, z)) (y := (0, 2)) (z := (1, 325)) (q := 12) 3 rfl ?_
  refine e_Ok.ast rfl (el_o rfl) rfl rfl (by omega) ?_
  generalize hw5 : e_up w3 325 2 z = w5
  refine e_Ok.ps3 (x := (0, v)) (y := (0, 3)) (z := (1, 325)) (q := 17) 3 rfl ?_
  refine e_Ok.ast rfl (el_o rfl) rfl rfl (by omega) ?_
  generalize hw7 : e_up w5 325 3 v = w7
  refine e_Ok.rets rfl rfl ?_
  refine ⟨rfl, (show e_fr m2 w w7 from e_fr.up (show e_fr m2 w w5 from e_fr.up (show e_fr m2 w w3 from e_fr.up (show e_fr m2 w w1 from e_fr.up (e_fr.refl w) hw1 (by first | exact rfl | (unfold m2; omega))) hw3 (by first | exact rfl | (unfold m2; omega))) hw5 (by first | exact rfl | (unfold m2; omega))) hw7 (by first | exact rfl | (unfold m2; omega))), fun i g1 g2 => ?_⟩
  obtain rfl | rfl | rfl | rfl : i = 0 ∨ i = 1 ∨ i = 2 ∨ i = 3 := by omega
  · rw [show w7 325 0 = x from (e_uq hw7 (Or.inr (by first | decide | omega)) (e_uq hw5 (Or.inr (by first | decide | omega)) (e_uq hw3 (Or.inr (by first | decide | omega)) (e_ue hw1))))]; omega
  · rw [show w7 325 1 = y from (e_uq hw7 (Or.inr (by first | decide | omega)) (e_uq hw5 (Or.inr (by first | decide | omega)) (e_ue hw3)))]; omega
  · rw [show w7 325 2 = z from (e_uq hw7 (Or.inr (by first | decide | omega)) (e_ue hw5))]; omega
  · rw [show w7 325 3 = v from (e_ue hw7)]; omega
theorem c_312_324 {d : Nat} (hd : 21 ≤ d) {w : eW} (hT : e_Has mTy w) {u v : Int} (hu : w 275 58 = u) (hv : w 275 59 = v) (hr : 0 ≤ u ∧ u ≤ 34 ∧ 0 ≤ v ∧ v ≤ 34) (k1 : e_kn w 321 u u) (k2 : e_kn w 322 u u) (k3 : e_kn w 321 v v) (k4 : e_kn w 322 v v) : e_Ok 20 elay ecode eI d 312 (0, [(0, (1, 275)), (1, (1, 324))], [], w) (fun r w' => r = [] ∧ e_fr m1 w w' ∧ e_kn w' 324 0 3) := by
  obtain ⟨d, rfl⟩ : ∃ e, d = e + 1 := ⟨d - 1, by omega⟩
  refine e_Ok.ps3 (x := (1, 275)) (y := (1, 324)) (z := (1, 275)) (q := 3) 3 rfl ?_
  refine e_Ok.getr (z := 321) rfl (el_o rfl) rfl (ef_o rfl) (e_Has.eq hT (mt_o rfl)) ⟨by decide, by decide⟩ ?_
  refine e_Ok.ps1 (x := (1, 275)) (q := 7) 1 rfl ?_
  refine e_Ok.getf (z := u) rfl (el_o rfl) rfl (ef_o rfl) hu (by omega) ?_
  have h1 := (k1 u (by omega) (by omega))
  refine e_Ok.ald (z := w 321 u) rfl (el_o rfl) rfl (by omega) rfl (by omega) ?_
  refine e_Ok.ps1 (x := (1, 275)) (q := 12) 1 rfl ?_
  refine e_Ok.getr (z := 322) rfl (el_o rfl) rfl (ef_o rfl) (e_Has.eq hT (mt_o rfl)) ⟨by decide, by decide⟩ ?_
  refine e_Ok.ps1 (x := (1, 275)) (q := 16) 1 rfl ?_
  refine e_Ok.getf (z := u) rfl (el_o rfl) rfl (ef_o rfl) hu (by omega) ?_
  have h2 := (k2 u (by omega) (by omega))
  refine e_Ok.ald (z := w 322 u) rfl (el_o rfl) rfl (by omega) rfl (by omega) ?_
  refine e_Ok.ps1 (x := (1, 275)) (q := 21) 1 rfl ?_
  refine e_Ok.getr (z := 321) rfl (el_o rfl) rfl (ef_o rfl) (e_Has.eq hT (mt_o rfl)) ⟨by decide, by decide⟩ ?_
  refine e_Ok.ps1 (x := (1, 275)) (q := 25) 1 rfl ?_
  refine e_Ok.getf (z := v) rfl (el_o rfl) rfl (ef_o rfl) hv (by omega) ?_
  have h3 := (k3 v (by omega) (by omega))
  refine e_Ok.ald (z := w 321 v) rfl (el_o rfl) rfl (by omega) rfl (by omega) ?_
  refine e_Ok.ps1 (x := (1, 275)) (q := 30) 1 rfl ?_
  refine e_Ok.getr (z := 322) rfl (el_o rfl) rfl (ef_o rfl) (e_Has.eq hT (mt_o rfl)) ⟨by decide, by decide⟩ ?_
  refine e_Ok.ps1 (x := (1, 275)) (q := 34) 1 rfl ?_
  refine e_Ok.getf (z := v) rfl (el_o rfl) rfl (ef_o rfl) hv (by omega) ?_
  have h4 := (k4 v (by omega) (by omega))
  refine e_Ok.ald (z := w 322 v) rfl (el_o rfl) rfl (by omega) rfl (by omega) ?_
  refine e_Ok.callV rfl (e_dq hd rfl) rfl rfl rfl rfl (c_311_324 (by omega) (by omega) (by omega) (by omega)) (fun r5 w6 h7 => ?_)
  obtain ⟨rfl, q8, q8k⟩ := h7
  refine e_Ok.nrm (q := 41) (st' := []) rfl rfl ?_
  refine e_Ok.rets rfl rfl ?_
  exact ⟨rfl, (show e_fr m1 w w6 from e_fr.trans (e_fr.refl w) (e_fr.mono q8 (fun c k q => by exact q))), q8k⟩
theorem c_312_325 {d : Nat} (hd : 21 ≤ d) {w : eW} (hT : e_Has mTy w) {u v : Int} (hu : w 275 58 = u) (hv : w 275 59 = v) (hr : 0 ≤ u ∧ u ≤ 34 ∧ 0 ≤ v ∧ v ≤ 34) (k1 : e_kn w 321 u u) (k2 : e_kn w 322 u u) (k3 : e_kn w 321 v v) (k4 : e_kn w 322 v v) : e_Ok 20 elay ecode eI d 312 (0, [(0, (1, 275)), (1, (1, 325))], [], w) (fun r w' => r = [] ∧ e_fr m2 w w' ∧ e_kn w' 325 0 3) := by
  obtain ⟨d, rfl⟩ : ∃ e, d = e + 1 := ⟨d - 1, by omega⟩
  refine e_Ok.ps3 (x := (1, 275)) (y := (1, 325)) (z := (1, 275)) (q := 3) 3 rfl ?_
  refine e_Ok.getr (z := 321) rfl (el_o rfl) rfl (ef_o rfl) (e_Has.eq hT (mt_o rfl)) ⟨by decide, by decide⟩ ?_
  refine e_Ok.ps1 (x := (1, 275)) (q := 7) 1 rfl ?_
  refine e_Ok.getf (z := u) rfl (el_o rfl) rfl (ef_o rfl) hu (by omega) ?_
  have h1 := (k1 u (by omega) (by omega))
  refine e_Ok.ald (z := w 321 u) rfl (el_o rfl) rfl (by omega) rfl (by omega) ?_
  refine e_Ok.ps1 (x := (1, 275)) (q := 12) 1 rfl ?_
  refine e_Ok.getr (z := 322) rfl (el_o rfl) rfl (ef_o rfl) (e_Has.eq hT (mt_o rfl)) ⟨by decide, by decide⟩ ?_
  refine e_Ok.ps1 (x := (1, 275)) (q := 16) 1 rfl ?_
  refine e_Ok.getf (z := u) rfl (el_o rfl) rfl (ef_o rfl) hu (by omega) ?_
  have h2 := (k2 u (by omega) (by omega))
  refine e_Ok.ald (z := w 322 u) rfl (el_o rfl) rfl (by omega) rfl (by omega) ?_
  refine e_Ok.ps1 (x := (1, 275)) (q := 21) 1 rfl ?_
  refine e_Ok.getr (z := 321) rfl (el_o rfl) rfl (ef_o rfl) (e_Has.eq hT (mt_o rfl)) ⟨by decide, by decide⟩ ?_
  refine e_Ok.ps1 (x := (1, 275)) (q := 25) 1 rfl ?_
  refine e_Ok.getf (z := v) rfl (el_o rfl) rfl (ef_o rfl) hv (by omega) ?_
  have h3 := (k3 v (by omega) (by omega))
  refine e_Ok.ald (z := w 321 v) rfl (el_o rfl) rfl (by omega) rfl (by omega) ?_
  refine e_Ok.ps1 (x := (1, 275)) (q := 30) 1 rfl ?_
  refine e_Ok.getr (z := 322) rfl (el_o rfl) rfl (ef_o rfl) (e_Has.eq hT (mt_o rfl)) ⟨by decide, by decide⟩ ?_
  refine e_Ok.ps1 (x := (1, 275)) (q := 34) 1 rfl ?_
  refine e_Ok.getf (z := v) rfl (el_o rfl) rfl (ef_o rfl) hv (by omega) ?_
  have h4 := (k4 v (by omega) (by omega))
  refine e_Ok.ald (z := w 322 v) rfl (el_o rfl) rfl (by omega) rfl (by omega) ?_
  refine e_Ok.callV rfl (e_dq hd rfl) rfl rfl rfl rfl (c_311_325 (by omega) (by omega) (by omega) (by omega)) (fun r5 w6 h7 => ?_)
  obtain ⟨rfl, q8, q8k⟩ := h7
  refine e_Ok.nrm (q := 41) (st' := []) rfl rfl ?_
  refine e_Ok.rets rfl rfl ?_
  exact ⟨rfl, (show e_fr m2 w w6 from e_fr.trans (e_fr.refl w) (e_fr.mono q8 (fun c k q => by exact q))), q8k⟩
end
end
-- part 51
section
noncomputable section
theorem no_51_0 {k : Int} : ¬ mL 286 k := by unfold mL; omega
theorem no_51_1 {k : Int} : ¬ mL 276 k := by unfold mL; omega
theorem no_51_2 : ¬ mL 275 61 := by unfold mL; omega
theorem no_51_3 {k : Int} : ¬ m1 275 k := by unfold m1; omega
theorem no_51_4 : ¬ mL 275 62 := by unfold mL; omega
theorem no_51_5 {k : Int} : ¬ m2 275 k := by unfold m2; omega
theorem su_51_19 {c k : Int} (q : mB c k) : mL c k := by
  unfold mB at q
  rcases q with ⟨q, ⟨q, q⟩⟩
  · exact Or.inl ⟨(by omega), ⟨(by omega), (by omega)⟩⟩
theorem su_51_20 {c k : Int} (q : m1 c k) : mL c k := by
  unfold m1 at q
  rcases q with q
  · exact Or.inr (Or.inl (by omega))
theorem su_51_21 {c k : Int} (q : m2 c k) : mL c k := by
  unfold m2 at q
  rcases q with q
  · exact Or.inr (Or.inr (by omega))
theorem c_313 {d : Nat} (hd : 23 ≤ d) {w : eW} (hT : e_Has mTy w) {a i u b k t m : Int} (ha : 0 ≤ a ∧ a ≤ 3) (hi : 0 ≤ i ∧ (i < w 286 a ∨ (i = w 286 a ∧ 0 ≤ w 276 (36 * a + 17)))) (hu : 0 ≤ u ∧ u ≤ 28) (hb : 0 ≤ b ∧ b ≤ 3) (hk : 0 ≤ k ∧ (k < w 286 b ∨ (k = w 286 b ∧ 0 ≤ w 276 (36 * b + 17)))) (ht : 0 ≤ t ∧ t ≤ 28) (k1 : e_kn w 321 u (u + w 286 a)) (k2 : e_kn w 322 u (u + w 286 a)) (k3 : e_kn w 321 t (t + w 286 b)) (k4 : e_kn w 322 t (t + w 286 b)) : e_Ok 20 elay ecode eI d 313 (0, [(0, (1, 275)), (1, (0, a)), (2, (0, i)), (3, (0, u)), (4, (0, b)), (5, (0, k)), (6, (0, t)), (7, (0, m))], [], w) (fun r w' => ∃ z : Int, r = [(0, z)] ∧ e_fr mL w w' ∧ 0 ≤ z ∧ z ≤ 1) := by
  obtain ⟨d, rfl⟩ : ∃ e, d = e + 1 := ⟨d - 1, by omega⟩
  have hja := (e_Has.get hT (c := 286) (k := a) (lo := 0) (hi := 6) (mt_o rfl) (by decide))
  have hjb := (e_Has.get hT (c := 286) (k := b) (lo := 0) (hi := 6) (mt_o rfl) (by decide))
  refine e_Ok.ps4 (x := (0, u)) (y := (0, i)) (z := (0, a)) (u := (1, 275)) (q := 4) 4 rfl ?_
  refine e_Ok.callV rfl (e_dq hd rfl) rfl rfl rfl rfl (c_305 (e_dq hd rfl) hT (by omega) (by omega) (by omega)) (fun r1 w2 h3 => ?_)
  obtain ⟨rfl, q4, q4a, q4b, q4c⟩ := h3
  have f5 : e_fr mL w w2 := e_fr.trans (e_fr.refl w) (e_fr.mono q4 (fun c k q => su_51_19 q))
  have l6 : w2 286 a = w 286 a := f5 286 a no_51_0
  have l7 : w2 286 b = w 286 b := f5 286 b no_51_0
  have l8 : w2 276 (36 * a + 17) = w 276 (36 * a + 17) := f5 276 (36 * a + 17) no_51_1
  have l9 : w2 276 (36 * b + 17) = w 276 (36 * b + 17) := f5 276 (36 * b + 17) no_51_1
  refine e_Ok.nrm (q := 7) (st' := []) rfl rfl ?_
  refine e_Ok.ps2 (x := (1, 275)) (y := (1, 275)) (q := 9) 2 rfl ?_
  refine e_Ok.getr (z := 324) rfl (el_o rfl) rfl (ef_o rfl) ((f5 275 61 no_51_2).trans (e_Has.eq hT (mt_o rfl))) ⟨by decide, by decide⟩ ?_
  refine e_Ok.callV rfl (e_dq hd rfl) rfl rfl rfl rfl (c_312_324 (e_dq hd rfl) (mT_L f5 hT) q4a rfl (by omega) (e_kn_sub (e_kn.fr f5 (fun k q => by unfold mL at q; omega) k1) (by omega) (by omega)) (e_kn_sub (e_kn.fr f5 (fun k q => by unfold mL at q; omega) k2) (by omega) (by omega)) (e_kn_sub (e_kn.fr f5 (fun k q => by unfold mL at q; omega) k1) (by omega) (by omega)) (e_kn_sub (e_kn.fr f5 (fun k q => by unfold mL at q; omega) k2) (by omega) (by omega))) (fun r10 w11 h12 => ?_)
  obtain ⟨rfl, q13, q13k⟩ := h12
  have f14 : e_fr mL w w11 := e_fr.trans f5 (e_fr.mono q13 (fun c k q => su_51_20 q))
  have l15 : w11 286 a = w 286 a := f14 286 a no_51_0
  have l16 : w11 286 b = w 286 b := f14 286 b no_51_0
  have l17 : w11 276 (36 * a + 17) = w 276 (36 * a + 17) := f14 276 (36 * a + 17) no_51_1
  have l18 : w11 276 (36 * b + 17) = w 276 (36 * b + 17) := f14 276 (36 * b + 17) no_51_1
  refine e_Ok.nrm (q := 15) (st' := []) rfl rfl ?_
  refine e_Ok.ps1 (x := (1, 275)) (q := 16) 1 rfl ?_
  refine e_Ok.getf (z := w2 275 60) rfl (el_o rfl) rfl (ef_o rfl) ((q13 275 60 no_51_3).trans rfl) (by omega) ?_
  refine e_Ok.run (t' := (28, [(8, (0, w2 275 60)), (0, (1, 275)), (1, (0, a)), (2, (0, i)), (3, (0, u)), (4, (0, b)), (5, (0, k)), (6, (0, t)), (7, (0, m))], [(0, t), (0, k), (0, b), (1, 275)], w11)) 5 rfl ?_
  refine e_Ok.callV rfl (e_dq hd rfl) rfl rfl rfl rfl (c_305 (e_dq hd rfl) (mT_L f14 hT) (by omega) (by omega) (by omega)) (fun r19 w20 h21 => ?_)
  obtain ⟨rfl, q22, q22a, q22b, q22c⟩ := h21
  have f23 : e_fr mL w w20 := e_fr.trans f14 (e_fr.mono q22 (fun c k q => su_51_19 q))
  have l24 : w20 286 a = w 286 a := f23 286 a no_51_0
  have l25 : w20 286 b = w 286 b := f23 286 b no_51_0
  have l26 : w20 276 (36 * a + 17) = w 276 (36 * a + 17) := f23 276 (36 * a + 17) no_51_1
  have l27 : w20 276 (36 * b + 17) = w 276 (36 * b + 17) := f23 276 (36 * b + 17) no_51_1
  refine e_Ok.nrm (q := 31) (st' := []) rfl rfl ?_
  refine e_Ok.ps2 (x := (1, 275)) (y := (1, 275)) (q := 33) 2 rfl ?_
  refine e_Ok.getr (z := 325) rfl (el_o rfl) rfl (ef_o rfl) ((f23 275 62 no_51_4).trans (e_Has.eq hT (mt_o rfl))) ⟨by decide, by decide⟩ ?_
  refine e_Ok.callV rfl (e_dq hd rfl) rfl rfl rfl rfl (c_312_325 (e_dq hd rfl) (mT_L f23 hT) q22a rfl (by omega) (e_kn_sub (e_kn.fr f23 (fun k q => by unfold mL at q; omega) k3) (by omega) (by omega)) (e_kn_sub (e_kn.fr f23 (fun k q => by unfold mL at q; omega) k4) (by omega) (by omega)) (e_kn_sub (e_kn.fr f23 (fun k q => by unfold mL at q; omega) k3) (by omega) (by omega)) (e_kn_sub (e_kn.fr f23 (fun k q => by unfold mL at q; omega) k4) (by omega) (by omega))) (fun r28 w29 h30 => ?_)
  obtain ⟨rfl, q31, q31k⟩ := h30
  have f32 : e_fr mL w w29 := e_fr.trans f23 (e_fr.mono q31 (fun c k q => su_51_21 q))
  have l33 : w29 286 a = w 286 a := f32 286 a no_51_0
  have l34 : w29 286 b = w 286 b := f32 286 b no_51_0
  have l35 : w29 276 (36 * a + 17) = w 276 (36 * a + 17) := f32 276 (36 * a + 17) no_51_1
  have l36 : w29 276 (36 * b + 17) = w 276 (36 * b + 17) := f32 276 (36 * b + 17) no_51_1
  refine e_Ok.nrm (q := 39) (st' := []) rfl rfl ?_
  refine e_Ok.ps1 (x := (1, 275)) (q := 40) 1 rfl ?_
  refine e_Ok.getr (z := 324) rfl (el_o rfl) rfl (ef_o rfl) ((f32 275 61 no_51_2).trans (e_Has.eq hT (mt_o rfl))) ⟨by decide, by decide⟩ ?_
  refine e_Ok.ps1 (x := (1, 275)) (q := 44) 1 rfl ?_
  refine e_Ok.getr (z := 325) rfl (el_o rfl) rfl (ef_o rfl) ((f32 275 62 no_51_4).trans (e_Has.eq hT (mt_o rfl))) ⟨by decide, by decide⟩ ?_
  refine e_Ok.ps2 (x := (1, 275)) (y := (0, w2 275 60)) (q := 50) 2 rfl ?_
  refine e_Ok.getf (z := w20 275 60) rfl (el_o rfl) rfl (ef_o rfl) ((q31 275 60 no_51_5).trans rfl) (by omega) ?_
  refine e_Ok.add (z := w2 275 60 + w20 275 60) rfl rfl (by omega) ?_
  refine e_Ok.ps1 (x := (0, m)) (q := 56) 1 rfl ?_
  refine e_Ok.any rfl (eF_add_any _ _) (fun z37 z37a z37b => ?_)
  refine e_Ok.run (t' := (58, [(8, (0, w2 275 60)), (0, (1, 275)), (1, (0, a)), (2, (0, i)), (3, (0, u)), (4, (0, b)), (5, (0, k)), (6, (0, t)), (7, (0, m))], [(4, z37), (1, 325), (1, 324)], w29)) 1 rfl ?_
  refine e_Ok.callS rfl (e_dq hd rfl) rfl rfl (c_310 (e_dq hd rfl) (e_kn.fr q31 (fun k q => by unfold m2 at q; omega) (e_kn.fr q22 (fun k q => by unfold mB at q; omega) q13k)) q31k) (fun r38 w39 h40 => ?_)
  obtain ⟨z41, rfl, rfl, q42a, q42b⟩ := h40
  refine e_Ok.nrm (q := 61) (st' := [(0, z41)]) rfl rfl ?_
  refine e_Ok.retb rfl (by omega) ?_
  exact ⟨_, rfl, f32, by omega, by omega⟩
theorem no_51_6 : ¬ mL 275 24 := by unfold mL; omega
theorem no_51_7 {k : Int} : ¬ mL 294 k := by unfold mL; omega
theorem no_51_8 : ¬ mL 275 25 := by unfold mL; omega
theorem no_51_9 {k : Int} : ¬ mL 295 k := by unfold mL; omega
theorem no_51_10 : ¬ mL 275 26 := by unfold mL; omega
theorem no_51_11 {k : Int} : ¬ mL 296 k := by unfold mL; omega
theorem no_51_12 : ¬ mL 275 27 := by unfold mL; omega
theorem no_51_13 {k : Int} : ¬ mL 297 k := by unfold mL; omega
theorem no_51_14 : ¬ mL 275 28 := by unfold mL; omega
theorem no_51_15 {k : Int} : ¬ mL 298 k := by unfold mL; omega
theorem c_314 {d : Nat} (hd : 23 ≤ d) {w : eW} (hT : e_Has mTy w) {a i u s m : Int} (ha : 0 ≤ a ∧ a ≤ 3) (hi : 0 ≤ i ∧ (i < w 286 a ∨ (i = w 286 a ∧ 0 ≤ w 276 (36 * a + 17)))) (hu : 0 ≤ u ∧ u ≤ 28) (hs : 0 ≤ s ∧ s ≤ 15) (k1 : e_kn w 321 u (u + w 286 a)) (k2 : e_kn w 322 u (u + w 286 a)) : e_Ok 20 elay ecode eI d 314 (0, [(0, (1, 275)), (1, (0, a)), (2, (0, i)), (3, (0, u)), (4, (0, s)), (5, (0, m))], [], w) (fun r w' => ∃ z : Int, r = [(0, z)] ∧ e_fr mL w w' ∧ 0 ≤ z ∧ z ≤ 1) := by
  obtain ⟨d, rfl⟩ : ∃ e, d = e + 1 := ⟨d - 1, by omega⟩
  have hja := (e_Has.get hT (c := 286) (k := a) (lo := 0) (hi := 6) (mt_o rfl) (by decide))
  refine e_Ok.ps4 (x := (0, u)) (y := (0, i)) (z := (0, a)) (u := (1, 275)) (q := 4) 4 rfl ?_
  refine e_Ok.callV rfl (e_dq hd rfl) rfl rfl rfl rfl (c_305 (e_dq hd rfl) hT (by omega) (by omega) (by omega)) (fun r1 w2 h3 => ?_)
  obtain ⟨rfl, q4, q4a, q4b, q4c⟩ := h3
  have f5 : e_fr mL w w2 := e_fr.trans (e_fr.refl w) (e_fr.mono q4 (fun c k q => su_51_19 q))
  have l6 : w2 286 a = w 286 a := f5 286 a no_51_0
  have l7 : w2 276 (36 * a + 17) = w 276 (36 * a + 17) := f5 276 (36 * a + 17) no_51_1
  refine e_Ok.nrm (q := 7) (st' := []) rfl rfl ?_
  refine e_Ok.ps2 (x := (1, 275)) (y := (1, 275)) (q := 9) 2 rfl ?_
  refine e_Ok.getr (z := 324) rfl (el_o rfl) rfl (ef_o rfl) ((f5 275 61 no_51_2).trans (e_Has.eq hT (mt_o rfl))) ⟨by decide, by decide⟩ ?_
  refine e_Ok.callV rfl (e_dq hd rfl) rfl rfl rfl rfl (c_312_324 (e_dq hd rfl) (mT_L f5 hT) q4a rfl (by omega) (e_kn_sub (e_kn.fr f5 (fun k q => by unfold mL at q; omega) k1) (by omega) (by omega)) (e_kn_sub (e_kn.fr f5 (fun k q => by unfold mL at q; omega) k2) (by omega) (by omega)) (e_kn_sub (e_kn.fr f5 (fun k q => by unfold mL at q; omega) k1) (by omega) (by omega)) (e_kn_sub (e_kn.fr f5 (fun k q => by unfold mL at q; omega) k2) (by omega) (by omega))) (fun r8 w9 h10 => ?_)
  obtain ⟨rfl, q11, q11k⟩ := h10
  have f12 : e_fr mL w w9 := e_fr.trans f5 (e_fr.mono q11 (fun c k q => su_51_20 q))
  have l13 : w9 286 a = w 286 a := f12 286 a no_51_0
  have l14 : w9 276 (36 * a + 17) = w 276 (36 * a + 17) := f12 276 (36 * a + 17) no_51_1
  refine e_Ok.nrm (q := 15) (st' := []) rfl rfl ?_
  refine e_Ok.ps1 (x := (1, 275)) (q := 16) 1 rfl ?_
  refine e_Ok.getf (z := w2 275 60) rfl (el_o rfl) rfl (ef_o rfl) ((q11 275 60 no_51_3).trans rfl) (by omega) ?_
  refine e_Ok.ps1 (x := (0, m)) (q := 21) 1 rfl ?_
  refine e_Ok.any rfl (eF_add_any _ _) (fun z15 z15a z15b => ?_)
  refine e_Ok.run (t' := (26, [(6, (4, z15)), (0, (1, 275)), (1, (0, a)), (2, (0, i)), (3, (0, u)), (4, (0, s)), (5, (0, m))], [(1, 275)], w9)) 3 rfl ?_
  refine e_Ok.getr (z := 294) rfl (el_o rfl) rfl (ef_o rfl) ((f12 275 24 no_51_6).trans (e_Has.eq hT (mt_o rfl))) ⟨by decide, by decide⟩ ?_
  refine e_Ok.ps1 (x := (0, s)) (q := 31) 1 rfl ?_
  have h16 := (e_Has.get hT (c := 294) (k := s) (lo := 0) (hi := 1) (mt_o rfl) (by decide))
  refine e_Ok.ald (z := w 294 s) rfl (el_o rfl) rfl (by omega) ((f12 294 s no_51_7).trans rfl) (e_bq h16 (by decide) (by decide)) ?_
  refine e_Ok.if1 rfl (fun h17 => ?_) (fun h17 => ?_)
  · replace h17 : (w 294 s : Int) ≠ 0 := h17
    refine e_Ok.ps1 (x := (1, 275)) (q := 209) 1 rfl ?_
    refine e_Ok.getr (z := 295) rfl (el_o rfl) rfl (ef_o rfl) ((f12 275 25 no_51_8).trans (e_Has.eq hT (mt_o rfl))) ⟨by decide, by decide⟩ ?_
    refine e_Ok.ps1 (x := (0, s)) (q := 214) 1 rfl ?_
    have h18 := (e_Has.get hT (c := 295) (k := s) (lo := (-16000)) (hi := 16000) (mt_o rfl) (by decide))
    refine e_Ok.ald (z := w 295 s) rfl (el_o rfl) rfl (by omega) ((f12 295 s no_51_9).trans rfl) (e_bq h18 (by decide) (by decide)) ?_
    refine e_Ok.run (t' := (218, [(8, (0, w 295 s)), (6, (4, z15)), (0, (1, 275)), (1, (0, a)), (2, (0, i)), (3, (0, u)), (4, (0, s)), (5, (0, m))], [(1, 275)], w9)) 2 rfl ?_
    refine e_Ok.getr (z := 296) rfl (el_o rfl) rfl (ef_o rfl) ((f12 275 26 no_51_10).trans (e_Has.eq hT (mt_o rfl))) ⟨by decide, by decide⟩ ?_
    refine e_Ok.ps1 (x := (0, s)) (q := 223) 1 rfl ?_
    have h19 := (e_Has.get hT (c := 296) (k := s) (lo := (-16000)) (hi := 16000) (mt_o rfl) (by decide))
    refine e_Ok.ald (z := w 296 s) rfl (el_o rfl) rfl (by omega) ((f12 296 s no_51_11).trans rfl) (e_bq h19 (by decide) (by decide)) ?_
    refine e_Ok.run (t' := (229, [(9, (0, w 296 s)), (8, (0, w 295 s)), (6, (4, z15)), (0, (1, 275)), (1, (0, a)), (2, (0, i)), (3, (0, u)), (4, (0, s)), (5, (0, m))], [(1, 275), (0, w 295 s)], w9)) 3 rfl ?_
    refine e_Ok.getr (z := 297) rfl (el_o rfl) rfl (ef_o rfl) ((f12 275 27 no_51_12).trans (e_Has.eq hT (mt_o rfl))) ⟨by decide, by decide⟩ ?_
    refine e_Ok.ps1 (x := (0, s)) (q := 234) 1 rfl ?_
    have h20 := (e_Has.get hT (c := 297) (k := s) (lo := (-2147483648)) (hi := 2147483647) (mt_o rfl) (by decide))
    refine e_Ok.ald (z := w 297 s) rfl (el_o rfl) rfl (by omega) ((f12 297 s no_51_13).trans rfl) (e_bq h20 (by decide) (by decide)) ?_
    refine e_Ok.any rfl (eF_add_any _ _) (fun z21 z21a z21b => ?_)
    refine e_Ok.run (t' := (241, [(10, (0, z21)), (9, (0, w 296 s)), (8, (0, w 295 s)), (6, (4, z15)), (0, (1, 275)), (1, (0, a)), (2, (0, i)), (3, (0, u)), (4, (0, s)), (5, (0, m))], [(1, 275), (0, w 296 s)], w9)) 3 rfl ?_
    refine e_Ok.getr (z := 298) rfl (el_o rfl) rfl (ef_o rfl) ((f12 275 28 no_51_14).trans (e_Has.eq hT (mt_o rfl))) ⟨by decide, by decide⟩ ?_
    refine e_Ok.ps1 (x := (0, s)) (q := 246) 1 rfl ?_
    have h22 := (e_Has.get hT (c := 298) (k := s) (lo := (-2147483648)) (hi := 2147483647) (mt_o rfl) (by decide))
    refine e_Ok.ald (z := w 298 s) rfl (el_o rfl) rfl (by omega) ((f12 298 s no_51_15).trans rfl) (e_bq h22 (by decide) (by decide)) ?_
    refine e_Ok.any rfl (eF_add_any _ _) (fun z23 z23a z23b => ?_)
    refine e_Ok.run (t' := (251, [(11, (0, z23)), (10, (0, z21)), (9, (0, w 296 s)), (8, (0, w 295 s)), (6, (4, z15)), (0, (1, 275)), (1, (0, a)), (2, (0, i)), (3, (0, u)), (4, (0, s)), (5, (0, m))], [(1, 275)], w9)) 2 rfl ?_
    refine e_Ok.getr (z := 324) rfl (el_o rfl) rfl (ef_o rfl) ((f12 275 61 no_51_2).trans (e_Has.eq hT (mt_o rfl))) ⟨by decide, by decide⟩ ?_
    refine e_Ok.ps1 (x := (0, 0)) (q := 255) 1 rfl ?_
    have h24 := (q11k 0 (by omega) (by omega))
    refine e_Ok.ald (z := w9 324 0) rfl (el_o rfl) rfl (by omega) rfl (by omega) ?_
    refine e_Ok.run (t' := (263, [(11, (0, z23)), (10, (0, z21)), (9, (0, w 296 s)), (8, (0, w 295 s)), (6, (4, z15)), (0, (1, 275)), (1, (0, a)), (2, (0, i)), (3, (0, u)), (4, (0, s)), (5, (0, m))], [(4, z21), (4, w 295 s), (4, w9 324 0)], w9)) 5 rfl ?_
    refine e_Ok.callS rfl (e_dq hd rfl) rfl rfl (c_266) (fun r25 w26 h27 => ?_)
    obtain ⟨z28, rfl, rfl, q29⟩ := h27
    obtain ⟨rfl, q29⟩ | ⟨rfl, q29⟩ := q29
    · refine e_Ok.nrm (q := 266) (st' := [(0, 1)]) rfl rfl ?_
      refine e_Ok.if1 rfl (fun h30 => ?_) (fun h30 => ?_)
      · replace h30 : (1 : Int) = 0 := h30
        exfalso; omega
      · replace h30 : (1 : Int) ≠ 0 := (show ¬ ((1 : Int) = 0) from h30)
        refine e_Ok.ps1 (x := (1, 275)) (q := 270) 1 rfl ?_
        refine e_Ok.getr (z := 324) rfl (el_o rfl) rfl (ef_o rfl) ((f12 275 61 no_51_2).trans (e_Has.eq hT (mt_o rfl))) ⟨by decide, by decide⟩ ?_
        refine e_Ok.ps1 (x := (0, 1)) (q := 274) 1 rfl ?_
        have h31 := (q11k 1 (by omega) (by omega))
        refine e_Ok.ald (z := w9 324 1) rfl (el_o rfl) rfl (by omega) rfl (by omega) ?_
        refine e_Ok.run (t' := (282, [(11, (0, z23)), (10, (0, z21)), (9, (0, w 296 s)), (8, (0, w 295 s)), (6, (4, z15)), (0, (1, 275)), (1, (0, a)), (2, (0, i)), (3, (0, u)), (4, (0, s)), (5, (0, m))], [(4, z23), (4, w 296 s), (4, w9 324 1)], w9)) 5 rfl ?_
        refine e_Ok.callS rfl (e_dq hd rfl) rfl rfl (c_266) (fun r32 w33 h34 => ?_)
        obtain ⟨z35, rfl, rfl, q36⟩ := h34
        obtain ⟨rfl, q36⟩ | ⟨rfl, q36⟩ := q36
        · refine e_Ok.nrm (q := 285) (st' := [(0, 1)]) rfl rfl ?_
          refine e_Ok.if1 rfl (fun h37 => ?_) (fun h37 => ?_)
          · replace h37 : (1 : Int) = 0 := h37
            exfalso; omega
          · replace h37 : (1 : Int) ≠ 0 := (show ¬ ((1 : Int) = 0) from h37)
            refine e_Ok.ps1 (x := (0, 1)) (q := 289) 1 rfl ?_
            refine e_Ok.rets rfl rfl ?_
            exact ⟨_, rfl, f12, by omega, by omega⟩
        · refine e_Ok.nrm (q := 285) (st' := [(0, 0)]) rfl rfl ?_
          refine e_Ok.if1 rfl (fun h38 => ?_) (fun h38 => ?_)
          · replace h38 : (0 : Int) = 0 := h38
            refine e_Ok.run (t' := (296, [(13, (0, 0)), (12, (0, 0)), (11, (0, z23)), (10, (0, z21)), (9, (0, w 296 s)), (8, (0, w 295 s)), (6, (4, z15)), (0, (1, 275)), (1, (0, a)), (2, (0, i)), (3, (0, u)), (4, (0, s)), (5, (0, m))], [], w9)) 4 rfl ?_
            have hL39 : ∀ (n : Nat) (y1 : Int) (y2 : Int) (v1 : eW), e_fr mL w v1 ∧ e_kn v1 324 0 3 ∧ 0 ≤ y1 ∧ y1 ≤ 1 ∧ 0 ≤ y2 ∧ y2 ≤ 4 → 4 - y2 < n → e_Ok 20 elay ecode eI (d + 1) 314 (296, [(0, (1, 275)), (6, (4, z15)), (8, (0, w 295 s)), (9, (0, w 296 s)), (10, (0, z21)), (11, (0, z23)), (12, (0, y1)), (13, (0, y2))], [], v1) (fun r w' => ∃ z : Int, r = [(0, z)] ∧ e_fr mL w w' ∧ 0 ≤ z ∧ z ≤ 1) := by
              intro n
              induction n with
              | zero => intro y1 y2 v1 hj hm; obtain ⟨j41, j42, j43, j44⟩ := hj; exfalso; omega
              | succ n ih40 =>
                intro y1 y2 v1 hj hm
                obtain ⟨j41, j42, j43, j44⟩ := hj
                have l45 : v1 286 a = w 286 a := j41 286 a no_51_0
                have l46 : v1 276 (36 * a + 17) = w 276 (36 * a + 17) := j41 276 (36 * a + 17) no_51_1
                refine e_Ok.run (t' := (299, [(0, (1, 275)), (6, (4, z15)), (8, (0, w 295 s)), (9, (0, w 296 s)), (10, (0, z21)), (11, (0, z23)), (12, (0, y1)), (13, (0, y2))], [(0, 4), (0, y2)], v1)) 2 rfl ?_
                refine e_Ok.if2 rfl (fun h47 => ?_) (fun h47 => ?_)
                · replace h47 : (y2 : Int) ≥ 4 := h47
                  refine e_Ok.ps1 (x := (0, y1)) (q := 389) 1 rfl ?_
                  refine e_Ok.retb rfl (by omega) ?_
                  exact ⟨_, rfl, j41, by omega, by omega⟩
                · replace h47 : (y2 : Int) < 4 := Int.not_le.mp (show ¬ ((y2 : Int) ≥ 4) from h47)
                  refine e_Ok.ps1 (x := (0, y1)) (q := 304) 1 rfl ?_
                  refine e_Ok.if1 rfl (fun h48 => ?_) (fun h48 => ?_)
                  · replace h48 : (y1 : Int) ≠ 0 := h48
                    refine e_Ok.ps1 (x := (0, y1)) (q := 389) 1 rfl ?_
                    refine e_Ok.retb rfl (by omega) ?_
                    exact ⟨_, rfl, j41, by omega, by omega⟩
                  · replace h48 : (y1 : Int) = 0 := Classical.not_not.mp (show ¬ ((y1 : Int) ≠ 0) from h48)
                    refine e_Ok.ps2 (x := (1, 275)) (y := (1, 275)) (q := 309) 2 rfl ?_
                    refine e_Ok.getr (z := 325) rfl (el_o rfl) rfl (ef_o rfl) ((j41 275 62 no_51_4).trans (e_Has.eq hT (mt_o rfl))) ⟨by decide, by decide⟩ ?_
                    refine e_Ok.ps2 (x := (0, 3)) (y := (0, y2)) (q := 315) 2 rfl ?_
                    have hJ51 : ∀ m50 : Int, (-16000) ≤ m50 ∧ m50 ≤ 2147483647 → e_Ok 20 elay ecode eI (d + 1) 314 (325, [(0, (1, 275)), (6, (4, z15)), (8, (0, w 295 s)), (9, (0, w 296 s)), (10, (0, z21)), (11, (0, z23)), (12, (0, y1)), (13, (0, y2))], [(0, m50), (1, 325), (1, 275)], v1) (fun r w' => ∃ z : Int, r = [(0, z)] ∧ e_fr mL w w' ∧ 0 ≤ z ∧ z ≤ 1) := by
                      intro m50 m50r
                      refine e_Ok.run (t' := (328, [(0, (1, 275)), (6, (4, z15)), (8, (0, w 295 s)), (9, (0, w 296 s)), (10, (0, z21)), (11, (0, z23)), (12, (0, y1)), (13, (0, y2))], [(0, 1), (0, y2), (0, m50), (1, 325), (1, 275)], v1)) 2 rfl ?_
                      have hJ54 : ∀ m53 : Int, (-2147483648) ≤ m53 ∧ m53 ≤ 2147483647 → e_Ok 20 elay ecode eI (d + 1) 314 (338, [(0, (1, 275)), (6, (4, z15)), (8, (0, w 295 s)), (9, (0, w 296 s)), (10, (0, z21)), (11, (0, z23)), (12, (0, y1)), (13, (0, y2))], [(0, m53), (0, m50), (1, 325), (1, 275)], v1) (fun r w' => ∃ z : Int, r = [(0, z)] ∧ e_fr mL w w' ∧ 0 ≤ z ∧ z ≤ 1) := by
                        intro m53 m53r
                        refine e_Ok.run (t' := (341, [(0, (1, 275)), (6, (4, z15)), (8, (0, w 295 s)), (9, (0, w 296 s)), (10, (0, z21)), (11, (0, z23)), (12, (0, y1)), (13, (0, y2))], [(0, 2), (0, y2), (0, m53), (0, m50), (1, 325), (1, 275)], v1)) 2 rfl ?_
                        have hJ57 : ∀ m56 : Int, (-16000) ≤ m56 ∧ m56 ≤ 2147483647 → e_Ok 20 elay ecode eI (d + 1) 314 (351, [(0, (1, 275)), (6, (4, z15)), (8, (0, w 295 s)), (9, (0, w 296 s)), (10, (0, z21)), (11, (0, z23)), (12, (0, y1)), (13, (0, y2))], [(0, m56), (0, m53), (0, m50), (1, 325), (1, 275)], v1) (fun r w' => ∃ z : Int, r = [(0, z)] ∧ e_fr mL w w' ∧ 0 ≤ z ∧ z ≤ 1) := by
                          intro m56 m56r
                          refine e_Ok.run (t' := (353, [(0, (1, 275)), (6, (4, z15)), (8, (0, w 295 s)), (9, (0, w 296 s)), (10, (0, z21)), (11, (0, z23)), (12, (0, y1)), (13, (0, y2))], [(0, y2), (0, m56), (0, m53), (0, m50), (1, 325), (1, 275)], v1)) 1 rfl ?_
                          have hJ60 : ∀ m59 : Int, (-2147483648) ≤ m59 ∧ m59 ≤ 2147483647 → e_Ok 20 elay ecode eI (d + 1) 314 (363, [(0, (1, 275)), (6, (4, z15)), (8, (0, w 295 s)), (9, (0, w 296 s)), (10, (0, z21)), (11, (0, z23)), (12, (0, y1)), (13, (0, y2))], [(0, m59), (0, m56), (0, m53), (0, m50), (1, 325), (1, 275)], v1) (fun r w' => ∃ z : Int, r = [(0, z)] ∧ e_fr mL w w' ∧ 0 ≤ z ∧ z ≤ 1) := by
                            intro m59 m59r
                            refine e_Ok.callV rfl (e_dq hd rfl) rfl rfl rfl rfl (c_311_325 (by omega) (by omega) (by omega) (by omega)) (fun r61 w62 h63 => ?_)
                            obtain ⟨rfl, q64, q64k⟩ := h63
                            have f65 : e_fr mL w w62 := e_fr.trans j41 (e_fr.mono q64 (fun c k q => su_51_21 q))
                            have l66 : w62 286 a = w 286 a := f65 286 a no_51_0
                            have l67 : w62 276 (36 * a + 17) = w 276 (36 * a + 17) := f65 276 (36 * a + 17) no_51_1
                            show e_Ok 20 elay ecode eI (d + 1) 314 (366, [(0, (1, 275)), (6, (4, z15)), (8, (0, w 295 s)), (9, (0, w 296 s)), (10, (0, z21)), (11, (0, z23)), (12, (0, y1)), (13, (0, y2))], [], w62) _
                            refine e_Ok.ps1 (x := (1, 275)) (q := 367) 1 rfl ?_
                            refine e_Ok.getr (z := 324) rfl (el_o rfl) rfl (ef_o rfl) ((f65 275 61 no_51_2).trans (e_Has.eq hT (mt_o rfl))) ⟨by decide, by decide⟩ ?_
                            refine e_Ok.ps1 (x := (1, 275)) (q := 371) 1 rfl ?_
                            refine e_Ok.getr (z := 325) rfl (el_o rfl) rfl (ef_o rfl) ((f65 275 62 no_51_4).trans (e_Has.eq hT (mt_o rfl))) ⟨by decide, by decide⟩ ?_
                            refine e_Ok.ps1 (x := (4, z15)) (q := 376) 1 rfl ?_
                            refine e_Ok.callS rfl (e_dq hd rfl) rfl rfl (c_310 (e_dq hd rfl) (e_kn.fr q64 (fun k q => by unfold m2 at q; omega) j42) q64k) (fun r68 w69 h70 => ?_)
                            obtain ⟨z71, rfl, rfl, q72a, q72b⟩ := h70
                            refine e_Ok.nrm (q := 379) (st' := [(0, z71)]) rfl rfl ?_
                            refine e_Ok.run (t' := (381, [(12, (0, z71)), (0, (1, 275)), (6, (4, z15)), (8, (0, w 295 s)), (9, (0, w 296 s)), (10, (0, z21)), (11, (0, z23)), (13, (0, y2))], [], w62)) 1 rfl ?_
                            refine e_Ok.inc (z := y2 + 1) rfl rfl (by first | with_reducible rfl | omega) (by omega) ?_
                            show e_Ok 20 elay ecode eI (d + 1) 314 (384, [(13, (0, y2 + 1)), (12, (0, z71)), (0, (1, 275)), (6, (4, z15)), (8, (0, w 295 s)), (9, (0, w 296 s)), (10, (0, z21)), (11, (0, z23))], [], w62) _
                            refine e_Ok.ps0 (q := 296) 1 rfl ?_
                            refine e_Ok.sub eAlk (e_sub_of rfl ?_) (ih40 z71 (y2 + 1) w62 ⟨f65, (e_kn.fr q64 (fun k q => by unfold m2 at q; omega) j42), by omega, by omega⟩ (by omega))
                            exact ⟨rfl, rfl, rfl, rfl, rfl, rfl, rfl, rfl, trivial⟩
                          refine e_Ok.if1 rfl (fun h58 => ?_) (fun h58 => ?_)
                          · exact e_Ok.run 1 rfl (hJ60 z23 (by omega))
                          · exact e_Ok.run 2 rfl (hJ60 (w 296 s) (by omega))
                        refine e_Ok.if2 rfl (fun h55 => ?_) (fun h55 => ?_)
                        · exact e_Ok.run 1 rfl (hJ57 z21 (by omega))
                        · exact e_Ok.run 2 rfl (hJ57 (w 295 s) (by omega))
                      refine e_Ok.if2 rfl (fun h52 => ?_) (fun h52 => ?_)
                      · exact e_Ok.run 1 rfl (hJ54 (w 296 s) (by omega))
                      · exact e_Ok.run 2 rfl (hJ54 z23 (by omega))
                    refine e_Ok.if2 rfl (fun h49 => ?_) (fun h49 => ?_)
                    · exact e_Ok.run 1 rfl (hJ51 (w 295 s) (by omega))
                    · exact e_Ok.run 2 rfl (hJ51 z21 (by omega))
            refine e_Ok.sub eAlk (e_sub_of rfl ?_) (hL39 (4 + 1 : Int).toNat 0 0 w9 ⟨f12, q11k, by omega, by omega⟩ (by omega))
            exact ⟨rfl, rfl, rfl, rfl, rfl, rfl, rfl, rfl, trivial⟩
          · replace h38 : (0 : Int) ≠ 0 := (show ¬ ((0 : Int) = 0) from h38)
            exfalso; omega
    · refine e_Ok.nrm (q := 266) (st' := [(0, 0)]) rfl rfl ?_
      refine e_Ok.if1 rfl (fun h73 => ?_) (fun h73 => ?_)
      · replace h73 : (0 : Int) = 0 := h73
        refine e_Ok.run (t' := (296, [(13, (0, 0)), (12, (0, 0)), (11, (0, z23)), (10, (0, z21)), (9, (0, w 296 s)), (8, (0, w 295 s)), (6, (4, z15)), (0, (1, 275)), (1, (0, a)), (2, (0, i)), (3, (0, u)), (4, (0, s)), (5, (0, m))], [], w9)) 4 rfl ?_
        have hL74 : ∀ (n : Nat) (y1 : Int) (y2 : Int) (v1 : eW), e_fr mL w v1 ∧ e_kn v1 324 0 3 ∧ 0 ≤ y1 ∧ y1 ≤ 1 ∧ 0 ≤ y2 ∧ y2 ≤ 4 → 4 - y2 < n → e_Ok 20 elay ecode eI (d + 1) 314 (296, [(0, (1, 275)), (6, (4, z15)), (8, (0, w 295 s)), (9, (0, w 296 s)), (10, (0, z21)), (11, (0, z23)), (12, (0, y1)), (13, (0, y2))], [], v1) (fun r w' => ∃ z : Int, r = [(0, z)] ∧ e_fr mL w w' ∧ 0 ≤ z ∧ z ≤ 1) := by
          intro n
          induction n with
          | zero => intro y1 y2 v1 hj hm; obtain ⟨j76, j77, j78, j79⟩ := hj; exfalso; omega
          | succ n ih75 =>
            intro y1 y2 v1 hj hm
            obtain ⟨j76, j77, j78, j79⟩ := hj
            have l80 : v1 286 a = w 286 a := j76 286 a no_51_0
            have l81 : v1 276 (36 * a + 17) = w 276 (36 * a + 17) := j76 276 (36 * a + 17) no_51_1
            refine e_Ok.run (t' := (299, [(0, (1, 275)), (6, (4, z15)), (8, (0, w 295 s)), (9, (0, w 296 s)), (10, (0, z21)), (11, (0, z23)), (12, (0, y1)), (13, (0, y2))], [(0, 4), (0, y2)], v1)) 2 rfl ?_
            refine e_Ok.if2 rfl (fun h82 => ?_) (fun h82 => ?_)
            · replace h82 : (y2 : Int) ≥ 4 := h82
              refine e_Ok.ps1 (x := (0, y1)) (q := 389) 1 rfl ?_
              refine e_Ok.retb rfl (by omega) ?_
              exact ⟨_, rfl, j76, by omega, by omega⟩
            · replace h82 : (y2 : Int) < 4 := Int.not_le.mp (show ¬ ((y2 : Int) ≥ 4) from h82)
              refine e_Ok.ps1 (x := (0, y1)) (q := 304) 1 rfl ?_
              refine e_Ok.if1 rfl (fun h83 => ?_) (fun h83 => ?_)
              · replace h83 : (y1 : Int) ≠ 0 := h83
                refine e_Ok.ps1 (x := (0, y1)) (q := 389) 1 rfl ?_
                refine e_Ok.retb rfl (by omega) ?_
                exact ⟨_, rfl, j76, by omega, by omega⟩
              · replace h83 : (y1 : Int) = 0 := Classical.not_not.mp (show ¬ ((y1 : Int) ≠ 0) from h83)
                refine e_Ok.ps2 (x := (1, 275)) (y := (1, 275)) (q := 309) 2 rfl ?_
                refine e_Ok.getr (z := 325) rfl (el_o rfl) rfl (ef_o rfl) ((j76 275 62 no_51_4).trans (e_Has.eq hT (mt_o rfl))) ⟨by decide, by decide⟩ ?_
                refine e_Ok.ps2 (x := (0, 3)) (y := (0, y2)) (q := 315) 2 rfl ?_
                have hJ86 : ∀ m85 : Int, (-2147483648) ≤ m85 ∧ m85 ≤ 2147483647 → e_Ok 20 elay ecode eI (d + 1) 314 (325, [(0, (1, 275)), (6, (4, z15)), (8, (0, w 295 s)), (9, (0, w 296 s)), (10, (0, z21)), (11, (0, z23)), (12, (0, y1)), (13, (0, y2))], [(0, m85), (1, 325), (1, 275)], v1) (fun r w' => ∃ z : Int, r = [(0, z)] ∧ e_fr mL w w' ∧ 0 ≤ z ∧ z ≤ 1) := by
                  intro m85 m85r
                  refine e_Ok.run (t' := (328, [(0, (1, 275)), (6, (4, z15)), (8, (0, w 295 s)), (9, (0, w 296 s)), (10, (0, z21)), (11, (0, z23)), (12, (0, y1)), (13, (0, y2))], [(0, 1), (0, y2), (0, m85), (1, 325), (1, 275)], v1)) 2 rfl ?_
                  have hJ89 : ∀ m88 : Int, (-2147483648) ≤ m88 ∧ m88 ≤ 2147483647 → e_Ok 20 elay ecode eI (d + 1) 314 (338, [(0, (1, 275)), (6, (4, z15)), (8, (0, w 295 s)), (9, (0, w 296 s)), (10, (0, z21)), (11, (0, z23)), (12, (0, y1)), (13, (0, y2))], [(0, m88), (0, m85), (1, 325), (1, 275)], v1) (fun r w' => ∃ z : Int, r = [(0, z)] ∧ e_fr mL w w' ∧ 0 ≤ z ∧ z ≤ 1) := by
                    intro m88 m88r
                    refine e_Ok.run (t' := (341, [(0, (1, 275)), (6, (4, z15)), (8, (0, w 295 s)), (9, (0, w 296 s)), (10, (0, z21)), (11, (0, z23)), (12, (0, y1)), (13, (0, y2))], [(0, 2), (0, y2), (0, m88), (0, m85), (1, 325), (1, 275)], v1)) 2 rfl ?_
                    have hJ92 : ∀ m91 : Int, (-2147483648) ≤ m91 ∧ m91 ≤ 2147483647 → e_Ok 20 elay ecode eI (d + 1) 314 (351, [(0, (1, 275)), (6, (4, z15)), (8, (0, w 295 s)), (9, (0, w 296 s)), (10, (0, z21)), (11, (0, z23)), (12, (0, y1)), (13, (0, y2))], [(0, m91), (0, m88), (0, m85), (1, 325), (1, 275)], v1) (fun r w' => ∃ z : Int, r = [(0, z)] ∧ e_fr mL w w' ∧ 0 ≤ z ∧ z ≤ 1) := by
                      intro m91 m91r
                      refine e_Ok.run (t' := (353, [(0, (1, 275)), (6, (4, z15)), (8, (0, w 295 s)), (9, (0, w 296 s)), (10, (0, z21)), (11, (0, z23)), (12, (0, y1)), (13, (0, y2))], [(0, y2), (0, m91), (0, m88), (0, m85), (1, 325), (1, 275)], v1)) 1 rfl ?_
                      have hJ95 : ∀ m94 : Int, (-2147483648) ≤ m94 ∧ m94 ≤ 2147483647 → e_Ok 20 elay ecode eI (d + 1) 314 (363, [(0, (1, 275)), (6, (4, z15)), (8, (0, w 295 s)), (9, (0, w 296 s)), (10, (0, z21)), (11, (0, z23)), (12, (0, y1)), (13, (0, y2))], [(0, m94), (0, m91), (0, m88), (0, m85), (1, 325), (1, 275)], v1) (fun r w' => ∃ z : Int, r = [(0, z)] ∧ e_fr mL w w' ∧ 0 ≤ z ∧ z ≤ 1) := by
                        intro m94 m94r
                        refine e_Ok.callV rfl (e_dq hd rfl) rfl rfl rfl rfl (c_311_325 (by omega) (by omega) (by omega) (by omega)) (fun r96 w97 h98 => ?_)
                        obtain ⟨rfl, q99, q99k⟩ := h98
                        have f100 : e_fr mL w w97 := e_fr.trans j76 (e_fr.mono q99 (fun c k q => su_51_21 q))
                        have l101 : w97 286 a = w 286 a := f100 286 a no_51_0
                        have l102 : w97 276 (36 * a + 17) = w 276 (36 * a + 17) := f100 276 (36 * a + 17) no_51_1
                        show e_Ok 20 elay ecode eI (d + 1) 314 (366, [(0, (1, 275)), (6, (4, z15)), (8, (0, w 295 s)), (9, (0, w 296 s)), (10, (0, z21)), (11, (0, z23)), (12, (0, y1)), (13, (0, y2))], [], w97) _
                        refine e_Ok.ps1 (x := (1, 275)) (q := 367) 1 rfl ?_
                        refine e_Ok.getr (z := 324) rfl (el_o rfl) rfl (ef_o rfl) ((f100 275 61 no_51_2).trans (e_Has.eq hT (mt_o rfl))) ⟨by decide, by decide⟩ ?_
                        refine e_Ok.ps1 (x := (1, 275)) (q := 371) 1 rfl ?_
                        refine e_Ok.getr (z := 325) rfl (el_o rfl) rfl (ef_o rfl) ((f100 275 62 no_51_4).trans (e_Has.eq hT (mt_o rfl))) ⟨by decide, by decide⟩ ?_
                        refine e_Ok.ps1 (x := (4, z15)) (q := 376) 1 rfl ?_
                        refine e_Ok.callS rfl (e_dq hd rfl) rfl rfl (c_310 (e_dq hd rfl) (e_kn.fr q99 (fun k q => by unfold m2 at q; omega) j77) q99k) (fun r103 w104 h105 => ?_)
                        obtain ⟨z106, rfl, rfl, q107a, q107b⟩ := h105
                        refine e_Ok.nrm (q := 379) (st' := [(0, z106)]) rfl rfl ?_
                        refine e_Ok.run (t' := (381, [(12, (0, z106)), (0, (1, 275)), (6, (4, z15)), (8, (0, w 295 s)), (9, (0, w 296 s)), (10, (0, z21)), (11, (0, z23)), (13, (0, y2))], [], w97)) 1 rfl ?_
                        refine e_Ok.inc (z := y2 + 1) rfl rfl (by first | with_reducible rfl | omega) (by omega) ?_
                        show e_Ok 20 elay ecode eI (d + 1) 314 (384, [(13, (0, y2 + 1)), (12, (0, z106)), (0, (1, 275)), (6, (4, z15)), (8, (0, w 295 s)), (9, (0, w 296 s)), (10, (0, z21)), (11, (0, z23))], [], w97) _
                        refine e_Ok.ps0 (q := 296) 1 rfl ?_
                        refine e_Ok.sub eAlk (e_sub_of rfl ?_) (ih75 z106 (y2 + 1) w97 ⟨f100, (e_kn.fr q99 (fun k q => by unfold m2 at q; omega) j77), by omega, by omega⟩ (by omega))
                        exact ⟨rfl, rfl, rfl, rfl, rfl, rfl, rfl, rfl, trivial⟩
                      refine e_Ok.if1 rfl (fun h93 => ?_) (fun h93 => ?_)
                      · exact e_Ok.run 1 rfl (hJ95 z23 (by omega))
                      · exact e_Ok.run 2 rfl (hJ95 (w 296 s) (by omega))
                    refine e_Ok.if2 rfl (fun h90 => ?_) (fun h90 => ?_)
                    · exact e_Ok.run 1 rfl (hJ92 z21 (by omega))
                    · exact e_Ok.run 2 rfl (hJ92 (w 295 s) (by omega))
                  refine e_Ok.if2 rfl (fun h87 => ?_) (fun h87 => ?_)
                  · exact e_Ok.run 1 rfl (hJ89 (w 296 s) (by omega))
                  · exact e_Ok.run 2 rfl (hJ89 z23 (by omega))
                refine e_Ok.if2 rfl (fun h84 => ?_) (fun h84 => ?_)
                · exact e_Ok.run 1 rfl (hJ86 (w 295 s) (by omega))
                · exact e_Ok.run 2 rfl (hJ86 z21 (by omega))
        refine e_Ok.sub eAlk (e_sub_of rfl ?_) (hL74 (4 + 1 : Int).toNat 0 0 w9 ⟨f12, q11k, by omega, by omega⟩ (by omega))
        exact ⟨rfl, rfl, rfl, rfl, rfl, rfl, rfl, rfl, trivial⟩
      · replace h73 : (0 : Int) ≠ 0 := (show ¬ ((0 : Int) = 0) from h73)
        exfalso; omega
  · replace h17 : (w 294 s : Int) = 0 := Classical.not_not.mp (show ¬ ((w 294 s : Int) ≠ 0) from h17)
    refine e_Ok.ps1 (x := (1, 275)) (q := 36) 1 rfl ?_
    refine e_Ok.getr (z := 295) rfl (el_o rfl) rfl (ef_o rfl) ((f12 275 25 no_51_8).trans (e_Has.eq hT (mt_o rfl))) ⟨by decide, by decide⟩ ?_
    refine e_Ok.ps1 (x := (0, s)) (q := 41) 1 rfl ?_
    have h108 := (e_Has.get hT (c := 295) (k := s) (lo := (-16000)) (hi := 16000) (mt_o rfl) (by decide))
    refine e_Ok.ald (z := w 295 s) rfl (el_o rfl) rfl (by omega) ((f12 295 s no_51_9).trans rfl) (e_bq h108 (by decide) (by decide)) ?_
    refine e_Ok.run (t' := (44, [(6, (4, z15)), (0, (1, 275)), (1, (0, a)), (2, (0, i)), (3, (0, u)), (4, (0, s)), (5, (0, m))], [(1, 275), (4, w 295 s)], w9)) 2 rfl ?_
    refine e_Ok.getr (z := 295) rfl (el_o rfl) rfl (ef_o rfl) ((f12 275 25 no_51_8).trans (e_Has.eq hT (mt_o rfl))) ⟨by decide, by decide⟩ ?_
    refine e_Ok.ps1 (x := (0, s)) (q := 49) 1 rfl ?_
    refine e_Ok.ald (z := w 295 s) rfl (el_o rfl) rfl (by omega) ((f12 295 s no_51_9).trans rfl) (by omega) ?_
    refine e_Ok.run (t' := (52, [(6, (4, z15)), (0, (1, 275)), (1, (0, a)), (2, (0, i)), (3, (0, u)), (4, (0, s)), (5, (0, m))], [(1, 275), (4, w 295 s), (4, w 295 s)], w9)) 2 rfl ?_
    refine e_Ok.getr (z := 324) rfl (el_o rfl) rfl (ef_o rfl) ((f12 275 61 no_51_2).trans (e_Has.eq hT (mt_o rfl))) ⟨by decide, by decide⟩ ?_
    refine e_Ok.ps1 (x := (0, 0)) (q := 56) 1 rfl ?_
    have h109 := (q11k 0 (by omega) (by omega))
    refine e_Ok.ald (z := w9 324 0) rfl (el_o rfl) rfl (by omega) rfl (by omega) ?_
    refine e_Ok.run (t' := (59, [(6, (4, z15)), (0, (1, 275)), (1, (0, a)), (2, (0, i)), (3, (0, u)), (4, (0, s)), (5, (0, m))], [(1, 275), (4, w9 324 0), (4, w 295 s), (4, w 295 s)], w9)) 2 rfl ?_
    refine e_Ok.getr (z := 324) rfl (el_o rfl) rfl (ef_o rfl) ((f12 275 61 no_51_2).trans (e_Has.eq hT (mt_o rfl))) ⟨by decide, by decide⟩ ?_
    refine e_Ok.ps1 (x := (0, 2)) (q := 63) 1 rfl ?_
    have h110 := (q11k 2 (by omega) (by omega))
    refine e_Ok.ald (z := w9 324 2) rfl (el_o rfl) rfl (by omega) rfl (by omega) ?_
    refine e_Ok.run (t' := (68, [(6, (4, z15)), (0, (1, 275)), (1, (0, a)), (2, (0, i)), (3, (0, u)), (4, (0, s)), (5, (0, m))], [(1, 275), (4, z15), (4, w9 324 2), (4, w9 324 0), (4, w 295 s), (4, w 295 s)], w9)) 3 rfl ?_
    refine e_Ok.getr (z := 297) rfl (el_o rfl) rfl (ef_o rfl) ((f12 275 27 no_51_12).trans (e_Has.eq hT (mt_o rfl))) ⟨by decide, by decide⟩ ?_
    refine e_Ok.ps1 (x := (0, s)) (q := 73) 1 rfl ?_
    have h111 := (e_Has.get hT (c := 297) (k := s) (lo := (-2147483648)) (hi := 2147483647) (mt_o rfl) (by decide))
    refine e_Ok.ald (z := w 297 s) rfl (el_o rfl) rfl (by omega) ((f12 297 s no_51_13).trans rfl) (e_bq h111 (by decide) (by decide)) ?_
    refine e_Ok.run (t' := (75, [(6, (4, z15)), (0, (1, 275)), (1, (0, a)), (2, (0, i)), (3, (0, u)), (4, (0, s)), (5, (0, m))], [(4, w 297 s), (4, z15), (4, w9 324 2), (4, w9 324 0), (4, w 295 s), (4, w 295 s)], w9)) 1 rfl ?_
    refine e_Ok.addL (z := z15 + w 297 s) rfl (by omega) (by omega) ?_
    refine e_Ok.callS rfl (e_dq hd rfl) rfl rfl (c_309) (fun r113 w114 h115 => ?_)
    obtain ⟨z116, rfl, rfl, q117a, q117b⟩ := h115
    refine e_Ok.nrm (q := 79) (st' := [(0, z116)]) rfl rfl ?_
    refine e_Ok.if1 rfl (fun h118 => ?_) (fun h118 => ?_)
    · replace h118 : (z116 : Int) ≠ 0 := h118
      refine e_Ok.run (t' := (138, [(8, (0, 1)), (6, (4, z15)), (0, (1, 275)), (1, (0, a)), (2, (0, i)), (3, (0, u)), (4, (0, s)), (5, (0, m))], [(0, 1)], w9)) 4 rfl ?_
      refine e_Ok.if1 rfl (fun h119 => ?_) (fun h119 => ?_)
      · replace h119 : (1 : Int) ≠ 0 := h119
        refine e_Ok.ps1 (x := (0, 0)) (q := 207) 1 rfl ?_
        refine e_Ok.rets rfl rfl ?_
        exact ⟨_, rfl, f12, by omega, by omega⟩
      · replace h119 : (1 : Int) = 0 := Classical.not_not.mp (show ¬ ((1 : Int) ≠ 0) from h119)
        exfalso; omega
    · replace h118 : (z116 : Int) = 0 := Classical.not_not.mp (show ¬ ((z116 : Int) ≠ 0) from h118)
      refine e_Ok.ps1 (x := (1, 275)) (q := 83) 1 rfl ?_
      refine e_Ok.getr (z := 296) rfl (el_o rfl) rfl (ef_o rfl) ((f12 275 26 no_51_10).trans (e_Has.eq hT (mt_o rfl))) ⟨by decide, by decide⟩ ?_
      refine e_Ok.ps1 (x := (0, s)) (q := 88) 1 rfl ?_
      have h120 := (e_Has.get hT (c := 296) (k := s) (lo := (-16000)) (hi := 16000) (mt_o rfl) (by decide))
      refine e_Ok.ald (z := w 296 s) rfl (el_o rfl) rfl (by omega) ((f12 296 s no_51_11).trans rfl) (e_bq h120 (by decide) (by decide)) ?_
      refine e_Ok.run (t' := (91, [(6, (4, z15)), (0, (1, 275)), (1, (0, a)), (2, (0, i)), (3, (0, u)), (4, (0, s)), (5, (0, m))], [(1, 275), (4, w 296 s)], w9)) 2 rfl ?_
      refine e_Ok.getr (z := 296) rfl (el_o rfl) rfl (ef_o rfl) ((f12 275 26 no_51_10).trans (e_Has.eq hT (mt_o rfl))) ⟨by decide, by decide⟩ ?_
      refine e_Ok.ps1 (x := (0, s)) (q := 96) 1 rfl ?_
      refine e_Ok.ald (z := w 296 s) rfl (el_o rfl) rfl (by omega) ((f12 296 s no_51_11).trans rfl) (by omega) ?_
      refine e_Ok.run (t' := (99, [(6, (4, z15)), (0, (1, 275)), (1, (0, a)), (2, (0, i)), (3, (0, u)), (4, (0, s)), (5, (0, m))], [(1, 275), (4, w 296 s), (4, w 296 s)], w9)) 2 rfl ?_
      refine e_Ok.getr (z := 324) rfl (el_o rfl) rfl (ef_o rfl) ((f12 275 61 no_51_2).trans (e_Has.eq hT (mt_o rfl))) ⟨by decide, by decide⟩ ?_
      refine e_Ok.ps1 (x := (0, 1)) (q := 103) 1 rfl ?_
      have h121 := (q11k 1 (by omega) (by omega))
      refine e_Ok.ald (z := w9 324 1) rfl (el_o rfl) rfl (by omega) rfl (by omega) ?_
      refine e_Ok.run (t' := (106, [(6, (4, z15)), (0, (1, 275)), (1, (0, a)), (2, (0, i)), (3, (0, u)), (4, (0, s)), (5, (0, m))], [(1, 275), (4, w9 324 1), (4, w 296 s), (4, w 296 s)], w9)) 2 rfl ?_
      refine e_Ok.getr (z := 324) rfl (el_o rfl) rfl (ef_o rfl) ((f12 275 61 no_51_2).trans (e_Has.eq hT (mt_o rfl))) ⟨by decide, by decide⟩ ?_
      refine e_Ok.ps1 (x := (0, 3)) (q := 110) 1 rfl ?_
      have h122 := (q11k 3 (by omega) (by omega))
      refine e_Ok.ald (z := w9 324 3) rfl (el_o rfl) rfl (by omega) rfl (by omega) ?_
      refine e_Ok.run (t' := (115, [(6, (4, z15)), (0, (1, 275)), (1, (0, a)), (2, (0, i)), (3, (0, u)), (4, (0, s)), (5, (0, m))], [(1, 275), (4, z15), (4, w9 324 3), (4, w9 324 1), (4, w 296 s), (4, w 296 s)], w9)) 3 rfl ?_
      refine e_Ok.getr (z := 297) rfl (el_o rfl) rfl (ef_o rfl) ((f12 275 27 no_51_12).trans (e_Has.eq hT (mt_o rfl))) ⟨by decide, by decide⟩ ?_
      refine e_Ok.ps1 (x := (0, s)) (q := 120) 1 rfl ?_
      refine e_Ok.ald (z := w 297 s) rfl (el_o rfl) rfl (by omega) ((f12 297 s no_51_13).trans rfl) (by omega) ?_
      refine e_Ok.run (t' := (122, [(6, (4, z15)), (0, (1, 275)), (1, (0, a)), (2, (0, i)), (3, (0, u)), (4, (0, s)), (5, (0, m))], [(4, w 297 s), (4, z15), (4, w9 324 3), (4, w9 324 1), (4, w 296 s), (4, w 296 s)], w9)) 1 rfl ?_
      refine e_Ok.addL (z := z15 + w 297 s) rfl (by omega) (by omega) ?_
      refine e_Ok.callS rfl (e_dq hd rfl) rfl rfl (c_309) (fun r124 w125 h126 => ?_)
      obtain ⟨z127, rfl, rfl, q128a, q128b⟩ := h126
      refine e_Ok.nrm (q := 126) (st' := [(0, z127)]) rfl rfl ?_
      refine e_Ok.if1 rfl (fun h129 => ?_) (fun h129 => ?_)
      · replace h129 : (z127 : Int) = 0 := h129
        refine e_Ok.run (t' := (138, [(8, (0, 0)), (6, (4, z15)), (0, (1, 275)), (1, (0, a)), (2, (0, i)), (3, (0, u)), (4, (0, s)), (5, (0, m))], [(0, 0)], w9)) 3 rfl ?_
        refine e_Ok.if1 rfl (fun h130 => ?_) (fun h130 => ?_)
        · replace h130 : (0 : Int) ≠ 0 := h130
          exfalso; omega
        · replace h130 : (0 : Int) = 0 := Classical.not_not.mp (show ¬ ((0 : Int) ≠ 0) from h130)
          refine e_Ok.ps1 (x := (1, 275)) (q := 142) 1 rfl ?_
          refine e_Ok.getr (z := 295) rfl (el_o rfl) rfl (ef_o rfl) ((f12 275 25 no_51_8).trans (e_Has.eq hT (mt_o rfl))) ⟨by decide, by decide⟩ ?_
          refine e_Ok.ps1 (x := (0, s)) (q := 147) 1 rfl ?_
          refine e_Ok.ald (z := w 295 s) rfl (el_o rfl) rfl (by omega) ((f12 295 s no_51_9).trans rfl) (by omega) ?_
          refine e_Ok.run (t' := (150, [(8, (0, 0)), (6, (4, z15)), (0, (1, 275)), (1, (0, a)), (2, (0, i)), (3, (0, u)), (4, (0, s)), (5, (0, m))], [(1, 275), (4, w 295 s)], w9)) 2 rfl ?_
          refine e_Ok.getr (z := 296) rfl (el_o rfl) rfl (ef_o rfl) ((f12 275 26 no_51_10).trans (e_Has.eq hT (mt_o rfl))) ⟨by decide, by decide⟩ ?_
          refine e_Ok.ps1 (x := (0, s)) (q := 155) 1 rfl ?_
          refine e_Ok.ald (z := w 296 s) rfl (el_o rfl) rfl (by omega) ((f12 296 s no_51_11).trans rfl) (by omega) ?_
          refine e_Ok.run (t' := (158, [(8, (0, 0)), (6, (4, z15)), (0, (1, 275)), (1, (0, a)), (2, (0, i)), (3, (0, u)), (4, (0, s)), (5, (0, m))], [(1, 275), (4, w 296 s), (4, w 295 s)], w9)) 2 rfl ?_
          refine e_Ok.getr (z := 324) rfl (el_o rfl) rfl (ef_o rfl) ((f12 275 61 no_51_2).trans (e_Has.eq hT (mt_o rfl))) ⟨by decide, by decide⟩ ?_
          refine e_Ok.ps1 (x := (0, 0)) (q := 162) 1 rfl ?_
          refine e_Ok.ald (z := w9 324 0) rfl (el_o rfl) rfl (by omega) rfl (by omega) ?_
          refine e_Ok.run (t' := (165, [(8, (0, 0)), (6, (4, z15)), (0, (1, 275)), (1, (0, a)), (2, (0, i)), (3, (0, u)), (4, (0, s)), (5, (0, m))], [(1, 275), (4, w9 324 0), (4, w 296 s), (4, w 295 s)], w9)) 2 rfl ?_
          refine e_Ok.getr (z := 324) rfl (el_o rfl) rfl (ef_o rfl) ((f12 275 61 no_51_2).trans (e_Has.eq hT (mt_o rfl))) ⟨by decide, by decide⟩ ?_
          refine e_Ok.ps1 (x := (0, 1)) (q := 169) 1 rfl ?_
          refine e_Ok.ald (z := w9 324 1) rfl (el_o rfl) rfl (by omega) rfl (by omega) ?_
          refine e_Ok.run (t' := (172, [(8, (0, 0)), (6, (4, z15)), (0, (1, 275)), (1, (0, a)), (2, (0, i)), (3, (0, u)), (4, (0, s)), (5, (0, m))], [(1, 275), (4, w9 324 1), (4, w9 324 0), (4, w 296 s), (4, w 295 s)], w9)) 2 rfl ?_
          refine e_Ok.getr (z := 324) rfl (el_o rfl) rfl (ef_o rfl) ((f12 275 61 no_51_2).trans (e_Has.eq hT (mt_o rfl))) ⟨by decide, by decide⟩ ?_
          refine e_Ok.ps1 (x := (0, 2)) (q := 176) 1 rfl ?_
          refine e_Ok.ald (z := w9 324 2) rfl (el_o rfl) rfl (by omega) rfl (by omega) ?_
          refine e_Ok.run (t' := (179, [(8, (0, 0)), (6, (4, z15)), (0, (1, 275)), (1, (0, a)), (2, (0, i)), (3, (0, u)), (4, (0, s)), (5, (0, m))], [(1, 275), (4, w9 324 2), (4, w9 324 1), (4, w9 324 0), (4, w 296 s), (4, w 295 s)], w9)) 2 rfl ?_
          refine e_Ok.getr (z := 324) rfl (el_o rfl) rfl (ef_o rfl) ((f12 275 61 no_51_2).trans (e_Has.eq hT (mt_o rfl))) ⟨by decide, by decide⟩ ?_
          refine e_Ok.ps1 (x := (0, 3)) (q := 183) 1 rfl ?_
          refine e_Ok.ald (z := w9 324 3) rfl (el_o rfl) rfl (by omega) rfl (by omega) ?_
          refine e_Ok.run (t' := (188, [(8, (0, 0)), (6, (4, z15)), (0, (1, 275)), (1, (0, a)), (2, (0, i)), (3, (0, u)), (4, (0, s)), (5, (0, m))], [(1, 275), (4, z15), (4, w9 324 3), (4, w9 324 2), (4, w9 324 1), (4, w9 324 0), (4, w 296 s), (4, w 295 s)], w9)) 3 rfl ?_
          refine e_Ok.getr (z := 297) rfl (el_o rfl) rfl (ef_o rfl) ((f12 275 27 no_51_12).trans (e_Has.eq hT (mt_o rfl))) ⟨by decide, by decide⟩ ?_
          refine e_Ok.ps1 (x := (0, s)) (q := 193) 1 rfl ?_
          refine e_Ok.ald (z := w 297 s) rfl (el_o rfl) rfl (by omega) ((f12 297 s no_51_13).trans rfl) (by omega) ?_
          refine e_Ok.run (t' := (195, [(8, (0, 0)), (6, (4, z15)), (0, (1, 275)), (1, (0, a)), (2, (0, i)), (3, (0, u)), (4, (0, s)), (5, (0, m))], [(4, w 297 s), (4, z15), (4, w9 324 3), (4, w9 324 2), (4, w9 324 1), (4, w9 324 0), (4, w 296 s), (4, w 295 s)], w9)) 1 rfl ?_
          refine e_Ok.addL (z := z15 + w 297 s) rfl (by omega) (by omega) ?_
          refine e_Ok.callS rfl (e_dq hd rfl) rfl rfl (c_307 (e_dq hd rfl)) (fun r132 w133 h134 => ?_)
          obtain ⟨z135, rfl, rfl, q136a, q136b⟩ := h134
          refine e_Ok.nrm (q := 199) (st' := [(0, z135)]) rfl rfl ?_
          refine e_Ok.if1 rfl (fun h137 => ?_) (fun h137 => ?_)
          · replace h137 : (z135 : Int) = 0 := h137
            refine e_Ok.ps1 (x := (0, 0)) (q := 207) 1 rfl ?_
            refine e_Ok.rets rfl rfl ?_
            exact ⟨_, rfl, f12, by omega, by omega⟩
          · replace h137 : (z135 : Int) ≠ 0 := (show ¬ ((z135 : Int) = 0) from h137)
            refine e_Ok.ps1 (x := (0, 1)) (q := 207) 2 rfl ?_
            refine e_Ok.rets rfl rfl ?_
            exact ⟨_, rfl, f12, by omega, by omega⟩
      · replace h129 : (z127 : Int) ≠ 0 := (show ¬ ((z127 : Int) = 0) from h129)
        refine e_Ok.run (t' := (138, [(8, (0, 1)), (6, (4, z15)), (0, (1, 275)), (1, (0, a)), (2, (0, i)), (3, (0, u)), (4, (0, s)), (5, (0, m))], [(0, 1)], w9)) 4 rfl ?_
        refine e_Ok.if1 rfl (fun h138 => ?_) (fun h138 => ?_)
        · replace h138 : (1 : Int) ≠ 0 := h138
          refine e_Ok.ps1 (x := (0, 0)) (q := 207) 1 rfl ?_
          refine e_Ok.rets rfl rfl ?_
          exact ⟨_, rfl, f12, by omega, by omega⟩
        · replace h138 : (1 : Int) = 0 := Classical.not_not.mp (show ¬ ((1 : Int) ≠ 0) from h138)
          exfalso; omega
theorem no_51_16 : ¬ mL 275 23 := by unfold mL; omega
theorem no_51_17 : ¬ mL 275 29 := by unfold mL; omega
theorem no_51_18 {k : Int} : ¬ mL 299 k := by unfold mL; omega
theorem c_315 {d : Nat} (hd : 24 ≤ d) {w : eW} (hT : e_Has mTy w) {a u m : Int} (ha : 0 ≤ a ∧ a ≤ 3) (hu : 0 ≤ u ∧ u ≤ 28) (k1 : e_kn w 321 u (u + w 286 a)) (k2 : e_kn w 322 u (u + w 286 a)) : e_Ok 20 elay ecode eI d 315 (0, [(0, (1, 275)), (1, (0, a)), (2, (0, u)), (3, (0, m))], [], w) (fun r w' => ∃ z : Int, r = [(0, z)] ∧ e_fr mL w w' ∧ 0 ≤ z ∧ z ≤ 1) := by
  obtain ⟨d, rfl⟩ : ∃ e, d = e + 1 := ⟨d - 1, by omega⟩
  have hja := (e_Has.get hT (c := 286) (k := a) (lo := 0) (hi := 6) (mt_o rfl) (by decide))
  refine e_Ok.ps2 (x := (0, a)) (y := (1, 275)) (q := 2) 2 rfl ?_
  refine e_Ok.callV rfl (e_dq hd rfl) rfl rfl rfl rfl (c_304 (e_dq hd rfl) hT (by omega)) (fun r1 w2 h3 => ?_)
  obtain ⟨z4, rfl, rfl, q5⟩ := h3
  have h6 := (e_Has.get hT (c := 286) (k := a) (lo := 0) (hi := 6) (mt_o rfl) (by decide))
  refine e_Ok.nrm (q := 5) (st' := [(0, z4)]) rfl rfl ?_
  refine e_Ok.run (t' := (10, [(5, (0, 0)), (4, (0, z4)), (0, (1, 275)), (1, (0, a)), (2, (0, u)), (3, (0, m))], [], w)) 3 rfl ?_
  have hL7 : ∀ (n : Nat) (y1 : Int) (v1 : eW), e_fr mL w v1 ∧ 0 ≤ y1 ∧ y1 ≤ 7 → 8 - y1 < n → e_Ok 20 elay ecode eI (d + 1) 315 (10, [(0, (1, 275)), (1, (0, a)), (2, (0, u)), (3, (0, m)), (4, (0, z4)), (5, (0, y1))], [], v1) (fun r w' => ∃ z : Int, r = [(0, z)] ∧ e_fr mL w w' ∧ 0 ≤ z ∧ z ≤ 1) := by
    intro n
    induction n with
    | zero => intro y1 v1 hj hm; obtain ⟨j9, j10⟩ := hj; exfalso; omega
    | succ n ih8 =>
      intro y1 v1 hj hm
      obtain ⟨j9, j10⟩ := hj
      have l11 : v1 286 a = w 286 a := j9 286 a no_51_0
      have l12 : v1 276 (36 * a + 17) = w 276 (36 * a + 17) := j9 276 (36 * a + 17) no_51_1
      refine e_Ok.run (t' := (14, [(0, (1, 275)), (1, (0, a)), (2, (0, u)), (3, (0, m)), (4, (0, z4)), (5, (0, y1))], [(0, z4), (0, y1)], v1)) 2 rfl ?_
      refine e_Ok.if2 rfl (fun h13 => ?_) (fun h13 => ?_)
      · replace h13 : (y1 : Int) ≥ z4 := h13
        refine e_Ok.ps1 (x := (0, 0)) (q := 116) 1 rfl ?_
        refine e_Ok.rets rfl rfl ?_
        exact ⟨_, rfl, j9, by omega, by omega⟩
      · replace h13 : (y1 : Int) < z4 := Int.not_le.mp (show ¬ ((y1 : Int) ≥ z4) from h13)
        refine e_Ok.ps2 (x := (0, 2)) (y := (0, y1)) (q := 20) 2 rfl ?_
        refine e_Ok.add (z := y1 + 2) rfl rfl (by omega) ?_
        refine e_Ok.run (t' := (23, [(6, (0, y1 + 2)), (0, (1, 275)), (1, (0, a)), (2, (0, u)), (3, (0, m)), (4, (0, z4)), (5, (0, y1))], [], v1)) 1 rfl ?_
        have hL14 : ∀ (n : Nat) (y2 : Int) (v2 : eW), e_fr mL w v2 ∧ y1 + 2 ≤ y2 ∧ y2 ≤ 9 → 10 - y2 < n → e_Ok 20 elay ecode eI (d + 1) 315 (23, [(0, (1, 275)), (1, (0, a)), (2, (0, u)), (3, (0, m)), (4, (0, z4)), (5, (0, y1)), (6, (0, y2))], [], v2) (fun r w' => ∃ z : Int, r = [(0, z)] ∧ e_fr mL w w' ∧ 0 ≤ z ∧ z ≤ 1) := by
          intro n
          induction n with
          | zero => intro y2 v2 hj hm; obtain ⟨j16, j17⟩ := hj; exfalso; omega
          | succ n ih15 =>
            intro y2 v2 hj hm
            obtain ⟨j16, j17⟩ := hj
            have l18 : v2 286 a = w 286 a := j16 286 a no_51_0
            have l19 : v2 276 (36 * a + 17) = w 276 (36 * a + 17) := j16 276 (36 * a + 17) no_51_1
            refine e_Ok.run (t' := (27, [(0, (1, 275)), (1, (0, a)), (2, (0, u)), (3, (0, m)), (4, (0, z4)), (5, (0, y1)), (6, (0, y2))], [(0, z4), (0, y2)], v2)) 2 rfl ?_
            refine e_Ok.if2 rfl (fun h20 => ?_) (fun h20 => ?_)
            · replace h20 : (y2 : Int) ≥ z4 := h20
              refine e_Ok.run (t' := (57, [(6, (0, 0)), (0, (1, 275)), (1, (0, a)), (2, (0, u)), (3, (0, m)), (4, (0, z4)), (5, (0, y1))], [], v2)) 2 rfl ?_
              have hL21 : ∀ (n : Nat) (y3 : Int) (v3 : eW), e_fr mL w v3 ∧ 0 ≤ y3 ∧ y3 ≤ 16 → 17 - y3 < n → e_Ok 20 elay ecode eI (d + 1) 315 (57, [(0, (1, 275)), (1, (0, a)), (2, (0, u)), (3, (0, m)), (4, (0, z4)), (5, (0, y1)), (6, (0, y3))], [], v3) (fun r w' => ∃ z : Int, r = [(0, z)] ∧ e_fr mL w w' ∧ 0 ≤ z ∧ z ≤ 1) := by
                intro n
                induction n with
                | zero => intro y3 v3 hj hm; obtain ⟨j23, j24⟩ := hj; exfalso; omega
                | succ n ih22 =>
                  intro y3 v3 hj hm
                  obtain ⟨j23, j24⟩ := hj
                  have l25 : v3 286 a = w 286 a := j23 286 a no_51_0
                  have l26 : v3 276 (36 * a + 17) = w 276 (36 * a + 17) := j23 276 (36 * a + 17) no_51_1
                  refine e_Ok.run (t' := (60, [(0, (1, 275)), (1, (0, a)), (2, (0, u)), (3, (0, m)), (4, (0, z4)), (5, (0, y1)), (6, (0, y3))], [(1, 275), (0, y3)], v3)) 2 rfl ?_
                  have h27 := (e_Has.get hT (c := 275) (k := 23) (lo := 0) (hi := 16) (mt_o rfl) (by decide))
                  refine e_Ok.getf (z := w 275 23) rfl (el_o rfl) rfl (ef_o rfl) ((j23 275 23 no_51_16).trans rfl) (e_bq h27 (by decide) (by decide)) ?_
                  refine e_Ok.if2 rfl (fun h28 => ?_) (fun h28 => ?_)
                  · replace h28 : (y3 : Int) ≥ w 275 23 := h28
                    refine e_Ok.inc (z := y1 + 1) rfl rfl (by first | with_reducible rfl | omega) (by omega) ?_
                    show e_Ok 20 elay ecode eI (d + 1) 315 (112, [(5, (0, y1 + 1)), (0, (1, 275)), (1, (0, a)), (2, (0, u)), (3, (0, m)), (4, (0, z4)), (6, (0, y3))], [], v3) _
                    refine e_Ok.ps0 (q := 10) 1 rfl ?_
                    refine e_Ok.sub eAlk (e_sub_of rfl ?_) (ih8 (y1 + 1) v3 ⟨j23, by omega⟩ (by omega))
                    exact ⟨rfl, rfl, rfl, rfl, rfl, rfl, trivial⟩
                  · replace h28 : (y3 : Int) < w 275 23 := Int.not_le.mp (show ¬ ((y3 : Int) ≥ w 275 23) from h28)
                    refine e_Ok.ps1 (x := (1, 275)) (q := 67) 1 rfl ?_
                    refine e_Ok.getr (z := 299) rfl (el_o rfl) rfl (ef_o rfl) ((j23 275 29 no_51_17).trans (e_Has.eq hT (mt_o rfl))) ⟨by decide, by decide⟩ ?_
                    refine e_Ok.ps2 (x := (0, a)) (y := (0, 112)) (q := 73) 2 rfl ?_
                    refine e_Ok.mul (z := 112 * a) rfl rfl (by omega) ?_
                    refine e_Ok.ps2 (x := (0, y1)) (y := (0, 16)) (q := 78) 2 rfl ?_
                    refine e_Ok.mul (z := 16 * y1) rfl rfl (by omega) ?_
                    refine e_Ok.add (z := 112 * a + 16 * y1) rfl rfl (by omega) ?_
                    refine e_Ok.ps1 (x := (0, y3)) (q := 82) 1 rfl ?_
                    refine e_Ok.add (z := 112 * a + 16 * y1 + y3) rfl rfl (by omega) ?_
                    have h29 := (e_Has.get hT (c := 299) (k := 112 * a + 16 * y1 + y3) (lo := 0) (hi := 1) (mt_o rfl) (by decide))
                    refine e_Ok.ald (z := w 299 (112 * a + 16 * y1 + y3)) rfl (el_o rfl) rfl (by omega) ((j23 299 (112 * a + 16 * y1 + y3) no_51_18).trans rfl) (e_bq h29 (by decide) (by decide)) ?_
                    refine e_Ok.if1 rfl (fun h30 => ?_) (fun h30 => ?_)
                    · replace h30 : (w 299 (112 * a + 16 * y1 + y3) : Int) ≠ 0 := h30
                      refine e_Ok.inc (z := y3 + 1) rfl rfl (by first | with_reducible rfl | omega) (by omega) ?_
                      show e_Ok 20 elay ecode eI (d + 1) 315 (106, [(6, (0, y3 + 1)), (0, (1, 275)), (1, (0, a)), (2, (0, u)), (3, (0, m)), (4, (0, z4)), (5, (0, y1))], [], v3) _
                      refine e_Ok.ps0 (q := 57) 1 rfl ?_
                      refine e_Ok.sub eAlk (e_sub_of rfl ?_) (ih22 (y3 + 1) v3 ⟨j23, by omega⟩ (by omega))
                      exact ⟨rfl, rfl, rfl, rfl, rfl, rfl, rfl, trivial⟩
                    · replace h30 : (w 299 (112 * a + 16 * y1 + y3) : Int) = 0 := Classical.not_not.mp (show ¬ ((w 299 (112 * a + 16 * y1 + y3) : Int) ≠ 0) from h30)
                      refine e_Ok.run (t' := (95, [(0, (1, 275)), (1, (0, a)), (2, (0, u)), (3, (0, m)), (4, (0, z4)), (5, (0, y1)), (6, (0, y3))], [(0, m), (0, y3), (0, u), (0, y1), (0, a), (1, 275)], v3)) 6 rfl ?_
                      refine e_Ok.callV rfl (e_dq hd rfl) rfl rfl rfl rfl (c_314 (e_dq hd rfl) (mT_L j23 hT) (by omega) (by omega) (by omega) (by omega) (e_kn_sub (e_kn.fr j23 (fun k q => by unfold mL at q; omega) k1) (by omega) (by omega)) (e_kn_sub (e_kn.fr j23 (fun k q => by unfold mL at q; omega) k2) (by omega) (by omega))) (fun r31 w32 h33 => ?_)
                      obtain ⟨z34, rfl, q35, q35a, q35b⟩ := h33
                      have f36 : e_fr mL w w32 := e_fr.trans j23 (e_fr.mono q35 (fun c k q => by exact q))
                      have l37 : w32 286 a = w 286 a := f36 286 a no_51_0
                      have l38 : w32 276 (36 * a + 17) = w 276 (36 * a + 17) := f36 276 (36 * a + 17) no_51_1
                      refine e_Ok.nrm (q := 98) (st' := [(0, z34)]) rfl rfl ?_
                      refine e_Ok.if1 rfl (fun h39 => ?_) (fun h39 => ?_)
                      · replace h39 : (z34 : Int) = 0 := h39
                        refine e_Ok.inc (z := y3 + 1) rfl rfl (by first | with_reducible rfl | omega) (by omega) ?_
                        show e_Ok 20 elay ecode eI (d + 1) 315 (106, [(6, (0, y3 + 1)), (0, (1, 275)), (1, (0, a)), (2, (0, u)), (3, (0, m)), (4, (0, z4)), (5, (0, y1))], [], w32) _
                        refine e_Ok.ps0 (q := 57) 1 rfl ?_
                        refine e_Ok.sub eAlk (e_sub_of rfl ?_) (ih22 (y3 + 1) w32 ⟨f36, by omega⟩ (by omega))
                        exact ⟨rfl, rfl, rfl, rfl, rfl, rfl, rfl, trivial⟩
                      · replace h39 : (z34 : Int) ≠ 0 := (show ¬ ((z34 : Int) = 0) from h39)
                        refine e_Ok.ps1 (x := (0, 1)) (q := 102) 1 rfl ?_
                        refine e_Ok.rets rfl rfl ?_
                        exact ⟨_, rfl, f36, by omega, by omega⟩
              refine e_Ok.sub eAlk (e_sub_of rfl ?_) (hL21 (17 + 1 : Int).toNat 0 v2 ⟨j16, by omega⟩ (by omega))
              exact ⟨rfl, rfl, rfl, rfl, rfl, rfl, rfl, trivial⟩
            · replace h20 : (y2 : Int) < z4 := Int.not_le.mp (show ¬ ((y2 : Int) ≥ z4) from h20)
              refine e_Ok.run (t' := (40, [(0, (1, 275)), (1, (0, a)), (2, (0, u)), (3, (0, m)), (4, (0, z4)), (5, (0, y1)), (6, (0, y2))], [(0, m), (0, u), (0, y2), (0, a), (0, u), (0, y1), (0, a), (1, 275)], v2)) 8 rfl ?_
              refine e_Ok.callV rfl (e_dq hd rfl) rfl rfl rfl rfl (c_313 (e_dq hd rfl) (mT_L j16 hT) (by omega) (by omega) (by omega) (by omega) (by omega) (by omega) (e_kn_sub (e_kn.fr j16 (fun k q => by unfold mL at q; omega) k1) (by omega) (by omega)) (e_kn_sub (e_kn.fr j16 (fun k q => by unfold mL at q; omega) k2) (by omega) (by omega)) (e_kn_sub (e_kn.fr j16 (fun k q => by unfold mL at q; omega) k1) (by omega) (by omega)) (e_kn_sub (e_kn.fr j16 (fun k q => by unfold mL at q; omega) k2) (by omega) (by omega))) (fun r40 w41 h42 => ?_)
              obtain ⟨z43, rfl, q44, q44a, q44b⟩ := h42
              have f45 : e_fr mL w w41 := e_fr.trans j16 (e_fr.mono q44 (fun c k q => by exact q))
              have l46 : w41 286 a = w 286 a := f45 286 a no_51_0
              have l47 : w41 276 (36 * a + 17) = w 276 (36 * a + 17) := f45 276 (36 * a + 17) no_51_1
              refine e_Ok.nrm (q := 43) (st' := [(0, z43)]) rfl rfl ?_
              refine e_Ok.if1 rfl (fun h48 => ?_) (fun h48 => ?_)
              · replace h48 : (z43 : Int) = 0 := h48
                refine e_Ok.inc (z := y2 + 1) rfl rfl (by first | with_reducible rfl | omega) (by omega) ?_
                show e_Ok 20 elay ecode eI (d + 1) 315 (51, [(6, (0, y2 + 1)), (0, (1, 275)), (1, (0, a)), (2, (0, u)), (3, (0, m)), (4, (0, z4)), (5, (0, y1))], [], w41) _
                refine e_Ok.ps0 (q := 23) 1 rfl ?_
                refine e_Ok.sub eAlk (e_sub_of rfl ?_) (ih15 (y2 + 1) w41 ⟨f45, by omega⟩ (by omega))
                exact ⟨rfl, rfl, rfl, rfl, rfl, rfl, rfl, trivial⟩
              · replace h48 : (z43 : Int) ≠ 0 := (show ¬ ((z43 : Int) = 0) from h48)
                refine e_Ok.ps1 (x := (0, 1)) (q := 47) 1 rfl ?_
                refine e_Ok.rets rfl rfl ?_
                exact ⟨_, rfl, f45, by omega, by omega⟩
        refine e_Ok.sub eAlk (e_sub_of rfl ?_) (hL14 (10 + 1 : Int).toNat (y1 + 2) v1 ⟨j9, by omega⟩ (by omega))
        exact ⟨rfl, rfl, rfl, rfl, rfl, rfl, rfl, trivial⟩
  refine e_Ok.sub eAlk (e_sub_of rfl ?_) (hL7 (8 + 1 : Int).toNat 0 w ⟨(e_fr.refl w), by omega⟩ (by omega))
  exact ⟨rfl, rfl, rfl, rfl, rfl, rfl, trivial⟩
theorem c_316 {d : Nat} (hd : 24 ≤ d) {w : eW} (hT : e_Has mTy w) {a u b m : Int} (ha : 0 ≤ a ∧ a ≤ 3) (hu : 0 ≤ u ∧ u ≤ 28) (hb : 0 ≤ b ∧ b ≤ 3) (k1 : e_kn w 321 u (u + w 286 a)) (k2 : e_kn w 322 u (u + w 286 a)) (k3 : e_kn w 321 (7 * b) (7 * b + w 286 b)) (k4 : e_kn w 322 (7 * b) (7 * b + w 286 b)) : e_Ok 20 elay ecode eI d 316 (0, [(0, (1, 275)), (1, (0, a)), (2, (0, u)), (3, (0, b)), (4, (0, m))], [], w) (fun r w' => ∃ z : Int, r = [(0, z)] ∧ e_fr mL w w' ∧ 0 ≤ z ∧ z ≤ 1) := by
  obtain ⟨d, rfl⟩ : ∃ e, d = e + 1 := ⟨d - 1, by omega⟩
  have hja := (e_Has.get hT (c := 286) (k := a) (lo := 0) (hi := 6) (mt_o rfl) (by decide))
  have hjb := (e_Has.get hT (c := 286) (k := b) (lo := 0) (hi := 6) (mt_o rfl) (by decide))
  refine e_Ok.run (t' := (3, [(5, (0, 0)), (0, (1, 275)), (1, (0, a)), (2, (0, u)), (3, (0, b)), (4, (0, m))], [], w)) 2 rfl ?_
  have hL1 : ∀ (n : Nat) (y1 : Int) (v1 : eW), e_fr mL w v1 ∧ 0 ≤ y1 ∧ y1 ≤ 7 → 8 - y1 < n → e_Ok 20 elay ecode eI (d + 1) 316 (3, [(0, (1, 275)), (1, (0, a)), (2, (0, u)), (3, (0, b)), (4, (0, m)), (5, (0, y1))], [], v1) (fun r w' => ∃ z : Int, r = [(0, z)] ∧ e_fr mL w w' ∧ 0 ≤ z ∧ z ≤ 1) := by
    intro n
    induction n with
    | zero => intro y1 v1 hj hm; obtain ⟨j3, j4⟩ := hj; exfalso; omega
    | succ n ih2 =>
      intro y1 v1 hj hm
      obtain ⟨j3, j4⟩ := hj
      have l5 : v1 286 a = w 286 a := j3 286 a no_51_0
      have l6 : v1 286 b = w 286 b := j3 286 b no_51_0
      have l7 : v1 276 (36 * a + 17) = w 276 (36 * a + 17) := j3 276 (36 * a + 17) no_51_1
      have l8 : v1 276 (36 * b + 17) = w 276 (36 * b + 17) := j3 276 (36 * b + 17) no_51_1
      refine e_Ok.run (t' := (7, [(0, (1, 275)), (1, (0, a)), (2, (0, u)), (3, (0, b)), (4, (0, m)), (5, (0, y1))], [(0, a), (1, 275), (0, y1)], v1)) 3 rfl ?_
      refine e_Ok.callV rfl (e_dq hd rfl) rfl rfl rfl rfl (c_304 (e_dq hd rfl) (mT_L j3 hT) (by omega)) (fun r9 w10 h11 => ?_)
      obtain ⟨z12, rfl, rfl, q13⟩ := h11
      have h14 := (e_Has.get (mT_L j3 hT) (c := 286) (k := a) (lo := 0) (hi := 6) rfl (by decide))
      refine e_Ok.nrm (q := 10) (st' := [(0, z12), (0, y1)]) rfl rfl ?_
      refine e_Ok.if2 rfl (fun h15 => ?_) (fun h15 => ?_)
      · replace h15 : (y1 : Int) ≥ z12 := h15
        refine e_Ok.ps1 (x := (0, 0)) (q := 61) 1 rfl ?_
        refine e_Ok.rets rfl rfl ?_
        exact ⟨_, rfl, j3, by omega, by omega⟩
      · replace h15 : (y1 : Int) < z12 := Int.not_le.mp (show ¬ ((y1 : Int) ≥ z12) from h15)
        refine e_Ok.run (t' := (16, [(6, (0, 0)), (0, (1, 275)), (1, (0, a)), (2, (0, u)), (3, (0, b)), (4, (0, m)), (5, (0, y1))], [], v1)) 2 rfl ?_
        have hL16 : ∀ (n : Nat) (y2 : Int) (v2 : eW), e_fr mL w v2 ∧ 0 ≤ y2 ∧ y2 ≤ 7 → 8 - y2 < n → e_Ok 20 elay ecode eI (d + 1) 316 (16, [(0, (1, 275)), (1, (0, a)), (2, (0, u)), (3, (0, b)), (4, (0, m)), (5, (0, y1)), (6, (0, y2))], [], v2) (fun r w' => ∃ z : Int, r = [(0, z)] ∧ e_fr mL w w' ∧ 0 ≤ z ∧ z ≤ 1) := by
          intro n
          induction n with
          | zero => intro y2 v2 hj hm; obtain ⟨j18, j19⟩ := hj; exfalso; omega
          | succ n ih17 =>
            intro y2 v2 hj hm
            obtain ⟨j18, j19⟩ := hj
            have l20 : v2 286 a = w 286 a := j18 286 a no_51_0
            have l21 : v2 286 b = w 286 b := j18 286 b no_51_0
            have l22 : v2 276 (36 * a + 17) = w 276 (36 * a + 17) := j18 276 (36 * a + 17) no_51_1
            have l23 : v2 276 (36 * b + 17) = w 276 (36 * b + 17) := j18 276 (36 * b + 17) no_51_1
            refine e_Ok.run (t' := (20, [(0, (1, 275)), (1, (0, a)), (2, (0, u)), (3, (0, b)), (4, (0, m)), (5, (0, y1)), (6, (0, y2))], [(0, b), (1, 275), (0, y2)], v2)) 3 rfl ?_
            refine e_Ok.callV rfl (e_dq hd rfl) rfl rfl rfl rfl (c_304 (e_dq hd rfl) (mT_L j18 hT) (by omega)) (fun r24 w25 h26 => ?_)
            obtain ⟨z27, rfl, rfl, q28⟩ := h26
            have h29 := (e_Has.get (mT_L j18 hT) (c := 286) (k := b) (lo := 0) (hi := 6) rfl (by decide))
            refine e_Ok.nrm (q := 23) (st' := [(0, z27), (0, y2)]) rfl rfl ?_
            refine e_Ok.if2 rfl (fun h30 => ?_) (fun h30 => ?_)
            · replace h30 : (y2 : Int) ≥ z27 := h30
              refine e_Ok.inc (z := y1 + 1) rfl rfl (by first | with_reducible rfl | omega) (by omega) ?_
              show e_Ok 20 elay ecode eI (d + 1) 316 (57, [(5, (0, y1 + 1)), (0, (1, 275)), (1, (0, a)), (2, (0, u)), (3, (0, b)), (4, (0, m)), (6, (0, y2))], [], v2) _
              refine e_Ok.ps0 (q := 3) 1 rfl ?_
              refine e_Ok.sub eAlk (e_sub_of rfl ?_) (ih2 (y1 + 1) v2 ⟨j18, by omega⟩ (by omega))
              exact ⟨rfl, rfl, rfl, rfl, rfl, rfl, trivial⟩
            · replace h30 : (y2 : Int) < z27 := Int.not_le.mp (show ¬ ((y2 : Int) ≥ z27) from h30)
              refine e_Ok.run (t' := (37, [(0, (1, 275)), (1, (0, a)), (2, (0, u)), (3, (0, b)), (4, (0, m)), (5, (0, y1)), (6, (0, y2))], [(0, b), (0, 7), (0, y2), (0, b), (0, u), (0, y1), (0, a), (1, 275)], v2)) 8 rfl ?_
              refine e_Ok.mul (z := 7 * b) rfl rfl (by omega) ?_
              refine e_Ok.ps1 (x := (0, m)) (q := 40) 1 rfl ?_
              refine e_Ok.callV rfl (e_dq hd rfl) rfl rfl rfl rfl (c_313 (e_dq hd rfl) (mT_L j18 hT) (by omega) (by omega) (by omega) (by omega) (by omega) (by omega) (e_kn_sub (e_kn.fr j18 (fun k q => by unfold mL at q; omega) k1) (by omega) (by omega)) (e_kn_sub (e_kn.fr j18 (fun k q => by unfold mL at q; omega) k2) (by omega) (by omega)) (e_kn_sub (e_kn.fr j18 (fun k q => by unfold mL at q; omega) k3) (by omega) (by omega)) (e_kn_sub (e_kn.fr j18 (fun k q => by unfold mL at q; omega) k4) (by omega) (by omega))) (fun r31 w32 h33 => ?_)
              obtain ⟨z34, rfl, q35, q35a, q35b⟩ := h33
              have f36 : e_fr mL w w32 := e_fr.trans j18 (e_fr.mono q35 (fun c k q => by exact q))
              have l37 : w32 286 a = w 286 a := f36 286 a no_51_0
              have l38 : w32 286 b = w 286 b := f36 286 b no_51_0
              have l39 : w32 276 (36 * a + 17) = w 276 (36 * a + 17) := f36 276 (36 * a + 17) no_51_1
              have l40 : w32 276 (36 * b + 17) = w 276 (36 * b + 17) := f36 276 (36 * b + 17) no_51_1
              refine e_Ok.nrm (q := 43) (st' := [(0, z34)]) rfl rfl ?_
              refine e_Ok.if1 rfl (fun h41 => ?_) (fun h41 => ?_)
              · replace h41 : (z34 : Int) = 0 := h41
                refine e_Ok.inc (z := y2 + 1) rfl rfl (by first | with_reducible rfl | omega) (by omega) ?_
                show e_Ok 20 elay ecode eI (d + 1) 316 (51, [(6, (0, y2 + 1)), (0, (1, 275)), (1, (0, a)), (2, (0, u)), (3, (0, b)), (4, (0, m)), (5, (0, y1))], [], w32) _
                refine e_Ok.ps0 (q := 16) 1 rfl ?_
                refine e_Ok.sub eAlk (e_sub_of rfl ?_) (ih17 (y2 + 1) w32 ⟨f36, by omega⟩ (by omega))
                exact ⟨rfl, rfl, rfl, rfl, rfl, rfl, rfl, trivial⟩
              · replace h41 : (z34 : Int) ≠ 0 := (show ¬ ((z34 : Int) = 0) from h41)
                refine e_Ok.ps1 (x := (0, 1)) (q := 47) 1 rfl ?_
                refine e_Ok.rets rfl rfl ?_
                exact ⟨_, rfl, f36, by omega, by omega⟩
        refine e_Ok.sub eAlk (e_sub_of rfl ?_) (hL16 (8 + 1 : Int).toNat 0 v1 ⟨j3, by omega⟩ (by omega))
        exact ⟨rfl, rfl, rfl, rfl, rfl, rfl, rfl, trivial⟩
  refine e_Ok.sub eAlk (e_sub_of rfl ?_) (hL1 (8 + 1 : Int).toNat 0 w ⟨(e_fr.refl w), by omega⟩ (by omega))
  exact ⟨rfl, rfl, rfl, rfl, rfl, rfl, trivial⟩
end
end
