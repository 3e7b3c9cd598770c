-- part 49w
section
noncomputable section
/-! the cells that stand as a tree: found in few steps -/
def e_lT (k : Nat) (a b : Nat → Option eY) : Nat → Option eY := fun n => bif Nat.ble n k then a n else b n
def e_lt : Nat → Option eY := (e_lT 177 (e_lT 88 (e_lT 43 (e_lT 21 (e_lT 10 (e_lT 4 (e_lT 1 (e_lT 0 (fun n => bif Nat.beq n 0 then some (0, 11, 15) else none) (fun n => bif Nat.beq n 1 then some (0, 8, 17) else none)) (e_lT 2 (fun n => bif Nat.beq n 2 then some (0, 1, 5) else none) (e_lT 3 (fun n => bif Nat.beq n 3 then some (1, 0, 32) else none) (fun n => bif Nat.beq n 4 then some (1, 0, 4000) else none)))) (e_lT 7 (e_lT 5 (fun n => bif Nat.beq n 5 then some (2, 0, 4000) else none) (e_lT 6 (fun n => bif Nat.beq n 6 then some (1, 0, 32) else none) (fun n => bif Nat.beq n 7 then some (1, 0, 500) else none))) (e_lT 8 (fun n => bif Nat.beq n 8 then some (0, 3, 12) else none) (e_lT 9 (fun n => bif Nat.beq n 9 then some (5, 0, 4) else none) (fun n => bif Nat.beq n 10 then some (0, 7, 8) else none))))) (e_lT 15 (e_lT 12 (e_lT 11 (fun n => bif Nat.beq n 11 then some (1, 0, 64) else none) (fun n => bif Nat.beq n 12 then some (1, 0, 64) else none)) (e_lT 13 (fun n => bif Nat.beq n 13 then some (1, 0, 64) else none) (e_lT 14 (fun n => bif Nat.beq n 14 then some (1, 0, 64) else none) (fun n => bif Nat.beq n 15 then some (1, 0, 64) else none)))) (e_lT 18 (e_lT 16 (fun n => bif Nat.beq n 16 then some (3, 0, 64) else none) (e_lT 17 (fun n => bif Nat.beq n 17 then some (3, 0, 64) else none) (fun n => bif Nat.beq n 18 then some (1, 0, 64) else none))) (e_lT 19 (fun n => bif Nat.beq n 19 then some (0, 4, 20) else none) (e_lT 20 (fun n => bif Nat.beq n 20 then some (1, 0, 4) else none) (fun n => bif Nat.beq n 21 then some (1, 0, 4) else none)))))) (e_lT 32 (e_lT 26 (e_lT 23 (e_lT 22 (fun n => bif Nat.beq n 22 then some (1, 0, 4) else none) (fun n => bif Nat.beq n 23 then some (1, 0, 4) else none)) (e_lT 24 (fun n => bif Nat.beq n 24 then some (1, 0, 4) else none) (e_lT 25 (fun n => bif Nat.beq n 25 then some (1, 0, 4) else none) (fun n => bif Nat.beq n 26 then some (1, 0, 4) else none)))) (e_lT 29 (e_lT 27 (fun n => bif Nat.beq n 27 then some (1, 0, 4) else none) (e_lT 28 (fun n => bif Nat.beq n 28 then some (1, 0, 4) else none) (fun n => bif Nat.beq n 29 then some (1, 0, 4) else none))) (e_lT 30 (fun n => bif Nat.beq n 30 then some (6, 0, 4) else none) (e_lT 31 (fun n => bif Nat.beq n 31 then some (1, 0, 32) else none) (fun n => bif Nat.beq n 32 then some (1, 0, 32) else none))))) (e_lT 37 (e_lT 34 (e_lT 33 (fun n => bif Nat.beq n 33 then some (1, 0, 32) else none) (fun n => bif Nat.beq n 34 then some (1, 0, 32) else none)) (e_lT 35 (fun n => bif Nat.beq n 35 then some (1, 0, 4) else none) (e_lT 36 (fun n => bif Nat.beq n 36 then some (1, 0, 32) else none) (fun n => bif Nat.beq n 37 then some (1, 0, 32) else none)))) (e_lT 40 (e_lT 38 (fun n => bif Nat.beq n 38 then some (1, 0, 32) else none) (e_lT 39 (fun n => bif Nat.beq n 39 then some (1, 0, 32) else none) (fun n => bif Nat.beq n 40 then some (1, 0, 32) else none))) (e_lT 41 (fun n => bif Nat.beq n 41 then some (6, 0, 32) else none) (e_lT 42 (fun n => bif Nat.beq n 42 then some (1, 0, 4) else none) (fun n => bif Nat.beq n 43 then some (1, 0, 4) else none))))))) (e_lT 65 (e_lT 54 (e_lT 48 (e_lT 45 (e_lT 44 (fun n => bif Nat.beq n 44 then some (1, 0, 4) else none) (fun n => bif Nat.beq n 45 then some (1, 0, 4) else none)) (e_lT 46 (fun n => bif Nat.beq n 46 then some (1, 0, 4) else none) (e_lT 47 (fun n => bif Nat.beq n 47 then some (1, 0, 4) else none) (fun n => bif Nat.beq n 48 then some (1, 0, 4) else none)))) (e_lT 51 (e_lT 49 (fun n => bif Nat.beq n 49 then some (1, 0, 4) else none) (e_lT 50 (fun n => bif Nat.beq n 50 then some (1, 0, 4) else none) (fun n => bif Nat.beq n 51 then some (1, 0, 4) else none))) (e_lT 52 (fun n => bif Nat.beq n 52 then some (1, 0, 4) else none) (e_lT 53 (fun n => bif Nat.beq n 53 then some (1, 0, 4) else none) (fun n => bif Nat.beq n 54 then some (1, 0, 4) else none))))) (e_lT 59 (e_lT 56 (e_lT 55 (fun n => bif Nat.beq n 55 then some (1, 0, 4) else none) (fun n => bif Nat.beq n 56 then some (1, 0, 4) else none)) (e_lT 57 (fun n => bif Nat.beq n 57 then some (1, 0, 4) else none) (e_lT 58 (fun n => bif Nat.beq n 58 then some (1, 0, 4) else none) (fun n => bif Nat.beq n 59 then some (1, 0, 4) else none)))) (e_lT 62 (e_lT 60 (fun n => bif Nat.beq n 60 then some (1, 0, 4) else none) (e_lT 61 (fun n => bif Nat.beq n 61 then some (1, 0, 4) else none) (fun n => bif Nat.beq n 62 then some (1, 0, 4) else none))) (e_lT 63 (fun n => bif Nat.beq n 63 then some (1, 0, 4) else none) (e_lT 64 (fun n => bif Nat.beq n 64 then some (1, 0, 4) else none) (fun n => bif Nat.beq n 65 then some (1, 0, 4) else none)))))) (e_lT 76 (e_lT 70 (e_lT 67 (e_lT 66 (fun n => bif Nat.beq n 66 then some (1, 0, 4) else none) (fun n => bif Nat.beq n 67 then some (1, 0, 4) else none)) (e_lT 68 (fun n => bif Nat.beq n 68 then some (1, 0, 4) else none) (e_lT 69 (fun n => bif Nat.beq n 69 then some (1, 0, 4) else none) (fun n => bif Nat.beq n 70 then some (1, 0, 4) else none)))) (e_lT 73 (e_lT 71 (fun n => bif Nat.beq n 71 then some (1, 0, 4) else none) (e_lT 72 (fun n => bif Nat.beq n 72 then some (1, 0, 4) else none) (fun n => bif Nat.beq n 73 then some (1, 0, 4) else none))) (e_lT 74 (fun n => bif Nat.beq n 74 then some (0, 2, 15) else none) (e_lT 75 (fun n => bif Nat.beq n 75 then some (1, 0, 8000) else none) (fun n => bif Nat.beq n 76 then some (1, 0, 8) else none))))) (e_lT 82 (e_lT 79 (e_lT 77 (fun n => bif Nat.beq n 77 then some (3, 0, 8) else none) (e_lT 78 (fun n => bif Nat.beq n 78 then some (3, 0, 8) else none) (fun n => bif Nat.beq n 79 then some (3, 0, 8) else none))) (e_lT 80 (fun n => bif Nat.beq n 80 then some (3, 0, 8) else none) (e_lT 81 (fun n => bif Nat.beq n 81 then some (1, 0, 8) else none) (fun n => bif Nat.beq n 82 then some (5, 10, 16) else none)))) (e_lT 85 (e_lT 83 (fun n => bif Nat.beq n 83 then some (1, 0, 8) else none) (e_lT 84 (fun n => bif Nat.beq n 84 then some (1, 0, 128) else none) (fun n => bif Nat.beq n 85 then some (1, 0, 6) else none))) (e_lT 86 (fun n => bif Nat.beq n 86 then some (0, 0, 20) else none) (e_lT 87 (fun n => bif Nat.beq n 87 then some (5, 5, 6) else none) (fun n => bif Nat.beq n 88 then some (1, 0, 8) else none)))))))) (e_lT 132 (e_lT 110 (e_lT 99 (e_lT 93 (e_lT 90 (e_lT 89 (fun n => bif Nat.beq n 89 then some (1, 0, 8) else none) (fun n => bif Nat.beq n 90 then some (1, 0, 7) else none)) (e_lT 91 (fun n => bif Nat.beq n 91 then some (1, 0, 7) else none) (e_lT 92 (fun n => bif Nat.beq n 92 then some (1, 0, 7) else none) (fun n => bif Nat.beq n 93 then some (1, 0, 32) else none)))) (e_lT 96 (e_lT 94 (fun n => bif Nat.beq n 94 then some (0, 1, 5) else none) (e_lT 95 (fun n => bif Nat.beq n 95 then some (1, 0, 32) else none) (fun n => bif Nat.beq n 96 then some (1, 0, 4000) else none))) (e_lT 97 (fun n => bif Nat.beq n 97 then some (0, 5, 12) else none) (e_lT 98 (fun n => bif Nat.beq n 98 then some (0, 5, 12) else none) (fun n => bif Nat.beq n 99 then some (0, 5, 12) else none))))) (e_lT 104 (e_lT 101 (e_lT 100 (fun n => bif Nat.beq n 100 then some (0, 5, 12) else none) (fun n => bif Nat.beq n 101 then some (0, 5, 12) else none)) (e_lT 102 (fun n => bif Nat.beq n 102 then some (0, 5, 12) else none) (e_lT 103 (fun n => bif Nat.beq n 103 then some (0, 0, 20) else none) (fun n => bif Nat.beq n 104 then some (5, 5, 6) else none)))) (e_lT 107 (e_lT 105 (fun n => bif Nat.beq n 105 then some (1, 0, 8) else none) (e_lT 106 (fun n => bif Nat.beq n 106 then some (1, 0, 8) else none) (fun n => bif Nat.beq n 107 then some (1, 0, 7) else none))) (e_lT 108 (fun n => bif Nat.beq n 108 then some (1, 0, 7) else none) (e_lT 109 (fun n => bif Nat.beq n 109 then some (1, 0, 7) else none) (fun n => bif Nat.beq n 110 then some (1, 0, 32) else none)))))) (e_lT 121 (e_lT 115 (e_lT 112 (e_lT 111 (fun n => bif Nat.beq n 111 then some (0, 1, 5) else none) (fun n => bif Nat.beq n 112 then some (1, 0, 32) else none)) (e_lT 113 (fun n => bif Nat.beq n 113 then some (1, 0, 4000) else none) (e_lT 114 (fun n => bif Nat.beq n 114 then some (0, 5, 12) else none) (fun n => bif Nat.beq n 115 then some (0, 5, 12) else none)))) (e_lT 118 (e_lT 116 (fun n => bif Nat.beq n 116 then some (0, 5, 12) else none) (e_lT 117 (fun n => bif Nat.beq n 117 then some (0, 5, 12) else none) (fun n => bif Nat.beq n 118 then some (0, 5, 12) else none))) (e_lT 119 (fun n => bif Nat.beq n 119 then some (0, 5, 12) else none) (e_lT 120 (fun n => bif Nat.beq n 120 then some (0, 0, 20) else none) (fun n => bif Nat.beq n 121 then some (5, 5, 6) else none))))) (e_lT 126 (e_lT 123 (e_lT 122 (fun n => bif Nat.beq n 122 then some (1, 0, 8) else none) (fun n => bif Nat.beq n 123 then some (1, 0, 8) else none)) (e_lT 124 (fun n => bif Nat.beq n 124 then some (1, 0, 7) else none) (e_lT 125 (fun n => bif Nat.beq n 125 then some (1, 0, 7) else none) (fun n => bif Nat.beq n 126 then some (1, 0, 7) else none)))) (e_lT 129 (e_lT 127 (fun n => bif Nat.beq n 127 then some (1, 0, 32) else none) (e_lT 128 (fun n => bif Nat.beq n 128 then some (0, 1, 5) else none) (fun n => bif Nat.beq n 129 then some (1, 0, 32) else none))) (e_lT 130 (fun n => bif Nat.beq n 130 then some (1, 0, 4000) else none) (e_lT 131 (fun n => bif Nat.beq n 131 then some (0, 5, 12) else none) (fun n => bif Nat.beq n 132 then some (0, 5, 12) else none))))))) (e_lT 154 (e_lT 143 (e_lT 137 (e_lT 134 (e_lT 133 (fun n => bif Nat.beq n 133 then some (0, 5, 12) else none) (fun n => bif Nat.beq n 134 then some (0, 5, 12) else none)) (e_lT 135 (fun n => bif Nat.beq n 135 then some (0, 5, 12) else none) (e_lT 136 (fun n => bif Nat.beq n 136 then some (0, 5, 12) else none) (fun n => bif Nat.beq n 137 then some (0, 0, 20) else none)))) (e_lT 140 (e_lT 138 (fun n => bif Nat.beq n 138 then some (5, 5, 6) else none) (e_lT 139 (fun n => bif Nat.beq n 139 then some (1, 0, 8) else none) (fun n => bif Nat.beq n 140 then some (1, 0, 8) else none))) (e_lT 141 (fun n => bif Nat.beq n 141 then some (1, 0, 7) else none) (e_lT 142 (fun n => bif Nat.beq n 142 then some (1, 0, 7) else none) (fun n => bif Nat.beq n 143 then some (1, 0, 7) else none))))) (e_lT 148 (e_lT 145 (e_lT 144 (fun n => bif Nat.beq n 144 then some (1, 0, 32) else none) (fun n => bif Nat.beq n 145 then some (0, 1, 5) else none)) (e_lT 146 (fun n => bif Nat.beq n 146 then some (1, 0, 32) else none) (e_lT 147 (fun n => bif Nat.beq n 147 then some (1, 0, 4000) else none) (fun n => bif Nat.beq n 148 then some (0, 5, 12) else none)))) (e_lT 151 (e_lT 149 (fun n => bif Nat.beq n 149 then some (0, 5, 12) else none) (e_lT 150 (fun n => bif Nat.beq n 150 then some (0, 5, 12) else none) (fun n => bif Nat.beq n 151 then some (0, 5, 12) else none))) (e_lT 152 (fun n => bif Nat.beq n 152 then some (0, 5, 12) else none) (e_lT 153 (fun n => bif Nat.beq n 153 then some (0, 5, 12) else none) (fun n => bif Nat.beq n 154 then some (0, 10, 21) else none)))))) (e_lT 165 (e_lT 159 (e_lT 156 (e_lT 155 (fun n => bif Nat.beq n 155 then some (1, 0, 20) else none) (fun n => bif Nat.beq n 156 then some (1, 0, 20) else none)) (e_lT 157 (fun n => bif Nat.beq n 157 then some (1, 0, 600) else none) (e_lT 158 (fun n => bif Nat.beq n 158 then some (1, 0, 600) else none) (fun n => bif Nat.beq n 159 then some (1, 0, 600) else none)))) (e_lT 162 (e_lT 160 (fun n => bif Nat.beq n 160 then some (0, 10, 21) else none) (e_lT 161 (fun n => bif Nat.beq n 161 then some (1, 0, 20) else none) (fun n => bif Nat.beq n 162 then some (1, 0, 20) else none))) (e_lT 163 (fun n => bif Nat.beq n 163 then some (1, 0, 600) else none) (e_lT 164 (fun n => bif Nat.beq n 164 then some (1, 0, 600) else none) (fun n => bif Nat.beq n 165 then some (1, 0, 600) else none))))) (e_lT 171 (e_lT 168 (e_lT 166 (fun n => bif Nat.beq n 166 then some (0, 10, 21) else none) (e_lT 167 (fun n => bif Nat.beq n 167 then some (1, 0, 20) else none) (fun n => bif Nat.beq n 168 then some (1, 0, 20) else none))) (e_lT 169 (fun n => bif Nat.beq n 169 then some (1, 0, 600) else none) (e_lT 170 (fun n => bif Nat.beq n 170 then some (1, 0, 600) else none) (fun n => bif Nat.beq n 171 then some (1, 0, 600) else none)))) (e_lT 174 (e_lT 172 (fun n => bif Nat.beq n 172 then some (0, 10, 21) else none) (e_lT 173 (fun n => bif Nat.beq n 173 then some (1, 0, 20) else none) (fun n => bif Nat.beq n 174 then some (1, 0, 20) else none))) (e_lT 175 (fun n => bif Nat.beq n 175 then some (1, 0, 600) else none) (e_lT 176 (fun n => bif Nat.beq n 176 then some (1, 0, 600) else none) (fun n => bif Nat.beq n 177 then some (1, 0, 600) else none))))))))) (e_lT 266 (e_lT 221 (e_lT 199 (e_lT 188 (e_lT 182 (e_lT 179 (e_lT 178 (fun n => bif Nat.beq n 178 then some (0, 10, 21) else none) (fun n => bif Nat.beq n 179 then some (1, 0, 20) else none)) (e_lT 180 (fun n => bif Nat.beq n 180 then some (1, 0, 20) else none) (e_lT 181 (fun n => bif Nat.beq n 181 then some (1, 0, 600) else none) (fun n => bif Nat.beq n 182 then some (1, 0, 600) else none)))) (e_lT 185 (e_lT 183 (fun n => bif Nat.beq n 183 then some (1, 0, 600) else none) (e_lT 184 (fun n => bif Nat.beq n 184 then some (0, 10, 21) else none) (fun n => bif Nat.beq n 185 then some (1, 0, 20) else none))) (e_lT 186 (fun n => bif Nat.beq n 186 then some (1, 0, 20) else none) (e_lT 187 (fun n => bif Nat.beq n 187 then some (1, 0, 600) else none) (fun n => bif Nat.beq n 188 then some (1, 0, 600) else none))))) (e_lT 193 (e_lT 190 (e_lT 189 (fun n => bif Nat.beq n 189 then some (1, 0, 600) else none) (fun n => bif Nat.beq n 190 then some (0, 10, 21) else none)) (e_lT 191 (fun n => bif Nat.beq n 191 then some (1, 0, 20) else none) (e_lT 192 (fun n => bif Nat.beq n 192 then some (1, 0, 20) else none) (fun n => bif Nat.beq n 193 then some (1, 0, 600) else none)))) (e_lT 196 (e_lT 194 (fun n => bif Nat.beq n 194 then some (1, 0, 600) else none) (e_lT 195 (fun n => bif Nat.beq n 195 then some (1, 0, 600) else none) (fun n => bif Nat.beq n 196 then some (0, 10, 21) else none))) (e_lT 197 (fun n => bif Nat.beq n 197 then some (1, 0, 20) else none) (e_lT 198 (fun n => bif Nat.beq n 198 then some (1, 0, 20) else none) (fun n => bif Nat.beq n 199 then some (1, 0, 600) else none)))))) (e_lT 210 (e_lT 204 (e_lT 201 (e_lT 200 (fun n => bif Nat.beq n 200 then some (1, 0, 600) else none) (fun n => bif Nat.beq n 201 then some (1, 0, 600) else none)) (e_lT 202 (fun n => bif Nat.beq n 202 then some (0, 10, 21) else none) (e_lT 203 (fun n => bif Nat.beq n 203 then some (1, 0, 20) else none) (fun n => bif Nat.beq n 204 then some (1, 0, 20) else none)))) (e_lT 207 (e_lT 205 (fun n => bif Nat.beq n 205 then some (1, 0, 600) else none) (e_lT 206 (fun n => bif Nat.beq n 206 then some (1, 0, 600) else none) (fun n => bif Nat.beq n 207 then some (1, 0, 600) else none))) (e_lT 208 (fun n => bif Nat.beq n 208 then some (0, 10, 21) else none) (e_lT 209 (fun n => bif Nat.beq n 209 then some (1, 0, 20) else none) (fun n => bif Nat.beq n 210 then some (1, 0, 20) else none))))) (e_lT 215 (e_lT 212 (e_lT 211 (fun n => bif Nat.beq n 211 then some (1, 0, 600) else none) (fun n => bif Nat.beq n 212 then some (1, 0, 600) else none)) (e_lT 213 (fun n => bif Nat.beq n 213 then some (1, 0, 600) else none) (e_lT 214 (fun n => bif Nat.beq n 214 then some (0, 10, 21) else none) (fun n => bif Nat.beq n 215 then some (1, 0, 20) else none)))) (e_lT 218 (e_lT 216 (fun n => bif Nat.beq n 216 then some (1, 0, 20) else none) (e_lT 217 (fun n => bif Nat.beq n 217 then some (1, 0, 600) else none) (fun n => bif Nat.beq n 218 then some (1, 0, 600) else none))) (e_lT 219 (fun n => bif Nat.beq n 219 then some (1, 0, 600) else none) (e_lT 220 (fun n => bif Nat.beq n 220 then some (0, 10, 21) else none) (fun n => bif Nat.beq n 221 then some (1, 0, 20) else none))))))) (e_lT 243 (e_lT 232 (e_lT 226 (e_lT 223 (e_lT 222 (fun n => bif Nat.beq n 222 then some (1, 0, 20) else none) (fun n => bif Nat.beq n 223 then some (1, 0, 600) else none)) (e_lT 224 (fun n => bif Nat.beq n 224 then some (1, 0, 600) else none) (e_lT 225 (fun n => bif Nat.beq n 225 then some (1, 0, 600) else none) (fun n => bif Nat.beq n 226 then some (0, 10, 21) else none)))) (e_lT 229 (e_lT 227 (fun n => bif Nat.beq n 227 then some (1, 0, 20) else none) (e_lT 228 (fun n => bif Nat.beq n 228 then some (1, 0, 20) else none) (fun n => bif Nat.beq n 229 then some (1, 0, 600) else none))) (e_lT 230 (fun n => bif Nat.beq n 230 then some (1, 0, 600) else none) (e_lT 231 (fun n => bif Nat.beq n 231 then some (1, 0, 600) else none) (fun n => bif Nat.beq n 232 then some (0, 10, 21) else none))))) (e_lT 237 (e_lT 234 (e_lT 233 (fun n => bif Nat.beq n 233 then some (1, 0, 20) else none) (fun n => bif Nat.beq n 234 then some (1, 0, 20) else none)) (e_lT 235 (fun n => bif Nat.beq n 235 then some (1, 0, 600) else none) (e_lT 236 (fun n => bif Nat.beq n 236 then some (1, 0, 600) else none) (fun n => bif Nat.beq n 237 then some (1, 0, 600) else none)))) (e_lT 240 (e_lT 238 (fun n => bif Nat.beq n 238 then some (0, 10, 21) else none) (e_lT 239 (fun n => bif Nat.beq n 239 then some (1, 0, 20) else none) (fun n => bif Nat.beq n 240 then some (1, 0, 20) else none))) (e_lT 241 (fun n => bif Nat.beq n 241 then some (1, 0, 600) else none) (e_lT 242 (fun n => bif Nat.beq n 242 then some (1, 0, 600) else none) (fun n => bif Nat.beq n 243 then some (1, 0, 600) else none)))))) (e_lT 254 (e_lT 248 (e_lT 245 (e_lT 244 (fun n => bif Nat.beq n 244 then some (0, 10, 21) else none) (fun n => bif Nat.beq n 245 then some (1, 0, 20) else none)) (e_lT 246 (fun n => bif Nat.beq n 246 then some (1, 0, 20) else none) (e_lT 247 (fun n => bif Nat.beq n 247 then some (1, 0, 600) else none) (fun n => bif Nat.beq n 248 then some (1, 0, 600) else none)))) (e_lT 251 (e_lT 249 (fun n => bif Nat.beq n 249 then some (1, 0, 600) else none) (e_lT 250 (fun n => bif Nat.beq n 250 then some (0, 9, 17) else none) (fun n => bif Nat.beq n 251 then some (1, 0, 16) else none))) (e_lT 252 (fun n => bif Nat.beq n 252 then some (1, 0, 16) else none) (e_lT 253 (fun n => bif Nat.beq n 253 then some (1, 0, 16) else none) (fun n => bif Nat.beq n 254 then some (1, 0, 16) else none))))) (e_lT 260 (e_lT 257 (e_lT 255 (fun n => bif Nat.beq n 255 then some (1, 0, 16) else none) (e_lT 256 (fun n => bif Nat.beq n 256 then some (1, 0, 8) else none) (fun n => bif Nat.beq n 257 then some (1, 0, 8) else none))) (e_lT 258 (fun n => bif Nat.beq n 258 then some (1, 0, 8) else none) (e_lT 259 (fun n => bif Nat.beq n 259 then some (1, 0, 8) else none) (fun n => bif Nat.beq n 260 then some (1, 0, 8) else none)))) (e_lT 263 (e_lT 261 (fun n => bif Nat.beq n 261 then some (1, 0, 8) else none) (e_lT 262 (fun n => bif Nat.beq n 262 then some (0, 6, 13) else none) (fun n => bif Nat.beq n 263 then some (1, 0, 6) else none))) (e_lT 264 (fun n => bif Nat.beq n 264 then some (1, 0, 6) else none) (e_lT 265 (fun n => bif Nat.beq n 265 then some (1, 0, 6) else none) (fun n => bif Nat.beq n 266 then some (1, 0, 6) else none)))))))) (e_lT 311 (e_lT 288 (e_lT 277 (e_lT 271 (e_lT 268 (e_lT 267 (fun n => bif Nat.beq n 267 then some (1, 0, 1000) else none) (fun n => bif Nat.beq n 268 then some (1, 0, 1000) else none)) (e_lT 269 (fun n => bif Nat.beq n 269 then some (2, 0, 60000) else none) (e_lT 270 (fun n => bif Nat.beq n 270 then some (1, 0, 60) else none) (fun n => bif Nat.beq n 271 then some (1, 0, 60) else none)))) (e_lT 274 (e_lT 272 (fun n => bif Nat.beq n 272 then some (1, 0, 6) else none) (e_lT 273 (fun n => bif Nat.beq n 273 then some (1, 0, 8000) else none) (fun n => bif Nat.beq n 274 then some (1, 0, 4) else none))) (e_lT 275 (fun n => bif Nat.beq n 275 then some (0, 12, 119) else none) (e_lT 276 (fun n => bif Nat.beq n 276 then some (1, 0, 33060) else none) (fun n => bif Nat.beq n 277 then some (1, 0, 33060) else none))))) (e_lT 282 (e_lT 279 (e_lT 278 (fun n => bif Nat.beq n 278 then some (1, 0, 661200) else none) (fun n => bif Nat.beq n 279 then some (1, 0, 8000) else none)) (e_lT 280 (fun n => bif Nat.beq n 280 then some (1, 0, 4) else none) (e_lT 281 (fun n => bif Nat.beq n 281 then some (2, 0, 4000) else none) (fun n => bif Nat.beq n 282 then some (1, 0, 4) else none)))) (e_lT 285 (e_lT 283 (fun n => bif Nat.beq n 283 then some (1, 0, 4) else none) (e_lT 284 (fun n => bif Nat.beq n 284 then some (1, 0, 4) else none) (fun n => bif Nat.beq n 285 then some (1, 0, 4) else none))) (e_lT 286 (fun n => bif Nat.beq n 286 then some (1, 0, 4) else none) (e_lT 287 (fun n => bif Nat.beq n 287 then some (1, 0, 24) else none) (fun n => bif Nat.beq n 288 then some (1, 0, 24) else none)))))) (e_lT 299 (e_lT 293 (e_lT 290 (e_lT 289 (fun n => bif Nat.beq n 289 then some (1, 0, 24) else none) (fun n => bif Nat.beq n 290 then some (1, 0, 24) else none)) (e_lT 291 (fun n => bif Nat.beq n 291 then some (1, 0, 24) else none) (e_lT 292 (fun n => bif Nat.beq n 292 then some (1, 0, 24) else none) (fun n => bif Nat.beq n 293 then some (1, 0, 24) else none)))) (e_lT 296 (e_lT 294 (fun n => bif Nat.beq n 294 then some (3, 0, 16) else none) (e_lT 295 (fun n => bif Nat.beq n 295 then some (1, 0, 16) else none) (fun n => bif Nat.beq n 296 then some (1, 0, 16) else none))) (e_lT 297 (fun n => bif Nat.beq n 297 then some (1, 0, 16) else none) (e_lT 298 (fun n => bif Nat.beq n 298 then some (1, 0, 16) else none) (fun n => bif Nat.beq n 299 then some (3, 0, 448) else none))))) (e_lT 305 (e_lT 302 (e_lT 300 (fun n => bif Nat.beq n 300 then some (1, 0, 4) else none) (e_lT 301 (fun n => bif Nat.beq n 301 then some (1, 0, 4) else none) (fun n => bif Nat.beq n 302 then some (1, 0, 4) else none))) (e_lT 303 (fun n => bif Nat.beq n 303 then some (1, 0, 4) else none) (e_lT 304 (fun n => bif Nat.beq n 304 then some (1, 0, 4) else none) (fun n => bif Nat.beq n 305 then some (1, 0, 4) else none)))) (e_lT 308 (e_lT 306 (fun n => bif Nat.beq n 306 then some (1, 0, 4) else none) (e_lT 307 (fun n => bif Nat.beq n 307 then some (1, 0, 4) else none) (fun n => bif Nat.beq n 308 then some (1, 0, 4) else none))) (e_lT 309 (fun n => bif Nat.beq n 309 then some (1, 0, 32) else none) (e_lT 310 (fun n => bif Nat.beq n 310 then some (1, 0, 8) else none) (fun n => bif Nat.beq n 311 then some (1, 0, 8) else none))))))) (e_lT 333 (e_lT 322 (e_lT 316 (e_lT 313 (e_lT 312 (fun n => bif Nat.beq n 312 then some (1, 0, 8) else none) (fun n => bif Nat.beq n 313 then some (1, 0, 8) else none)) (e_lT 314 (fun n => bif Nat.beq n 314 then some (1, 0, 8) else none) (e_lT 315 (fun n => bif Nat.beq n 315 then some (1, 0, 8) else none) (fun n => bif Nat.beq n 316 then some (1, 0, 8) else none)))) (e_lT 319 (e_lT 317 (fun n => bif Nat.beq n 317 then some (3, 0, 8) else none) (e_lT 318 (fun n => bif Nat.beq n 318 then some (1, 0, 64) else none) (fun n => bif Nat.beq n 319 then some (3, 0, 64) else none))) (e_lT 320 (fun n => bif Nat.beq n 320 then some (1, 0, 1025) else none) (e_lT 321 (fun n => bif Nat.beq n 321 then some (1, 0, 35) else none) (fun n => bif Nat.beq n 322 then some (1, 0, 35) else none))))) (e_lT 327 (e_lT 324 (e_lT 323 (fun n => bif Nat.beq n 323 then some (1, 0, 6) else none) (fun n => bif Nat.beq n 324 then some (1, 0, 4) else none)) (e_lT 325 (fun n => bif Nat.beq n 325 then some (1, 0, 4) else none) (e_lT 326 (fun n => bif Nat.beq n 326 then some (1, 0, 65) else none) (fun n => bif Nat.beq n 327 then some (3, 0, 64) else none)))) (e_lT 330 (e_lT 328 (fun n => bif Nat.beq n 328 then some (1, 0, 50000) else none) (e_lT 329 (fun n => bif Nat.beq n 329 then some (1, 0, 50000) else none) (fun n => bif Nat.beq n 330 then some (1, 0, 50000) else none))) (e_lT 331 (fun n => bif Nat.beq n 331 then some (1, 0, 4500) else none) (e_lT 332 (fun n => bif Nat.beq n 332 then some (1, 0, 4500) else none) (fun n => bif Nat.beq n 333 then some (1, 0, 4500) else none)))))) (e_lT 344 (e_lT 338 (e_lT 335 (e_lT 334 (fun n => bif Nat.beq n 334 then some (1, 0, 4500) else none) (fun n => bif Nat.beq n 335 then some (1, 0, 4500) else none)) (e_lT 336 (fun n => bif Nat.beq n 336 then some (1, 0, 4500) else none) (e_lT 337 (fun n => bif Nat.beq n 337 then some (1, 0, 160) else none) (fun n => bif Nat.beq n 338 then some (1, 0, 5) else none)))) (e_lT 341 (e_lT 339 (fun n => bif Nat.beq n 339 then some (1, 0, 5) else none) (e_lT 340 (fun n => bif Nat.beq n 340 then some (3, 0, 5) else none) (fun n => bif Nat.beq n 341 then some (1, 0, 4100) else none))) (e_lT 342 (fun n => bif Nat.beq n 342 then some (1, 0, 4100) else none) (e_lT 343 (fun n => bif Nat.beq n 343 then some (1, 0, 4100) else none) (fun n => bif Nat.beq n 344 then some (1, 0, 4100) else none))))) (e_lT 350 (e_lT 347 (e_lT 345 (fun n => bif Nat.beq n 345 then some (1, 0, 4200) else none) (e_lT 346 (fun n => bif Nat.beq n 346 then some (1, 0, 24) else none) (fun n => bif Nat.beq n 347 then some (1, 0, 6) else none))) (e_lT 348 (fun n => bif Nat.beq n 348 then some (1, 0, 6) else none) (e_lT 349 (fun n => bif Nat.beq n 349 then some (1, 0, 1000) else none) (fun n => bif Nat.beq n 350 then some (1, 0, 1000) else none)))) (e_lT 353 (e_lT 351 (fun n => bif Nat.beq n 351 then some (1, 0, 1000) else none) (e_lT 352 (fun n => bif Nat.beq n 352 then some (1, 0, 6000) else none) (fun n => bif Nat.beq n 353 then some (1, 0, 1000) else none))) (e_lT 354 (fun n => bif Nat.beq n 354 then some (1, 0, 200000) else none) (e_lT 355 (fun n => bif Nat.beq n 355 then some (1, 0, 2000) else none) (fun n => bif Nat.beq n 356 then some (1, 0, 2000) else none))))))))))
set_option maxRecDepth 20000 in
theorem el_all : ∀ n, n < 357 → e_lt n = elay[n]? := by decide +kernel
theorem el_of {c : Int} {y : eY} (hc : c.toNat < 357) (h : e_lt c.toNat = some y) : elay[c.toNat]? = some y := by
  rw [← el_all _ hc]
  exact h
theorem el_o {c : Int} {y : eY} (h : (bif Nat.ble 357 c.toNat then none else e_lt c.toNat) = some y) : elay[c.toNat]? = some y := by
  cases hb : Nat.ble 357 c.toNat with
  | true => rw [hb] at h; cases h
  | false =>
    rw [hb] at h
    have hc : c.toNat < 357 := by
      rcases Nat.lt_or_ge c.toNat 357 with q | q
      · exact q
      · rw [Nat.ble_eq_true_of_le q] at hb
        cases hb
    exact el_of hc h
end
end
-- part 49x
section
noncomputable section
/-! short ways -/
theorem e_dq {K m d : Nat} (h : K ≤ d + 1) (q : Nat.ble (m + 1) K = true) : m ≤ d := by
  have := Nat.le_of_ble_eq_true q
  omega
theorem e_dq0 {K m d : Nat} (h : K ≤ d) (q : Nat.ble m K = true) : m ≤ d := Nat.le_trans (Nat.le_of_ble_eq_true q) h
theorem e_bq {lo hi z : Int} (h : lo ≤ z ∧ z ≤ hi) (a : (-2147483648 : Int) ≤ lo) (b : hi ≤ 2147483647) : -2147483648 ≤ z ∧ z ≤ 2147483647 := ⟨Int.le_trans a h.1, Int.le_trans h.2 b⟩
theorem e_neo {x m n : Int} (h : m ≠ n) : x + m ≠ x + n := fun e => h (by omega)
theorem e_ne1 {x n : Int} (h : n ≠ 0) : x ≠ x + n := fun e => h (by omega)
theorem e_ne2 {x n : Int} (h : n ≠ 0) : x + n ≠ x := fun e => h (by omega)
theorem e_ue {w w' : eW} {c k v : Int} (h : e_up w c k v = w') : w' c k = v := by rw [← h]; exact e_up_eq _ _ _ _
theorem e_uq {w w' : eW} {c k v c' k' z : Int} (h : e_up w c k v = w') (n : c' ≠ c ∨ k' ≠ k) (p : w c' k' = z) : w' c' k' = z := by rw [← h]; exact (e_up_ne _ _ n).trans p
theorem e_un {w w' : eW} {c k v c' k' : Int} (h : e_up w c k v = w') (n : c' ≠ c ∨ k' ≠ k) : w' c' k' = w c' k' := by rw [← h]; exact e_up_ne _ _ n
end
end
-- part 50
section
noncomputable section
theorem c_266 {d : Nat} {w : eW} {v lo hi : Int} : e_Ok 20 elay ecode eI d 266 (0, [(0, (4, v)), (2, (4, lo)), (4, (4, hi))], [], w) (fun r w' => ∃ z : Int, r = [(0, z)] ∧ w = w' ∧ ((z = 1 ∧ lo ≤ v ∧ v ≤ hi) ∨ (z = 0 ∧ (v < lo ∨ hi < v)))) := by
  refine e_Ok.run (t' := (2, [(0, (4, v)), (2, (4, lo)), (4, (4, hi))], [(4, lo), (4, v)], w)) 2 rfl ?_
  refine e_Ok.lcmp rfl (fun z1 z1a z1b z1c => ?_)
  refine e_Ok.if1 rfl (fun h2 => ?_) (fun h2 => ?_)
  · replace h2 : (z1 : Int) < 0 := h2
    refine e_Ok.run (t' := (18, [(0, (4, v)), (2, (4, lo)), (4, (4, hi))], [(0, 0)], w)) 1 rfl ?_
    refine e_Ok.rets rfl rfl ?_
    exact ⟨_, rfl, rfl, Or.inr ⟨rfl, by omega⟩⟩
  · replace h2 : (z1 : Int) ≥ 0 := Int.not_lt.mp (show ¬ ((z1 : Int) < 0) from h2)
    refine e_Ok.run (t' := (9, [(0, (4, v)), (2, (4, lo)), (4, (4, hi))], [(4, hi), (4, v)], w)) 2 rfl ?_
    refine e_Ok.lcmp rfl (fun z3 z3a z3b z3c => ?_)
    refine e_Ok.if1 rfl (fun h4 => ?_) (fun h4 => ?_)
    · replace h4 : (z3 : Int) > 0 := h4
      refine e_Ok.run (t' := (18, [(0, (4, v)), (2, (4, lo)), (4, (4, hi))], [(0, 0)], w)) 1 rfl ?_
      refine e_Ok.rets rfl rfl ?_
      exact ⟨_, rfl, rfl, Or.inr ⟨rfl, by omega⟩⟩
    · replace h4 : (z3 : Int) ≤ 0 := Int.not_lt.mp (show ¬ ((z3 : Int) > 0) from h4)
      refine e_Ok.run (t' := (18, [(0, (4, v)), (2, (4, lo)), (4, (4, hi))], [(0, 1)], w)) 2 rfl ?_
      refine e_Ok.rets rfl rfl ?_
      exact ⟨_, rfl, rfl, Or.inl ⟨rfl, by omega, by omega⟩⟩
theorem c_268 {d : Nat} {w : eW} {a : Int} (h : 0 ≤ a ∧ a ≤ 100) : e_Ok 20 elay ecode eI d 268 (0, [(0, (0, a))], [], w) (fun r w' => r = [(0, 36 * a + 16)] ∧ w = w') := by
  refine e_Ok.run (t' := (5, [(0, (0, a))], [(0, a), (0, 36), (0, 16)], w)) 3 rfl ?_
  refine e_Ok.mul (z := 36 * a) rfl (by first | with_reducible rfl | exact Int.add_comm _ _ | omega) (by omega) ?_
  refine e_Ok.add (z := 36 * a + 16) rfl (by first | with_reducible rfl | exact Int.add_comm _ _ | omega) (by omega) ?_
  refine e_Ok.rets rfl rfl ?_
  exact ⟨rfl, rfl⟩
theorem c_269 {d : Nat} {w : eW} {a : Int} (h : 0 ≤ a ∧ a ≤ 100) : e_Ok 20 elay ecode eI d 269 (0, [(0, (0, a))], [], w) (fun r w' => r = [(0, 1260 * a + 416)] ∧ w = w') := by
  refine e_Ok.run (t' := (7, [(0, (0, a))], [(0, a), (0, 1260), (0, 416)], w)) 3 rfl ?_
  refine e_Ok.mul (z := 1260 * a) rfl (by first | with_reducible rfl | exact Int.add_comm _ _ | omega) (by omega) ?_
  refine e_Ok.add (z := 1260 * a + 416) rfl (by first | with_reducible rfl | exact Int.add_comm _ _ | omega) (by omega) ?_
  refine e_Ok.rets rfl rfl ?_
  exact ⟨rfl, rfl⟩
theorem c_392 {d : Nat} {w : eW} {a : Int} (h : 0 ≤ a ∧ a ≤ 100) : e_Ok 20 elay ecode eI d 392 (0, [(0, (0, a))], [], w) (fun r w' => r = [(0, 4 * a + 20576)] ∧ w = w') := by
  refine e_Ok.run (t' := (5, [(0, (0, a))], [(0, a), (0, 4), (0, 20576)], w)) 3 rfl ?_
  refine e_Ok.mul (z := 4 * a) rfl (by first | with_reducible rfl | exact Int.add_comm _ _ | omega) (by omega) ?_
  refine e_Ok.add (z := 4 * a + 20576) rfl (by first | with_reducible rfl | exact Int.add_comm _ _ | omega) (by omega) ?_
  refine e_Ok.rets rfl rfl ?_
  exact ⟨rfl, rfl⟩
theorem c_270 {d : Nat} (hd : 21 ≤ d) {w : eW} (hT : e_Has mTy w) {a : Int} : e_Ok 20 elay ecode eI d 270 (0, [(0, (1, 275)), (1, (0, a))], [], w) (fun r w' => ∃ z : Int, r = [(0, z)] ∧ w = w' ∧ ((z = 1 ∧ 0 ≤ a ∧ a < w 275 10) ∨ (z = 0 ∧ (a < 0 ∨ w 275 10 ≤ a)))) := by
  obtain ⟨d, rfl⟩ : ∃ e, d = e + 1 := ⟨d - 1, by omega⟩
  refine e_Ok.run (t' := (4, [(0, (1, 275)), (1, (0, a))], [(1, 275), (4, 0), (4, a)], w)) 4 rfl ?_
  have h1 := (e_Has.get hT (c := 275) (k := 10) (lo := 0) (hi := 4) rfl (by decide))
  refine e_Ok.getf (z := w 275 10) rfl (el_o rfl) rfl rfl rfl (by first | exact e_bq h1 (by decide) (by decide) | omega) ?_
  refine e_Ok.run (t' := (8, [(0, (1, 275)), (1, (0, a))], [(0, 1), (0, w 275 10), (4, 0), (4, a)], w)) 1 rfl ?_
  refine e_Ok.sub' (z := w 275 10 - 1) rfl (by first | with_reducible rfl | exact Int.add_comm _ _ | omega) (by omega) ?_
  refine e_Ok.run (t' := (10, [(0, (1, 275)), (1, (0, a))], [(4, w 275 10 - 1), (4, 0), (4, a)], w)) 1 rfl ?_
  refine e_Ok.callS rfl (by first | exact e_dq hd rfl | omega) rfl rfl (c_266) (fun r2 w3 h4 => ?_)
  obtain ⟨z5, rfl, rfl, q6⟩ := h4
  obtain ⟨rfl, q6⟩ | ⟨rfl, q6⟩ := q6
  · show e_Ok 20 elay ecode eI (d + 1) 270 (13, [(0, (1, 275)), (1, (0, a))], [(0, 1)], w) _
    refine e_Ok.rets rfl rfl ?_
    exact ⟨_, rfl, rfl, Or.inl ⟨rfl, by omega, by omega⟩⟩
  · show e_Ok 20 elay ecode eI (d + 1) 270 (13, [(0, (1, 275)), (1, (0, a))], [(0, 0)], w) _
    refine e_Ok.rets rfl rfl ?_
    exact ⟨_, rfl, rfl, Or.inr ⟨rfl, by omega⟩⟩
theorem c_306 {d : Nat} {w : eW} {a1 a2 a3 : Int} : e_Ok 20 elay ecode eI d 306 (0, [(0, (4, a1)), (2, (4, a2)), (4, (4, a3))], [], w) (fun r w' => ∃ z : Int, r = [(0, z)] ∧ w = w' ∧ 0 ≤ z ∧ z ≤ 1) := by
  refine e_Ok.run (t' := (2, [(0, (4, a1)), (2, (4, a2)), (4, (4, a3))], [(4, a1), (4, a1)], w)) 2 rfl ?_
  refine e_Ok.anyL rfl ⟨_, rfl⟩ (fun x1 => ?_)
  refine e_Ok.run (t' := (5, [(0, (4, a1)), (2, (4, a2)), (4, (4, a3))], [(4, a2), (4, a2), (4, x1)], w)) 2 rfl ?_
  refine e_Ok.anyL rfl ⟨_, rfl⟩ (fun x2 => ?_)
  refine e_Ok.anyL rfl ⟨_, rfl⟩ (fun x3 => ?_)
  refine e_Ok.run (t' := (11, [(0, (4, a1)), (2, (4, a2)), (4, (4, a3))], [(4, a3), (4, a3), (4, x3)], w)) 2 rfl ?_
  refine e_Ok.anyL rfl ⟨_, rfl⟩ (fun x4 => ?_)
  refine e_Ok.lcmp rfl (fun z5 z5a z5b z5c => ?_)
  have hJ8 : ∀ m7 : Int, 0 ≤ m7 ∧ m7 ≤ 1 → e_Ok 20 elay ecode eI d 306 (21, [(0, (4, a1)), (2, (4, a2)), (4, (4, a3))], [(0, m7)], w) (fun r w' => ∃ z : Int, r = [(0, z)] ∧ w = w' ∧ 0 ≤ z ∧ z ≤ 1) := by
    intro m7 m7r
    refine e_Ok.retb rfl (by omega) ?_
    exact ⟨_, rfl, rfl, by omega, by omega⟩
  refine e_Ok.if1 rfl (fun h6 => ?_) (fun h6 => ?_)
  · exact e_Ok.run 1 rfl (hJ8 0 (by omega))
  · exact e_Ok.run 2 rfl (hJ8 1 (by omega))
theorem c_308 {d : Nat} {w : eW} {a1 a2 a3 a4 a5 a6 : Int} : e_Ok 20 elay ecode eI d 308 (0, [(0, (4, a1)), (2, (4, a2)), (4, (4, a3)), (6, (4, a4)), (8, (4, a5)), (10, (4, a6))], [], w) (fun r w' => ∃ z : Int, r = [(0, z)] ∧ w = w' ∧ (-1) ≤ z ∧ z ≤ 1) := by
  refine e_Ok.run (t' := (3, [(0, (4, a1)), (2, (4, a2)), (4, (4, a3)), (6, (4, a4)), (8, (4, a5)), (10, (4, a6))], [(4, a1), (4, a3)], w)) 2 rfl ?_
  refine e_Ok.anyL rfl ⟨_, rfl⟩ (fun x1 => ?_)
  refine e_Ok.run (t' := (7, [(0, (4, a1)), (2, (4, a2)), (4, (4, a3)), (6, (4, a4)), (8, (4, a5)), (10, (4, a6))], [(4, a2), (4, a6), (4, x1)], w)) 2 rfl ?_
  refine e_Ok.anyL rfl ⟨_, rfl⟩ (fun x2 => ?_)
  refine e_Ok.anyL rfl ⟨_, rfl⟩ (fun x3 => ?_)
  refine e_Ok.run (t' := (12, [(0, (4, a1)), (2, (4, a2)), (4, (4, a3)), (6, (4, a4)), (8, (4, a5)), (10, (4, a6))], [(4, a2), (4, a4), (4, x3)], w)) 2 rfl ?_
  refine e_Ok.anyL rfl ⟨_, rfl⟩ (fun x4 => ?_)
  refine e_Ok.run (t' := (16, [(0, (4, a1)), (2, (4, a2)), (4, (4, a3)), (6, (4, a4)), (8, (4, a5)), (10, (4, a6))], [(4, a1), (4, a5), (4, x4), (4, x3)], w)) 2 rfl ?_
  refine e_Ok.anyL rfl ⟨_, rfl⟩ (fun x5 => ?_)
  refine e_Ok.anyL rfl ⟨_, rfl⟩ (fun x6 => ?_)
  refine e_Ok.anyL rfl ⟨_, rfl⟩ (fun x7 => ?_)
  refine e_Ok.run (t' := (24, [(12, (4, x7)), (0, (4, a1)), (2, (4, a2)), (4, (4, a3)), (6, (4, a4)), (8, (4, a5)), (10, (4, a6))], [(4, 0), (4, x7)], w)) 3 rfl ?_
  refine e_Ok.lcmp rfl (fun z8 z8a z8b z8c => ?_)
  refine e_Ok.if1 rfl (fun h9 => ?_) (fun h9 => ?_)
  · replace h9 : (z8 : Int) ≤ 0 := h9
    refine e_Ok.run (t' := (35, [(12, (4, x7)), (0, (4, a1)), (2, (4, a2)), (4, (4, a3)), (6, (4, a4)), (8, (4, a5)), (10, (4, a6))], [(4, 0), (4, x7)], w)) 2 rfl ?_
    refine e_Ok.lcmp rfl (fun z10 z10a z10b z10c => ?_)
    have hJ13 : ∀ m12 : Int, (-1) ≤ m12 ∧ m12 ≤ 0 → e_Ok 20 elay ecode eI d 308 (44, [(12, (4, x7)), (0, (4, a1)), (2, (4, a2)), (4, (4, a3)), (6, (4, a4)), (8, (4, a5)), (10, (4, a6))], [(0, m12)], w) (fun r w' => ∃ z : Int, r = [(0, z)] ∧ w = w' ∧ (-1) ≤ z ∧ z ≤ 1) := by
      intro m12 m12r
      refine e_Ok.rets rfl rfl ?_
      exact ⟨_, rfl, rfl, by omega, by omega⟩
    refine e_Ok.if1 rfl (fun h11 => ?_) (fun h11 => ?_)
    · exact e_Ok.run 1 rfl (hJ13 0 (by omega))
    · exact e_Ok.run 2 rfl (hJ13 (-1) (by omega))
  · replace h9 : (z8 : Int) > 0 := Int.not_le.mp (show ¬ ((z8 : Int) ≤ 0) from h9)
    refine e_Ok.run (t' := (44, [(12, (4, x7)), (0, (4, a1)), (2, (4, a2)), (4, (4, a3)), (6, (4, a4)), (8, (4, a5)), (10, (4, a6))], [(0, 1)], w)) 2 rfl ?_
    refine e_Ok.rets rfl rfl ?_
    exact ⟨_, rfl, rfl, by omega, by omega⟩
theorem c_309 {d : Nat} {w : eW} {a1 a2 a3 a4 a5 : Int} : e_Ok 20 elay ecode eI d 309 (0, [(0, (4, a1)), (2, (4, a2)), (4, (4, a3)), (6, (4, a4)), (8, (4, a5))], [], w) (fun r w' => ∃ z : Int, r = [(0, z)] ∧ w = w' ∧ 0 ≤ z ∧ z ≤ 1) := by
  refine e_Ok.run (t' := (2, [(0, (4, a1)), (2, (4, a2)), (4, (4, a3)), (6, (4, a4)), (8, (4, a5))], [(4, a2), (4, a1)], w)) 2 rfl ?_
  refine e_Ok.lcmp rfl (fun z1 z1a z1b z1c => ?_)
  have hJ4 : ∀ m3 : Int, e_Ok 20 elay ecode eI d 309 (11, [(0, (4, a1)), (2, (4, a2)), (4, (4, a3)), (6, (4, a4)), (8, (4, a5))], [(4, m3)], w) (fun r w' => ∃ z : Int, r = [(0, z)] ∧ w = w' ∧ 0 ≤ z ∧ z ≤ 1) := by
    intro m3
    refine e_Ok.run (t' := (15, [(0, (4, a1)), (2, (4, a2)), (4, (4, a3)), (6, (4, a4)), (8, (4, a5))], [(4, a4), (4, a3), (4, m3)], w)) 2 rfl ?_
    refine e_Ok.lcmp rfl (fun z5 z5a z5b z5c => ?_)
    have hJ8 : ∀ m7 : Int, e_Ok 20 elay ecode eI d 309 (26, [(0, (4, a1)), (2, (4, a2)), (4, (4, a3)), (6, (4, a4)), (8, (4, a5))], [(4, m7), (4, m3)], w) (fun r w' => ∃ z : Int, r = [(0, z)] ∧ w = w' ∧ 0 ≤ z ∧ z ≤ 1) := by
      intro m7
      refine e_Ok.anyL rfl ⟨_, rfl⟩ (fun x9 => ?_)
      refine e_Ok.run (t' := (29, [(0, (4, a1)), (2, (4, a2)), (4, (4, a3)), (6, (4, a4)), (8, (4, a5))], [(4, a5), (4, x9)], w)) 1 rfl ?_
      refine e_Ok.lcmp rfl (fun z10 z10a z10b z10c => ?_)
      refine e_Ok.if1 rfl (fun h11 => ?_) (fun h11 => ?_)
      · replace h11 : (z10 : Int) > 0 := h11
        refine e_Ok.run (t' := (71, [(0, (4, a1)), (2, (4, a2)), (4, (4, a3)), (6, (4, a4)), (8, (4, a5))], [(0, 1)], w)) 2 rfl ?_
        refine e_Ok.rets rfl rfl ?_
        exact ⟨_, rfl, rfl, by omega, by omega⟩
      · replace h11 : (z10 : Int) ≤ 0 := Int.not_lt.mp (show ¬ ((z10 : Int) > 0) from h11)
        refine e_Ok.run (t' := (37, [(0, (4, a1)), (2, (4, a2)), (4, (4, a3)), (6, (4, a4)), (8, (4, a5))], [(4, a4), (4, a3)], w)) 2 rfl ?_
        refine e_Ok.lcmp rfl (fun z12 z12a z12b z12c => ?_)
        have hJ15 : ∀ m14 : Int, e_Ok 20 elay ecode eI d 309 (48, [(0, (4, a1)), (2, (4, a2)), (4, (4, a3)), (6, (4, a4)), (8, (4, a5))], [(4, m14)], w) (fun r w' => ∃ z : Int, r = [(0, z)] ∧ w = w' ∧ 0 ≤ z ∧ z ≤ 1) := by
          intro m14
          refine e_Ok.run (t' := (50, [(0, (4, a1)), (2, (4, a2)), (4, (4, a3)), (6, (4, a4)), (8, (4, a5))], [(4, a2), (4, a1), (4, m14)], w)) 2 rfl ?_
          refine e_Ok.lcmp rfl (fun z16 z16a z16b z16c => ?_)
          have hJ19 : ∀ m18 : Int, e_Ok 20 elay ecode eI d 309 (59, [(0, (4, a1)), (2, (4, a2)), (4, (4, a3)), (6, (4, a4)), (8, (4, a5))], [(4, m18), (4, m14)], w) (fun r w' => ∃ z : Int, r = [(0, z)] ∧ w = w' ∧ 0 ≤ z ∧ z ≤ 1) := by
            intro m18
            refine e_Ok.anyL rfl ⟨_, rfl⟩ (fun x20 => ?_)
            refine e_Ok.run (t' := (62, [(0, (4, a1)), (2, (4, a2)), (4, (4, a3)), (6, (4, a4)), (8, (4, a5))], [(4, a5), (4, x20)], w)) 1 rfl ?_
            refine e_Ok.lcmp rfl (fun z21 z21a z21b z21c => ?_)
            have hJ24 : ∀ m23 : Int, 0 ≤ m23 ∧ m23 ≤ 1 → e_Ok 20 elay ecode eI d 309 (71, [(0, (4, a1)), (2, (4, a2)), (4, (4, a3)), (6, (4, a4)), (8, (4, a5))], [(0, m23)], w) (fun r w' => ∃ z : Int, r = [(0, z)] ∧ w = w' ∧ 0 ≤ z ∧ z ≤ 1) := by
              intro m23 m23r
              refine e_Ok.retb rfl (by omega) ?_
              exact ⟨_, rfl, rfl, by omega, by omega⟩
            refine e_Ok.if1 rfl (fun h22 => ?_) (fun h22 => ?_)
            · exact e_Ok.run 1 rfl (hJ24 0 (by omega))
            · exact e_Ok.run 2 rfl (hJ24 1 (by omega))
          refine e_Ok.if1 rfl (fun h17 => ?_) (fun h17 => ?_)
          · exact e_Ok.run 1 rfl (hJ19 a1)
          · exact e_Ok.run 2 rfl (hJ19 a2)
        refine e_Ok.if1 rfl (fun h13 => ?_) (fun h13 => ?_)
        · exact e_Ok.run 1 rfl (hJ15 a4)
        · exact e_Ok.run 2 rfl (hJ15 a3)
    refine e_Ok.if1 rfl (fun h6 => ?_) (fun h6 => ?_)
    · exact e_Ok.run 1 rfl (hJ8 a3)
    · exact e_Ok.run 2 rfl (hJ8 a4)
  refine e_Ok.if1 rfl (fun h2 => ?_) (fun h2 => ?_)
  · exact e_Ok.run 1 rfl (hJ4 a2)
  · exact e_Ok.run 2 rfl (hJ4 a1)
theorem c_307 {d : Nat} (hd : 21 ≤ d) {w : eW} {a1 a2 a3 a4 a5 a6 a7 : Int} : e_Ok 20 elay ecode eI d 307 (0, [(0, (4, a1)), (2, (4, a2)), (4, (4, a3)), (6, (4, a4)), (8, (4, a5)), (10, (4, a6)), (12, (4, a7))], [], w) (fun r w' => ∃ z : Int, r = [(0, z)] ∧ w = w' ∧ 0 ≤ z ∧ z ≤ 1) := by
  obtain ⟨d, rfl⟩ : ∃ e, d = e + 1 := ⟨d - 1, by omega⟩
  refine e_Ok.run (t' := (4, [(0, (4, a1)), (2, (4, a2)), (4, (4, a3)), (6, (4, a4)), (8, (4, a5)), (10, (4, a6)), (12, (4, a7))], [(4, a3), (4, a5)], w)) 2 rfl ?_
  refine e_Ok.anyL rfl ⟨_, rfl⟩ (fun x1 => ?_)
  refine e_Ok.run (t' := (11, [(14, (4, x1)), (0, (4, a1)), (2, (4, a2)), (4, (4, a3)), (6, (4, a4)), (8, (4, a5)), (10, (4, a6)), (12, (4, a7))], [(4, a4), (4, a6)], w)) 3 rfl ?_
  refine e_Ok.anyL rfl ⟨_, rfl⟩ (fun x2 => ?_)
  refine e_Ok.run (t' := (17, [(16, (4, x2)), (14, (4, x1)), (0, (4, a1)), (2, (4, a2)), (4, (4, a3)), (6, (4, a4)), (8, (4, a5)), (10, (4, a6)), (12, (4, a7))], [(4, a3), (4, a1)], w)) 3 rfl ?_
  refine e_Ok.anyL rfl ⟨_, rfl⟩ (fun x3 => ?_)
  refine e_Ok.run (t' := (23, [(18, (4, x3)), (16, (4, x2)), (14, (4, x1)), (0, (4, a1)), (2, (4, a2)), (4, (4, a3)), (6, (4, a4)), (8, (4, a5)), (10, (4, a6)), (12, (4, a7))], [(4, a4), (4, a2)], w)) 3 rfl ?_
  refine e_Ok.anyL rfl ⟨_, rfl⟩ (fun x4 => ?_)
  refine e_Ok.run (t' := (30, [(20, (4, x4)), (18, (4, x3)), (16, (4, x2)), (14, (4, x1)), (0, (4, a1)), (2, (4, a2)), (4, (4, a3)), (6, (4, a4)), (8, (4, a5)), (10, (4, a6)), (12, (4, a7))], [(4, x3), (4, x1)], w)) 3 rfl ?_
  refine e_Ok.anyL rfl ⟨_, rfl⟩ (fun x5 => ?_)
  refine e_Ok.run (t' := (35, [(20, (4, x4)), (18, (4, x3)), (16, (4, x2)), (14, (4, x1)), (0, (4, a1)), (2, (4, a2)), (4, (4, a3)), (6, (4, a4)), (8, (4, a5)), (10, (4, a6)), (12, (4, a7))], [(4, x4), (4, x2), (4, x5)], w)) 2 rfl ?_
  refine e_Ok.anyL rfl ⟨_, rfl⟩ (fun x6 => ?_)
  refine e_Ok.anyL rfl ⟨_, rfl⟩ (fun x7 => ?_)
  refine e_Ok.run (t' := (43, [(22, (4, x7)), (20, (4, x4)), (18, (4, x3)), (16, (4, x2)), (14, (4, x1)), (0, (4, a1)), (2, (4, a2)), (4, (4, a3)), (6, (4, a4)), (8, (4, a5)), (10, (4, a6)), (12, (4, a7))], [(4, x1), (4, x1)], w)) 3 rfl ?_
  refine e_Ok.anyL rfl ⟨_, rfl⟩ (fun x8 => ?_)
  refine e_Ok.run (t' := (48, [(22, (4, x7)), (20, (4, x4)), (18, (4, x3)), (16, (4, x2)), (14, (4, x1)), (0, (4, a1)), (2, (4, a2)), (4, (4, a3)), (6, (4, a4)), (8, (4, a5)), (10, (4, a6)), (12, (4, a7))], [(4, x2), (4, x2), (4, x8)], w)) 2 rfl ?_
  refine e_Ok.anyL rfl ⟨_, rfl⟩ (fun x9 => ?_)
  refine e_Ok.anyL rfl ⟨_, rfl⟩ (fun x10 => ?_)
  refine e_Ok.run (t' := (55, [(24, (4, x10)), (22, (4, x7)), (20, (4, x4)), (18, (4, x3)), (16, (4, x2)), (14, (4, x1)), (0, (4, a1)), (2, (4, a2)), (4, (4, a3)), (6, (4, a4)), (8, (4, a5)), (10, (4, a6)), (12, (4, a7))], [(4, 0), (4, x7)], w)) 3 rfl ?_
  refine e_Ok.lcmp rfl (fun z11 z11a z11b z11c => ?_)
  refine e_Ok.if1 rfl (fun h12 => ?_) (fun h12 => ?_)
  · replace h12 : (z11 : Int) > 0 := h12
    refine e_Ok.run (t' := (73, [(24, (4, x10)), (22, (4, x7)), (20, (4, x4)), (18, (4, x3)), (16, (4, x2)), (14, (4, x1)), (0, (4, a1)), (2, (4, a2)), (4, (4, a3)), (6, (4, a4)), (8, (4, a5)), (10, (4, a6)), (12, (4, a7))], [(4, x10), (4, x7)], w)) 2 rfl ?_
    refine e_Ok.lcmp rfl (fun z13 z13a z13b z13c => ?_)
    refine e_Ok.if1 rfl (fun h14 => ?_) (fun h14 => ?_)
    · replace h14 : (z13 : Int) < 0 := h14
      refine e_Ok.run (t' := (95, [(24, (4, x10)), (22, (4, x7)), (20, (4, x4)), (18, (4, x3)), (16, (4, x2)), (14, (4, x1)), (0, (4, a1)), (2, (4, a2)), (4, (4, a3)), (6, (4, a4)), (8, (4, a5)), (10, (4, a6)), (12, (4, a7))], [(4, x4), (4, x1)], w)) 2 rfl ?_
      refine e_Ok.anyL rfl ⟨_, rfl⟩ (fun x15 => ?_)
      refine e_Ok.run (t' := (100, [(24, (4, x10)), (22, (4, x7)), (20, (4, x4)), (18, (4, x3)), (16, (4, x2)), (14, (4, x1)), (0, (4, a1)), (2, (4, a2)), (4, (4, a3)), (6, (4, a4)), (8, (4, a5)), (10, (4, a6)), (12, (4, a7))], [(4, x3), (4, x2), (4, x15)], w)) 2 rfl ?_
      refine e_Ok.anyL rfl ⟨_, rfl⟩ (fun x16 => ?_)
      refine e_Ok.anyL rfl ⟨_, rfl⟩ (fun x17 => ?_)
      refine e_Ok.run (t' := (108, [(26, (4, x17)), (24, (4, x10)), (22, (4, x7)), (20, (4, x4)), (18, (4, x3)), (16, (4, x2)), (14, (4, x1)), (0, (4, a1)), (2, (4, a2)), (4, (4, a3)), (6, (4, a4)), (8, (4, a5)), (10, (4, a6)), (12, (4, a7))], [(4, x17), (4, x17)], w)) 3 rfl ?_
      refine e_Ok.anyL rfl ⟨_, rfl⟩ (fun x18 => ?_)
      refine e_Ok.run (t' := (113, [(26, (4, x17)), (24, (4, x10)), (22, (4, x7)), (20, (4, x4)), (18, (4, x3)), (16, (4, x2)), (14, (4, x1)), (0, (4, a1)), (2, (4, a2)), (4, (4, a3)), (6, (4, a4)), (8, (4, a5)), (10, (4, a6)), (12, (4, a7))], [(4, a7), (4, a7), (4, x18)], w)) 2 rfl ?_
      refine e_Ok.anyL rfl ⟨_, rfl⟩ (fun x19 => ?_)
      refine e_Ok.run (t' := (116, [(26, (4, x17)), (24, (4, x10)), (22, (4, x7)), (20, (4, x4)), (18, (4, x3)), (16, (4, x2)), (14, (4, x1)), (0, (4, a1)), (2, (4, a2)), (4, (4, a3)), (6, (4, a4)), (8, (4, a5)), (10, (4, a6)), (12, (4, a7))], [(4, x10), (4, x19), (4, x18)], w)) 1 rfl ?_
      refine e_Ok.anyL rfl ⟨_, rfl⟩ (fun x20 => ?_)
      refine e_Ok.lcmp rfl (fun z21 z21a z21b z21c => ?_)
      have hJ24 : ∀ m23 : Int, 0 ≤ m23 ∧ m23 ≤ 1 → e_Ok 20 elay ecode eI (d + 1) 307 (126, [(26, (4, x17)), (24, (4, x10)), (22, (4, x7)), (20, (4, x4)), (18, (4, x3)), (16, (4, x2)), (14, (4, x1)), (0, (4, a1)), (2, (4, a2)), (4, (4, a3)), (6, (4, a4)), (8, (4, a5)), (10, (4, a6)), (12, (4, a7))], [(0, m23)], w) (fun r w' => ∃ z : Int, r = [(0, z)] ∧ w = w' ∧ 0 ≤ z ∧ z ≤ 1) := by
        intro m23 m23r
        refine e_Ok.retb rfl (by omega) ?_
        exact ⟨_, rfl, rfl, by omega, by omega⟩
      refine e_Ok.if1 rfl (fun h22 => ?_) (fun h22 => ?_)
      · exact e_Ok.run 1 rfl (hJ24 0 (by omega))
      · exact e_Ok.run 2 rfl (hJ24 1 (by omega))
    · replace h14 : (z13 : Int) ≥ 0 := Int.not_lt.mp (show ¬ ((z13 : Int) < 0) from h14)
      refine e_Ok.run (t' := (80, [(24, (4, x10)), (22, (4, x7)), (20, (4, x4)), (18, (4, x3)), (16, (4, x2)), (14, (4, x1)), (0, (4, a1)), (2, (4, a2)), (4, (4, a3)), (6, (4, a4)), (8, (4, a5)), (10, (4, a6)), (12, (4, a7))], [(4, a5), (4, a1)], w)) 2 rfl ?_
      refine e_Ok.anyL rfl ⟨_, rfl⟩ (fun x25 => ?_)
      refine e_Ok.run (t' := (84, [(24, (4, x10)), (22, (4, x7)), (20, (4, x4)), (18, (4, x3)), (16, (4, x2)), (14, (4, x1)), (0, (4, a1)), (2, (4, a2)), (4, (4, a3)), (6, (4, a4)), (8, (4, a5)), (10, (4, a6)), (12, (4, a7))], [(4, a6), (4, a2), (4, x25)], w)) 2 rfl ?_
      refine e_Ok.anyL rfl ⟨_, rfl⟩ (fun x26 => ?_)
      refine e_Ok.run (t' := (87, [(24, (4, x10)), (22, (4, x7)), (20, (4, x4)), (18, (4, x3)), (16, (4, x2)), (14, (4, x1)), (0, (4, a1)), (2, (4, a2)), (4, (4, a3)), (6, (4, a4)), (8, (4, a5)), (10, (4, a6)), (12, (4, a7))], [(4, a7), (4, x26), (4, x25)], w)) 1 rfl ?_
      refine e_Ok.callS rfl (by first | exact e_dq hd rfl | omega) rfl rfl (c_306) (fun r27 w28 h29 => ?_)
      obtain ⟨z30, rfl, rfl, q31a, q31b⟩ := h29
      show e_Ok 20 elay ecode eI (d + 1) 307 (90, [(24, (4, x10)), (22, (4, x7)), (20, (4, x4)), (18, (4, x3)), (16, (4, x2)), (14, (4, x1)), (0, (4, a1)), (2, (4, a2)), (4, (4, a3)), (6, (4, a4)), (8, (4, a5)), (10, (4, a6)), (12, (4, a7))], [(0, z30)], w) _
      refine e_Ok.retb rfl (by omega) ?_
      exact ⟨_, rfl, rfl, by omega, by omega⟩
  · replace h12 : (z11 : Int) ≤ 0 := Int.not_lt.mp (show ¬ ((z11 : Int) > 0) from h12)
    refine e_Ok.run (t' := (65, [(24, (4, x10)), (22, (4, x7)), (20, (4, x4)), (18, (4, x3)), (16, (4, x2)), (14, (4, x1)), (0, (4, a1)), (2, (4, a2)), (4, (4, a3)), (6, (4, a4)), (8, (4, a5)), (10, (4, a6)), (12, (4, a7))], [(4, a7), (4, x4), (4, x3)], w)) 3 rfl ?_
    refine e_Ok.callS rfl (by first | exact e_dq hd rfl | omega) rfl rfl (c_306) (fun r32 w33 h34 => ?_)
    obtain ⟨z35, rfl, rfl, q36a, q36b⟩ := h34
    show e_Ok 20 elay ecode eI (d + 1) 307 (68, [(24, (4, x10)), (22, (4, x7)), (20, (4, x4)), (18, (4, x3)), (16, (4, x2)), (14, (4, x1)), (0, (4, a1)), (2, (4, a2)), (4, (4, a3)), (6, (4, a4)), (8, (4, a5)), (10, (4, a6)), (12, (4, a7))], [(0, z35)], w) _
    refine e_Ok.retb rfl (by omega) ?_
    exact ⟨_, rfl, rfl, by omega, by omega⟩
theorem c_310 {d : Nat} (hd : 22 ≤ d) {w : eW} {a : Int} (k1 : e_kn w 324 0 3) (k2 : e_kn w 325 0 3) : e_Ok 20 elay ecode eI d 310 (0, [(0, (1, 324)), (1, (1, 325)), (2, (4, a))], [], w) (fun r w' => ∃ z : Int, r = [(0, z)] ∧ w = w' ∧ 0 ≤ z ∧ z ≤ 1) := by
  obtain ⟨d, rfl⟩ : ∃ e, d = e + 1 := ⟨d - 1, by omega⟩
  refine e_Ok.run (t' := (2, [(0, (1, 324)), (1, (1, 325)), (2, (4, a))], [(0, 0), (1, 324)], w)) 2 rfl ?_
  have h1 := (k1 0 (by omega) (by omega))
  refine e_Ok.ald (z := w 324 0) rfl (el_o rfl) rfl (by omega) rfl (by omega) ?_
  refine e_Ok.run (t' := (6, [(0, (1, 324)), (1, (1, 325)), (2, (4, a))], [(0, 2), (1, 324), (4, w 324 0)], w)) 3 rfl ?_
  have h2 := (k1 2 (by omega) (by omega))
  refine e_Ok.ald (z := w 324 2) rfl (el_o rfl) rfl (by omega) rfl (by omega) ?_
  refine e_Ok.run (t' := (10, [(0, (1, 324)), (1, (1, 325)), (2, (4, a))], [(0, 0), (1, 325), (4, w 324 2), (4, w 324 0)], w)) 3 rfl ?_
  have h3 := (k2 0 (by omega) (by omega))
  refine e_Ok.ald (z := w 325 0) rfl (el_o rfl) rfl (by omega) rfl (by omega) ?_
  refine e_Ok.run (t' := (14, [(0, (1, 324)), (1, (1, 325)), (2, (4, a))], [(0, 2), (1, 325), (4, w 325 0), (4, w 324 2), (4, w 324 0)], w)) 3 rfl ?_
  have h4 := (k2 2 (by omega) (by omega))
  refine e_Ok.ald (z := w 325 2) rfl (el_o rfl) rfl (by omega) rfl (by omega) ?_
  refine e_Ok.run (t' := (17, [(0, (1, 324)), (1, (1, 325)), (2, (4, a))], [(4, a), (4, w 325 2), (4, w 325 0), (4, w 324 2), (4, w 324 0)], w)) 2 rfl ?_
  refine e_Ok.callS rfl (by first | exact e_dq hd rfl | omega) rfl rfl (c_309) (fun r5 w6 h7 => ?_)
  obtain ⟨z8, rfl, rfl, q9a, q9b⟩ := h7
  show e_Ok 20 elay ecode eI (d + 1) 310 (20, [(0, (1, 324)), (1, (1, 325)), (2, (4, a))], [(0, z8)], w) _
  refine e_Ok.if1 rfl (fun h10 => ?_) (fun h10 => ?_)
  · replace h10 : (z8 : Int) ≠ 0 := h10
    refine e_Ok.run (t' := (47, [(0, (1, 324)), (1, (1, 325)), (2, (4, a))], [(0, 0)], w)) 1 rfl ?_
    refine e_Ok.rets rfl rfl ?_
    exact ⟨_, rfl, rfl, by omega, by omega⟩
  · replace h10 : (z8 : Int) = 0 := Classical.not_not.mp (show ¬ ((z8 : Int) ≠ 0) from h10)
    refine e_Ok.run (t' := (25, [(0, (1, 324)), (1, (1, 325)), (2, (4, a))], [(0, 1), (1, 324)], w)) 2 rfl ?_
    have h11 := (k1 1 (by omega) (by omega))
    refine e_Ok.ald (z := w 324 1) rfl (el_o rfl) rfl (by omega) rfl (by omega) ?_
    refine e_Ok.run (t' := (29, [(0, (1, 324)), (1, (1, 325)), (2, (4, a))], [(0, 3), (1, 324), (4, w 324 1)], w)) 3 rfl ?_
    have h12 := (k1 3 (by omega) (by omega))
    refine e_Ok.ald (z := w 324 3) rfl (el_o rfl) rfl (by omega) rfl (by omega) ?_
    refine e_Ok.run (t' := (33, [(0, (1, 324)), (1, (1, 325)), (2, (4, a))], [(0, 1), (1, 325), (4, w 324 3), (4, w 324 1)], w)) 3 rfl ?_
    have h13 := (k2 1 (by omega) (by omega))
    refine e_Ok.ald (z := w 325 1) rfl (el_o rfl) rfl (by omega) rfl (by omega) ?_
    refine e_Ok.run (t' := (37, [(0, (1, 324)), (1, (1, 325)), (2, (4, a))], [(0, 3), (1, 325), (4, w 325 1), (4, w 324 3), (4, w 324 1)], w)) 3 rfl ?_
    have h14 := (k2 3 (by omega) (by omega))
    refine e_Ok.ald (z := w 325 3) rfl (el_o rfl) rfl (by omega) rfl (by omega) ?_
    refine e_Ok.run (t' := (40, [(0, (1, 324)), (1, (1, 325)), (2, (4, a))], [(4, a), (4, w 325 3), (4, w 325 1), (4, w 324 3), (4, w 324 1)], w)) 2 rfl ?_
    refine e_Ok.callS rfl (by first | exact e_dq hd rfl | omega) rfl rfl (c_309) (fun r15 w16 h17 => ?_)
    obtain ⟨z18, rfl, rfl, q19a, q19b⟩ := h17
    show e_Ok 20 elay ecode eI (d + 1) 310 (43, [(0, (1, 324)), (1, (1, 325)), (2, (4, a))], [(0, z18)], w) _
    refine e_Ok.if1 rfl (fun h20 => ?_) (fun h20 => ?_)
    · replace h20 : (z18 : Int) = 0 := h20
      refine e_Ok.run (t' := (50, [(0, (1, 324)), (1, (1, 325)), (2, (4, a))], [(0, 0), (1, 324)], w)) 2 rfl ?_
      refine e_Ok.ald (z := w 324 0) rfl (el_o rfl) rfl (by omega) rfl (by omega) ?_
      refine e_Ok.run (t' := (54, [(0, (1, 324)), (1, (1, 325)), (2, (4, a))], [(0, 1), (1, 324), (4, w 324 0)], w)) 3 rfl ?_
      refine e_Ok.ald (z := w 324 1) rfl (el_o rfl) rfl (by omega) rfl (by omega) ?_
      refine e_Ok.run (t' := (58, [(0, (1, 324)), (1, (1, 325)), (2, (4, a))], [(0, 2), (1, 324), (4, w 324 1), (4, w 324 0)], w)) 3 rfl ?_
      refine e_Ok.ald (z := w 324 2) rfl (el_o rfl) rfl (by omega) rfl (by omega) ?_
      refine e_Ok.run (t' := (62, [(0, (1, 324)), (1, (1, 325)), (2, (4, a))], [(0, 3), (1, 324), (4, w 324 2), (4, w 324 1), (4, w 324 0)], w)) 3 rfl ?_
      refine e_Ok.ald (z := w 324 3) rfl (el_o rfl) rfl (by omega) rfl (by omega) ?_
      refine e_Ok.run (t' := (66, [(0, (1, 324)), (1, (1, 325)), (2, (4, a))], [(0, 0), (1, 325), (4, w 324 3), (4, w 324 2), (4, w 324 1), (4, w 324 0)], w)) 3 rfl ?_
      refine e_Ok.ald (z := w 325 0) rfl (el_o rfl) rfl (by omega) rfl (by omega) ?_
      refine e_Ok.run (t' := (70, [(0, (1, 324)), (1, (1, 325)), (2, (4, a))], [(0, 1), (1, 325), (4, w 325 0), (4, w 324 3), (4, w 324 2), (4, w 324 1), (4, w 324 0)], w)) 3 rfl ?_
      refine e_Ok.ald (z := w 325 1) rfl (el_o rfl) rfl (by omega) rfl (by omega) ?_
      refine e_Ok.run (t' := (72, [(0, (1, 324)), (1, (1, 325)), (2, (4, a))], [(4, w 325 1), (4, w 325 0), (4, w 324 3), (4, w 324 2), (4, w 324 1), (4, w 324 0)], w)) 1 rfl ?_
      refine e_Ok.callS rfl (by first | exact e_dq hd rfl | omega) rfl rfl (c_308) (fun r21 w22 h23 => ?_)
      obtain ⟨z24, rfl, rfl, q25a, q25b⟩ := h23
      show e_Ok 20 elay ecode eI (d + 1) 310 (75, [(0, (1, 324)), (1, (1, 325)), (2, (4, a))], [(0, z24)], w) _
      refine e_Ok.run (t' := (77, [(0, (1, 324)), (1, (1, 325)), (2, (4, a))], [(0, 0), (1, 324), (0, z24)], w)) 2 rfl ?_
      refine e_Ok.ald (z := w 324 0) rfl (el_o rfl) rfl (by omega) rfl (by omega) ?_
      refine e_Ok.run (t' := (81, [(0, (1, 324)), (1, (1, 325)), (2, (4, a))], [(0, 1), (1, 324), (4, w 324 0), (0, z24)], w)) 3 rfl ?_
      refine e_Ok.ald (z := w 324 1) rfl (el_o rfl) rfl (by omega) rfl (by omega) ?_
      refine e_Ok.run (t' := (85, [(0, (1, 324)), (1, (1, 325)), (2, (4, a))], [(0, 2), (1, 324), (4, w 324 1), (4, w 324 0), (0, z24)], w)) 3 rfl ?_
      refine e_Ok.ald (z := w 324 2) rfl (el_o rfl) rfl (by omega) rfl (by omega) ?_
      refine e_Ok.run (t' := (89, [(0, (1, 324)), (1, (1, 325)), (2, (4, a))], [(0, 3), (1, 324), (4, w 324 2), (4, w 324 1), (4, w 324 0), (0, z24)], w)) 3 rfl ?_
      refine e_Ok.ald (z := w 324 3) rfl (el_o rfl) rfl (by omega) rfl (by omega) ?_
      refine e_Ok.run (t' := (93, [(0, (1, 324)), (1, (1, 325)), (2, (4, a))], [(0, 2), (1, 325), (4, w 324 3), (4, w 324 2), (4, w 324 1), (4, w 324 0), (0, z24)], w)) 3 rfl ?_
      refine e_Ok.ald (z := w 325 2) rfl (el_o rfl) rfl (by omega) rfl (by omega) ?_
      refine e_Ok.run (t' := (97, [(0, (1, 324)), (1, (1, 325)), (2, (4, a))], [(0, 3), (1, 325), (4, w 325 2), (4, w 324 3), (4, w 324 2), (4, w 324 1), (4, w 324 0), (0, z24)], w)) 3 rfl ?_
      refine e_Ok.ald (z := w 325 3) rfl (el_o rfl) rfl (by omega) rfl (by omega) ?_
      refine e_Ok.run (t' := (99, [(0, (1, 324)), (1, (1, 325)), (2, (4, a))], [(4, w 325 3), (4, w 325 2), (4, w 324 3), (4, w 324 2), (4, w 324 1), (4, w 324 0), (0, z24)], w)) 1 rfl ?_
      refine e_Ok.callS rfl (by first | exact e_dq hd rfl | omega) rfl rfl (c_308) (fun r26 w27 h28 => ?_)
      obtain ⟨z29, rfl, rfl, q30a, q30b⟩ := h28
      show e_Ok 20 elay ecode eI (d + 1) 310 (102, [(0, (1, 324)), (1, (1, 325)), (2, (4, a))], [(0, z29), (0, z24)], w) _
      refine e_Ok.any rfl (eF_mul_any _ _) (fun z31 z31a z31b => ?_)
      have hJ34 : ∀ m33 : Int, 0 ≤ m33 ∧ m33 ≤ 1 → e_Ok 20 elay ecode eI (d + 1) 310 (111, [(0, (1, 324)), (1, (1, 325)), (2, (4, a))], [(0, m33)], w) (fun r w' => ∃ z : Int, r = [(0, z)] ∧ w = w' ∧ 0 ≤ z ∧ z ≤ 1) := by
        intro m33 m33r
        refine e_Ok.run (t' := (115, [(4, (0, m33)), (0, (1, 324)), (1, (1, 325)), (2, (4, a))], [(0, m33)], w)) 2 rfl ?_
        refine e_Ok.if1 rfl (fun h35 => ?_) (fun h35 => ?_)
        · replace h35 : (m33 : Int) = 0 := h35
          refine e_Ok.run (t' := (180, [(4, (0, m33)), (0, (1, 324)), (1, (1, 325)), (2, (4, a))], [(0, 0), (1, 324)], w)) 2 rfl ?_
          refine e_Ok.ald (z := w 324 0) rfl (el_o rfl) rfl (by omega) rfl (by omega) ?_
          refine e_Ok.run (t' := (184, [(4, (0, m33)), (0, (1, 324)), (1, (1, 325)), (2, (4, a))], [(0, 1), (1, 324), (4, w 324 0)], w)) 3 rfl ?_
          refine e_Ok.ald (z := w 324 1) rfl (el_o rfl) rfl (by omega) rfl (by omega) ?_
          refine e_Ok.run (t' := (188, [(4, (0, m33)), (0, (1, 324)), (1, (1, 325)), (2, (4, a))], [(0, 0), (1, 325), (4, w 324 1), (4, w 324 0)], w)) 3 rfl ?_
          refine e_Ok.ald (z := w 325 0) rfl (el_o rfl) rfl (by omega) rfl (by omega) ?_
          refine e_Ok.run (t' := (192, [(4, (0, m33)), (0, (1, 324)), (1, (1, 325)), (2, (4, a))], [(0, 1), (1, 325), (4, w 325 0), (4, w 324 1), (4, w 324 0)], w)) 3 rfl ?_
          refine e_Ok.ald (z := w 325 1) rfl (el_o rfl) rfl (by omega) rfl (by omega) ?_
          refine e_Ok.run (t' := (196, [(4, (0, m33)), (0, (1, 324)), (1, (1, 325)), (2, (4, a))], [(0, 2), (1, 325), (4, w 325 1), (4, w 325 0), (4, w 324 1), (4, w 324 0)], w)) 3 rfl ?_
          refine e_Ok.ald (z := w 325 2) rfl (el_o rfl) rfl (by omega) rfl (by omega) ?_
          refine e_Ok.run (t' := (200, [(4, (0, m33)), (0, (1, 324)), (1, (1, 325)), (2, (4, a))], [(0, 3), (1, 325), (4, w 325 2), (4, w 325 1), (4, w 325 0), (4, w 324 1), (4, w 324 0)], w)) 3 rfl ?_
          refine e_Ok.ald (z := w 325 3) rfl (el_o rfl) rfl (by omega) rfl (by omega) ?_
          refine e_Ok.run (t' := (203, [(4, (0, m33)), (0, (1, 324)), (1, (1, 325)), (2, (4, a))], [(4, a), (4, w 325 3), (4, w 325 2), (4, w 325 1), (4, w 325 0), (4, w 324 1), (4, w 324 0)], w)) 2 rfl ?_
          refine e_Ok.callS rfl (by first | exact e_dq hd rfl | omega) rfl rfl (c_307 (by first | exact e_dq hd rfl | omega)) (fun r36 w37 h38 => ?_)
          obtain ⟨z39, rfl, rfl, q40a, q40b⟩ := h38
          show e_Ok 20 elay ecode eI (d + 1) 310 (206, [(4, (0, m33)), (0, (1, 324)), (1, (1, 325)), (2, (4, a))], [(0, z39)], w) _
          refine e_Ok.if1 rfl (fun h41 => ?_) (fun h41 => ?_)
          · replace h41 : (z39 : Int) ≠ 0 := h41
            refine e_Ok.run (t' := (307, [(4, (0, m33)), (0, (1, 324)), (1, (1, 325)), (2, (4, a))], [(0, 1)], w)) 2 rfl ?_
            refine e_Ok.rets rfl rfl ?_
            exact ⟨_, rfl, rfl, by omega, by omega⟩
          · replace h41 : (z39 : Int) = 0 := Classical.not_not.mp (show ¬ ((z39 : Int) ≠ 0) from h41)
            refine e_Ok.run (t' := (211, [(4, (0, m33)), (0, (1, 324)), (1, (1, 325)), (2, (4, a))], [(0, 2), (1, 324)], w)) 2 rfl ?_
            refine e_Ok.ald (z := w 324 2) rfl (el_o rfl) rfl (by omega) rfl (by omega) ?_
            refine e_Ok.run (t' := (215, [(4, (0, m33)), (0, (1, 324)), (1, (1, 325)), (2, (4, a))], [(0, 3), (1, 324), (4, w 324 2)], w)) 3 rfl ?_
            refine e_Ok.ald (z := w 324 3) rfl (el_o rfl) rfl (by omega) rfl (by omega) ?_
            refine e_Ok.run (t' := (219, [(4, (0, m33)), (0, (1, 324)), (1, (1, 325)), (2, (4, a))], [(0, 0), (1, 325), (4, w 324 3), (4, w 324 2)], w)) 3 rfl ?_
            refine e_Ok.ald (z := w 325 0) rfl (el_o rfl) rfl (by omega) rfl (by omega) ?_
            refine e_Ok.run (t' := (223, [(4, (0, m33)), (0, (1, 324)), (1, (1, 325)), (2, (4, a))], [(0, 1), (1, 325), (4, w 325 0), (4, w 324 3), (4, w 324 2)], w)) 3 rfl ?_
            refine e_Ok.ald (z := w 325 1) rfl (el_o rfl) rfl (by omega) rfl (by omega) ?_
            refine e_Ok.run (t' := (227, [(4, (0, m33)), (0, (1, 324)), (1, (1, 325)), (2, (4, a))], [(0, 2), (1, 325), (4, w 325 1), (4, w 325 0), (4, w 324 3), (4, w 324 2)], w)) 3 rfl ?_
            refine e_Ok.ald (z := w 325 2) rfl (el_o rfl) rfl (by omega) rfl (by omega) ?_
            refine e_Ok.run (t' := (231, [(4, (0, m33)), (0, (1, 324)), (1, (1, 325)), (2, (4, a))], [(0, 3), (1, 325), (4, w 325 2), (4, w 325 1), (4, w 325 0), (4, w 324 3), (4, w 324 2)], w)) 3 rfl ?_
            refine e_Ok.ald (z := w 325 3) rfl (el_o rfl) rfl (by omega) rfl (by omega) ?_
            refine e_Ok.run (t' := (234, [(4, (0, m33)), (0, (1, 324)), (1, (1, 325)), (2, (4, a))], [(4, a), (4, w 325 3), (4, w 325 2), (4, w 325 1), (4, w 325 0), (4, w 324 3), (4, w 324 2)], w)) 2 rfl ?_
            refine e_Ok.callS rfl (by first | exact e_dq hd rfl | omega) rfl rfl (c_307 (by first | exact e_dq hd rfl | omega)) (fun r42 w43 h44 => ?_)
            obtain ⟨z45, rfl, rfl, q46a, q46b⟩ := h44
            show e_Ok 20 elay ecode eI (d + 1) 310 (237, [(4, (0, m33)), (0, (1, 324)), (1, (1, 325)), (2, (4, a))], [(0, z45)], w) _
            refine e_Ok.if1 rfl (fun h47 => ?_) (fun h47 => ?_)
            · replace h47 : (z45 : Int) ≠ 0 := h47
              refine e_Ok.run (t' := (307, [(4, (0, m33)), (0, (1, 324)), (1, (1, 325)), (2, (4, a))], [(0, 1)], w)) 2 rfl ?_
              refine e_Ok.rets rfl rfl ?_
              exact ⟨_, rfl, rfl, by omega, by omega⟩
            · replace h47 : (z45 : Int) = 0 := Classical.not_not.mp (show ¬ ((z45 : Int) ≠ 0) from h47)
              refine e_Ok.run (t' := (242, [(4, (0, m33)), (0, (1, 324)), (1, (1, 325)), (2, (4, a))], [(0, 0), (1, 325)], w)) 2 rfl ?_
              refine e_Ok.ald (z := w 325 0) rfl (el_o rfl) rfl (by omega) rfl (by omega) ?_
              refine e_Ok.run (t' := (246, [(4, (0, m33)), (0, (1, 324)), (1, (1, 325)), (2, (4, a))], [(0, 1), (1, 325), (4, w 325 0)], w)) 3 rfl ?_
              refine e_Ok.ald (z := w 325 1) rfl (el_o rfl) rfl (by omega) rfl (by omega) ?_
              refine e_Ok.run (t' := (250, [(4, (0, m33)), (0, (1, 324)), (1, (1, 325)), (2, (4, a))], [(0, 0), (1, 324), (4, w 325 1), (4, w 325 0)], w)) 3 rfl ?_
              refine e_Ok.ald (z := w 324 0) rfl (el_o rfl) rfl (by omega) rfl (by omega) ?_
              refine e_Ok.run (t' := (254, [(4, (0, m33)), (0, (1, 324)), (1, (1, 325)), (2, (4, a))], [(0, 1), (1, 324), (4, w 324 0), (4, w 325 1), (4, w 325 0)], w)) 3 rfl ?_
              refine e_Ok.ald (z := w 324 1) rfl (el_o rfl) rfl (by omega) rfl (by omega) ?_
              refine e_Ok.run (t' := (258, [(4, (0, m33)), (0, (1, 324)), (1, (1, 325)), (2, (4, a))], [(0, 2), (1, 324), (4, w 324 1), (4, w 324 0), (4, w 325 1), (4, w 325 0)], w)) 3 rfl ?_
              refine e_Ok.ald (z := w 324 2) rfl (el_o rfl) rfl (by omega) rfl (by omega) ?_
              refine e_Ok.run (t' := (262, [(4, (0, m33)), (0, (1, 324)), (1, (1, 325)), (2, (4, a))], [(0, 3), (1, 324), (4, w 324 2), (4, w 324 1), (4, w 324 0), (4, w 325 1), (4, w 325 0)], w)) 3 rfl ?_
              refine e_Ok.ald (z := w 324 3) rfl (el_o rfl) rfl (by omega) rfl (by omega) ?_
              refine e_Ok.run (t' := (265, [(4, (0, m33)), (0, (1, 324)), (1, (1, 325)), (2, (4, a))], [(4, a), (4, w 324 3), (4, w 324 2), (4, w 324 1), (4, w 324 0), (4, w 325 1), (4, w 325 0)], w)) 2 rfl ?_
              refine e_Ok.callS rfl (by first | exact e_dq hd rfl | omega) rfl rfl (c_307 (by first | exact e_dq hd rfl | omega)) (fun r48 w49 h50 => ?_)
              obtain ⟨z51, rfl, rfl, q52a, q52b⟩ := h50
              show e_Ok 20 elay ecode eI (d + 1) 310 (268, [(4, (0, m33)), (0, (1, 324)), (1, (1, 325)), (2, (4, a))], [(0, z51)], w) _
              refine e_Ok.if1 rfl (fun h53 => ?_) (fun h53 => ?_)
              · replace h53 : (z51 : Int) ≠ 0 := h53
                refine e_Ok.run (t' := (307, [(4, (0, m33)), (0, (1, 324)), (1, (1, 325)), (2, (4, a))], [(0, 1)], w)) 2 rfl ?_
                refine e_Ok.rets rfl rfl ?_
                exact ⟨_, rfl, rfl, by omega, by omega⟩
              · replace h53 : (z51 : Int) = 0 := Classical.not_not.mp (show ¬ ((z51 : Int) ≠ 0) from h53)
                refine e_Ok.run (t' := (273, [(4, (0, m33)), (0, (1, 324)), (1, (1, 325)), (2, (4, a))], [(0, 2), (1, 325)], w)) 2 rfl ?_
                refine e_Ok.ald (z := w 325 2) rfl (el_o rfl) rfl (by omega) rfl (by omega) ?_
                refine e_Ok.run (t' := (277, [(4, (0, m33)), (0, (1, 324)), (1, (1, 325)), (2, (4, a))], [(0, 3), (1, 325), (4, w 325 2)], w)) 3 rfl ?_
                refine e_Ok.ald (z := w 325 3) rfl (el_o rfl) rfl (by omega) rfl (by omega) ?_
                refine e_Ok.run (t' := (281, [(4, (0, m33)), (0, (1, 324)), (1, (1, 325)), (2, (4, a))], [(0, 0), (1, 324), (4, w 325 3), (4, w 325 2)], w)) 3 rfl ?_
                refine e_Ok.ald (z := w 324 0) rfl (el_o rfl) rfl (by omega) rfl (by omega) ?_
                refine e_Ok.run (t' := (285, [(4, (0, m33)), (0, (1, 324)), (1, (1, 325)), (2, (4, a))], [(0, 1), (1, 324), (4, w 324 0), (4, w 325 3), (4, w 325 2)], w)) 3 rfl ?_
                refine e_Ok.ald (z := w 324 1) rfl (el_o rfl) rfl (by omega) rfl (by omega) ?_
                refine e_Ok.run (t' := (289, [(4, (0, m33)), (0, (1, 324)), (1, (1, 325)), (2, (4, a))], [(0, 2), (1, 324), (4, w 324 1), (4, w 324 0), (4, w 325 3), (4, w 325 2)], w)) 3 rfl ?_
                refine e_Ok.ald (z := w 324 2) rfl (el_o rfl) rfl (by omega) rfl (by omega) ?_
                refine e_Ok.run (t' := (293, [(4, (0, m33)), (0, (1, 324)), (1, (1, 325)), (2, (4, a))], [(0, 3), (1, 324), (4, w 324 2), (4, w 324 1), (4, w 324 0), (4, w 325 3), (4, w 325 2)], w)) 3 rfl ?_
                refine e_Ok.ald (z := w 324 3) rfl (el_o rfl) rfl (by omega) rfl (by omega) ?_
                refine e_Ok.run (t' := (296, [(4, (0, m33)), (0, (1, 324)), (1, (1, 325)), (2, (4, a))], [(4, a), (4, w 324 3), (4, w 324 2), (4, w 324 1), (4, w 324 0), (4, w 325 3), (4, w 325 2)], w)) 2 rfl ?_
                refine e_Ok.callS rfl (by first | exact e_dq hd rfl | omega) rfl rfl (c_307 (by first | exact e_dq hd rfl | omega)) (fun r54 w55 h56 => ?_)
                obtain ⟨z57, rfl, rfl, q58a, q58b⟩ := h56
                show e_Ok 20 elay ecode eI (d + 1) 310 (299, [(4, (0, m33)), (0, (1, 324)), (1, (1, 325)), (2, (4, a))], [(0, z57)], w) _
                have hJ61 : ∀ m60 : Int, 0 ≤ m60 ∧ m60 ≤ 1 → e_Ok 20 elay ecode eI (d + 1) 310 (307, [(4, (0, m33)), (0, (1, 324)), (1, (1, 325)), (2, (4, a))], [(0, m60)], w) (fun r w' => ∃ z : Int, r = [(0, z)] ∧ w = w' ∧ 0 ≤ z ∧ z ≤ 1) := by
                  intro m60 m60r
                  refine e_Ok.retb rfl (by omega) ?_
                  exact ⟨_, rfl, rfl, by omega, by omega⟩
                refine e_Ok.if1 rfl (fun h59 => ?_) (fun h59 => ?_)
                · exact e_Ok.run 1 rfl (hJ61 0 (by omega))
                · exact e_Ok.run 2 rfl (hJ61 1 (by omega))
        · replace h35 : (m33 : Int) ≠ 0 := (show ¬ ((m33 : Int) = 0) from h35)
          refine e_Ok.run (t' := (120, [(4, (0, m33)), (0, (1, 324)), (1, (1, 325)), (2, (4, a))], [(0, 0), (1, 325)], w)) 2 rfl ?_
          refine e_Ok.ald (z := w 325 0) rfl (el_o rfl) rfl (by omega) rfl (by omega) ?_
          refine e_Ok.run (t' := (124, [(4, (0, m33)), (0, (1, 324)), (1, (1, 325)), (2, (4, a))], [(0, 1), (1, 325), (4, w 325 0)], w)) 3 rfl ?_
          refine e_Ok.ald (z := w 325 1) rfl (el_o rfl) rfl (by omega) rfl (by omega) ?_
          refine e_Ok.run (t' := (128, [(4, (0, m33)), (0, (1, 324)), (1, (1, 325)), (2, (4, a))], [(0, 2), (1, 325), (4, w 325 1), (4, w 325 0)], w)) 3 rfl ?_
          refine e_Ok.ald (z := w 325 2) rfl (el_o rfl) rfl (by omega) rfl (by omega) ?_
          refine e_Ok.run (t' := (132, [(4, (0, m33)), (0, (1, 324)), (1, (1, 325)), (2, (4, a))], [(0, 3), (1, 325), (4, w 325 2), (4, w 325 1), (4, w 325 0)], w)) 3 rfl ?_
          refine e_Ok.ald (z := w 325 3) rfl (el_o rfl) rfl (by omega) rfl (by omega) ?_
          refine e_Ok.run (t' := (136, [(4, (0, m33)), (0, (1, 324)), (1, (1, 325)), (2, (4, a))], [(0, 0), (1, 324), (4, w 325 3), (4, w 325 2), (4, w 325 1), (4, w 325 0)], w)) 3 rfl ?_
          refine e_Ok.ald (z := w 324 0) rfl (el_o rfl) rfl (by omega) rfl (by omega) ?_
          refine e_Ok.run (t' := (140, [(4, (0, m33)), (0, (1, 324)), (1, (1, 325)), (2, (4, a))], [(0, 1), (1, 324), (4, w 324 0), (4, w 325 3), (4, w 325 2), (4, w 325 1), (4, w 325 0)], w)) 3 rfl ?_
          refine e_Ok.ald (z := w 324 1) rfl (el_o rfl) rfl (by omega) rfl (by omega) ?_
          refine e_Ok.run (t' := (142, [(4, (0, m33)), (0, (1, 324)), (1, (1, 325)), (2, (4, a))], [(4, w 324 1), (4, w 324 0), (4, w 325 3), (4, w 325 2), (4, w 325 1), (4, w 325 0)], w)) 1 rfl ?_
          refine e_Ok.callS rfl (by first | exact e_dq hd rfl | omega) rfl rfl (c_308) (fun r62 w63 h64 => ?_)
          obtain ⟨z65, rfl, rfl, q66a, q66b⟩ := h64
          show e_Ok 20 elay ecode eI (d + 1) 310 (145, [(4, (0, m33)), (0, (1, 324)), (1, (1, 325)), (2, (4, a))], [(0, z65)], w) _
          refine e_Ok.run (t' := (147, [(4, (0, m33)), (0, (1, 324)), (1, (1, 325)), (2, (4, a))], [(0, 0), (1, 325), (0, z65)], w)) 2 rfl ?_
          refine e_Ok.ald (z := w 325 0) rfl (el_o rfl) rfl (by omega) rfl (by omega) ?_
          refine e_Ok.run (t' := (151, [(4, (0, m33)), (0, (1, 324)), (1, (1, 325)), (2, (4, a))], [(0, 1), (1, 325), (4, w 325 0), (0, z65)], w)) 3 rfl ?_
          refine e_Ok.ald (z := w 325 1) rfl (el_o rfl) rfl (by omega) rfl (by omega) ?_
          refine e_Ok.run (t' := (155, [(4, (0, m33)), (0, (1, 324)), (1, (1, 325)), (2, (4, a))], [(0, 2), (1, 325), (4, w 325 1), (4, w 325 0), (0, z65)], w)) 3 rfl ?_
          refine e_Ok.ald (z := w 325 2) rfl (el_o rfl) rfl (by omega) rfl (by omega) ?_
          refine e_Ok.run (t' := (159, [(4, (0, m33)), (0, (1, 324)), (1, (1, 325)), (2, (4, a))], [(0, 3), (1, 325), (4, w 325 2), (4, w 325 1), (4, w 325 0), (0, z65)], w)) 3 rfl ?_
          refine e_Ok.ald (z := w 325 3) rfl (el_o rfl) rfl (by omega) rfl (by omega) ?_
          refine e_Ok.run (t' := (163, [(4, (0, m33)), (0, (1, 324)), (1, (1, 325)), (2, (4, a))], [(0, 2), (1, 324), (4, w 325 3), (4, w 325 2), (4, w 325 1), (4, w 325 0), (0, z65)], w)) 3 rfl ?_
          refine e_Ok.ald (z := w 324 2) rfl (el_o rfl) rfl (by omega) rfl (by omega) ?_
          refine e_Ok.run (t' := (167, [(4, (0, m33)), (0, (1, 324)), (1, (1, 325)), (2, (4, a))], [(0, 3), (1, 324), (4, w 324 2), (4, w 325 3), (4, w 325 2), (4, w 325 1), (4, w 325 0), (0, z65)], w)) 3 rfl ?_
          refine e_Ok.ald (z := w 324 3) rfl (el_o rfl) rfl (by omega) rfl (by omega) ?_
          refine e_Ok.run (t' := (169, [(4, (0, m33)), (0, (1, 324)), (1, (1, 325)), (2, (4, a))], [(4, w 324 3), (4, w 324 2), (4, w 325 3), (4, w 325 2), (4, w 325 1), (4, w 325 0), (0, z65)], w)) 1 rfl ?_
          refine e_Ok.callS rfl (by first | exact e_dq hd rfl | omega) rfl rfl (c_308) (fun r67 w68 h69 => ?_)
          obtain ⟨z70, rfl, rfl, q71a, q71b⟩ := h69
          show e_Ok 20 elay ecode eI (d + 1) 310 (172, [(4, (0, m33)), (0, (1, 324)), (1, (1, 325)), (2, (4, a))], [(0, z70), (0, z65)], w) _
          refine e_Ok.any rfl (eF_mul_any _ _) (fun z72 z72a z72b => ?_)
          refine e_Ok.if1 rfl (fun h73 => ?_) (fun h73 => ?_)
          · replace h73 : (z72 : Int) ≥ 0 := h73
            refine e_Ok.run (t' := (180, [(4, (0, m33)), (0, (1, 324)), (1, (1, 325)), (2, (4, a))], [(0, 0), (1, 324)], w)) 2 rfl ?_
            refine e_Ok.ald (z := w 324 0) rfl (el_o rfl) rfl (by omega) rfl (by omega) ?_
            refine e_Ok.run (t' := (184, [(4, (0, m33)), (0, (1, 324)), (1, (1, 325)), (2, (4, a))], [(0, 1), (1, 324), (4, w 324 0)], w)) 3 rfl ?_
            refine e_Ok.ald (z := w 324 1) rfl (el_o rfl) rfl (by omega) rfl (by omega) ?_
            refine e_Ok.run (t' := (188, [(4, (0, m33)), (0, (1, 324)), (1, (1, 325)), (2, (4, a))], [(0, 0), (1, 325), (4, w 324 1), (4, w 324 0)], w)) 3 rfl ?_
            refine e_Ok.ald (z := w 325 0) rfl (el_o rfl) rfl (by omega) rfl (by omega) ?_
            refine e_Ok.run (t' := (192, [(4, (0, m33)), (0, (1, 324)), (1, (1, 325)), (2, (4, a))], [(0, 1), (1, 325), (4, w 325 0), (4, w 324 1), (4, w 324 0)], w)) 3 rfl ?_
            refine e_Ok.ald (z := w 325 1) rfl (el_o rfl) rfl (by omega) rfl (by omega) ?_
            refine e_Ok.run (t' := (196, [(4, (0, m33)), (0, (1, 324)), (1, (1, 325)), (2, (4, a))], [(0, 2), (1, 325), (4, w 325 1), (4, w 325 0), (4, w 324 1), (4, w 324 0)], w)) 3 rfl ?_
            refine e_Ok.ald (z := w 325 2) rfl (el_o rfl) rfl (by omega) rfl (by omega) ?_
            refine e_Ok.run (t' := (200, [(4, (0, m33)), (0, (1, 324)), (1, (1, 325)), (2, (4, a))], [(0, 3), (1, 325), (4, w 325 2), (4, w 325 1), (4, w 325 0), (4, w 324 1), (4, w 324 0)], w)) 3 rfl ?_
            refine e_Ok.ald (z := w 325 3) rfl (el_o rfl) rfl (by omega) rfl (by omega) ?_
            refine e_Ok.run (t' := (203, [(4, (0, m33)), (0, (1, 324)), (1, (1, 325)), (2, (4, a))], [(4, a), (4, w 325 3), (4, w 325 2), (4, w 325 1), (4, w 325 0), (4, w 324 1), (4, w 324 0)], w)) 2 rfl ?_
            refine e_Ok.callS rfl (by first | exact e_dq hd rfl | omega) rfl rfl (c_307 (by first | exact e_dq hd rfl | omega)) (fun r74 w75 h76 => ?_)
            obtain ⟨z77, rfl, rfl, q78a, q78b⟩ := h76
            show e_Ok 20 elay ecode eI (d + 1) 310 (206, [(4, (0, m33)), (0, (1, 324)), (1, (1, 325)), (2, (4, a))], [(0, z77)], w) _
            refine e_Ok.if1 rfl (fun h79 => ?_) (fun h79 => ?_)
            · replace h79 : (z77 : Int) ≠ 0 := h79
              refine e_Ok.run (t' := (307, [(4, (0, m33)), (0, (1, 324)), (1, (1, 325)), (2, (4, a))], [(0, 1)], w)) 2 rfl ?_
              refine e_Ok.rets rfl rfl ?_
              exact ⟨_, rfl, rfl, by omega, by omega⟩
            · replace h79 : (z77 : Int) = 0 := Classical.not_not.mp (show ¬ ((z77 : Int) ≠ 0) from h79)
              refine e_Ok.run (t' := (211, [(4, (0, m33)), (0, (1, 324)), (1, (1, 325)), (2, (4, a))], [(0, 2), (1, 324)], w)) 2 rfl ?_
              refine e_Ok.ald (z := w 324 2) rfl (el_o rfl) rfl (by omega) rfl (by omega) ?_
              refine e_Ok.run (t' := (215, [(4, (0, m33)), (0, (1, 324)), (1, (1, 325)), (2, (4, a))], [(0, 3), (1, 324), (4, w 324 2)], w)) 3 rfl ?_
              refine e_Ok.ald (z := w 324 3) rfl (el_o rfl) rfl (by omega) rfl (by omega) ?_
              refine e_Ok.run (t' := (219, [(4, (0, m33)), (0, (1, 324)), (1, (1, 325)), (2, (4, a))], [(0, 0), (1, 325), (4, w 324 3), (4, w 324 2)], w)) 3 rfl ?_
              refine e_Ok.ald (z := w 325 0) rfl (el_o rfl) rfl (by omega) rfl (by omega) ?_
              refine e_Ok.run (t' := (223, [(4, (0, m33)), (0, (1, 324)), (1, (1, 325)), (2, (4, a))], [(0, 1), (1, 325), (4, w 325 0), (4, w 324 3), (4, w 324 2)], w)) 3 rfl ?_
              refine e_Ok.ald (z := w 325 1) rfl (el_o rfl) rfl (by omega) rfl (by omega) ?_
              refine e_Ok.run (t' := (227, [(4, (0, m33)), (0, (1, 324)), (1, (1, 325)), (2, (4, a))], [(0, 2), (1, 325), (4, w 325 1), (4, w 325 0), (4, w 324 3), (4, w 324 2)], w)) 3 rfl ?_
              refine e_Ok.ald (z := w 325 2) rfl (el_o rfl) rfl (by omega) rfl (by omega) ?_
              refine e_Ok.run (t' := (231, [(4, (0, m33)), (0, (1, 324)), (1, (1, 325)), (2, (4, a))], [(0, 3), (1, 325), (4, w 325 2), (4, w 325 1), (4, w 325 0), (4, w 324 3), (4, w 324 2)], w)) 3 rfl ?_
              refine e_Ok.ald (z := w 325 3) rfl (el_o rfl) rfl (by omega) rfl (by omega) ?_
              refine e_Ok.run (t' := (234, [(4, (0, m33)), (0, (1, 324)), (1, (1, 325)), (2, (4, a))], [(4, a), (4, w 325 3), (4, w 325 2), (4, w 325 1), (4, w 325 0), (4, w 324 3), (4, w 324 2)], w)) 2 rfl ?_
              refine e_Ok.callS rfl (by first | exact e_dq hd rfl | omega) rfl rfl (c_307 (by first | exact e_dq hd rfl | omega)) (fun r80 w81 h82 => ?_)
              obtain ⟨z83, rfl, rfl, q84a, q84b⟩ := h82
              show e_Ok 20 elay ecode eI (d + 1) 310 (237, [(4, (0, m33)), (0, (1, 324)), (1, (1, 325)), (2, (4, a))], [(0, z83)], w) _
              refine e_Ok.if1 rfl (fun h85 => ?_) (fun h85 => ?_)
              · replace h85 : (z83 : Int) ≠ 0 := h85
                refine e_Ok.run (t' := (307, [(4, (0, m33)), (0, (1, 324)), (1, (1, 325)), (2, (4, a))], [(0, 1)], w)) 2 rfl ?_
                refine e_Ok.rets rfl rfl ?_
                exact ⟨_, rfl, rfl, by omega, by omega⟩
              · replace h85 : (z83 : Int) = 0 := Classical.not_not.mp (show ¬ ((z83 : Int) ≠ 0) from h85)
                refine e_Ok.run (t' := (242, [(4, (0, m33)), (0, (1, 324)), (1, (1, 325)), (2, (4, a))], [(0, 0), (1, 325)], w)) 2 rfl ?_
                refine e_Ok.ald (z := w 325 0) rfl (el_o rfl) rfl (by omega) rfl (by omega) ?_
                refine e_Ok.run (t' := (246, [(4, (0, m33)), (0, (1, 324)), (1, (1, 325)), (2, (4, a))], [(0, 1), (1, 325), (4, w 325 0)], w)) 3 rfl ?_
                refine e_Ok.ald (z := w 325 1) rfl (el_o rfl) rfl (by omega) rfl (by omega) ?_
                refine e_Ok.run (t' := (250, [(4, (0, m33)), (0, (1, 324)), (1, (1, 325)), (2, (4, a))], [(0, 0), (1, 324), (4, w 325 1), (4, w 325 0)], w)) 3 rfl ?_
                refine e_Ok.ald (z := w 324 0) rfl (el_o rfl) rfl (by omega) rfl (by omega) ?_
                refine e_Ok.run (t' := (254, [(4, (0, m33)), (0, (1, 324)), (1, (1, 325)), (2, (4, a))], [(0, 1), (1, 324), (4, w 324 0), (4, w 325 1), (4, w 325 0)], w)) 3 rfl ?_
                refine e_Ok.ald (z := w 324 1) rfl (el_o rfl) rfl (by omega) rfl (by omega) ?_
                refine e_Ok.run (t' := (258, [(4, (0, m33)), (0, (1, 324)), (1, (1, 325)), (2, (4, a))], [(0, 2), (1, 324), (4, w 324 1), (4, w 324 0), (4, w 325 1), (4, w 325 0)], w)) 3 rfl ?_
                refine e_Ok.ald (z := w 324 2) rfl (el_o rfl) rfl (by omega) rfl (by omega) ?_
                refine e_Ok.run (t' := (262, [(4, (0, m33)), (0, (1, 324)), (1, (1, 325)), (2, (4, a))], [(0, 3), (1, 324), (4, w 324 2), (4, w 324 1), (4, w 324 0), (4, w 325 1), (4, w 325 0)], w)) 3 rfl ?_
                refine e_Ok.ald (z := w 324 3) rfl (el_o rfl) rfl (by omega) rfl (by omega) ?_
                refine e_Ok.run (t' := (265, [(4, (0, m33)), (0, (1, 324)), (1, (1, 325)), (2, (4, a))], [(4, a), (4, w 324 3), (4, w 324 2), (4, w 324 1), (4, w 324 0), (4, w 325 1), (4, w 325 0)], w)) 2 rfl ?_
                refine e_Ok.callS rfl (by first | exact e_dq hd rfl | omega) rfl rfl (c_307 (by first | exact e_dq hd rfl | omega)) (fun r86 w87 h88 => ?_)
                obtain ⟨z89, rfl, rfl, q90a, q90b⟩ := h88
                show e_Ok 20 elay ecode eI (d + 1) 310 (268, [(4, (0, m33)), (0, (1, 324)), (1, (1, 325)), (2, (4, a))], [(0, z89)], w) _
                refine e_Ok.if1 rfl (fun h91 => ?_) (fun h91 => ?_)
                · replace h91 : (z89 : Int) ≠ 0 := h91
                  refine e_Ok.run (t' := (307, [(4, (0, m33)), (0, (1, 324)), (1, (1, 325)), (2, (4, a))], [(0, 1)], w)) 2 rfl ?_
                  refine e_Ok.rets rfl rfl ?_
                  exact ⟨_, rfl, rfl, by omega, by omega⟩
                · replace h91 : (z89 : Int) = 0 := Classical.not_not.mp (show ¬ ((z89 : Int) ≠ 0) from h91)
                  refine e_Ok.run (t' := (273, [(4, (0, m33)), (0, (1, 324)), (1, (1, 325)), (2, (4, a))], [(0, 2), (1, 325)], w)) 2 rfl ?_
                  refine e_Ok.ald (z := w 325 2) rfl (el_o rfl) rfl (by omega) rfl (by omega) ?_
                  refine e_Ok.run (t' := (277, [(4, (0, m33)), (0, (1, 324)), (1, (1, 325)), (2, (4, a))], [(0, 3), (1, 325), (4, w 325 2)], w)) 3 rfl ?_
                  refine e_Ok.ald (z := w 325 3) rfl (el_o rfl) rfl (by omega) rfl (by omega) ?_
                  refine e_Ok.run (t' := (281, [(4, (0, m33)), (0, (1, 324)), (1, (1, 325)), (2, (4, a))], [(0, 0), (1, 324), (4, w 325 3), (4, w 325 2)], w)) 3 rfl ?_
                  refine e_Ok.ald (z := w 324 0) rfl (el_o rfl) rfl (by omega) rfl (by omega) ?_
                  refine e_Ok.run (t' := (285, [(4, (0, m33)), (0, (1, 324)), (1, (1, 325)), (2, (4, a))], [(0, 1), (1, 324), (4, w 324 0), (4, w 325 3), (4, w 325 2)], w)) 3 rfl ?_
                  refine e_Ok.ald (z := w 324 1) rfl (el_o rfl) rfl (by omega) rfl (by omega) ?_
                  refine e_Ok.run (t' := (289, [(4, (0, m33)), (0, (1, 324)), (1, (1, 325)), (2, (4, a))], [(0, 2), (1, 324), (4, w 324 1), (4, w 324 0), (4, w 325 3), (4, w 325 2)], w)) 3 rfl ?_
                  refine e_Ok.ald (z := w 324 2) rfl (el_o rfl) rfl (by omega) rfl (by omega) ?_
                  refine e_Ok.run (t' := (293, [(4, (0, m33)), (0, (1, 324)), (1, (1, 325)), (2, (4, a))], [(0, 3), (1, 324), (4, w 324 2), (4, w 324 1), (4, w 324 0), (4, w 325 3), (4, w 325 2)], w)) 3 rfl ?_
                  refine e_Ok.ald (z := w 324 3) rfl (el_o rfl) rfl (by omega) rfl (by omega) ?_
                  refine e_Ok.run (t' := (296, [(4, (0, m33)), (0, (1, 324)), (1, (1, 325)), (2, (4, a))], [(4, a), (4, w 324 3), (4, w 324 2), (4, w 324 1), (4, w 324 0), (4, w 325 3), (4, w 325 2)], w)) 2 rfl ?_
                  refine e_Ok.callS rfl (by first | exact e_dq hd rfl | omega) rfl rfl (c_307 (by first | exact e_dq hd rfl | omega)) (fun r92 w93 h94 => ?_)
                  obtain ⟨z95, rfl, rfl, q96a, q96b⟩ := h94
                  show e_Ok 20 elay ecode eI (d + 1) 310 (299, [(4, (0, m33)), (0, (1, 324)), (1, (1, 325)), (2, (4, a))], [(0, z95)], w) _
                  have hJ99 : ∀ m98 : Int, 0 ≤ m98 ∧ m98 ≤ 1 → e_Ok 20 elay ecode eI (d + 1) 310 (307, [(4, (0, m33)), (0, (1, 324)), (1, (1, 325)), (2, (4, a))], [(0, m98)], w) (fun r w' => ∃ z : Int, r = [(0, z)] ∧ w = w' ∧ 0 ≤ z ∧ z ≤ 1) := by
                    intro m98 m98r
                    refine e_Ok.retb rfl (by omega) ?_
                    exact ⟨_, rfl, rfl, by omega, by omega⟩
                  refine e_Ok.if1 rfl (fun h97 => ?_) (fun h97 => ?_)
                  · exact e_Ok.run 1 rfl (hJ99 0 (by omega))
                  · exact e_Ok.run 2 rfl (hJ99 1 (by omega))
          · replace h73 : (z72 : Int) < 0 := Int.not_le.mp (show ¬ ((z72 : Int) ≥ 0) from h73)
            refine e_Ok.run (t' := (177, [(4, (0, m33)), (0, (1, 324)), (1, (1, 325)), (2, (4, a))], [(0, 1)], w)) 1 rfl ?_
            refine e_Ok.rets rfl rfl ?_
            exact ⟨_, rfl, rfl, by omega, by omega⟩
      refine e_Ok.if1 rfl (fun h32 => ?_) (fun h32 => ?_)
      · exact e_Ok.run 1 rfl (hJ34 0 (by omega))
      · exact e_Ok.run 2 rfl (hJ34 1 (by omega))
    · replace h20 : (z18 : Int) ≠ 0 := (show ¬ ((z18 : Int) = 0) from h20)
      refine e_Ok.run (t' := (47, [(0, (1, 324)), (1, (1, 325)), (2, (4, a))], [(0, 0)], w)) 1 rfl ?_
      refine e_Ok.rets rfl rfl ?_
      exact ⟨_, rfl, rfl, by omega, by omega⟩
theorem c_304 {d : Nat} (hd : 21 ≤ d) {w : eW} (hT : e_Has mTy w) {a : Int} (ha : 0 ≤ a ∧ a ≤ 3) : e_Ok 20 elay ecode eI d 304 (0, [(0, (1, 275)), (1, (0, a))], [], w) (fun r w' => ∃ z : Int, r = [(0, z)] ∧ w = w' ∧ ((0 ≤ w 276 (36 * a + 17) ∧ z = w 286 a + 1) ∨ (w 276 (36 * a + 17) < 0 ∧ z = w 286 a))) := by
  obtain ⟨d, rfl⟩ : ∃ e, d = e + 1 := ⟨d - 1, by omega⟩
  refine e_Ok.run (t' := (1, [(0, (1, 275)), (1, (0, a))], [(1, 275)], w)) 1 rfl ?_
  refine e_Ok.getr (z := 286) rfl (el_o rfl) rfl rfl (e_Has.eq hT rfl) ⟨by decide, by decide⟩ ?_
  refine e_Ok.run (t' := (5, [(0, (1, 275)), (1, (0, a))], [(0, a), (1, 286)], w)) 1 rfl ?_
  have h1 := (e_Has.get hT (c := 286) (k := a) (lo := 0) (hi := 6) rfl (by decide))
  refine e_Ok.ald (z := w 286 a) rfl (el_o rfl) rfl (by omega) rfl (by first | exact e_bq h1 (by decide) (by decide) | omega) ?_
  refine e_Ok.run (t' := (7, [(0, (1, 275)), (1, (0, a))], [(1, 275), (0, w 286 a)], w)) 1 rfl ?_
  refine e_Ok.getr (z := 276) rfl (el_o rfl) rfl rfl (e_Has.eq hT rfl) ⟨by decide, by decide⟩ ?_
  refine e_Ok.run (t' := (11, [(0, (1, 275)), (1, (0, a))], [(0, a), (1, 276), (0, w 286 a)], w)) 1 rfl ?_
  refine e_Ok.callS rfl (by first | exact e_dq hd rfl | omega) rfl rfl (c_268 (by omega)) (fun r2 w3 h4 => ?_)
  obtain ⟨rfl, rfl⟩ := h4
  show e_Ok 20 elay ecode eI (d + 1) 304 (14, [(0, (1, 275)), (1, (0, a))], [(0, 36 * a + 16), (1, 276), (0, w 286 a)], w) _
  refine e_Ok.run (t' := (15, [(0, (1, 275)), (1, (0, a))], [(0, 1), (0, 36 * a + 16), (1, 276), (0, w 286 a)], w)) 1 rfl ?_
  refine e_Ok.add (z := 36 * a + 17) rfl (by first | with_reducible rfl | exact Int.add_comm _ _ | omega) (by omega) ?_
  have h5 := (e_Has.get hT (c := 276) (nR_HOLDS (a := a) (by omega)) (by decide))
  refine e_Ok.ald (z := w 276 (36 * a + 17)) rfl (el_o rfl) rfl (by omega) rfl (by omega) ?_
  refine e_Ok.if1 rfl (fun h6 => ?_) (fun h6 => ?_)
  · replace h6 : (w 276 (36 * a + 17) : Int) < 0 := h6
    refine e_Ok.run (t' := (25, [(0, (1, 275)), (1, (0, a))], [(0, 0), (0, w 286 a)], w)) 1 rfl ?_
    refine e_Ok.add (z := w 286 a) rfl (by first | with_reducible rfl | exact Int.add_comm _ _ | omega) (by omega) ?_
    refine e_Ok.rets rfl rfl ?_
    exact ⟨_, rfl, rfl, by omega⟩
  · replace h6 : (w 276 (36 * a + 17) : Int) ≥ 0 := Int.not_lt.mp (show ¬ ((w 276 (36 * a + 17) : Int) < 0) from h6)
    refine e_Ok.run (t' := (25, [(0, (1, 275)), (1, (0, a))], [(0, 1), (0, w 286 a)], w)) 2 rfl ?_
    refine e_Ok.add (z := w 286 a + 1) rfl (by first | with_reducible rfl | exact Int.add_comm _ _ | omega) (by omega) ?_
    refine e_Ok.rets rfl rfl ?_
    exact ⟨_, rfl, rfl, by omega⟩
theorem c_305 {d : Nat} (hd : 21 ≤ d) {w : eW} (hT : e_Has mTy w) {a i b : Int} (ha : 0 ≤ a ∧ a ≤ 3) (hi : 0 ≤ i ∧ (i < w 286 a ∨ (i = w 286 a ∧ 0 ≤ w 276 (36 * a + 17)))) (hb : 0 ≤ b ∧ b ≤ 28) : e_Ok 20 elay ecode eI d 305 (0, [(0, (1, 275)), (1, (0, a)), (2, (0, i)), (3, (0, b))], [], w) (fun r w' => r = [] ∧ e_fr mB w w' ∧ w' 275 58 = b + i ∧ ((w' 275 59 = b + i ∧ i = w 286 a) ∨ (w' 275 59 = b + i + 1 ∧ i < w 286 a)) ∧ (0 ≤ w' 275 60 ∧ w' 275 60 ≤ 800)) := by
  obtain ⟨d, rfl⟩ : ∃ e, d = e + 1 := ⟨d - 1, by omega⟩
  have hj := (e_Has.get hT (c := 286) (k := a) (lo := 0) (hi := 6) rfl (by decide))
  refine e_Ok.run (t' := (2, [(0, (1, 275)), (1, (0, a)), (2, (0, i)), (3, (0, b))], [(1, 275), (0, i)], w)) 2 rfl ?_
  refine e_Ok.getr (z := 286) rfl (el_o rfl) rfl rfl (e_Has.eq hT rfl) ⟨by decide, by decide⟩ ?_
  refine e_Ok.run (t' := (6, [(0, (1, 275)), (1, (0, a)), (2, (0, i)), (3, (0, b))], [(0, a), (1, 286), (0, i)], w)) 1 rfl ?_
  have h1 := (e_Has.get hT (c := 286) (k := a) (lo := 0) (hi := 6) rfl (by decide))
  refine e_Ok.ald (z := w 286 a) rfl (el_o rfl) rfl (by omega) rfl (by first | exact e_bq h1 (by decide) (by decide) | omega) ?_
  refine e_Ok.if2 rfl (fun h2 => ?_) (fun h2 => ?_)
  · replace h2 : (i : Int) ≠ w 286 a := h2
    refine e_Ok.run (t' := (20, [(4, (0, 0)), (0, (1, 275)), (1, (0, a)), (2, (0, i)), (3, (0, b))], [(0, i), (0, b), (1, 275)], w)) 5 rfl ?_
    refine e_Ok.add (z := b + i) rfl (by first | with_reducible rfl | exact Int.add_comm _ _ | omega) (by omega) ?_
    refine e_Ok.putf rfl (el_o rfl) rfl rfl ?_
    generalize hw3 : e_up w 275 58 (b + i) = w3
    have f4 : e_fr mB w w3 := e_fr.up (e_fr.refl w) hw3 (by first | exact ⟨rfl, ⟨(by decide), (by decide)⟩⟩ | (unfold mB; omega))
    refine e_Ok.run (t' := (27, [(4, (0, 0)), (0, (1, 275)), (1, (0, a)), (2, (0, i)), (3, (0, b))], [(0, 0), (1, 275)], w3)) 2 rfl ?_
    refine e_Ok.if1 rfl (fun h5 => ?_) (fun h5 => ?_)
    · replace h5 : (0 : Int) = 0 := h5
      refine e_Ok.run (t' := (38, [(4, (0, 0)), (0, (1, 275)), (1, (0, a)), (2, (0, i)), (3, (0, b))], [(0, i), (0, b), (1, 275)], w3)) 2 rfl ?_
      refine e_Ok.add (z := b + i) rfl (by first | with_reducible rfl | exact Int.add_comm _ _ | omega) (by omega) ?_
      refine e_Ok.run (t' := (40, [(4, (0, 0)), (0, (1, 275)), (1, (0, a)), (2, (0, i)), (3, (0, b))], [(0, 1), (0, b + i), (1, 275)], w3)) 1 rfl ?_
      refine e_Ok.add (z := b + i + 1) rfl (by first | with_reducible rfl | exact Int.add_comm _ _ | omega) (by omega) ?_
      refine e_Ok.putf rfl (el_o rfl) rfl rfl ?_
      generalize hw6 : e_up w3 275 59 (b + i + 1) = w6
      have f7 : e_fr mB w w6 := e_fr.up f4 hw6 (by first | exact ⟨rfl, ⟨(by decide), (by decide)⟩⟩ | (unfold mB; omega))
      refine e_Ok.run (t' := (47, [(4, (0, 0)), (0, (1, 275)), (1, (0, a)), (2, (0, i)), (3, (0, b))], [(0, 0), (1, 275)], w6)) 2 rfl ?_
      refine e_Ok.if1 rfl (fun h8 => ?_) (fun h8 => ?_)
      · replace h8 : (0 : Int) = 0 := h8
        refine e_Ok.run (t' := (70, [(4, (0, 0)), (0, (1, 275)), (1, (0, a)), (2, (0, i)), (3, (0, b))], [(1, 275), (1, 275)], w6)) 1 rfl ?_
        refine e_Ok.getr (z := 293) rfl (el_o rfl) rfl rfl (e_uq hw6 (Or.inr (by first | decide | exact e_neo (by decide) | exact e_ne1 (by decide) | exact e_ne2 (by decide) | omega)) (e_uq hw3 (Or.inr (by first | decide | exact e_neo (by decide) | exact e_ne1 (by decide) | exact e_ne2 (by decide) | omega)) (e_Has.eq hT rfl))) ⟨by decide, by decide⟩ ?_
        refine e_Ok.run (t' := (76, [(4, (0, 0)), (0, (1, 275)), (1, (0, a)), (2, (0, i)), (3, (0, b))], [(0, a), (0, 6), (1, 293), (1, 275)], w6)) 2 rfl ?_
        refine e_Ok.mul (z := 6 * a) rfl (by first | with_reducible rfl | exact Int.add_comm _ _ | omega) (by omega) ?_
        refine e_Ok.run (t' := (78, [(4, (0, 0)), (0, (1, 275)), (1, (0, a)), (2, (0, i)), (3, (0, b))], [(0, i), (0, 6 * a), (1, 293), (1, 275)], w6)) 1 rfl ?_
        refine e_Ok.add (z := 6 * a + i) rfl (by first | with_reducible rfl | exact Int.add_comm _ _ | omega) (by omega) ?_
        have h9 := (e_Has.get hT (c := 293) (k := 6 * a + i) (lo := 0) (hi := 800) rfl (by decide))
        refine e_Ok.ald (z := w 293 (6 * a + i)) rfl (el_o rfl) rfl (by omega) (e_uq hw6 (Or.inl (by first | decide | exact e_neo (by decide) | exact e_ne1 (by decide) | exact e_ne2 (by decide) | omega)) (e_uq hw3 (Or.inl (by first | decide | exact e_neo (by decide) | exact e_ne1 (by decide) | exact e_ne2 (by decide) | omega)) rfl)) (by first | exact e_bq h9 (by decide) (by decide) | omega) ?_
        refine e_Ok.putf rfl (el_o rfl) rfl rfl ?_
        generalize hw10 : e_up w6 275 60 (w 293 (6 * a + i)) = w10
        have f11 : e_fr mB w w10 := e_fr.up f7 hw10 (by first | exact ⟨rfl, ⟨(by decide), (by decide)⟩⟩ | (unfold mB; omega))
        refine e_Ok.rets rfl rfl ?_
        have e58 : w10 275 58 = b + i := (e_uq hw10 (Or.inr (by first | decide | exact e_neo (by decide) | exact e_ne1 (by decide) | exact e_ne2 (by decide) | omega)) (e_uq hw6 (Or.inr (by first | decide | exact e_neo (by decide) | exact e_ne1 (by decide) | exact e_ne2 (by decide) | omega)) (e_ue hw3)))
        have e59 : w10 275 59 = b + i + 1 := (e_uq hw10 (Or.inr (by first | decide | exact e_neo (by decide) | exact e_ne1 (by decide) | exact e_ne2 (by decide) | omega)) (e_ue hw6))
        have e60 : w10 275 60 = w 293 (6 * a + i) := (e_ue hw10)
        exact ⟨rfl, f11, by omega, by omega, by omega⟩
      · replace h8 : (0 : Int) ≠ 0 := (show ¬ ((0 : Int) = 0) from h8)
        exfalso; omega
    · replace h5 : (0 : Int) ≠ 0 := (show ¬ ((0 : Int) = 0) from h5)
      exfalso; omega
  · replace h2 : (i : Int) = w 286 a := Classical.not_not.mp (show ¬ ((i : Int) ≠ w 286 a) from h2)
    refine e_Ok.run (t' := (20, [(4, (0, 1)), (0, (1, 275)), (1, (0, a)), (2, (0, i)), (3, (0, b))], [(0, i), (0, b), (1, 275)], w)) 6 rfl ?_
    refine e_Ok.add (z := b + i) rfl (by first | with_reducible rfl | exact Int.add_comm _ _ | omega) (by omega) ?_
    refine e_Ok.putf rfl (el_o rfl) rfl rfl ?_
    generalize hw12 : e_up w 275 58 (b + i) = w12
    have f13 : e_fr mB w w12 := e_fr.up (e_fr.refl w) hw12 (by first | exact ⟨rfl, ⟨(by decide), (by decide)⟩⟩ | (unfold mB; omega))
    refine e_Ok.run (t' := (27, [(4, (0, 1)), (0, (1, 275)), (1, (0, a)), (2, (0, i)), (3, (0, b))], [(0, 1), (1, 275)], w12)) 2 rfl ?_
    refine e_Ok.if1 rfl (fun h14 => ?_) (fun h14 => ?_)
    · replace h14 : (1 : Int) = 0 := h14
      exfalso; omega
    · replace h14 : (1 : Int) ≠ 0 := (show ¬ ((1 : Int) = 0) from h14)
      refine e_Ok.run (t' := (32, [(4, (0, 1)), (0, (1, 275)), (1, (0, a)), (2, (0, i)), (3, (0, b))], [(0, i), (0, b), (1, 275)], w12)) 2 rfl ?_
      refine e_Ok.add (z := b + i) rfl (by first | with_reducible rfl | exact Int.add_comm _ _ | omega) (by omega) ?_
      refine e_Ok.run (t' := (41, [(4, (0, 1)), (0, (1, 275)), (1, (0, a)), (2, (0, i)), (3, (0, b))], [(0, b + i), (1, 275)], w12)) 1 rfl ?_
      refine e_Ok.putf rfl (el_o rfl) rfl rfl ?_
      generalize hw15 : e_up w12 275 59 (b + i) = w15
      have f16 : e_fr mB w w15 := e_fr.up f13 hw15 (by first | exact ⟨rfl, ⟨(by decide), (by decide)⟩⟩ | (unfold mB; omega))
      refine e_Ok.run (t' := (47, [(4, (0, 1)), (0, (1, 275)), (1, (0, a)), (2, (0, i)), (3, (0, b))], [(0, 1), (1, 275)], w15)) 2 rfl ?_
      refine e_Ok.if1 rfl (fun h17 => ?_) (fun h17 => ?_)
      · replace h17 : (1 : Int) = 0 := h17
        exfalso; omega
      · replace h17 : (1 : Int) ≠ 0 := (show ¬ ((1 : Int) = 0) from h17)
        refine e_Ok.run (t' := (51, [(4, (0, 1)), (0, (1, 275)), (1, (0, a)), (2, (0, i)), (3, (0, b))], [(1, 275), (1, 275)], w15)) 1 rfl ?_
        refine e_Ok.getr (z := 309) rfl (el_o rfl) rfl rfl (e_uq hw15 (Or.inr (by first | decide | exact e_neo (by decide) | exact e_ne1 (by decide) | exact e_ne2 (by decide) | omega)) (e_uq hw12 (Or.inr (by first | decide | exact e_neo (by decide) | exact e_ne1 (by decide) | exact e_ne2 (by decide) | omega)) (e_Has.eq hT rfl))) ⟨by decide, by decide⟩ ?_
        refine e_Ok.run (t' := (55, [(4, (0, 1)), (0, (1, 275)), (1, (0, a)), (2, (0, i)), (3, (0, b))], [(1, 275), (1, 309), (1, 275)], w15)) 1 rfl ?_
        refine e_Ok.getr (z := 276) rfl (el_o rfl) rfl rfl (e_uq hw15 (Or.inr (by first | decide | exact e_neo (by decide) | exact e_ne1 (by decide) | exact e_ne2 (by decide) | omega)) (e_uq hw12 (Or.inr (by first | decide | exact e_neo (by decide) | exact e_ne1 (by decide) | exact e_ne2 (by decide) | omega)) (e_Has.eq hT rfl))) ⟨by decide, by decide⟩ ?_
        refine e_Ok.run (t' := (59, [(4, (0, 1)), (0, (1, 275)), (1, (0, a)), (2, (0, i)), (3, (0, b))], [(0, a), (1, 276), (1, 309), (1, 275)], w15)) 1 rfl ?_
        refine e_Ok.callS rfl (by first | exact e_dq hd rfl | omega) rfl rfl (c_268 (by omega)) (fun r18 w19 h20 => ?_)
        obtain ⟨rfl, rfl⟩ := h20
        show e_Ok 20 elay ecode eI (d + 1) 305 (62, [(4, (0, 1)), (0, (1, 275)), (1, (0, a)), (2, (0, i)), (3, (0, b))], [(0, 36 * a + 16), (1, 276), (1, 309), (1, 275)], w15) _
        refine e_Ok.run (t' := (63, [(4, (0, 1)), (0, (1, 275)), (1, (0, a)), (2, (0, i)), (3, (0, b))], [(0, 1), (0, 36 * a + 16), (1, 276), (1, 309), (1, 275)], w15)) 1 rfl ?_
        refine e_Ok.add (z := 36 * a + 17) rfl (by first | with_reducible rfl | exact Int.add_comm _ _ | omega) (by omega) ?_
        have h21 := (e_Has.get hT (c := 276) (nR_HOLDS (a := a) (by omega)) (by decide))
        refine e_Ok.ald (z := w 276 (36 * a + 17)) rfl (el_o rfl) rfl (by omega) (e_uq hw15 (Or.inl (by first | decide | exact e_neo (by decide) | exact e_ne1 (by decide) | exact e_ne2 (by decide) | omega)) (e_uq hw12 (Or.inl (by first | decide | exact e_neo (by decide) | exact e_ne1 (by decide) | exact e_ne2 (by decide) | omega)) rfl)) (by omega) ?_
        have h22 := (e_Has.get hT (c := 309) (k := w 276 (36 * a + 17)) (lo := 0) (hi := 800) rfl (by decide))
        refine e_Ok.ald (z := w 309 (w 276 (36 * a + 17))) rfl rfl rfl (by omega) (e_uq hw15 (Or.inl (by first | decide | exact e_neo (by decide) | exact e_ne1 (by decide) | exact e_ne2 (by decide) | omega)) (e_uq hw12 (Or.inl (by first | decide | exact e_neo (by decide) | exact e_ne1 (by decide) | exact e_ne2 (by decide) | omega)) rfl)) (by first | exact e_bq h22 (by decide) (by decide) | omega) ?_
        refine e_Ok.run (t' := (80, [(4, (0, 1)), (0, (1, 275)), (1, (0, a)), (2, (0, i)), (3, (0, b))], [(0, w 309 (w 276 (36 * a + 17))), (1, 275)], w15)) 1 rfl ?_
        refine e_Ok.putf rfl (el_o rfl) rfl rfl ?_
        generalize hw23 : e_up w15 275 60 (w 309 (w 276 (36 * a + 17))) = w23
        have f24 : e_fr mB w w23 := e_fr.up f16 hw23 (by first | exact ⟨rfl, ⟨(by decide), (by decide)⟩⟩ | (unfold mB; omega))
        refine e_Ok.rets rfl rfl ?_
        have e58 : w23 275 58 = b + i := (e_uq hw23 (Or.inr (by first | decide | exact e_neo (by decide) | exact e_ne1 (by decide) | exact e_ne2 (by decide) | omega)) (e_uq hw15 (Or.inr (by first | decide | exact e_neo (by decide) | exact e_ne1 (by decide) | exact e_ne2 (by decide) | omega)) (e_ue hw12)))
        have e59 : w23 275 59 = b + i := (e_uq hw23 (Or.inr (by first | decide | exact e_neo (by decide) | exact e_ne1 (by decide) | exact e_ne2 (by decide) | omega)) (e_ue hw15))
        have e60 : w23 275 60 = w 309 (w 276 (36 * a + 17)) := (e_ue hw23)
        exact ⟨rfl, f24, by omega, by omega, by omega⟩
theorem c_311_324 {d : Nat} {w : eW} {x y z v : Int} (hx : -2147483648 ≤ x ∧ x ≤ 2147483647) (hy : -2147483648 ≤ y ∧ y ≤ 2147483647) (hz : -2147483648 ≤ z ∧ z ≤ 2147483647) (hv : -2147483648 ≤ v ∧ v ≤ 2147483647) : e_Ok 20 elay ecode eI d 311 (0, [(0, (1, 275)), (1, (1, 324)), (2, (0, x)), (3, (0, y)), (4, (0, z)), (5, (0, v))], [], w) (fun r w' => r = [] ∧ e_fr m1 w w' ∧ e_kn w' 324 0 3) := by
  refine e_Ok.run (t' := (3, [(0, (1, 275)), (1, (1, 324)), (2, (0, x)), (3, (0, y)), (4, (0, z)), (5, (0, v))], [(0, x), (0, 0), (1, 324)], w)) 3 rfl ?_
  refine e_Ok.ast rfl (el_o rfl) rfl rfl (by omega) ?_
  generalize hw1 : e_up w 324 0 x = w1
  have f2 : e_fr m1 w w1 := e_fr.up (e_fr.refl w) hw1 (by first | exact rfl | (unfold m1; omega))
  refine e_Ok.run (t' := (7, [(0, (1, 275)), (1, (1, 324)), (2, (0, x)), (3, (0, y)), (4, (0, z)), (5, (0, v))], [(0, y), (0, 1), (1, 324)], w1)) 3 rfl ?_
  refine e_Ok.ast rfl (el_o rfl) rfl rfl (by omega) ?_
  generalize hw3 : e_up w1 324 1 y = w3
  have f4 : e_fr m1 w w3 := e_fr.up f2 hw3 (by first | exact rfl | (unfold m1; omega))
  refine e_Ok.run (t' := (12, [(0, (1, 275)), (1, (1, 324)), (2, (0, x)), (3, (0, y)), (4, (0, z)), (5, (0, v))], [(0, z), (0, 2), (1, 324)], w3)) 3 rfl ?_
  refine e_Ok.ast rfl (el_o rfl) rfl rfl (by omega) ?_
  generalize hw5 : e_up w3 324 2 z = w5
  have f6 : e_fr m1 w w5 := e_fr.up f4 hw5 (by first | exact rfl | (unfold m1; omega))
  refine e_Ok.run (t' := (17, [(0, (1, 275)), (1, (1, 324)), (2, (0, x)), (3, (0, y)), (4, (0, z)), (5, (0, v))], [(0, v), (0, 3), (1, 324)], w5)) 3 rfl ?_
  refine e_Ok.ast rfl (el_o rfl) rfl rfl (by omega) ?_
  generalize hw7 : e_up w5 324 3 v = w7
  have f8 : e_fr m1 w w7 := e_fr.up f6 hw7 (by first | exact rfl | (unfold m1; omega))
  refine e_Ok.rets rfl rfl ?_
  refine ⟨rfl, f8, fun i g1 g2 => ?_⟩
  obtain rfl | rfl | rfl | rfl : i = 0 ∨ i = 1 ∨ i = 2 ∨ i = 3 := by omega
  · rw [show w7 324 0 = x from (e_uq hw7 (Or.inr (by first | decide | exact e_neo (by decide) | exact e_ne1 (by decide) | exact e_ne2 (by decide) | omega)) (e_uq hw5 (Or.inr (by first | decide | exact e_neo (by decide) | exact e_ne1 (by decide) | exact e_ne2 (by decide) | omega)) (e_uq hw3 (Or.inr (by first | decide | exact e_neo (by decide) | exact e_ne1 (by decide) | exact e_ne2 (by decide) | omega)) (e_ue hw1))))]; omega
  · rw [show w7 324 1 = y from (e_uq hw7 (Or.inr (by first | decide | exact e_neo (by decide) | exact e_ne1 (by decide) | exact e_ne2 (by decide) | omega)) (e_uq hw5 (Or.inr (by first | decide | exact e_neo (by decide) | exact e_ne1 (by decide) | exact e_ne2 (by decide) | omega)) (e_ue hw3)))]; omega
  · rw [show w7 324 2 = z from (e_uq hw7 (Or.inr (by first | decide | exact e_neo (by decide) | exact e_ne1 (by decide) | exact e_ne2 (by decide) | omega)) (e_ue hw5))]; omega
  · rw [show w7 324 3 = v from (e_ue hw7)]; omega
theorem c_311_325 {d : Nat} {w : eW} {x y z v : Int} (hx : -2147483648 ≤ x ∧ x ≤ 2147483647) (hy : -2147483648 ≤ y ∧ y ≤ 2147483647) (hz : -2147483648 ≤ z ∧ z ≤ 2147483647) (hv : -2147483648 ≤ v ∧ v ≤ 2147483647) : e_Ok 20 elay ecode eI d 311 (0, [(0, (1, 275)), (1, (1, 325)), (2, (0, x)), (3, (0, y)), (4, (0, z)), (5, (0, v))], [], w) (fun r w' => r = [] ∧ e_fr m2 w w' ∧ e_kn w' 325 0 3) := by
  refine e_Ok.run (t' := (3, [(0, (1, 275)), (1, (1, 325)), (2, (0, x)), (3, (0, y)), (4, (0, z)), (5, (0, v))], [(0, x), (0, 0), (1, 325)], w)) 3 rfl ?_
  refine e_Ok.ast rfl (el_o rfl) rfl rfl (by omega) ?_
  generalize hw1 : e_up w 325 0 x = w1
  have f2 : e_fr m2 w w1 := e_fr.up (e_fr.refl w) hw1 (by first | exact rfl | (unfold m2; omega))
  refine e_Ok.run (t' := (7, [(0, (1, 275)), (1, (1, 325)), (2, (0, x)), (3, (0, y)), (4, (0, z)), (5, (0, v))], [(0, y), (0, 1), (1, 325)], w1)) 3 rfl ?_
  refine e_Ok.ast rfl (el_o rfl) rfl rfl (by omega) ?_
  generalize hw3 : e_up w1 325 1 y = w3
  have f4 : e_fr m2 w w3 := e_fr.up f2 hw3 (by first | exact rfl | (unfold m2; omega))
  refine e_Ok.run (t' := (12, [(0, (1, 275)), (1, (1, 325)), (2, (0, x)), (3, (0, y)), (4, (0, z)), (5, (0, v))], [(0, z), (0, 2), (1, 325)], w3)) 3 rfl ?_
  refine e_Ok.ast rfl (el_o rfl) rfl rfl (by omega) ?_
  generalize hw5 : e_up w3 325 2 z = w5
  have f6 : e_fr m2 w w5 := e_fr.up f4 hw5 (by first | exact rfl | (unfold m2; omega))
  refine e_Ok.run (t' := (17, [(0, (1, 275)), (1, (1, 325)), (2, (0, x)), (3, (0, y)), (4, (0, z)), (5, (0, v))], [(0, v), (0, 3), (1, 325)], w5)) 3 rfl ?_
  refine e_Ok.ast rfl (el_o rfl) rfl rfl (by omega) ?_
  generalize hw7 : e_up w5 325 3 v = w7
  have f8 : e_fr m2 w w7 := e_fr.up f6 hw7 (by first | exact rfl | (unfold m2; omega))
  refine e_Ok.rets rfl rfl ?_
  refine ⟨rfl, f8, fun i g1 g2 => ?_⟩
  obtain rfl | rfl | rfl | rfl : i = 0 ∨ i = 1 ∨ i = 2 ∨ i = 3 := by omega
  · rw [show w7 325 0 = x from (e_uq hw7 (Or.inr (by first | decide | exact e_neo (by decide) | exact e_ne1 (by decide) | exact e_ne2 (by decide) | omega)) (e_uq hw5 (Or.inr (by first | decide | exact e_neo (by decide) | exact e_ne1 (by decide) | exact e_ne2 (by decide) | omega)) (e_uq hw3 (Or.inr (by first | decide | exact e_neo (by decide) | exact e_ne1 (by decide) | exact e_ne2 (by decide) | omega)) (e_ue hw1))))]; omega
  · rw [show w7 325 1 = y from (e_uq hw7 (Or.inr (by first | decide | exact e_neo (by decide) | exact e_ne1 (by decide) | exact e_ne2 (by decide) | omega)) (e_uq hw5 (Or.inr (by first | decide | exact e_neo (by decide) | exact e_ne1 (by decide) | exact e_ne2 (by decide) | omega)) (e_ue hw3)))]; omega
  · rw [show w7 325 2 = z from (e_uq hw7 (Or.inr (by first | decide | exact e_neo (by decide) | exact e_ne1 (by decide) | exact e_ne2 (by decide) | omega)) (e_ue hw5))]; omega
  · rw [show w7 325 3 = v from (e_ue hw7)]; omega
theorem c_312_324 {d : Nat} (hd : 21 ≤ d) {w : eW} (hT : e_Has mTy w) {u v : Int} (hu : w 275 58 = u) (hv : w 275 59 = v) (hr : 0 ≤ u ∧ u ≤ 34 ∧ 0 ≤ v ∧ v ≤ 34) (k1 : e_kn w 321 u u) (k2 : e_kn w 322 u u) (k3 : e_kn w 321 v v) (k4 : e_kn w 322 v v) : e_Ok 20 elay ecode eI d 312 (0, [(0, (1, 275)), (1, (1, 324))], [], w) (fun r w' => r = [] ∧ e_fr m1 w w' ∧ e_kn w' 324 0 3) := by
  obtain ⟨d, rfl⟩ : ∃ e, d = e + 1 := ⟨d - 1, by omega⟩
  refine e_Ok.run (t' := (3, [(0, (1, 275)), (1, (1, 324))], [(1, 275), (1, 324), (1, 275)], w)) 3 rfl ?_
  refine e_Ok.getr (z := 321) rfl (el_o rfl) rfl rfl (e_Has.eq hT rfl) ⟨by decide, by decide⟩ ?_
  refine e_Ok.run (t' := (7, [(0, (1, 275)), (1, (1, 324))], [(1, 275), (1, 321), (1, 324), (1, 275)], w)) 1 rfl ?_
  refine e_Ok.getf (z := u) rfl (el_o rfl) rfl rfl hu (by omega) ?_
  have h1 := (k1 u (by omega) (by omega))
  refine e_Ok.ald (z := w 321 u) rfl (el_o rfl) rfl (by omega) rfl (by omega) ?_
  refine e_Ok.run (t' := (12, [(0, (1, 275)), (1, (1, 324))], [(1, 275), (0, w 321 u), (1, 324), (1, 275)], w)) 1 rfl ?_
  refine e_Ok.getr (z := 322) rfl (el_o rfl) rfl rfl (e_Has.eq hT rfl) ⟨by decide, by decide⟩ ?_
  refine e_Ok.run (t' := (16, [(0, (1, 275)), (1, (1, 324))], [(1, 275), (1, 322), (0, w 321 u), (1, 324), (1, 275)], w)) 1 rfl ?_
  refine e_Ok.getf (z := u) rfl (el_o rfl) rfl rfl hu (by omega) ?_
  have h2 := (k2 u (by omega) (by omega))
  refine e_Ok.ald (z := w 322 u) rfl (el_o rfl) rfl (by omega) rfl (by omega) ?_
  refine e_Ok.run (t' := (21, [(0, (1, 275)), (1, (1, 324))], [(1, 275), (0, w 322 u), (0, w 321 u), (1, 324), (1, 275)], w)) 1 rfl ?_
  refine e_Ok.getr (z := 321) rfl (el_o rfl) rfl rfl (e_Has.eq hT rfl) ⟨by decide, by decide⟩ ?_
  refine e_Ok.run (t' := (25, [(0, (1, 275)), (1, (1, 324))], [(1, 275), (1, 321), (0, w 322 u), (0, w 321 u), (1, 324), (1, 275)], w)) 1 rfl ?_
  refine e_Ok.getf (z := v) rfl (el_o rfl) rfl rfl hv (by omega) ?_
  have h3 := (k3 v (by omega) (by omega))
  refine e_Ok.ald (z := w 321 v) rfl (el_o rfl) rfl (by omega) rfl (by omega) ?_
  refine e_Ok.run (t' := (30, [(0, (1, 275)), (1, (1, 324))], [(1, 275), (0, w 321 v), (0, w 322 u), (0, w 321 u), (1, 324), (1, 275)], w)) 1 rfl ?_
  refine e_Ok.getr (z := 322) rfl (el_o rfl) rfl rfl (e_Has.eq hT rfl) ⟨by decide, by decide⟩ ?_
  refine e_Ok.run (t' := (34, [(0, (1, 275)), (1, (1, 324))], [(1, 275), (1, 322), (0, w 321 v), (0, w 322 u), (0, w 321 u), (1, 324), (1, 275)], w)) 1 rfl ?_
  refine e_Ok.getf (z := v) rfl (el_o rfl) rfl rfl hv (by omega) ?_
  have h4 := (k4 v (by omega) (by omega))
  refine e_Ok.ald (z := w 322 v) rfl (el_o rfl) rfl (by omega) rfl (by omega) ?_
  refine e_Ok.callV rfl (by first | exact e_dq hd rfl | omega) rfl rfl rfl rfl (c_311_324 (by omega) (by omega) (by omega) (by omega)) (fun r5 w6 h7 => ?_)
  obtain ⟨rfl, q8, q8k⟩ := h7
  have f9 : e_fr m1 w w6 := e_fr.trans (e_fr.refl w) (e_fr.mono q8 (fun c k q => by exact q))
  show e_Ok 20 elay ecode eI (d + 1) 312 (41, [(0, (1, 275)), (1, (1, 324))], [], w6) _
  refine e_Ok.rets rfl rfl ?_
  exact ⟨rfl, f9, q8k⟩
theorem c_312_325 {d : Nat} (hd : 21 ≤ d) {w : eW} (hT : e_Has mTy w) {u v : Int} (hu : w 275 58 = u) (hv : w 275 59 = v) (hr : 0 ≤ u ∧ u ≤ 34 ∧ 0 ≤ v ∧ v ≤ 34) (k1 : e_kn w 321 u u) (k2 : e_kn w 322 u u) (k3 : e_kn w 321 v v) (k4 : e_kn w 322 v v) : e_Ok 20 elay ecode eI d 312 (0, [(0, (1, 275)), (1, (1, 325))], [], w) (fun r w' => r = [] ∧ e_fr m2 w w' ∧ e_kn w' 325 0 3) := by
  obtain ⟨d, rfl⟩ : ∃ e, d = e + 1 := ⟨d - 1, by omega⟩
  refine e_Ok.run (t' := (3, [(0, (1, 275)), (1, (1, 325))], [(1, 275), (1, 325), (1, 275)], w)) 3 rfl ?_
  refine e_Ok.getr (z := 321) rfl (el_o rfl) rfl rfl (e_Has.eq hT rfl) ⟨by decide, by decide⟩ ?_
  refine e_Ok.run (t' := (7, [(0, (1, 275)), (1, (1, 325))], [(1, 275), (1, 321), (1, 325), (1, 275)], w)) 1 rfl ?_
  refine e_Ok.getf (z := u) rfl (el_o rfl) rfl rfl hu (by omega) ?_
  have h1 := (k1 u (by omega) (by omega))
  refine e_Ok.ald (z := w 321 u) rfl (el_o rfl) rfl (by omega) rfl (by omega) ?_
  refine e_Ok.run (t' := (12, [(0, (1, 275)), (1, (1, 325))], [(1, 275), (0, w 321 u), (1, 325), (1, 275)], w)) 1 rfl ?_
  refine e_Ok.getr (z := 322) rfl (el_o rfl) rfl rfl (e_Has.eq hT rfl) ⟨by decide, by decide⟩ ?_
  refine e_Ok.run (t' := (16, [(0, (1, 275)), (1, (1, 325))], [(1, 275), (1, 322), (0, w 321 u), (1, 325), (1, 275)], w)) 1 rfl ?_
  refine e_Ok.getf (z := u) rfl (el_o rfl) rfl rfl hu (by omega) ?_
  have h2 := (k2 u (by omega) (by omega))
  refine e_Ok.ald (z := w 322 u) rfl (el_o rfl) rfl (by omega) rfl (by omega) ?_
  refine e_Ok.run (t' := (21, [(0, (1, 275)), (1, (1, 325))], [(1, 275), (0, w 322 u), (0, w 321 u), (1, 325), (1, 275)], w)) 1 rfl ?_
  refine e_Ok.getr (z := 321) rfl (el_o rfl) rfl rfl (e_Has.eq hT rfl) ⟨by decide, by decide⟩ ?_
  refine e_Ok.run (t' := (25, [(0, (1, 275)), (1, (1, 325))], [(1, 275), (1, 321), (0, w 322 u), (0, w 321 u), (1, 325), (1, 275)], w)) 1 rfl ?_
  refine e_Ok.getf (z := v) rfl (el_o rfl) rfl rfl hv (by omega) ?_
  have h3 := (k3 v (by omega) (by omega))
  refine e_Ok.ald (z := w 321 v) rfl (el_o rfl) rfl (by omega) rfl (by omega) ?_
  refine e_Ok.run (t' := (30, [(0, (1, 275)), (1, (1, 325))], [(1, 275), (0, w 321 v), (0, w 322 u), (0, w 321 u), (1, 325), (1, 275)], w)) 1 rfl ?_
  refine e_Ok.getr (z := 322) rfl (el_o rfl) rfl rfl (e_Has.eq hT rfl) ⟨by decide, by decide⟩ ?_
  refine e_Ok.run (t' := (34, [(0, (1, 275)), (1, (1, 325))], [(1, 275), (1, 322), (0, w 321 v), (0, w 322 u), (0, w 321 u), (1, 325), (1, 275)], w)) 1 rfl ?_
  refine e_Ok.getf (z := v) rfl (el_o rfl) rfl rfl hv (by omega) ?_
  have h4 := (k4 v (by omega) (by omega))
  refine e_Ok.ald (z := w 322 v) rfl (el_o rfl) rfl (by omega) rfl (by omega) ?_
  refine e_Ok.callV rfl (by first | exact e_dq hd rfl | omega) rfl rfl rfl rfl (c_311_325 (by omega) (by omega) (by omega) (by omega)) (fun r5 w6 h7 => ?_)
  obtain ⟨rfl, q8, q8k⟩ := h7
  have f9 : e_fr m2 w w6 := e_fr.trans (e_fr.refl w) (e_fr.mono q8 (fun c k q => by exact q))
  show e_Ok 20 elay ecode eI (d + 1) 312 (41, [(0, (1, 275)), (1, (1, 325))], [], w6) _
  refine e_Ok.rets rfl rfl ?_
  exact ⟨rfl, f9, q8k⟩
end
end
-- part 51
section
noncomputable section
theorem no_51_0 {k : Int} : ¬ mL 286 k := by unfold mL; omega
theorem no_51_1 {k : Int} : ¬ mL 276 k := by unfold mL; omega
theorem no_51_2 : ¬ mL 275 61 := by unfold mL; omega
theorem no_51_3 {k : Int} : ¬ m1 275 k := by unfold m1; omega
theorem no_51_4 : ¬ mL 275 62 := by unfold mL; omega
theorem no_51_5 {k : Int} : ¬ m2 275 k := by unfold m2; omega
theorem su_51_19 {c k : Int} (q : mB c k) : mL c k := by
  unfold mB at q
  rcases q with ⟨q, ⟨q, q⟩⟩
  · exact Or.inl ⟨(by omega), ⟨(by omega), (by omega)⟩⟩
theorem su_51_20 {c k : Int} (q : m1 c k) : mL c k := by
  unfold m1 at q
  rcases q with q
  · exact Or.inr (Or.inl (by omega))
theorem su_51_21 {c k : Int} (q : m2 c k) : mL c k := by
  unfold m2 at q
  rcases q with q
  · exact Or.inr (Or.inr (by omega))
theorem c_313 {d : Nat} (hd : 23 ≤ d) {w : eW} (hT : e_Has mTy w) {a i u b k t m : Int} (ha : 0 ≤ a ∧ a ≤ 3) (hi : 0 ≤ i ∧ (i < w 286 a ∨ (i = w 286 a ∧ 0 ≤ w 276 (36 * a + 17)))) (hu : 0 ≤ u ∧ u ≤ 28) (hb : 0 ≤ b ∧ b ≤ 3) (hk : 0 ≤ k ∧ (k < w 286 b ∨ (k = w 286 b ∧ 0 ≤ w 276 (36 * b + 17)))) (ht : 0 ≤ t ∧ t ≤ 28) (k1 : e_kn w 321 u (u + w 286 a)) (k2 : e_kn w 322 u (u + w 286 a)) (k3 : e_kn w 321 t (t + w 286 b)) (k4 : e_kn w 322 t (t + w 286 b)) : e_Ok 20 elay ecode eI d 313 (0, [(0, (1, 275)), (1, (0, a)), (2, (0, i)), (3, (0, u)), (4, (0, b)), (5, (0, k)), (6, (0, t)), (7, (0, m))], [], w) (fun r w' => ∃ z : Int, r = [(0, z)] ∧ e_fr mL w w' ∧ 0 ≤ z ∧ z ≤ 1) := by
  obtain ⟨d, rfl⟩ : ∃ e, d = e + 1 := ⟨d - 1, by omega⟩
  have hja := (e_Has.get hT (c := 286) (k := a) (lo := 0) (hi := 6) rfl (by decide))
  have hjb := (e_Has.get hT (c := 286) (k := b) (lo := 0) (hi := 6) rfl (by decide))
  refine e_Ok.run (t' := (4, [(0, (1, 275)), (1, (0, a)), (2, (0, i)), (3, (0, u)), (4, (0, b)), (5, (0, k)), (6, (0, t)), (7, (0, m))], [(0, u), (0, i), (0, a), (1, 275)], w)) 4 rfl ?_
  refine e_Ok.callV rfl (by first | exact e_dq hd rfl | omega) rfl rfl rfl rfl (c_305 (by first | exact e_dq hd rfl | omega) hT (by omega) (by omega) (by omega)) (fun r1 w2 h3 => ?_)
  obtain ⟨rfl, q4, q4a, q4b, q4c⟩ := h3
  have f5 : e_fr mL w w2 := e_fr.trans (e_fr.refl w) (e_fr.mono q4 (fun c k q => su_51_19 q))
  have l6 : w2 286 a = w 286 a := f5 286 a no_51_0
  have l7 : w2 286 b = w 286 b := f5 286 b no_51_0
  have l8 : w2 276 (36 * a + 17) = w 276 (36 * a + 17) := f5 276 (36 * a + 17) no_51_1
  have l9 : w2 276 (36 * b + 17) = w 276 (36 * b + 17) := f5 276 (36 * b + 17) no_51_1
  show e_Ok 20 elay ecode eI (d + 1) 313 (7, [(0, (1, 275)), (1, (0, a)), (2, (0, i)), (3, (0, u)), (4, (0, b)), (5, (0, k)), (6, (0, t)), (7, (0, m))], [], w2) _
  refine e_Ok.run (t' := (9, [(0, (1, 275)), (1, (0, a)), (2, (0, i)), (3, (0, u)), (4, (0, b)), (5, (0, k)), (6, (0, t)), (7, (0, m))], [(1, 275), (1, 275)], w2)) 2 rfl ?_
  refine e_Ok.getr (z := 324) rfl (el_o rfl) rfl rfl ((f5 275 61 no_51_2).trans (e_Has.eq hT rfl)) ⟨by decide, by decide⟩ ?_
  refine e_Ok.callV rfl (by first | exact e_dq hd rfl | omega) rfl rfl rfl rfl (c_312_324 (by first | exact e_dq hd rfl | omega) (mT_L f5 hT) q4a rfl (by omega) (e_kn_sub (e_kn.fr f5 (fun k q => by unfold mL at q; omega) k1) (by omega) (by omega)) (e_kn_sub (e_kn.fr f5 (fun k q => by unfold mL at q; omega) k2) (by omega) (by omega)) (e_kn_sub (e_kn.fr f5 (fun k q => by unfold mL at q; omega) k1) (by omega) (by omega)) (e_kn_sub (e_kn.fr f5 (fun k q => by unfold mL at q; omega) k2) (by omega) (by omega))) (fun r10 w11 h12 => ?_)
  obtain ⟨rfl, q13, q13k⟩ := h12
  have f14 : e_fr mL w w11 := e_fr.trans f5 (e_fr.mono q13 (fun c k q => su_51_20 q))
  have l15 : w11 286 a = w 286 a := f14 286 a no_51_0
  have l16 : w11 286 b = w 286 b := f14 286 b no_51_0
  have l17 : w11 276 (36 * a + 17) = w 276 (36 * a + 17) := f14 276 (36 * a + 17) no_51_1
  have l18 : w11 276 (36 * b + 17) = w 276 (36 * b + 17) := f14 276 (36 * b + 17) no_51_1
  show e_Ok 20 elay ecode eI (d + 1) 313 (15, [(0, (1, 275)), (1, (0, a)), (2, (0, i)), (3, (0, u)), (4, (0, b)), (5, (0, k)), (6, (0, t)), (7, (0, m))], [], w11) _
  refine e_Ok.run (t' := (16, [(0, (1, 275)), (1, (0, a)), (2, (0, i)), (3, (0, u)), (4, (0, b)), (5, (0, k)), (6, (0, t)), (7, (0, m))], [(1, 275)], w11)) 1 rfl ?_
  refine e_Ok.getf (z := w2 275 60) rfl (el_o rfl) rfl rfl ((q13 275 60 no_51_3).trans rfl) (by omega) ?_
  refine e_Ok.run (t' := (28, [(8, (0, w2 275 60)), (0, (1, 275)), (1, (0, a)), (2, (0, i)), (3, (0, u)), (4, (0, b)), (5, (0, k)), (6, (0, t)), (7, (0, m))], [(0, t), (0, k), (0, b), (1, 275)], w11)) 5 rfl ?_
  refine e_Ok.callV rfl (by first | exact e_dq hd rfl | omega) rfl rfl rfl rfl (c_305 (by first | exact e_dq hd rfl | omega) (mT_L f14 hT) (by omega) (by omega) (by omega)) (fun r19 w20 h21 => ?_)
  obtain ⟨rfl, q22, q22a, q22b, q22c⟩ := h21
  have f23 : e_fr mL w w20 := e_fr.trans f14 (e_fr.mono q22 (fun c k q => su_51_19 q))
  have l24 : w20 286 a = w 286 a := f23 286 a no_51_0
  have l25 : w20 286 b = w 286 b := f23 286 b no_51_0
  have l26 : w20 276 (36 * a + 17) = w 276 (36 * a + 17) := f23 276 (36 * a + 17) no_51_1
  have l27 : w20 276 (36 * b + 17) = w 276 (36 * b + 17) := f23 276 (36 * b + 17) no_51_1
  show e_Ok 20 elay ecode eI (d + 1) 313 (31, [(8, (0, w2 275 60)), (0, (1, 275)), (1, (0, a)), (2, (0, i)), (3, (0, u)), (4, (0, b)), (5, (0, k)), (6, (0, t)), (7, (0, m))], [], w20) _
  refine e_Ok.run (t' := (33, [(8, (0, w2 275 60)), (0, (1, 275)), (1, (0, a)), (2, (0, i)), (3, (0, u)), (4, (0, b)), (5, (0, k)), (6, (0, t)), (7, (0, m))], [(1, 275), (1, 275)], w20)) 2 rfl ?_
  refine e_Ok.getr (z := 325) rfl (el_o rfl) rfl rfl ((f23 275 62 no_51_4).trans (e_Has.eq hT rfl)) ⟨by decide, by decide⟩ ?_
  refine e_Ok.callV rfl (by first | exact e_dq hd rfl | omega) rfl rfl rfl rfl (c_312_325 (by first | exact e_dq hd rfl | omega) (mT_L f23 hT) q22a rfl (by omega) (e_kn_sub (e_kn.fr f23 (fun k q => by unfold mL at q; omega) k3) (by omega) (by omega)) (e_kn_sub (e_kn.fr f23 (fun k q => by unfold mL at q; omega) k4) (by omega) (by omega)) (e_kn_sub (e_kn.fr f23 (fun k q => by unfold mL at q; omega) k3) (by omega) (by omega)) (e_kn_sub (e_kn.fr f23 (fun k q => by unfold mL at q; omega) k4) (by omega) (by omega))) (fun r28 w29 h30 => ?_)
  obtain ⟨rfl, q31, q31k⟩ := h30
  have f32 : e_fr mL w w29 := e_fr.trans f23 (e_fr.mono q31 (fun c k q => su_51_21 q))
  have l33 : w29 286 a = w 286 a := f32 286 a no_51_0
  have l34 : w29 286 b = w 286 b := f32 286 b no_51_0
  have l35 : w29 276 (36 * a + 17) = w 276 (36 * a + 17) := f32 276 (36 * a + 17) no_51_1
  have l36 : w29 276 (36 * b + 17) = w 276 (36 * b + 17) := f32 276 (36 * b + 17) no_51_1
  show e_Ok 20 elay ecode eI (d + 1) 313 (39, [(8, (0, w2 275 60)), (0, (1, 275)), (1, (0, a)), (2, (0, i)), (3, (0, u)), (4, (0, b)), (5, (0, k)), (6, (0, t)), (7, (0, m))], [], w29) _
  refine e_Ok.run (t' := (40, [(8, (0, w2 275 60)), (0, (1, 275)), (1, (0, a)), (2, (0, i)), (3, (0, u)), (4, (0, b)), (5, (0, k)), (6, (0, t)), (7, (0, m))], [(1, 275)], w29)) 1 rfl ?_
  refine e_Ok.getr (z := 324) rfl (el_o rfl) rfl rfl ((f32 275 61 no_51_2).trans (e_Has.eq hT rfl)) ⟨by decide, by decide⟩ ?_
  refine e_Ok.run (t' := (44, [(8, (0, w2 275 60)), (0, (1, 275)), (1, (0, a)), (2, (0, i)), (3, (0, u)), (4, (0, b)), (5, (0, k)), (6, (0, t)), (7, (0, m))], [(1, 275), (1, 324)], w29)) 1 rfl ?_
  refine e_Ok.getr (z := 325) rfl (el_o rfl) rfl rfl ((f32 275 62 no_51_4).trans (e_Has.eq hT rfl)) ⟨by decide, by decide⟩ ?_
  refine e_Ok.run (t' := (50, [(8, (0, w2 275 60)), (0, (1, 275)), (1, (0, a)), (2, (0, i)), (3, (0, u)), (4, (0, b)), (5, (0, k)), (6, (0, t)), (7, (0, m))], [(1, 275), (0, w2 275 60), (1, 325), (1, 324)], w29)) 2 rfl ?_
  refine e_Ok.getf (z := w20 275 60) rfl (el_o rfl) rfl rfl ((q31 275 60 no_51_5).trans rfl) (by omega) ?_
  refine e_Ok.add (z := w2 275 60 + w20 275 60) rfl (by first | with_reducible rfl | exact Int.add_comm _ _ | omega) (by omega) ?_
  refine e_Ok.run (t' := (56, [(8, (0, w2 275 60)), (0, (1, 275)), (1, (0, a)), (2, (0, i)), (3, (0, u)), (4, (0, b)), (5, (0, k)), (6, (0, t)), (7, (0, m))], [(0, m), (0, w2 275 60 + w20 275 60), (1, 325), (1, 324)], w29)) 1 rfl ?_
  refine e_Ok.any rfl (eF_add_any _ _) (fun z37 z37a z37b => ?_)
  refine e_Ok.run (t' := (58, [(8, (0, w2 275 60)), (0, (1, 275)), (1, (0, a)), (2, (0, i)), (3, (0, u)), (4, (0, b)), (5, (0, k)), (6, (0, t)), (7, (0, m))], [(4, z37), (1, 325), (1, 324)], w29)) 1 rfl ?_
  refine e_Ok.callS rfl (by first | exact e_dq hd rfl | omega) rfl rfl (c_310 (by first | exact e_dq hd rfl | omega) (e_kn.fr q31 (fun k q => by unfold m2 at q; omega) (e_kn.fr q22 (fun k q => by unfold mB at q; omega) q13k)) q31k) (fun r38 w39 h40 => ?_)
  obtain ⟨z41, rfl, rfl, q42a, q42b⟩ := h40
  show e_Ok 20 elay ecode eI (d + 1) 313 (61, [(8, (0, w2 275 60)), (0, (1, 275)), (1, (0, a)), (2, (0, i)), (3, (0, u)), (4, (0, b)), (5, (0, k)), (6, (0, t)), (7, (0, m))], [(0, z41)], w29) _
  refine e_Ok.retb rfl (by omega) ?_
  exact ⟨_, rfl, f32, by omega, by omega⟩
theorem no_51_6 : ¬ mL 275 24 := by unfold mL; omega
theorem no_51_7 {k : Int} : ¬ mL 294 k := by unfold mL; omega
theorem no_51_8 : ¬ mL 275 25 := by unfold mL; omega
theorem no_51_9 {k : Int} : ¬ mL 295 k := by unfold mL; omega
theorem no_51_10 : ¬ mL 275 26 := by unfold mL; omega
theorem no_51_11 {k : Int} : ¬ mL 296 k := by unfold mL; omega
theorem no_51_12 : ¬ mL 275 27 := by unfold mL; omega
theorem no_51_13 {k : Int} : ¬ mL 297 k := by unfold mL; omega
theorem no_51_14 : ¬ mL 275 28 := by unfold mL; omega
theorem no_51_15 {k : Int} : ¬ mL 298 k := by unfold mL; omega
theorem c_314 {d : Nat} (hd : 23 ≤ d) {w : eW} (hT : e_Has mTy w) {a i u s m : Int} (ha : 0 ≤ a ∧ a ≤ 3) (hi : 0 ≤ i ∧ (i < w 286 a ∨ (i = w 286 a ∧ 0 ≤ w 276 (36 * a + 17)))) (hu : 0 ≤ u ∧ u ≤ 28) (hs : 0 ≤ s ∧ s ≤ 15) (k1 : e_kn w 321 u (u + w 286 a)) (k2 : e_kn w 322 u (u + w 286 a)) : e_Ok 20 elay ecode eI d 314 (0, [(0, (1, 275)), (1, (0, a)), (2, (0, i)), (3, (0, u)), (4, (0, s)), (5, (0, m))], [], w) (fun r w' => ∃ z : Int, r = [(0, z)] ∧ e_fr mL w w' ∧ 0 ≤ z ∧ z ≤ 1) := by
  obtain ⟨d, rfl⟩ : ∃ e, d = e + 1 := ⟨d - 1, by omega⟩
  have hja := (e_Has.get hT (c := 286) (k := a) (lo := 0) (hi := 6) rfl (by decide))
  refine e_Ok.run (t' := (4, [(0, (1, 275)), (1, (0, a)), (2, (0, i)), (3, (0, u)), (4, (0, s)), (5, (0, m))], [(0, u), (0, i), (0, a), (1, 275)], w)) 4 rfl ?_
  refine e_Ok.callV rfl (by first | exact e_dq hd rfl | omega) rfl rfl rfl rfl (c_305 (by first | exact e_dq hd rfl | omega) hT (by omega) (by omega) (by omega)) (fun r1 w2 h3 => ?_)
  obtain ⟨rfl, q4, q4a, q4b, q4c⟩ := h3
  have f5 : e_fr mL w w2 := e_fr.trans (e_fr.refl w) (e_fr.mono q4 (fun c k q => su_51_19 q))
  have l6 : w2 286 a = w 286 a := f5 286 a no_51_0
  have l7 : w2 276 (36 * a + 17) = w 276 (36 * a + 17) := f5 276 (36 * a + 17) no_51_1
  show e_Ok 20 elay ecode eI (d + 1) 314 (7, [(0, (1, 275)), (1, (0, a)), (2, (0, i)), (3, (0, u)), (4, (0, s)), (5, (0, m))], [], w2) _
  refine e_Ok.run (t' := (9, [(0, (1, 275)), (1, (0, a)), (2, (0, i)), (3, (0, u)), (4, (0, s)), (5, (0, m))], [(1, 275), (1, 275)], w2)) 2 rfl ?_
  refine e_Ok.getr (z := 324) rfl (el_o rfl) rfl rfl ((f5 275 61 no_51_2).trans (e_Has.eq hT rfl)) ⟨by decide, by decide⟩ ?_
  refine e_Ok.callV rfl (by first | exact e_dq hd rfl | omega) rfl rfl rfl rfl (c_312_324 (by first | exact e_dq hd rfl | omega) (mT_L f5 hT) q4a rfl (by omega) (e_kn_sub (e_kn.fr f5 (fun k q => by unfold mL at q; omega) k1) (by omega) (by omega)) (e_kn_sub (e_kn.fr f5 (fun k q => by unfold mL at q; omega) k2) (by omega) (by omega)) (e_kn_sub (e_kn.fr f5 (fun k q => by unfold mL at q; omega) k1) (by omega) (by omega)) (e_kn_sub (e_kn.fr f5 (fun k q => by unfold mL at q; omega) k2) (by omega) (by omega))) (fun r8 w9 h10 => ?_)
  obtain ⟨rfl, q11, q11k⟩ := h10
  have f12 : e_fr mL w w9 := e_fr.trans f5 (e_fr.mono q11 (fun c k q => su_51_20 q))
  have l13 : w9 286 a = w 286 a := f12 286 a no_51_0
  have l14 : w9 276 (36 * a + 17) = w 276 (36 * a + 17) := f12 276 (36 * a + 17) no_51_1
  show e_Ok 20 elay ecode eI (d + 1) 314 (15, [(0, (1, 275)), (1, (0, a)), (2, (0, i)), (3, (0, u)), (4, (0, s)), (5, (0, m))], [], w9) _
  refine e_Ok.run (t' := (16, [(0, (1, 275)), (1, (0, a)), (2, (0, i)), (3, (0, u)), (4, (0, s)), (5, (0, m))], [(1, 275)], w9)) 1 rfl ?_
  refine e_Ok.getf (z := w2 275 60) rfl (el_o rfl) rfl rfl ((q11 275 60 no_51_3).trans rfl) (by omega) ?_
  refine e_Ok.run (t' := (21, [(0, (1, 275)), (1, (0, a)), (2, (0, i)), (3, (0, u)), (4, (0, s)), (5, (0, m))], [(0, m), (0, w2 275 60)], w9)) 1 rfl ?_
  refine e_Ok.any rfl (eF_add_any _ _) (fun z15 z15a z15b => ?_)
  refine e_Ok.run (t' := (26, [(6, (4, z15)), (0, (1, 275)), (1, (0, a)), (2, (0, i)), (3, (0, u)), (4, (0, s)), (5, (0, m))], [(1, 275)], w9)) 3 rfl ?_
  refine e_Ok.getr (z := 294) rfl (el_o rfl) rfl rfl ((f12 275 24 no_51_6).trans (e_Has.eq hT rfl)) ⟨by decide, by decide⟩ ?_
  refine e_Ok.run (t' := (31, [(6, (4, z15)), (0, (1, 275)), (1, (0, a)), (2, (0, i)), (3, (0, u)), (4, (0, s)), (5, (0, m))], [(0, s), (1, 294)], w9)) 1 rfl ?_
  have h16 := (e_Has.get hT (c := 294) (k := s) (lo := 0) (hi := 1) rfl (by decide))
  refine e_Ok.ald (z := w 294 s) rfl (el_o rfl) rfl (by omega) ((f12 294 s no_51_7).trans rfl) (by first | exact e_bq h16 (by decide) (by decide) | omega) ?_
  refine e_Ok.if1 rfl (fun h17 => ?_) (fun h17 => ?_)
  · replace h17 : (w 294 s : Int) ≠ 0 := h17
    refine e_Ok.run (t' := (209, [(6, (4, z15)), (0, (1, 275)), (1, (0, a)), (2, (0, i)), (3, (0, u)), (4, (0, s)), (5, (0, m))], [(1, 275)], w9)) 1 rfl ?_
    refine e_Ok.getr (z := 295) rfl (el_o rfl) rfl rfl ((f12 275 25 no_51_8).trans (e_Has.eq hT rfl)) ⟨by decide, by decide⟩ ?_
    refine e_Ok.run (t' := (214, [(6, (4, z15)), (0, (1, 275)), (1, (0, a)), (2, (0, i)), (3, (0, u)), (4, (0, s)), (5, (0, m))], [(0, s), (1, 295)], w9)) 1 rfl ?_
    have h18 := (e_Has.get hT (c := 295) (k := s) (lo := (-16000)) (hi := 16000) rfl (by decide))
    refine e_Ok.ald (z := w 295 s) rfl (el_o rfl) rfl (by omega) ((f12 295 s no_51_9).trans rfl) (by first | exact e_bq h18 (by decide) (by decide) | omega) ?_
    refine e_Ok.run (t' := (218, [(8, (0, w 295 s)), (6, (4, z15)), (0, (1, 275)), (1, (0, a)), (2, (0, i)), (3, (0, u)), (4, (0, s)), (5, (0, m))], [(1, 275)], w9)) 2 rfl ?_
    refine e_Ok.getr (z := 296) rfl (el_o rfl) rfl rfl ((f12 275 26 no_51_10).trans (e_Has.eq hT rfl)) ⟨by decide, by decide⟩ ?_
    refine e_Ok.run (t' := (223, [(8, (0, w 295 s)), (6, (4, z15)), (0, (1, 275)), (1, (0, a)), (2, (0, i)), (3, (0, u)), (4, (0, s)), (5, (0, m))], [(0, s), (1, 296)], w9)) 1 rfl ?_
    have h19 := (e_Has.get hT (c := 296) (k := s) (lo := (-16000)) (hi := 16000) rfl (by decide))
    refine e_Ok.ald (z := w 296 s) rfl (el_o rfl) rfl (by omega) ((f12 296 s no_51_11).trans rfl) (by first | exact e_bq h19 (by decide) (by decide) | omega) ?_
    refine e_Ok.run (t' := (229, [(9, (0, w 296 s)), (8, (0, w 295 s)), (6, (4, z15)), (0, (1, 275)), (1, (0, a)), (2, (0, i)), (3, (0, u)), (4, (0, s)), (5, (0, m))], [(1, 275), (0, w 295 s)], w9)) 3 rfl ?_
    refine e_Ok.getr (z := 297) rfl (el_o rfl) rfl rfl ((f12 275 27 no_51_12).trans (e_Has.eq hT rfl)) ⟨by decide, by decide⟩ ?_
    refine e_Ok.run (t' := (234, [(9, (0, w 296 s)), (8, (0, w 295 s)), (6, (4, z15)), (0, (1, 275)), (1, (0, a)), (2, (0, i)), (3, (0, u)), (4, (0, s)), (5, (0, m))], [(0, s), (1, 297), (0, w 295 s)], w9)) 1 rfl ?_
    have h20 := (e_Has.get hT (c := 297) (k := s) (lo := (-2147483648)) (hi := 2147483647) rfl (by decide))
    refine e_Ok.ald (z := w 297 s) rfl (el_o rfl) rfl (by omega) ((f12 297 s no_51_13).trans rfl) (by first | exact e_bq h20 (by decide) (by decide) | omega) ?_
    refine e_Ok.any rfl (eF_add_any _ _) (fun z21 z21a z21b => ?_)
    refine e_Ok.run (t' := (241, [(10, (0, z21)), (9, (0, w 296 s)), (8, (0, w 295 s)), (6, (4, z15)), (0, (1, 275)), (1, (0, a)), (2, (0, i)), (3, (0, u)), (4, (0, s)), (5, (0, m))], [(1, 275), (0, w 296 s)], w9)) 3 rfl ?_
    refine e_Ok.getr (z := 298) rfl (el_o rfl) rfl rfl ((f12 275 28 no_51_14).trans (e_Has.eq hT rfl)) ⟨by decide, by decide⟩ ?_
    refine e_Ok.run (t' := (246, [(10, (0, z21)), (9, (0, w 296 s)), (8, (0, w 295 s)), (6, (4, z15)), (0, (1, 275)), (1, (0, a)), (2, (0, i)), (3, (0, u)), (4, (0, s)), (5, (0, m))], [(0, s), (1, 298), (0, w 296 s)], w9)) 1 rfl ?_
    have h22 := (e_Has.get hT (c := 298) (k := s) (lo := (-2147483648)) (hi := 2147483647) rfl (by decide))
    refine e_Ok.ald (z := w 298 s) rfl (el_o rfl) rfl (by omega) ((f12 298 s no_51_15).trans rfl) (by first | exact e_bq h22 (by decide) (by decide) | omega) ?_
    refine e_Ok.any rfl (eF_add_any _ _) (fun z23 z23a z23b => ?_)
    refine e_Ok.run (t' := (251, [(11, (0, z23)), (10, (0, z21)), (9, (0, w 296 s)), (8, (0, w 295 s)), (6, (4, z15)), (0, (1, 275)), (1, (0, a)), (2, (0, i)), (3, (0, u)), (4, (0, s)), (5, (0, m))], [(1, 275)], w9)) 2 rfl ?_
    refine e_Ok.getr (z := 324) rfl (el_o rfl) rfl rfl ((f12 275 61 no_51_2).trans (e_Has.eq hT rfl)) ⟨by decide, by decide⟩ ?_
    refine e_Ok.run (t' := (255, [(11, (0, z23)), (10, (0, z21)), (9, (0, w 296 s)), (8, (0, w 295 s)), (6, (4, z15)), (0, (1, 275)), (1, (0, a)), (2, (0, i)), (3, (0, u)), (4, (0, s)), (5, (0, m))], [(0, 0), (1, 324)], w9)) 1 rfl ?_
    have h24 := (q11k 0 (by omega) (by omega))
    refine e_Ok.ald (z := w9 324 0) rfl (el_o rfl) rfl (by omega) rfl (by omega) ?_
    refine e_Ok.run (t' := (263, [(11, (0, z23)), (10, (0, z21)), (9, (0, w 296 s)), (8, (0, w 295 s)), (6, (4, z15)), (0, (1, 275)), (1, (0, a)), (2, (0, i)), (3, (0, u)), (4, (0, s)), (5, (0, m))], [(4, z21), (4, w 295 s), (4, w9 324 0)], w9)) 5 rfl ?_
    refine e_Ok.callS rfl (by first | exact e_dq hd rfl | omega) rfl rfl (c_266) (fun r25 w26 h27 => ?_)
    obtain ⟨z28, rfl, rfl, q29⟩ := h27
    obtain ⟨rfl, q29⟩ | ⟨rfl, q29⟩ := q29
    · show e_Ok 20 elay ecode eI (d + 1) 314 (266, [(11, (0, z23)), (10, (0, z21)), (9, (0, w 296 s)), (8, (0, w 295 s)), (6, (4, z15)), (0, (1, 275)), (1, (0, a)), (2, (0, i)), (3, (0, u)), (4, (0, s)), (5, (0, m))], [(0, 1)], w9) _
      refine e_Ok.if1 rfl (fun h30 => ?_) (fun h30 => ?_)
      · replace h30 : (1 : Int) = 0 := h30
        exfalso; omega
      · replace h30 : (1 : Int) ≠ 0 := (show ¬ ((1 : Int) = 0) from h30)
        refine e_Ok.run (t' := (270, [(11, (0, z23)), (10, (0, z21)), (9, (0, w 296 s)), (8, (0, w 295 s)), (6, (4, z15)), (0, (1, 275)), (1, (0, a)), (2, (0, i)), (3, (0, u)), (4, (0, s)), (5, (0, m))], [(1, 275)], w9)) 1 rfl ?_
        refine e_Ok.getr (z := 324) rfl (el_o rfl) rfl rfl ((f12 275 61 no_51_2).trans (e_Has.eq hT rfl)) ⟨by decide, by decide⟩ ?_
        refine e_Ok.run (t' := (274, [(11, (0, z23)), (10, (0, z21)), (9, (0, w 296 s)), (8, (0, w 295 s)), (6, (4, z15)), (0, (1, 275)), (1, (0, a)), (2, (0, i)), (3, (0, u)), (4, (0, s)), (5, (0, m))], [(0, 1), (1, 324)], w9)) 1 rfl ?_
        have h31 := (q11k 1 (by omega) (by omega))
        refine e_Ok.ald (z := w9 324 1) rfl (el_o rfl) rfl (by omega) rfl (by omega) ?_
        refine e_Ok.run (t' := (282, [(11, (0, z23)), (10, (0, z21)), (9, (0, w 296 s)), (8, (0, w 295 s)), (6, (4, z15)), (0, (1, 275)), (1, (0, a)), (2, (0, i)), (3, (0, u)), (4, (0, s)), (5, (0, m))], [(4, z23), (4, w 296 s), (4, w9 324 1)], w9)) 5 rfl ?_
        refine e_Ok.callS rfl (by first | exact e_dq hd rfl | omega) rfl rfl (c_266) (fun r32 w33 h34 => ?_)
        obtain ⟨z35, rfl, rfl, q36⟩ := h34
        obtain ⟨rfl, q36⟩ | ⟨rfl, q36⟩ := q36
        · show e_Ok 20 elay ecode eI (d + 1) 314 (285, [(11, (0, z23)), (10, (0, z21)), (9, (0, w 296 s)), (8, (0, w 295 s)), (6, (4, z15)), (0, (1, 275)), (1, (0, a)), (2, (0, i)), (3, (0, u)), (4, (0, s)), (5, (0, m))], [(0, 1)], w9) _
          refine e_Ok.if1 rfl (fun h37 => ?_) (fun h37 => ?_)
          · replace h37 : (1 : Int) = 0 := h37
            exfalso; omega
          · replace h37 : (1 : Int) ≠ 0 := (show ¬ ((1 : Int) = 0) from h37)
            refine e_Ok.run (t' := (289, [(11, (0, z23)), (10, (0, z21)), (9, (0, w 296 s)), (8, (0, w 295 s)), (6, (4, z15)), (0, (1, 275)), (1, (0, a)), (2, (0, i)), (3, (0, u)), (4, (0, s)), (5, (0, m))], [(0, 1)], w9)) 1 rfl ?_
            refine e_Ok.rets rfl rfl ?_
            exact ⟨_, rfl, f12, by omega, by omega⟩
        · show e_Ok 20 elay ecode eI (d + 1) 314 (285, [(11, (0, z23)), (10, (0, z21)), (9, (0, w 296 s)), (8, (0, w 295 s)), (6, (4, z15)), (0, (1, 275)), (1, (0, a)), (2, (0, i)), (3, (0, u)), (4, (0, s)), (5, (0, m))], [(0, 0)], w9) _
          refine e_Ok.if1 rfl (fun h38 => ?_) (fun h38 => ?_)
          · replace h38 : (0 : Int) = 0 := h38
            refine e_Ok.run (t' := (296, [(13, (0, 0)), (12, (0, 0)), (11, (0, z23)), (10, (0, z21)), (9, (0, w 296 s)), (8, (0, w 295 s)), (6, (4, z15)), (0, (1, 275)), (1, (0, a)), (2, (0, i)), (3, (0, u)), (4, (0, s)), (5, (0, m))], [], w9)) 4 rfl ?_
            have hL39 : ∀ (n : Nat) (y1 : Int) (y2 : Int) (v1 : eW), e_fr mL w v1 ∧ e_kn v1 324 0 3 ∧ 0 ≤ y1 ∧ y1 ≤ 1 ∧ 0 ≤ y2 ∧ y2 ≤ 4 → 4 - y2 < n → e_Ok 20 elay ecode eI (d + 1) 314 (296, [(0, (1, 275)), (6, (4, z15)), (8, (0, w 295 s)), (9, (0, w 296 s)), (10, (0, z21)), (11, (0, z23)), (12, (0, y1)), (13, (0, y2))], [], v1) (fun r w' => ∃ z : Int, r = [(0, z)] ∧ e_fr mL w w' ∧ 0 ≤ z ∧ z ≤ 1) := by
              intro n
              induction n with
              | zero => intro y1 y2 v1 hj hm; obtain ⟨j41, j42, j43, j44⟩ := hj; exfalso; omega
              | succ n ih40 =>
                intro y1 y2 v1 hj hm
                obtain ⟨j41, j42, j43, j44⟩ := hj
                have l45 : v1 286 a = w 286 a := j41 286 a no_51_0
                have l46 : v1 276 (36 * a + 17) = w 276 (36 * a + 17) := j41 276 (36 * a + 17) no_51_1
                refine e_Ok.run (t' := (299, [(0, (1, 275)), (6, (4, z15)), (8, (0, w 295 s)), (9, (0, w 296 s)), (10, (0, z21)), (11, (0, z23)), (12, (0, y1)), (13, (0, y2))], [(0, 4), (0, y2)], v1)) 2 rfl ?_
                refine e_Ok.if2 rfl (fun h47 => ?_) (fun h47 => ?_)
                · replace h47 : (y2 : Int) ≥ 4 := h47
                  refine e_Ok.run (t' := (389, [(0, (1, 275)), (6, (4, z15)), (8, (0, w 295 s)), (9, (0, w 296 s)), (10, (0, z21)), (11, (0, z23)), (12, (0, y1)), (13, (0, y2))], [(0, y1)], v1)) 1 rfl ?_
                  refine e_Ok.retb rfl (by omega) ?_
                  exact ⟨_, rfl, j41, by omega, by omega⟩
                · replace h47 : (y2 : Int) < 4 := Int.not_le.mp (show ¬ ((y2 : Int) ≥ 4) from h47)
                  refine e_Ok.run (t' := (304, [(0, (1, 275)), (6, (4, z15)), (8, (0, w 295 s)), (9, (0, w 296 s)), (10, (0, z21)), (11, (0, z23)), (12, (0, y1)), (13, (0, y2))], [(0, y1)], v1)) 1 rfl ?_
                  refine e_Ok.if1 rfl (fun h48 => ?_) (fun h48 => ?_)
                  · replace h48 : (y1 : Int) ≠ 0 := h48
                    refine e_Ok.run (t' := (389, [(0, (1, 275)), (6, (4, z15)), (8, (0, w 295 s)), (9, (0, w 296 s)), (10, (0, z21)), (11, (0, z23)), (12, (0, y1)), (13, (0, y2))], [(0, y1)], v1)) 1 rfl ?_
                    refine e_Ok.retb rfl (by omega) ?_
                    exact ⟨_, rfl, j41, by omega, by omega⟩
                  · replace h48 : (y1 : Int) = 0 := Classical.not_not.mp (show ¬ ((y1 : Int) ≠ 0) from h48)
                    refine e_Ok.run (t' := (309, [(0, (1, 275)), (6, (4, z15)), (8, (0, w 295 s)), (9, (0, w 296 s)), (10, (0, z21)), (11, (0, z23)), (12, (0, y1)), (13, (0, y2))], [(1, 275), (1, 275)], v1)) 2 rfl ?_
                    refine e_Ok.getr (z := 325) rfl (el_o rfl) rfl rfl ((j41 275 62 no_51_4).trans (e_Has.eq hT rfl)) ⟨by decide, by decide⟩ ?_
                    refine e_Ok.run (t' := (315, [(0, (1, 275)), (6, (4, z15)), (8, (0, w 295 s)), (9, (0, w 296 s)), (10, (0, z21)), (11, (0, z23)), (12, (0, y1)), (13, (0, y2))], [(0, 3), (0, y2), (1, 325), (1, 275)], v1)) 2 rfl ?_
                    have hJ51 : ∀ m50 : Int, (-16000) ≤ m50 ∧ m50 ≤ 2147483647 → e_Ok 20 elay ecode eI (d + 1) 314 (325, [(0, (1, 275)), (6, (4, z15)), (8, (0, w 295 s)), (9, (0, w 296 s)), (10, (0, z21)), (11, (0, z23)), (12, (0, y1)), (13, (0, y2))], [(0, m50), (1, 325), (1, 275)], v1) (fun r w' => ∃ z : Int, r = [(0, z)] ∧ e_fr mL w w' ∧ 0 ≤ z ∧ z ≤ 1) := by
                      intro m50 m50r
                      refine e_Ok.run (t' := (328, [(0, (1, 275)), (6, (4, z15)), (8, (0, w 295 s)), (9, (0, w 296 s)), (10, (0, z21)), (11, (0, z23)), (12, (0, y1)), (13, (0, y2))], [(0, 1), (0, y2), (0, m50), (1, 325), (1, 275)], v1)) 2 rfl ?_
                      have hJ54 : ∀ m53 : Int, (-2147483648) ≤ m53 ∧ m53 ≤ 2147483647 → e_Ok 20 elay ecode eI (d + 1) 314 (338, [(0, (1, 275)), (6, (4, z15)), (8, (0, w 295 s)), (9, (0, w 296 s)), (10, (0, z21)), (11, (0, z23)), (12, (0, y1)), (13, (0, y2))], [(0, m53), (0, m50), (1, 325), (1, 275)], v1) (fun r w' => ∃ z : Int, r = [(0, z)] ∧ e_fr mL w w' ∧ 0 ≤ z ∧ z ≤ 1) := by
                        intro m53 m53r
                        refine e_Ok.run (t' := (341, [(0, (1, 275)), (6, (4, z15)), (8, (0, w 295 s)), (9, (0, w 296 s)), (10, (0, z21)), (11, (0, z23)), (12, (0, y1)), (13, (0, y2))], [(0, 2), (0, y2), (0, m53), (0, m50), (1, 325), (1, 275)], v1)) 2 rfl ?_
                        have hJ57 : ∀ m56 : Int, (-16000) ≤ m56 ∧ m56 ≤ 2147483647 → e_Ok 20 elay ecode eI (d + 1) 314 (351, [(0, (1, 275)), (6, (4, z15)), (8, (0, w 295 s)), (9, (0, w 296 s)), (10, (0, z21)), (11, (0, z23)), (12, (0, y1)), (13, (0, y2))], [(0, m56), (0, m53), (0, m50), (1, 325), (1, 275)], v1) (fun r w' => ∃ z : Int, r = [(0, z)] ∧ e_fr mL w w' ∧ 0 ≤ z ∧ z ≤ 1) := by
                          intro m56 m56r
                          refine e_Ok.run (t' := (353, [(0, (1, 275)), (6, (4, z15)), (8, (0, w 295 s)), (9, (0, w 296 s)), (10, (0, z21)), (11, (0, z23)), (12, (0, y1)), (13, (0, y2))], [(0, y2), (0, m56), (0, m53), (0, m50), (1, 325), (1, 275)], v1)) 1 rfl ?_
                          have hJ60 : ∀ m59 : Int, (-2147483648) ≤ m59 ∧ m59 ≤ 2147483647 → e_Ok 20 elay ecode eI (d + 1) 314 (363, [(0, (1, 275)), (6, (4, z15)), (8, (0, w 295 s)), (9, (0, w 296 s)), (10, (0, z21)), (11, (0, z23)), (12, (0, y1)), (13, (0, y2))], [(0, m59), (0, m56), (0, m53), (0, m50), (1, 325), (1, 275)], v1) (fun r w' => ∃ z : Int, r = [(0, z)] ∧ e_fr mL w w' ∧ 0 ≤ z ∧ z ≤ 1) := by
                            intro m59 m59r
                            refine e_Ok.callV rfl (by first | exact e_dq hd rfl | omega) rfl rfl rfl rfl (c_311_325 (by omega) (by omega) (by omega) (by omega)) (fun r61 w62 h63 => ?_)
                            obtain ⟨rfl, q64, q64k⟩ := h63
                            have f65 : e_fr mL w w62 := e_fr.trans j41 (e_fr.mono q64 (fun c k q => su_51_21 q))
                            have l66 : w62 286 a = w 286 a := f65 286 a no_51_0
                            have l67 : w62 276 (36 * a + 17) = w 276 (36 * a + 17) := f65 276 (36 * a + 17) no_51_1
                            show e_Ok 20 elay ecode eI (d + 1) 314 (366, [(0, (1, 275)), (6, (4, z15)), (8, (0, w 295 s)), (9, (0, w 296 s)), (10, (0, z21)), (11, (0, z23)), (12, (0, y1)), (13, (0, y2))], [], w62) _
                            refine e_Ok.run (t' := (367, [(0, (1, 275)), (6, (4, z15)), (8, (0, w 295 s)), (9, (0, w 296 s)), (10, (0, z21)), (11, (0, z23)), (12, (0, y1)), (13, (0, y2))], [(1, 275)], w62)) 1 rfl ?_
                            refine e_Ok.getr (z := 324) rfl (el_o rfl) rfl rfl ((f65 275 61 no_51_2).trans (e_Has.eq hT rfl)) ⟨by decide, by decide⟩ ?_
                            refine e_Ok.run (t' := (371, [(0, (1, 275)), (6, (4, z15)), (8, (0, w 295 s)), (9, (0, w 296 s)), (10, (0, z21)), (11, (0, z23)), (12, (0, y1)), (13, (0, y2))], [(1, 275), (1, 324)], w62)) 1 rfl ?_
                            refine e_Ok.getr (z := 325) rfl (el_o rfl) rfl rfl ((f65 275 62 no_51_4).trans (e_Has.eq hT rfl)) ⟨by decide, by decide⟩ ?_
                            refine e_Ok.run (t' := (376, [(0, (1, 275)), (6, (4, z15)), (8, (0, w 295 s)), (9, (0, w 296 s)), (10, (0, z21)), (11, (0, z23)), (12, (0, y1)), (13, (0, y2))], [(4, z15), (1, 325), (1, 324)], w62)) 1 rfl ?_
                            refine e_Ok.callS rfl (by first | exact e_dq hd rfl | omega) rfl rfl (c_310 (by first | exact e_dq hd rfl | omega) (e_kn.fr q64 (fun k q => by unfold m2 at q; omega) j42) q64k) (fun r68 w69 h70 => ?_)
                            obtain ⟨z71, rfl, rfl, q72a, q72b⟩ := h70
                            show e_Ok 20 elay ecode eI (d + 1) 314 (379, [(0, (1, 275)), (6, (4, z15)), (8, (0, w 295 s)), (9, (0, w 296 s)), (10, (0, z21)), (11, (0, z23)), (12, (0, y1)), (13, (0, y2))], [(0, z71)], w62) _
                            refine e_Ok.run (t' := (381, [(12, (0, z71)), (0, (1, 275)), (6, (4, z15)), (8, (0, w 295 s)), (9, (0, w 296 s)), (10, (0, z21)), (11, (0, z23)), (13, (0, y2))], [], w62)) 1 rfl ?_
                            refine e_Ok.inc (z := y2 + 1) rfl rfl (by first | with_reducible rfl | omega) (by omega) ?_
                            show e_Ok 20 elay ecode eI (d + 1) 314 (384, [(13, (0, y2 + 1)), (12, (0, z71)), (0, (1, 275)), (6, (4, z15)), (8, (0, w 295 s)), (9, (0, w 296 s)), (10, (0, z21)), (11, (0, z23))], [], w62) _
                            refine e_Ok.run (t' := (296, [(13, (0, y2 + 1)), (12, (0, z71)), (0, (1, 275)), (6, (4, z15)), (8, (0, w 295 s)), (9, (0, w 296 s)), (10, (0, z21)), (11, (0, z23))], [], w62)) 1 rfl ?_
                            refine e_Ok.sub eAlk (e_sub_of rfl ?_) (ih40 z71 (y2 + 1) w62 ⟨f65, (e_kn.fr q64 (fun k q => by unfold m2 at q; omega) j42), by omega, by omega⟩ (by omega))
                            exact ⟨rfl, rfl, rfl, rfl, rfl, rfl, rfl, rfl, trivial⟩
                          refine e_Ok.if1 rfl (fun h58 => ?_) (fun h58 => ?_)
                          · exact e_Ok.run 1 rfl (hJ60 z23 (by omega))
                          · exact e_Ok.run 2 rfl (hJ60 (w 296 s) (by omega))
                        refine e_Ok.if2 rfl (fun h55 => ?_) (fun h55 => ?_)
                        · exact e_Ok.run 1 rfl (hJ57 z21 (by omega))
                        · exact e_Ok.run 2 rfl (hJ57 (w 295 s) (by omega))
                      refine e_Ok.if2 rfl (fun h52 => ?_) (fun h52 => ?_)
                      · exact e_Ok.run 1 rfl (hJ54 (w 296 s) (by omega))
                      · exact e_Ok.run 2 rfl (hJ54 z23 (by omega))
                    refine e_Ok.if2 rfl (fun h49 => ?_) (fun h49 => ?_)
                    · exact e_Ok.run 1 rfl (hJ51 (w 295 s) (by omega))
                    · exact e_Ok.run 2 rfl (hJ51 z21 (by omega))
            refine e_Ok.sub eAlk (e_sub_of rfl ?_) (hL39 (4 + 1 : Int).toNat 0 0 w9 ⟨f12, q11k, by omega, by omega⟩ (by omega))
            exact ⟨rfl, rfl, rfl, rfl, rfl, rfl, rfl, rfl, trivial⟩
          · replace h38 : (0 : Int) ≠ 0 := (show ¬ ((0 : Int) = 0) from h38)
            exfalso; omega
    · show e_Ok 20 elay ecode eI (d + 1) 314 (266, [(11, (0, z23)), (10, (0, z21)), (9, (0, w 296 s)), (8, (0, w 295 s)), (6, (4, z15)), (0, (1, 275)), (1, (0, a)), (2, (0, i)), (3, (0, u)), (4, (0, s)), (5, (0, m))], [(0, 0)], w9) _
      refine e_Ok.if1 rfl (fun h73 => ?_) (fun h73 => ?_)
      · replace h73 : (0 : Int) = 0 := h73
        refine e_Ok.run (t' := (296, [(13, (0, 0)), (12, (0, 0)), (11, (0, z23)), (10, (0, z21)), (9, (0, w 296 s)), (8, (0, w 295 s)), (6, (4, z15)), (0, (1, 275)), (1, (0, a)), (2, (0, i)), (3, (0, u)), (4, (0, s)), (5, (0, m))], [], w9)) 4 rfl ?_
        have hL74 : ∀ (n : Nat) (y1 : Int) (y2 : Int) (v1 : eW), e_fr mL w v1 ∧ e_kn v1 324 0 3 ∧ 0 ≤ y1 ∧ y1 ≤ 1 ∧ 0 ≤ y2 ∧ y2 ≤ 4 → 4 - y2 < n → e_Ok 20 elay ecode eI (d + 1) 314 (296, [(0, (1, 275)), (6, (4, z15)), (8, (0, w 295 s)), (9, (0, w 296 s)), (10, (0, z21)), (11, (0, z23)), (12, (0, y1)), (13, (0, y2))], [], v1) (fun r w' => ∃ z : Int, r = [(0, z)] ∧ e_fr mL w w' ∧ 0 ≤ z ∧ z ≤ 1) := by
          intro n
          induction n with
          | zero => intro y1 y2 v1 hj hm; obtain ⟨j76, j77, j78, j79⟩ := hj; exfalso; omega
          | succ n ih75 =>
            intro y1 y2 v1 hj hm
            obtain ⟨j76, j77, j78, j79⟩ := hj
            have l80 : v1 286 a = w 286 a := j76 286 a no_51_0
            have l81 : v1 276 (36 * a + 17) = w 276 (36 * a + 17) := j76 276 (36 * a + 17) no_51_1
            refine e_Ok.run (t' := (299, [(0, (1, 275)), (6, (4, z15)), (8, (0, w 295 s)), (9, (0, w 296 s)), (10, (0, z21)), (11, (0, z23)), (12, (0, y1)), (13, (0, y2))], [(0, 4), (0, y2)], v1)) 2 rfl ?_
            refine e_Ok.if2 rfl (fun h82 => ?_) (fun h82 => ?_)
            · replace h82 : (y2 : Int) ≥ 4 := h82
              refine e_Ok.run (t' := (389, [(0, (1, 275)), (6, (4, z15)), (8, (0, w 295 s)), (9, (0, w 296 s)), (10, (0, z21)), (11, (0, z23)), (12, (0, y1)), (13, (0, y2))], [(0, y1)], v1)) 1 rfl ?_
              refine e_Ok.retb rfl (by omega) ?_
              exact ⟨_, rfl, j76, by omega, by omega⟩
            · replace h82 : (y2 : Int) < 4 := Int.not_le.mp (show ¬ ((y2 : Int) ≥ 4) from h82)
              refine e_Ok.run (t' := (304, [(0, (1, 275)), (6, (4, z15)), (8, (0, w 295 s)), (9, (0, w 296 s)), (10, (0, z21)), (11, (0, z23)), (12, (0, y1)), (13, (0, y2))], [(0, y1)], v1)) 1 rfl ?_
              refine e_Ok.if1 rfl (fun h83 => ?_) (fun h83 => ?_)
              · replace h83 : (y1 : Int) ≠ 0 := h83
                refine e_Ok.run (t' := (389, [(0, (1, 275)), (6, (4, z15)), (8, (0, w 295 s)), (9, (0, w 296 s)), (10, (0, z21)), (11, (0, z23)), (12, (0, y1)), (13, (0, y2))], [(0, y1)], v1)) 1 rfl ?_
                refine e_Ok.retb rfl (by omega) ?_
                exact ⟨_, rfl, j76, by omega, by omega⟩
              · replace h83 : (y1 : Int) = 0 := Classical.not_not.mp (show ¬ ((y1 : Int) ≠ 0) from h83)
                refine e_Ok.run (t' := (309, [(0, (1, 275)), (6, (4, z15)), (8, (0, w 295 s)), (9, (0, w 296 s)), (10, (0, z21)), (11, (0, z23)), (12, (0, y1)), (13, (0, y2))], [(1, 275), (1, 275)], v1)) 2 rfl ?_
                refine e_Ok.getr (z := 325) rfl (el_o rfl) rfl rfl ((j76 275 62 no_51_4).trans (e_Has.eq hT rfl)) ⟨by decide, by decide⟩ ?_
                refine e_Ok.run (t' := (315, [(0, (1, 275)), (6, (4, z15)), (8, (0, w 295 s)), (9, (0, w 296 s)), (10, (0, z21)), (11, (0, z23)), (12, (0, y1)), (13, (0, y2))], [(0, 3), (0, y2), (1, 325), (1, 275)], v1)) 2 rfl ?_
                have hJ86 : ∀ m85 : Int, (-2147483648) ≤ m85 ∧ m85 ≤ 2147483647 → e_Ok 20 elay ecode eI (d + 1) 314 (325, [(0, (1, 275)), (6, (4, z15)), (8, (0, w 295 s)), (9, (0, w 296 s)), (10, (0, z21)), (11, (0, z23)), (12, (0, y1)), (13, (0, y2))], [(0, m85), (1, 325), (1, 275)], v1) (fun r w' => ∃ z : Int, r = [(0, z)] ∧ e_fr mL w w' ∧ 0 ≤ z ∧ z ≤ 1) := by
                  intro m85 m85r
                  refine e_Ok.run (t' := (328, [(0, (1, 275)), (6, (4, z15)), (8, (0, w 295 s)), (9, (0, w 296 s)), (10, (0, z21)), (11, (0, z23)), (12, (0, y1)), (13, (0, y2))], [(0, 1), (0, y2), (0, m85), (1, 325), (1, 275)], v1)) 2 rfl ?_
                  have hJ89 : ∀ m88 : Int, (-2147483648) ≤ m88 ∧ m88 ≤ 2147483647 → e_Ok 20 elay ecode eI (d + 1) 314 (338, [(0, (1, 275)), (6, (4, z15)), (8, (0, w 295 s)), (9, (0, w 296 s)), (10, (0, z21)), (11, (0, z23)), (12, (0, y1)), (13, (0, y2))], [(0, m88), (0, m85), (1, 325), (1, 275)], v1) (fun r w' => ∃ z : Int, r = [(0, z)] ∧ e_fr mL w w' ∧ 0 ≤ z ∧ z ≤ 1) := by
                    intro m88 m88r
                    refine e_Ok.run (t' := (341, [(0, (1, 275)), (6, (4, z15)), (8, (0, w 295 s)), (9, (0, w 296 s)), (10, (0, z21)), (11, (0, z23)), (12, (0, y1)), (13, (0, y2))], [(0, 2), (0, y2), (0, m88), (0, m85), (1, 325), (1, 275)], v1)) 2 rfl ?_
                    have hJ92 : ∀ m91 : Int, (-2147483648) ≤ m91 ∧ m91 ≤ 2147483647 → e_Ok 20 elay ecode eI (d + 1) 314 (351, [(0, (1, 275)), (6, (4, z15)), (8, (0, w 295 s)), (9, (0, w 296 s)), (10, (0, z21)), (11, (0, z23)), (12, (0, y1)), (13, (0, y2))], [(0, m91), (0, m88), (0, m85), (1, 325), (1, 275)], v1) (fun r w' => ∃ z : Int, r = [(0, z)] ∧ e_fr mL w w' ∧ 0 ≤ z ∧ z ≤ 1) := by
                      intro m91 m91r
                      refine e_Ok.run (t' := (353, [(0, (1, 275)), (6, (4, z15)), (8, (0, w 295 s)), (9, (0, w 296 s)), (10, (0, z21)), (11, (0, z23)), (12, (0, y1)), (13, (0, y2))], [(0, y2), (0, m91), (0, m88), (0, m85), (1, 325), (1, 275)], v1)) 1 rfl ?_
                      have hJ95 : ∀ m94 : Int, (-2147483648) ≤ m94 ∧ m94 ≤ 2147483647 → e_Ok 20 elay ecode eI (d + 1) 314 (363, [(0, (1, 275)), (6, (4, z15)), (8, (0, w 295 s)), (9, (0, w 296 s)), (10, (0, z21)), (11, (0, z23)), (12, (0, y1)), (13, (0, y2))], [(0, m94), (0, m91), (0, m88), (0, m85), (1, 325), (1, 275)], v1) (fun r w' => ∃ z : Int, r = [(0, z)] ∧ e_fr mL w w' ∧ 0 ≤ z ∧ z ≤ 1) := by
                        intro m94 m94r
                        refine e_Ok.callV rfl (by first | exact e_dq hd rfl | omega) rfl rfl rfl rfl (c_311_325 (by omega) (by omega) (by omega) (by omega)) (fun r96 w97 h98 => ?_)
                        obtain ⟨rfl, q99, q99k⟩ := h98
                        have f100 : e_fr mL w w97 := e_fr.trans j76 (e_fr.mono q99 (fun c k q => su_51_21 q))
                        have l101 : w97 286 a = w 286 a := f100 286 a no_51_0
                        have l102 : w97 276 (36 * a + 17) = w 276 (36 * a + 17) := f100 276 (36 * a + 17) no_51_1
                        show e_Ok 20 elay ecode eI (d + 1) 314 (366, [(0, (1, 275)), (6, (4, z15)), (8, (0, w 295 s)), (9, (0, w 296 s)), (10, (0, z21)), (11, (0, z23)), (12, (0, y1)), (13, (0, y2))], [], w97) _
                        refine e_Ok.run (t' := (367, [(0, (1, 275)), (6, (4, z15)), (8, (0, w 295 s)), (9, (0, w 296 s)), (10, (0, z21)), (11, (0, z23)), (12, (0, y1)), (13, (0, y2))], [(1, 275)], w97)) 1 rfl ?_
                        refine e_Ok.getr (z := 324) rfl (el_o rfl) rfl rfl ((f100 275 61 no_51_2).trans (e_Has.eq hT rfl)) ⟨by decide, by decide⟩ ?_
                        refine e_Ok.run (t' := (371, [(0, (1, 275)), (6, (4, z15)), (8, (0, w 295 s)), (9, (0, w 296 s)), (10, (0, z21)), (11, (0, z23)), (12, (0, y1)), (13, (0, y2))], [(1, 275), (1, 324)], w97)) 1 rfl ?_
                        refine e_Ok.getr (z := 325) rfl (el_o rfl) rfl rfl ((f100 275 62 no_51_4).trans (e_Has.eq hT rfl)) ⟨by decide, by decide⟩ ?_
                        refine e_Ok.run (t' := (376, [(0, (1, 275)), (6, (4, z15)), (8, (0, w 295 s)), (9, (0, w 296 s)), (10, (0, z21)), (11, (0, z23)), (12, (0, y1)), (13, (0, y2))], [(4, z15), (1, 325), (1, 324)], w97)) 1 rfl ?_
                        refine e_Ok.callS rfl (by first | exact e_dq hd rfl | omega) rfl rfl (c_310 (by first | exact e_dq hd rfl | omega) (e_kn.fr q99 (fun k q => by unfold m2 at q; omega) j77) q99k) (fun r103 w104 h105 => ?_)
                        obtain ⟨z106, rfl, rfl, q107a, q107b⟩ := h105
                        show e_Ok 20 elay ecode eI (d + 1) 314 (379, [(0, (1, 275)), (6, (4, z15)), (8, (0, w 295 s)), (9, (0, w 296 s)), (10, (0, z21)), (11, (0, z23)), (12, (0, y1)), (13, (0, y2))], [(0, z106)], w97) _
                        refine e_Ok.run (t' := (381, [(12, (0, z106)), (0, (1, 275)), (6, (4, z15)), (8, (0, w 295 s)), (9, (0, w 296 s)), (10, (0, z21)), (11, (0, z23)), (13, (0, y2))], [], w97)) 1 rfl ?_
                        refine e_Ok.inc (z := y2 + 1) rfl rfl (by first | with_reducible rfl | omega) (by omega) ?_
                        show e_Ok 20 elay ecode eI (d + 1) 314 (384, [(13, (0, y2 + 1)), (12, (0, z106)), (0, (1, 275)), (6, (4, z15)), (8, (0, w 295 s)), (9, (0, w 296 s)), (10, (0, z21)), (11, (0, z23))], [], w97) _
                        refine e_Ok.run (t' := (296, [(13, (0, y2 + 1)), (12, (0, z106)), (0, (1, 275)), (6, (4, z15)), (8, (0, w 295 s)), (9, (0, w 296 s)), (10, (0, z21)), (11, (0, z23))], [], w97)) 1 rfl ?_
                        refine e_Ok.sub eAlk (e_sub_of rfl ?_) (ih75 z106 (y2 + 1) w97 ⟨f100, (e_kn.fr q99 (fun k q => by unfold m2 at q; omega) j77), by omega, by omega⟩ (by omega))
                        exact ⟨rfl, rfl, rfl, rfl, rfl, rfl, rfl, rfl, trivial⟩
                      refine e_Ok.if1 rfl (fun h93 => ?_) (fun h93 => ?_)
                      · exact e_Ok.run 1 rfl (hJ95 z23 (by omega))
                      · exact e_Ok.run 2 rfl (hJ95 (w 296 s) (by omega))
                    refine e_Ok.if2 rfl (fun h90 => ?_) (fun h90 => ?_)
                    · exact e_Ok.run 1 rfl (hJ92 z21 (by omega))
                    · exact e_Ok.run 2 rfl (hJ92 (w 295 s) (by omega))
                  refine e_Ok.if2 rfl (fun h87 => ?_) (fun h87 => ?_)
                  · exact e_Ok.run 1 rfl (hJ89 (w 296 s) (by omega))
                  · exact e_Ok.run 2 rfl (hJ89 z23 (by omega))
                refine e_Ok.if2 rfl (fun h84 => ?_) (fun h84 => ?_)
                · exact e_Ok.run 1 rfl (hJ86 (w 295 s) (by omega))
                · exact e_Ok.run 2 rfl (hJ86 z21 (by omega))
        refine e_Ok.sub eAlk (e_sub_of rfl ?_) (hL74 (4 + 1 : Int).toNat 0 0 w9 ⟨f12, q11k, by omega, by omega⟩ (by omega))
        exact ⟨rfl, rfl, rfl, rfl, rfl, rfl, rfl, rfl, trivial⟩
      · replace h73 : (0 : Int) ≠ 0 := (show ¬ ((0 : Int) = 0) from h73)
        exfalso; omega
  · replace h17 : (w 294 s : Int) = 0 := Classical.not_not.mp (show ¬ ((w 294 s : Int) ≠ 0) from h17)
    refine e_Ok.run (t' := (36, [(6, (4, z15)), (0, (1, 275)), (1, (0, a)), (2, (0, i)), (3, (0, u)), (4, (0, s)), (5, (0, m))], [(1, 275)], w9)) 1 rfl ?_
    refine e_Ok.getr (z := 295) rfl (el_o rfl) rfl rfl ((f12 275 25 no_51_8).trans (e_Has.eq hT rfl)) ⟨by decide, by decide⟩ ?_
    refine e_Ok.run (t' := (41, [(6, (4, z15)), (0, (1, 275)), (1, (0, a)), (2, (0, i)), (3, (0, u)), (4, (0, s)), (5, (0, m))], [(0, s), (1, 295)], w9)) 1 rfl ?_
    have h108 := (e_Has.get hT (c := 295) (k := s) (lo := (-16000)) (hi := 16000) rfl (by decide))
    refine e_Ok.ald (z := w 295 s) rfl (el_o rfl) rfl (by omega) ((f12 295 s no_51_9).trans rfl) (by first | exact e_bq h108 (by decide) (by decide) | omega) ?_
    refine e_Ok.run (t' := (44, [(6, (4, z15)), (0, (1, 275)), (1, (0, a)), (2, (0, i)), (3, (0, u)), (4, (0, s)), (5, (0, m))], [(1, 275), (4, w 295 s)], w9)) 2 rfl ?_
    refine e_Ok.getr (z := 295) rfl (el_o rfl) rfl rfl ((f12 275 25 no_51_8).trans (e_Has.eq hT rfl)) ⟨by decide, by decide⟩ ?_
    refine e_Ok.run (t' := (49, [(6, (4, z15)), (0, (1, 275)), (1, (0, a)), (2, (0, i)), (3, (0, u)), (4, (0, s)), (5, (0, m))], [(0, s), (1, 295), (4, w 295 s)], w9)) 1 rfl ?_
    refine e_Ok.ald (z := w 295 s) rfl (el_o rfl) rfl (by omega) ((f12 295 s no_51_9).trans rfl) (by omega) ?_
    refine e_Ok.run (t' := (52, [(6, (4, z15)), (0, (1, 275)), (1, (0, a)), (2, (0, i)), (3, (0, u)), (4, (0, s)), (5, (0, m))], [(1, 275), (4, w 295 s), (4, w 295 s)], w9)) 2 rfl ?_
    refine e_Ok.getr (z := 324) rfl (el_o rfl) rfl rfl ((f12 275 61 no_51_2).trans (e_Has.eq hT rfl)) ⟨by decide, by decide⟩ ?_
    refine e_Ok.run (t' := (56, [(6, (4, z15)), (0, (1, 275)), (1, (0, a)), (2, (0, i)), (3, (0, u)), (4, (0, s)), (5, (0, m))], [(0, 0), (1, 324), (4, w 295 s), (4, w 295 s)], w9)) 1 rfl ?_
    have h109 := (q11k 0 (by omega) (by omega))
    refine e_Ok.ald (z := w9 324 0) rfl (el_o rfl) rfl (by omega) rfl (by omega) ?_
    refine e_Ok.run (t' := (59, [(6, (4, z15)), (0, (1, 275)), (1, (0, a)), (2, (0, i)), (3, (0, u)), (4, (0, s)), (5, (0, m))], [(1, 275), (4, w9 324 0), (4, w 295 s), (4, w 295 s)], w9)) 2 rfl ?_
    refine e_Ok.getr (z := 324) rfl (el_o rfl) rfl rfl ((f12 275 61 no_51_2).trans (e_Has.eq hT rfl)) ⟨by decide, by decide⟩ ?_
    refine e_Ok.run (t' := (63, [(6, (4, z15)), (0, (1, 275)), (1, (0, a)), (2, (0, i)), (3, (0, u)), (4, (0, s)), (5, (0, m))], [(0, 2), (1, 324), (4, w9 324 0), (4, w 295 s), (4, w 295 s)], w9)) 1 rfl ?_
    have h110 := (q11k 2 (by omega) (by omega))
    refine e_Ok.ald (z := w9 324 2) rfl (el_o rfl) rfl (by omega) rfl (by omega) ?_
    refine e_Ok.run (t' := (68, [(6, (4, z15)), (0, (1, 275)), (1, (0, a)), (2, (0, i)), (3, (0, u)), (4, (0, s)), (5, (0, m))], [(1, 275), (4, z15), (4, w9 324 2), (4, w9 324 0), (4, w 295 s), (4, w 295 s)], w9)) 3 rfl ?_
    refine e_Ok.getr (z := 297) rfl (el_o rfl) rfl rfl ((f12 275 27 no_51_12).trans (e_Has.eq hT rfl)) ⟨by decide, by decide⟩ ?_
    refine e_Ok.run (t' := (73, [(6, (4, z15)), (0, (1, 275)), (1, (0, a)), (2, (0, i)), (3, (0, u)), (4, (0, s)), (5, (0, m))], [(0, s), (1, 297), (4, z15), (4, w9 324 2), (4, w9 324 0), (4, w 295 s), (4, w 295 s)], w9)) 1 rfl ?_
    have h111 := (e_Has.get hT (c := 297) (k := s) (lo := (-2147483648)) (hi := 2147483647) rfl (by decide))
    refine e_Ok.ald (z := w 297 s) rfl (el_o rfl) rfl (by omega) ((f12 297 s no_51_13).trans rfl) (by first | exact e_bq h111 (by decide) (by decide) | omega) ?_
    refine e_Ok.run (t' := (75, [(6, (4, z15)), (0, (1, 275)), (1, (0, a)), (2, (0, i)), (3, (0, u)), (4, (0, s)), (5, (0, m))], [(4, w 297 s), (4, z15), (4, w9 324 2), (4, w9 324 0), (4, w 295 s), (4, w 295 s)], w9)) 1 rfl ?_
    refine e_Ok.addL (z := z15 + w 297 s) rfl (by first | with_reducible rfl | exact Int.add_comm _ _ | omega) (by omega) ?_
    refine e_Ok.callS rfl (by first | exact e_dq hd rfl | omega) rfl rfl (c_309) (fun r113 w114 h115 => ?_)
    obtain ⟨z116, rfl, rfl, q117a, q117b⟩ := h115
    show e_Ok 20 elay ecode eI (d + 1) 314 (79, [(6, (4, z15)), (0, (1, 275)), (1, (0, a)), (2, (0, i)), (3, (0, u)), (4, (0, s)), (5, (0, m))], [(0, z116)], w9) _
    refine e_Ok.if1 rfl (fun h118 => ?_) (fun h118 => ?_)
    · replace h118 : (z116 : Int) ≠ 0 := h118
      refine e_Ok.run (t' := (138, [(8, (0, 1)), (6, (4, z15)), (0, (1, 275)), (1, (0, a)), (2, (0, i)), (3, (0, u)), (4, (0, s)), (5, (0, m))], [(0, 1)], w9)) 4 rfl ?_
      refine e_Ok.if1 rfl (fun h119 => ?_) (fun h119 => ?_)
      · replace h119 : (1 : Int) ≠ 0 := h119
        refine e_Ok.run (t' := (207, [(8, (0, 1)), (6, (4, z15)), (0, (1, 275)), (1, (0, a)), (2, (0, i)), (3, (0, u)), (4, (0, s)), (5, (0, m))], [(0, 0)], w9)) 1 rfl ?_
        refine e_Ok.rets rfl rfl ?_
        exact ⟨_, rfl, f12, by omega, by omega⟩
      · replace h119 : (1 : Int) = 0 := Classical.not_not.mp (show ¬ ((1 : Int) ≠ 0) from h119)
        exfalso; omega
    · replace h118 : (z116 : Int) = 0 := Classical.not_not.mp (show ¬ ((z116 : Int) ≠ 0) from h118)
      refine e_Ok.run (t' := (83, [(6, (4, z15)), (0, (1, 275)), (1, (0, a)), (2, (0, i)), (3, (0, u)), (4, (0, s)), (5, (0, m))], [(1, 275)], w9)) 1 rfl ?_
      refine e_Ok.getr (z := 296) rfl (el_o rfl) rfl rfl ((f12 275 26 no_51_10).trans (e_Has.eq hT rfl)) ⟨by decide, by decide⟩ ?_
      refine e_Ok.run (t' := (88, [(6, (4, z15)), (0, (1, 275)), (1, (0, a)), (2, (0, i)), (3, (0, u)), (4, (0, s)), (5, (0, m))], [(0, s), (1, 296)], w9)) 1 rfl ?_
      have h120 := (e_Has.get hT (c := 296) (k := s) (lo := (-16000)) (hi := 16000) rfl (by decide))
      refine e_Ok.ald (z := w 296 s) rfl (el_o rfl) rfl (by omega) ((f12 296 s no_51_11).trans rfl) (by first | exact e_bq h120 (by decide) (by decide) | omega) ?_
      refine e_Ok.run (t' := (91, [(6, (4, z15)), (0, (1, 275)), (1, (0, a)), (2, (0, i)), (3, (0, u)), (4, (0, s)), (5, (0, m))], [(1, 275), (4, w 296 s)], w9)) 2 rfl ?_
      refine e_Ok.getr (z := 296) rfl (el_o rfl) rfl rfl ((f12 275 26 no_51_10).trans (e_Has.eq hT rfl)) ⟨by decide, by decide⟩ ?_
      refine e_Ok.run (t' := (96, [(6, (4, z15)), (0, (1, 275)), (1, (0, a)), (2, (0, i)), (3, (0, u)), (4, (0, s)), (5, (0, m))], [(0, s), (1, 296), (4, w 296 s)], w9)) 1 rfl ?_
      refine e_Ok.ald (z := w 296 s) rfl (el_o rfl) rfl (by omega) ((f12 296 s no_51_11).trans rfl) (by omega) ?_
      refine e_Ok.run (t' := (99, [(6, (4, z15)), (0, (1, 275)), (1, (0, a)), (2, (0, i)), (3, (0, u)), (4, (0, s)), (5, (0, m))], [(1, 275), (4, w 296 s), (4, w 296 s)], w9)) 2 rfl ?_
      refine e_Ok.getr (z := 324) rfl (el_o rfl) rfl rfl ((f12 275 61 no_51_2).trans (e_Has.eq hT rfl)) ⟨by decide, by decide⟩ ?_
      refine e_Ok.run (t' := (103, [(6, (4, z15)), (0, (1, 275)), (1, (0, a)), (2, (0, i)), (3, (0, u)), (4, (0, s)), (5, (0, m))], [(0, 1), (1, 324), (4, w 296 s), (4, w 296 s)], w9)) 1 rfl ?_
      have h121 := (q11k 1 (by omega) (by omega))
      refine e_Ok.ald (z := w9 324 1) rfl (el_o rfl) rfl (by omega) rfl (by omega) ?_
      refine e_Ok.run (t' := (106, [(6, (4, z15)), (0, (1, 275)), (1, (0, a)), (2, (0, i)), (3, (0, u)), (4, (0, s)), (5, (0, m))], [(1, 275), (4, w9 324 1), (4, w 296 s), (4, w 296 s)], w9)) 2 rfl ?_
      refine e_Ok.getr (z := 324) rfl (el_o rfl) rfl rfl ((f12 275 61 no_51_2).trans (e_Has.eq hT rfl)) ⟨by decide, by decide⟩ ?_
      refine e_Ok.run (t' := (110, [(6, (4, z15)), (0, (1, 275)), (1, (0, a)), (2, (0, i)), (3, (0, u)), (4, (0, s)), (5, (0, m))], [(0, 3), (1, 324), (4, w9 324 1), (4, w 296 s), (4, w 296 s)], w9)) 1 rfl ?_
      have h122 := (q11k 3 (by omega) (by omega))
      refine e_Ok.ald (z := w9 324 3) rfl (el_o rfl) rfl (by omega) rfl (by omega) ?_
      refine e_Ok.run (t' := (115, [(6, (4, z15)), (0, (1, 275)), (1, (0, a)), (2, (0, i)), (3, (0, u)), (4, (0, s)), (5, (0, m))], [(1, 275), (4, z15), (4, w9 324 3), (4, w9 324 1), (4, w 296 s), (4, w 296 s)], w9)) 3 rfl ?_
      refine e_Ok.getr (z := 297) rfl (el_o rfl) rfl rfl ((f12 275 27 no_51_12).trans (e_Has.eq hT rfl)) ⟨by decide, by decide⟩ ?_
      refine e_Ok.run (t' := (120, [(6, (4, z15)), (0, (1, 275)), (1, (0, a)), (2, (0, i)), (3, (0, u)), (4, (0, s)), (5, (0, m))], [(0, s), (1, 297), (4, z15), (4, w9 324 3), (4, w9 324 1), (4, w 296 s), (4, w 296 s)], w9)) 1 rfl ?_
      refine e_Ok.ald (z := w 297 s) rfl (el_o rfl) rfl (by omega) ((f12 297 s no_51_13).trans rfl) (by omega) ?_
      refine e_Ok.run (t' := (122, [(6, (4, z15)), (0, (1, 275)), (1, (0, a)), (2, (0, i)), (3, (0, u)), (4, (0, s)), (5, (0, m))], [(4, w 297 s), (4, z15), (4, w9 324 3), (4, w9 324 1), (4, w 296 s), (4, w 296 s)], w9)) 1 rfl ?_
      refine e_Ok.addL (z := z15 + w 297 s) rfl (by first | with_reducible rfl | exact Int.add_comm _ _ | omega) (by omega) ?_
      refine e_Ok.callS rfl (by first | exact e_dq hd rfl | omega) rfl rfl (c_309) (fun r124 w125 h126 => ?_)
      obtain ⟨z127, rfl, rfl, q128a, q128b⟩ := h126
      show e_Ok 20 elay ecode eI (d + 1) 314 (126, [(6, (4, z15)), (0, (1, 275)), (1, (0, a)), (2, (0, i)), (3, (0, u)), (4, (0, s)), (5, (0, m))], [(0, z127)], w9) _
      refine e_Ok.if1 rfl (fun h129 => ?_) (fun h129 => ?_)
      · replace h129 : (z127 : Int) = 0 := h129
        refine e_Ok.run (t' := (138, [(8, (0, 0)), (6, (4, z15)), (0, (1, 275)), (1, (0, a)), (2, (0, i)), (3, (0, u)), (4, (0, s)), (5, (0, m))], [(0, 0)], w9)) 3 rfl ?_
        refine e_Ok.if1 rfl (fun h130 => ?_) (fun h130 => ?_)
        · replace h130 : (0 : Int) ≠ 0 := h130
          exfalso; omega
        · replace h130 : (0 : Int) = 0 := Classical.not_not.mp (show ¬ ((0 : Int) ≠ 0) from h130)
          refine e_Ok.run (t' := (142, [(8, (0, 0)), (6, (4, z15)), (0, (1, 275)), (1, (0, a)), (2, (0, i)), (3, (0, u)), (4, (0, s)), (5, (0, m))], [(1, 275)], w9)) 1 rfl ?_
          refine e_Ok.getr (z := 295) rfl (el_o rfl) rfl rfl ((f12 275 25 no_51_8).trans (e_Has.eq hT rfl)) ⟨by decide, by decide⟩ ?_
          refine e_Ok.run (t' := (147, [(8, (0, 0)), (6, (4, z15)), (0, (1, 275)), (1, (0, a)), (2, (0, i)), (3, (0, u)), (4, (0, s)), (5, (0, m))], [(0, s), (1, 295)], w9)) 1 rfl ?_
          refine e_Ok.ald (z := w 295 s) rfl (el_o rfl) rfl (by omega) ((f12 295 s no_51_9).trans rfl) (by omega) ?_
          refine e_Ok.run (t' := (150, [(8, (0, 0)), (6, (4, z15)), (0, (1, 275)), (1, (0, a)), (2, (0, i)), (3, (0, u)), (4, (0, s)), (5, (0, m))], [(1, 275), (4, w 295 s)], w9)) 2 rfl ?_
          refine e_Ok.getr (z := 296) rfl (el_o rfl) rfl rfl ((f12 275 26 no_51_10).trans (e_Has.eq hT rfl)) ⟨by decide, by decide⟩ ?_
          refine e_Ok.run (t' := (155, [(8, (0, 0)), (6, (4, z15)), (0, (1, 275)), (1, (0, a)), (2, (0, i)), (3, (0, u)), (4, (0, s)), (5, (0, m))], [(0, s), (1, 296), (4, w 295 s)], w9)) 1 rfl ?_
          refine e_Ok.ald (z := w 296 s) rfl (el_o rfl) rfl (by omega) ((f12 296 s no_51_11).trans rfl) (by omega) ?_
          refine e_Ok.run (t' := (158, [(8, (0, 0)), (6, (4, z15)), (0, (1, 275)), (1, (0, a)), (2, (0, i)), (3, (0, u)), (4, (0, s)), (5, (0, m))], [(1, 275), (4, w 296 s), (4, w 295 s)], w9)) 2 rfl ?_
          refine e_Ok.getr (z := 324) rfl (el_o rfl) rfl rfl ((f12 275 61 no_51_2).trans (e_Has.eq hT rfl)) ⟨by decide, by decide⟩ ?_
          refine e_Ok.run (t' := (162, [(8, (0, 0)), (6, (4, z15)), (0, (1, 275)), (1, (0, a)), (2, (0, i)), (3, (0, u)), (4, (0, s)), (5, (0, m))], [(0, 0), (1, 324), (4, w 296 s), (4, w 295 s)], w9)) 1 rfl ?_
          refine e_Ok.ald (z := w9 324 0) rfl (el_o rfl) rfl (by omega) rfl (by omega) ?_
          refine e_Ok.run (t' := (165, [(8, (0, 0)), (6, (4, z15)), (0, (1, 275)), (1, (0, a)), (2, (0, i)), (3, (0, u)), (4, (0, s)), (5, (0, m))], [(1, 275), (4, w9 324 0), (4, w 296 s), (4, w 295 s)], w9)) 2 rfl ?_
          refine e_Ok.getr (z := 324) rfl (el_o rfl) rfl rfl ((f12 275 61 no_51_2).trans (e_Has.eq hT rfl)) ⟨by decide, by decide⟩ ?_
          refine e_Ok.run (t' := (169, [(8, (0, 0)), (6, (4, z15)), (0, (1, 275)), (1, (0, a)), (2, (0, i)), (3, (0, u)), (4, (0, s)), (5, (0, m))], [(0, 1), (1, 324), (4, w9 324 0), (4, w 296 s), (4, w 295 s)], w9)) 1 rfl ?_
          refine e_Ok.ald (z := w9 324 1) rfl (el_o rfl) rfl (by omega) rfl (by omega) ?_
          refine e_Ok.run (t' := (172, [(8, (0, 0)), (6, (4, z15)), (0, (1, 275)), (1, (0, a)), (2, (0, i)), (3, (0, u)), (4, (0, s)), (5, (0, m))], [(1, 275), (4, w9 324 1), (4, w9 324 0), (4, w 296 s), (4, w 295 s)], w9)) 2 rfl ?_
          refine e_Ok.getr (z := 324) rfl (el_o rfl) rfl rfl ((f12 275 61 no_51_2).trans (e_Has.eq hT rfl)) ⟨by decide, by decide⟩ ?_
          refine e_Ok.run (t' := (176, [(8, (0, 0)), (6, (4, z15)), (0, (1, 275)), (1, (0, a)), (2, (0, i)), (3, (0, u)), (4, (0, s)), (5, (0, m))], [(0, 2), (1, 324), (4, w9 324 1), (4, w9 324 0), (4, w 296 s), (4, w 295 s)], w9)) 1 rfl ?_
          refine e_Ok.ald (z := w9 324 2) rfl (el_o rfl) rfl (by omega) rfl (by omega) ?_
          refine e_Ok.run (t' := (179, [(8, (0, 0)), (6, (4, z15)), (0, (1, 275)), (1, (0, a)), (2, (0, i)), (3, (0, u)), (4, (0, s)), (5, (0, m))], [(1, 275), (4, w9 324 2), (4, w9 324 1), (4, w9 324 0), (4, w 296 s), (4, w 295 s)], w9)) 2 rfl ?_
          refine e_Ok.getr (z := 324) rfl (el_o rfl) rfl rfl ((f12 275 61 no_51_2).trans (e_Has.eq hT rfl)) ⟨by decide, by decide⟩ ?_
          refine e_Ok.run (t' := (183, [(8, (0, 0)), (6, (4, z15)), (0, (1, 275)), (1, (0, a)), (2, (0, i)), (3, (0, u)), (4, (0, s)), (5, (0, m))], [(0, 3), (1, 324), (4, w9 324 2), (4, w9 324 1), (4, w9 324 0), (4, w 296 s), (4, w 295 s)], w9)) 1 rfl ?_
          refine e_Ok.ald (z := w9 324 3) rfl (el_o rfl) rfl (by omega) rfl (by omega) ?_
          refine e_Ok.run (t' := (188, [(8, (0, 0)), (6, (4, z15)), (0, (1, 275)), (1, (0, a)), (2, (0, i)), (3, (0, u)), (4, (0, s)), (5, (0, m))], [(1, 275), (4, z15), (4, w9 324 3), (4, w9 324 2), (4, w9 324 1), (4, w9 324 0), (4, w 296 s), (4, w 295 s)], w9)) 3 rfl ?_
          refine e_Ok.getr (z := 297) rfl (el_o rfl) rfl rfl ((f12 275 27 no_51_12).trans (e_Has.eq hT rfl)) ⟨by decide, by decide⟩ ?_
          refine e_Ok.run (t' := (193, [(8, (0, 0)), (6, (4, z15)), (0, (1, 275)), (1, (0, a)), (2, (0, i)), (3, (0, u)), (4, (0, s)), (5, (0, m))], [(0, s), (1, 297), (4, z15), (4, w9 324 3), (4, w9 324 2), (4, w9 324 1), (4, w9 324 0), (4, w 296 s), (4, w 295 s)], w9)) 1 rfl ?_
          refine e_Ok.ald (z := w 297 s) rfl (el_o rfl) rfl (by omega) ((f12 297 s no_51_13).trans rfl) (by omega) ?_
          refine e_Ok.run (t' := (195, [(8, (0, 0)), (6, (4, z15)), (0, (1, 275)), (1, (0, a)), (2, (0, i)), (3, (0, u)), (4, (0, s)), (5, (0, m))], [(4, w 297 s), (4, z15), (4, w9 324 3), (4, w9 324 2), (4, w9 324 1), (4, w9 324 0), (4, w 296 s), (4, w 295 s)], w9)) 1 rfl ?_
          refine e_Ok.addL (z := z15 + w 297 s) rfl (by first | with_reducible rfl | exact Int.add_comm _ _ | omega) (by omega) ?_
          refine e_Ok.callS rfl (by first | exact e_dq hd rfl | omega) rfl rfl (c_307 (by first | exact e_dq hd rfl | omega)) (fun r132 w133 h134 => ?_)
          obtain ⟨z135, rfl, rfl, q136a, q136b⟩ := h134
          show e_Ok 20 elay ecode eI (d + 1) 314 (199, [(8, (0, 0)), (6, (4, z15)), (0, (1, 275)), (1, (0, a)), (2, (0, i)), (3, (0, u)), (4, (0, s)), (5, (0, m))], [(0, z135)], w9) _
          refine e_Ok.if1 rfl (fun h137 => ?_) (fun h137 => ?_)
          · replace h137 : (z135 : Int) = 0 := h137
            refine e_Ok.run (t' := (207, [(8, (0, 0)), (6, (4, z15)), (0, (1, 275)), (1, (0, a)), (2, (0, i)), (3, (0, u)), (4, (0, s)), (5, (0, m))], [(0, 0)], w9)) 1 rfl ?_
            refine e_Ok.rets rfl rfl ?_
            exact ⟨_, rfl, f12, by omega, by omega⟩
          · replace h137 : (z135 : Int) ≠ 0 := (show ¬ ((z135 : Int) = 0) from h137)
            refine e_Ok.run (t' := (207, [(8, (0, 0)), (6, (4, z15)), (0, (1, 275)), (1, (0, a)), (2, (0, i)), (3, (0, u)), (4, (0, s)), (5, (0, m))], [(0, 1)], w9)) 2 rfl ?_
            refine e_Ok.rets rfl rfl ?_
            exact ⟨_, rfl, f12, by omega, by omega⟩
      · replace h129 : (z127 : Int) ≠ 0 := (show ¬ ((z127 : Int) = 0) from h129)
        refine e_Ok.run (t' := (138, [(8, (0, 1)), (6, (4, z15)), (0, (1, 275)), (1, (0, a)), (2, (0, i)), (3, (0, u)), (4, (0, s)), (5, (0, m))], [(0, 1)], w9)) 4 rfl ?_
        refine e_Ok.if1 rfl (fun h138 => ?_) (fun h138 => ?_)
        · replace h138 : (1 : Int) ≠ 0 := h138
          refine e_Ok.run (t' := (207, [(8, (0, 1)), (6, (4, z15)), (0, (1, 275)), (1, (0, a)), (2, (0, i)), (3, (0, u)), (4, (0, s)), (5, (0, m))], [(0, 0)], w9)) 1 rfl ?_
          refine e_Ok.rets rfl rfl ?_
          exact ⟨_, rfl, f12, by omega, by omega⟩
        · replace h138 : (1 : Int) = 0 := Classical.not_not.mp (show ¬ ((1 : Int) ≠ 0) from h138)
          exfalso; omega
theorem no_51_16 : ¬ mL 275 23 := by unfold mL; omega
theorem no_51_17 : ¬ mL 275 29 := by unfold mL; omega
theorem no_51_18 {k : Int} : ¬ mL 299 k := by unfold mL; omega
theorem c_315 {d : Nat} (hd : 24 ≤ d) {w : eW} (hT : e_Has mTy w) {a u m : Int} (ha : 0 ≤ a ∧ a ≤ 3) (hu : 0 ≤ u ∧ u ≤ 28) (k1 : e_kn w 321 u (u + w 286 a)) (k2 : e_kn w 322 u (u + w 286 a)) : e_Ok 20 elay ecode eI d 315 (0, [(0, (1, 275)), (1, (0, a)), (2, (0, u)), (3, (0, m))], [], w) (fun r w' => ∃ z : Int, r = [(0, z)] ∧ e_fr mL w w' ∧ 0 ≤ z ∧ z ≤ 1) := by
  obtain ⟨d, rfl⟩ : ∃ e, d = e + 1 := ⟨d - 1, by omega⟩
  have hja := (e_Has.get hT (c := 286) (k := a) (lo := 0) (hi := 6) rfl (by decide))
  refine e_Ok.run (t' := (2, [(0, (1, 275)), (1, (0, a)), (2, (0, u)), (3, (0, m))], [(0, a), (1, 275)], w)) 2 rfl ?_
  refine e_Ok.callV rfl (by first | exact e_dq hd rfl | omega) rfl rfl rfl rfl (c_304 (by first | exact e_dq hd rfl | omega) hT (by omega)) (fun r1 w2 h3 => ?_)
  obtain ⟨z4, rfl, rfl, q5⟩ := h3
  have h6 := (e_Has.get hT (c := 286) (k := a) (lo := 0) (hi := 6) rfl (by decide))
  show e_Ok 20 elay ecode eI (d + 1) 315 (5, [(0, (1, 275)), (1, (0, a)), (2, (0, u)), (3, (0, m))], [(0, z4)], w) _
  refine e_Ok.run (t' := (10, [(5, (0, 0)), (4, (0, z4)), (0, (1, 275)), (1, (0, a)), (2, (0, u)), (3, (0, m))], [], w)) 3 rfl ?_
  have hL7 : ∀ (n : Nat) (y1 : Int) (v1 : eW), e_fr mL w v1 ∧ 0 ≤ y1 ∧ y1 ≤ 7 → 8 - y1 < n → e_Ok 20 elay ecode eI (d + 1) 315 (10, [(0, (1, 275)), (1, (0, a)), (2, (0, u)), (3, (0, m)), (4, (0, z4)), (5, (0, y1))], [], v1) (fun r w' => ∃ z : Int, r = [(0, z)] ∧ e_fr mL w w' ∧ 0 ≤ z ∧ z ≤ 1) := by
    intro n
    induction n with
    | zero => intro y1 v1 hj hm; obtain ⟨j9, j10⟩ := hj; exfalso; omega
    | succ n ih8 =>
      intro y1 v1 hj hm
      obtain ⟨j9, j10⟩ := hj
      have l11 : v1 286 a = w 286 a := j9 286 a no_51_0
      have l12 : v1 276 (36 * a + 17) = w 276 (36 * a + 17) := j9 276 (36 * a + 17) no_51_1
      refine e_Ok.run (t' := (14, [(0, (1, 275)), (1, (0, a)), (2, (0, u)), (3, (0, m)), (4, (0, z4)), (5, (0, y1))], [(0, z4), (0, y1)], v1)) 2 rfl ?_
      refine e_Ok.if2 rfl (fun h13 => ?_) (fun h13 => ?_)
      · replace h13 : (y1 : Int) ≥ z4 := h13
        refine e_Ok.run (t' := (116, [(0, (1, 275)), (1, (0, a)), (2, (0, u)), (3, (0, m)), (4, (0, z4)), (5, (0, y1))], [(0, 0)], v1)) 1 rfl ?_
        refine e_Ok.rets rfl rfl ?_
        exact ⟨_, rfl, j9, by omega, by omega⟩
      · replace h13 : (y1 : Int) < z4 := Int.not_le.mp (show ¬ ((y1 : Int) ≥ z4) from h13)
        refine e_Ok.run (t' := (20, [(0, (1, 275)), (1, (0, a)), (2, (0, u)), (3, (0, m)), (4, (0, z4)), (5, (0, y1))], [(0, 2), (0, y1)], v1)) 2 rfl ?_
        refine e_Ok.add (z := y1 + 2) rfl (by first | with_reducible rfl | exact Int.add_comm _ _ | omega) (by omega) ?_
        refine e_Ok.run (t' := (23, [(6, (0, y1 + 2)), (0, (1, 275)), (1, (0, a)), (2, (0, u)), (3, (0, m)), (4, (0, z4)), (5, (0, y1))], [], v1)) 1 rfl ?_
        have hL14 : ∀ (n : Nat) (y2 : Int) (v2 : eW), e_fr mL w v2 ∧ y1 + 2 ≤ y2 ∧ y2 ≤ 9 → 10 - y2 < n → e_Ok 20 elay ecode eI (d + 1) 315 (23, [(0, (1, 275)), (1, (0, a)), (2, (0, u)), (3, (0, m)), (4, (0, z4)), (5, (0, y1)), (6, (0, y2))], [], v2) (fun r w' => ∃ z : Int, r = [(0, z)] ∧ e_fr mL w w' ∧ 0 ≤ z ∧ z ≤ 1) := by
          intro n
          induction n with
          | zero => intro y2 v2 hj hm; obtain ⟨j16, j17⟩ := hj; exfalso; omega
          | succ n ih15 =>
            intro y2 v2 hj hm
            obtain ⟨j16, j17⟩ := hj
            have l18 : v2 286 a = w 286 a := j16 286 a no_51_0
            have l19 : v2 276 (36 * a + 17) = w 276 (36 * a + 17) := j16 276 (36 * a + 17) no_51_1
            refine e_Ok.run (t' := (27, [(0, (1, 275)), (1, (0, a)), (2, (0, u)), (3, (0, m)), (4, (0, z4)), (5, (0, y1)), (6, (0, y2))], [(0, z4), (0, y2)], v2)) 2 rfl ?_
            refine e_Ok.if2 rfl (fun h20 => ?_) (fun h20 => ?_)
            · replace h20 : (y2 : Int) ≥ z4 := h20
              refine e_Ok.run (t' := (57, [(6, (0, 0)), (0, (1, 275)), (1, (0, a)), (2, (0, u)), (3, (0, m)), (4, (0, z4)), (5, (0, y1))], [], v2)) 2 rfl ?_
              have hL21 : ∀ (n : Nat) (y3 : Int) (v3 : eW), e_fr mL w v3 ∧ 0 ≤ y3 ∧ y3 ≤ 16 → 17 - y3 < n → e_Ok 20 elay ecode eI (d + 1) 315 (57, [(0, (1, 275)), (1, (0, a)), (2, (0, u)), (3, (0, m)), (4, (0, z4)), (5, (0, y1)), (6, (0, y3))], [], v3) (fun r w' => ∃ z : Int, r = [(0, z)] ∧ e_fr mL w w' ∧ 0 ≤ z ∧ z ≤ 1) := by
                intro n
                induction n with
                | zero => intro y3 v3 hj hm; obtain ⟨j23, j24⟩ := hj; exfalso; omega
                | succ n ih22 =>
                  intro y3 v3 hj hm
                  obtain ⟨j23, j24⟩ := hj
                  have l25 : v3 286 a = w 286 a := j23 286 a no_51_0
                  have l26 : v3 276 (36 * a + 17) = w 276 (36 * a + 17) := j23 276 (36 * a + 17) no_51_1
                  refine e_Ok.run (t' := (60, [(0, (1, 275)), (1, (0, a)), (2, (0, u)), (3, (0, m)), (4, (0, z4)), (5, (0, y1)), (6, (0, y3))], [(1, 275), (0, y3)], v3)) 2 rfl ?_
                  have h27 := (e_Has.get hT (c := 275) (k := 23) (lo := 0) (hi := 16) rfl (by decide))
                  refine e_Ok.getf (z := w 275 23) rfl (el_o rfl) rfl rfl ((j23 275 23 no_51_16).trans rfl) (by first | exact e_bq h27 (by decide) (by decide) | omega) ?_
                  refine e_Ok.if2 rfl (fun h28 => ?_) (fun h28 => ?_)
                  · replace h28 : (y3 : Int) ≥ w 275 23 := h28
                    refine e_Ok.inc (z := y1 + 1) rfl rfl (by first | with_reducible rfl | omega) (by omega) ?_
                    show e_Ok 20 elay ecode eI (d + 1) 315 (112, [(5, (0, y1 + 1)), (0, (1, 275)), (1, (0, a)), (2, (0, u)), (3, (0, m)), (4, (0, z4)), (6, (0, y3))], [], v3) _
                    refine e_Ok.run (t' := (10, [(5, (0, y1 + 1)), (0, (1, 275)), (1, (0, a)), (2, (0, u)), (3, (0, m)), (4, (0, z4)), (6, (0, y3))], [], v3)) 1 rfl ?_
                    refine e_Ok.sub eAlk (e_sub_of rfl ?_) (ih8 (y1 + 1) v3 ⟨j23, by omega⟩ (by omega))
                    exact ⟨rfl, rfl, rfl, rfl, rfl, rfl, trivial⟩
                  · replace h28 : (y3 : Int) < w 275 23 := Int.not_le.mp (show ¬ ((y3 : Int) ≥ w 275 23) from h28)
                    refine e_Ok.run (t' := (67, [(0, (1, 275)), (1, (0, a)), (2, (0, u)), (3, (0, m)), (4, (0, z4)), (5, (0, y1)), (6, (0, y3))], [(1, 275)], v3)) 1 rfl ?_
                    refine e_Ok.getr (z := 299) rfl (el_o rfl) rfl rfl ((j23 275 29 no_51_17).trans (e_Has.eq hT rfl)) ⟨by decide, by decide⟩ ?_
                    refine e_Ok.run (t' := (73, [(0, (1, 275)), (1, (0, a)), (2, (0, u)), (3, (0, m)), (4, (0, z4)), (5, (0, y1)), (6, (0, y3))], [(0, a), (0, 112), (1, 299)], v3)) 2 rfl ?_
                    refine e_Ok.mul (z := 112 * a) rfl (by first | with_reducible rfl | exact Int.add_comm _ _ | omega) (by omega) ?_
                    refine e_Ok.run (t' := (78, [(0, (1, 275)), (1, (0, a)), (2, (0, u)), (3, (0, m)), (4, (0, z4)), (5, (0, y1)), (6, (0, y3))], [(0, y1), (0, 16), (0, 112 * a), (1, 299)], v3)) 2 rfl ?_
                    refine e_Ok.mul (z := 16 * y1) rfl (by first | with_reducible rfl | exact Int.add_comm _ _ | omega) (by omega) ?_
                    refine e_Ok.add (z := 112 * a + 16 * y1) rfl (by first | with_reducible rfl | exact Int.add_comm _ _ | omega) (by omega) ?_
                    refine e_Ok.run (t' := (82, [(0, (1, 275)), (1, (0, a)), (2, (0, u)), (3, (0, m)), (4, (0, z4)), (5, (0, y1)), (6, (0, y3))], [(0, y3), (0, 112 * a + 16 * y1), (1, 299)], v3)) 1 rfl ?_
                    refine e_Ok.add (z := 112 * a + 16 * y1 + y3) rfl (by first | with_reducible rfl | exact Int.add_comm _ _ | omega) (by omega) ?_
                    have h29 := (e_Has.get hT (c := 299) (k := 112 * a + 16 * y1 + y3) (lo := 0) (hi := 1) rfl (by decide))
                    refine e_Ok.ald (z := w 299 (112 * a + 16 * y1 + y3)) rfl (el_o rfl) rfl (by omega) ((j23 299 (112 * a + 16 * y1 + y3) no_51_18).trans rfl) (by first | exact e_bq h29 (by decide) (by decide) | omega) ?_
                    refine e_Ok.if1 rfl (fun h30 => ?_) (fun h30 => ?_)
                    · replace h30 : (w 299 (112 * a + 16 * y1 + y3) : Int) ≠ 0 := h30
                      refine e_Ok.inc (z := y3 + 1) rfl rfl (by first | with_reducible rfl | omega) (by omega) ?_
                      show e_Ok 20 elay ecode eI (d + 1) 315 (106, [(6, (0, y3 + 1)), (0, (1, 275)), (1, (0, a)), (2, (0, u)), (3, (0, m)), (4, (0, z4)), (5, (0, y1))], [], v3) _
                      refine e_Ok.run (t' := (57, [(6, (0, y3 + 1)), (0, (1, 275)), (1, (0, a)), (2, (0, u)), (3, (0, m)), (4, (0, z4)), (5, (0, y1))], [], v3)) 1 rfl ?_
                      refine e_Ok.sub eAlk (e_sub_of rfl ?_) (ih22 (y3 + 1) v3 ⟨j23, by omega⟩ (by omega))
                      exact ⟨rfl, rfl, rfl, rfl, rfl, rfl, rfl, trivial⟩
                    · replace h30 : (w 299 (112 * a + 16 * y1 + y3) : Int) = 0 := Classical.not_not.mp (show ¬ ((w 299 (112 * a + 16 * y1 + y3) : Int) ≠ 0) from h30)
                      refine e_Ok.run (t' := (95, [(0, (1, 275)), (1, (0, a)), (2, (0, u)), (3, (0, m)), (4, (0, z4)), (5, (0, y1)), (6, (0, y3))], [(0, m), (0, y3), (0, u), (0, y1), (0, a), (1, 275)], v3)) 6 rfl ?_
                      refine e_Ok.callV rfl (by first | exact e_dq hd rfl | omega) rfl rfl rfl rfl (c_314 (by first | exact e_dq hd rfl | omega) (mT_L j23 hT) (by omega) (by omega) (by omega) (by omega) (e_kn_sub (e_kn.fr j23 (fun k q => by unfold mL at q; omega) k1) (by omega) (by omega)) (e_kn_sub (e_kn.fr j23 (fun k q => by unfold mL at q; omega) k2) (by omega) (by omega))) (fun r31 w32 h33 => ?_)
                      obtain ⟨z34, rfl, q35, q35a, q35b⟩ := h33
                      have f36 : e_fr mL w w32 := e_fr.trans j23 (e_fr.mono q35 (fun c k q => by exact q))
                      have l37 : w32 286 a = w 286 a := f36 286 a no_51_0
                      have l38 : w32 276 (36 * a + 17) = w 276 (36 * a + 17) := f36 276 (36 * a + 17) no_51_1
                      show e_Ok 20 elay ecode eI (d + 1) 315 (98, [(0, (1, 275)), (1, (0, a)), (2, (0, u)), (3, (0, m)), (4, (0, z4)), (5, (0, y1)), (6, (0, y3))], [(0, z34)], w32) _
                      refine e_Ok.if1 rfl (fun h39 => ?_) (fun h39 => ?_)
                      · replace h39 : (z34 : Int) = 0 := h39
                        refine e_Ok.inc (z := y3 + 1) rfl rfl (by first | with_reducible rfl | omega) (by omega) ?_
                        show e_Ok 20 elay ecode eI (d + 1) 315 (106, [(6, (0, y3 + 1)), (0, (1, 275)), (1, (0, a)), (2, (0, u)), (3, (0, m)), (4, (0, z4)), (5, (0, y1))], [], w32) _
                        refine e_Ok.run (t' := (57, [(6, (0, y3 + 1)), (0, (1, 275)), (1, (0, a)), (2, (0, u)), (3, (0, m)), (4, (0, z4)), (5, (0, y1))], [], w32)) 1 rfl ?_
                        refine e_Ok.sub eAlk (e_sub_of rfl ?_) (ih22 (y3 + 1) w32 ⟨f36, by omega⟩ (by omega))
                        exact ⟨rfl, rfl, rfl, rfl, rfl, rfl, rfl, trivial⟩
                      · replace h39 : (z34 : Int) ≠ 0 := (show ¬ ((z34 : Int) = 0) from h39)
                        refine e_Ok.run (t' := (102, [(0, (1, 275)), (1, (0, a)), (2, (0, u)), (3, (0, m)), (4, (0, z4)), (5, (0, y1)), (6, (0, y3))], [(0, 1)], w32)) 1 rfl ?_
                        refine e_Ok.rets rfl rfl ?_
                        exact ⟨_, rfl, f36, by omega, by omega⟩
              refine e_Ok.sub eAlk (e_sub_of rfl ?_) (hL21 (17 + 1 : Int).toNat 0 v2 ⟨j16, by omega⟩ (by omega))
              exact ⟨rfl, rfl, rfl, rfl, rfl, rfl, rfl, trivial⟩
            · replace h20 : (y2 : Int) < z4 := Int.not_le.mp (show ¬ ((y2 : Int) ≥ z4) from h20)
              refine e_Ok.run (t' := (40, [(0, (1, 275)), (1, (0, a)), (2, (0, u)), (3, (0, m)), (4, (0, z4)), (5, (0, y1)), (6, (0, y2))], [(0, m), (0, u), (0, y2), (0, a), (0, u), (0, y1), (0, a), (1, 275)], v2)) 8 rfl ?_
              refine e_Ok.callV rfl (by first | exact e_dq hd rfl | omega) rfl rfl rfl rfl (c_313 (by first | exact e_dq hd rfl | omega) (mT_L j16 hT) (by omega) (by omega) (by omega) (by omega) (by omega) (by omega) (e_kn_sub (e_kn.fr j16 (fun k q => by unfold mL at q; omega) k1) (by omega) (by omega)) (e_kn_sub (e_kn.fr j16 (fun k q => by unfold mL at q; omega) k2) (by omega) (by omega)) (e_kn_sub (e_kn.fr j16 (fun k q => by unfold mL at q; omega) k1) (by omega) (by omega)) (e_kn_sub (e_kn.fr j16 (fun k q => by unfold mL at q; omega) k2) (by omega) (by omega))) (fun r40 w41 h42 => ?_)
              obtain ⟨z43, rfl, q44, q44a, q44b⟩ := h42
              have f45 : e_fr mL w w41 := e_fr.trans j16 (e_fr.mono q44 (fun c k q => by exact q))
              have l46 : w41 286 a = w 286 a := f45 286 a no_51_0
              have l47 : w41 276 (36 * a + 17) = w 276 (36 * a + 17) := f45 276 (36 * a + 17) no_51_1
              show e_Ok 20 elay ecode eI (d + 1) 315 (43, [(0, (1, 275)), (1, (0, a)), (2, (0, u)), (3, (0, m)), (4, (0, z4)), (5, (0, y1)), (6, (0, y2))], [(0, z43)], w41) _
              refine e_Ok.if1 rfl (fun h48 => ?_) (fun h48 => ?_)
              · replace h48 : (z43 : Int) = 0 := h48
                refine e_Ok.inc (z := y2 + 1) rfl rfl (by first | with_reducible rfl | omega) (by omega) ?_
                show e_Ok 20 elay ecode eI (d + 1) 315 (51, [(6, (0, y2 + 1)), (0, (1, 275)), (1, (0, a)), (2, (0, u)), (3, (0, m)), (4, (0, z4)), (5, (0, y1))], [], w41) _
                refine e_Ok.run (t' := (23, [(6, (0, y2 + 1)), (0, (1, 275)), (1, (0, a)), (2, (0, u)), (3, (0, m)), (4, (0, z4)), (5, (0, y1))], [], w41)) 1 rfl ?_
                refine e_Ok.sub eAlk (e_sub_of rfl ?_) (ih15 (y2 + 1) w41 ⟨f45, by omega⟩ (by omega))
                exact ⟨rfl, rfl, rfl, rfl, rfl, rfl, rfl, trivial⟩
              · replace h48 : (z43 : Int) ≠ 0 := (show ¬ ((z43 : Int) = 0) from h48)
                refine e_Ok.run (t' := (47, [(0, (1, 275)), (1, (0, a)), (2, (0, u)), (3, (0, m)), (4, (0, z4)), (5, (0, y1)), (6, (0, y2))], [(0, 1)], w41)) 1 rfl ?_
                refine e_Ok.rets rfl rfl ?_
                exact ⟨_, rfl, f45, by omega, by omega⟩
        refine e_Ok.sub eAlk (e_sub_of rfl ?_) (hL14 (10 + 1 : Int).toNat (y1 + 2) v1 ⟨j9, by omega⟩ (by omega))
        exact ⟨rfl, rfl, rfl, rfl, rfl, rfl, rfl, trivial⟩
  refine e_Ok.sub eAlk (e_sub_of rfl ?_) (hL7 (8 + 1 : Int).toNat 0 w ⟨(e_fr.refl w), by omega⟩ (by omega))
  exact ⟨rfl, rfl, rfl, rfl, rfl, rfl, trivial⟩
theorem c_316 {d : Nat} (hd : 24 ≤ d) {w : eW} (hT : e_Has mTy w) {a u b m : Int} (ha : 0 ≤ a ∧ a ≤ 3) (hu : 0 ≤ u ∧ u ≤ 28) (hb : 0 ≤ b ∧ b ≤ 3) (k1 : e_kn w 321 u (u + w 286 a)) (k2 : e_kn w 322 u (u + w 286 a)) (k3 : e_kn w 321 (7 * b) (7 * b + w 286 b)) (k4 : e_kn w 322 (7 * b) (7 * b + w 286 b)) : e_Ok 20 elay ecode eI d 316 (0, [(0, (1, 275)), (1, (0, a)), (2, (0, u)), (3, (0, b)), (4, (0, m))], [], w) (fun r w' => ∃ z : Int, r = [(0, z)] ∧ e_fr mL w w' ∧ 0 ≤ z ∧ z ≤ 1) := by
  obtain ⟨d, rfl⟩ : ∃ e, d = e + 1 := ⟨d - 1, by omega⟩
  have hja := (e_Has.get hT (c := 286) (k := a) (lo := 0) (hi := 6) rfl (by decide))
  have hjb := (e_Has.get hT (c := 286) (k := b) (lo := 0) (hi := 6) rfl (by decide))
  refine e_Ok.run (t' := (3, [(5, (0, 0)), (0, (1, 275)), (1, (0, a)), (2, (0, u)), (3, (0, b)), (4, (0, m))], [], w)) 2 rfl ?_
  have hL1 : ∀ (n : Nat) (y1 : Int) (v1 : eW), e_fr mL w v1 ∧ 0 ≤ y1 ∧ y1 ≤ 7 → 8 - y1 < n → e_Ok 20 elay ecode eI (d + 1) 316 (3, [(0, (1, 275)), (1, (0, a)), (2, (0, u)), (3, (0, b)), (4, (0, m)), (5, (0, y1))], [], v1) (fun r w' => ∃ z : Int, r = [(0, z)] ∧ e_fr mL w w' ∧ 0 ≤ z ∧ z ≤ 1) := by
    intro n
    induction n with
    | zero => intro y1 v1 hj hm; obtain ⟨j3, j4⟩ := hj; exfalso; omega
    | succ n ih2 =>
      intro y1 v1 hj hm
      obtain ⟨j3, j4⟩ := hj
      have l5 : v1 286 a = w 286 a := j3 286 a no_51_0
      have l6 : v1 286 b = w 286 b := j3 286 b no_51_0
      have l7 : v1 276 (36 * a + 17) = w 276 (36 * a + 17) := j3 276 (36 * a + 17) no_51_1
      have l8 : v1 276 (36 * b + 17) = w 276 (36 * b + 17) := j3 276 (36 * b + 17) no_51_1
      refine e_Ok.run (t' := (7, [(0, (1, 275)), (1, (0, a)), (2, (0, u)), (3, (0, b)), (4, (0, m)), (5, (0, y1))], [(0, a), (1, 275), (0, y1)], v1)) 3 rfl ?_
      refine e_Ok.callV rfl (by first | exact e_dq hd rfl | omega) rfl rfl rfl rfl (c_304 (by first | exact e_dq hd rfl | omega) (mT_L j3 hT) (by omega)) (fun r9 w10 h11 => ?_)
      obtain ⟨z12, rfl, rfl, q13⟩ := h11
      have h14 := (e_Has.get (mT_L j3 hT) (c := 286) (k := a) (lo := 0) (hi := 6) rfl (by decide))
      show e_Ok 20 elay ecode eI (d + 1) 316 (10, [(0, (1, 275)), (1, (0, a)), (2, (0, u)), (3, (0, b)), (4, (0, m)), (5, (0, y1))], [(0, z12), (0, y1)], v1) _
      refine e_Ok.if2 rfl (fun h15 => ?_) (fun h15 => ?_)
      · replace h15 : (y1 : Int) ≥ z12 := h15
        refine e_Ok.run (t' := (61, [(0, (1, 275)), (1, (0, a)), (2, (0, u)), (3, (0, b)), (4, (0, m)), (5, (0, y1))], [(0, 0)], v1)) 1 rfl ?_
        refine e_Ok.rets rfl rfl ?_
        exact ⟨_, rfl, j3, by omega, by omega⟩
      · replace h15 : (y1 : Int) < z12 := Int.not_le.mp (show ¬ ((y1 : Int) ≥ z12) from h15)
        refine e_Ok.run (t' := (16, [(6, (0, 0)), (0, (1, 275)), (1, (0, a)), (2, (0, u)), (3, (0, b)), (4, (0, m)), (5, (0, y1))], [], v1)) 2 rfl ?_
        have hL16 : ∀ (n : Nat) (y2 : Int) (v2 : eW), e_fr mL w v2 ∧ 0 ≤ y2 ∧ y2 ≤ 7 → 8 - y2 < n → e_Ok 20 elay ecode eI (d + 1) 316 (16, [(0, (1, 275)), (1, (0, a)), (2, (0, u)), (3, (0, b)), (4, (0, m)), (5, (0, y1)), (6, (0, y2))], [], v2) (fun r w' => ∃ z : Int, r = [(0, z)] ∧ e_fr mL w w' ∧ 0 ≤ z ∧ z ≤ 1) := by
          intro n
          induction n with
          | zero => intro y2 v2 hj hm; obtain ⟨j18, j19⟩ := hj; exfalso; omega
          | succ n ih17 =>
            intro y2 v2 hj hm
            obtain ⟨j18, j19⟩ := hj
            have l20 : v2 286 a = w 286 a := j18 286 a no_51_0
            have l21 : v2 286 b = w 286 b := j18 286 b no_51_0
            have l22 : v2 276 (36 * a + 17) = w 276 (36 * a + 17) := j18 276 (36 * a + 17) no_51_1
            have l23 : v2 276 (36 * b + 17) = w 276 (36 * b + 17) := j18 276 (36 * b + 17) no_51_1
            refine e_Ok.run (t' := (20, [(0, (1, 275)), (1, (0, a)), (2, (0, u)), (3, (0, b)), (4, (0, m)), (5, (0, y1)), (6, (0, y2))], [(0, b), (1, 275), (0, y2)], v2)) 3 rfl ?_
            refine e_Ok.callV rfl (by first | exact e_dq hd rfl | omega) rfl rfl rfl rfl (c_304 (by first | exact e_dq hd rfl | omega) (mT_L j18 hT) (by omega)) (fun r24 w25 h26 => ?_)
            obtain ⟨z27, rfl, rfl, q28⟩ := h26
            have h29 := (e_Has.get (mT_L j18 hT) (c := 286) (k := b) (lo := 0) (hi := 6) rfl (by decide))
            show e_Ok 20 elay ecode eI (d + 1) 316 (23, [(0, (1, 275)), (1, (0, a)), (2, (0, u)), (3, (0, b)), (4, (0, m)), (5, (0, y1)), (6, (0, y2))], [(0, z27), (0, y2)], v2) _
            refine e_Ok.if2 rfl (fun h30 => ?_) (fun h30 => ?_)
            · replace h30 : (y2 : Int) ≥ z27 := h30
              refine e_Ok.inc (z := y1 + 1) rfl rfl (by first | with_reducible rfl | omega) (by omega) ?_
              show e_Ok 20 elay ecode eI (d + 1) 316 (57, [(5, (0, y1 + 1)), (0, (1, 275)), (1, (0, a)), (2, (0, u)), (3, (0, b)), (4, (0, m)), (6, (0, y2))], [], v2) _
              refine e_Ok.run (t' := (3, [(5, (0, y1 + 1)), (0, (1, 275)), (1, (0, a)), (2, (0, u)), (3, (0, b)), (4, (0, m)), (6, (0, y2))], [], v2)) 1 rfl ?_
              refine e_Ok.sub eAlk (e_sub_of rfl ?_) (ih2 (y1 + 1) v2 ⟨j18, by omega⟩ (by omega))
              exact ⟨rfl, rfl, rfl, rfl, rfl, rfl, trivial⟩
            · replace h30 : (y2 : Int) < z27 := Int.not_le.mp (show ¬ ((y2 : Int) ≥ z27) from h30)
              refine e_Ok.run (t' := (37, [(0, (1, 275)), (1, (0, a)), (2, (0, u)), (3, (0, b)), (4, (0, m)), (5, (0, y1)), (6, (0, y2))], [(0, b), (0, 7), (0, y2), (0, b), (0, u), (0, y1), (0, a), (1, 275)], v2)) 8 rfl ?_
              refine e_Ok.mul (z := 7 * b) rfl (by first | with_reducible rfl | exact Int.add_comm _ _ | omega) (by omega) ?_
              refine e_Ok.run (t' := (40, [(0, (1, 275)), (1, (0, a)), (2, (0, u)), (3, (0, b)), (4, (0, m)), (5, (0, y1)), (6, (0, y2))], [(0, m), (0, 7 * b), (0, y2), (0, b), (0, u), (0, y1), (0, a), (1, 275)], v2)) 1 rfl ?_
              refine e_Ok.callV rfl (by first | exact e_dq hd rfl | omega) rfl rfl rfl rfl (c_313 (by first | exact e_dq hd rfl | omega) (mT_L j18 hT) (by omega) (by omega) (by omega) (by omega) (by omega) (by omega) (e_kn_sub (e_kn.fr j18 (fun k q => by unfold mL at q; omega) k1) (by omega) (by omega)) (e_kn_sub (e_kn.fr j18 (fun k q => by unfold mL at q; omega) k2) (by omega) (by omega)) (e_kn_sub (e_kn.fr j18 (fun k q => by unfold mL at q; omega) k3) (by omega) (by omega)) (e_kn_sub (e_kn.fr j18 (fun k q => by unfold mL at q; omega) k4) (by omega) (by omega))) (fun r31 w32 h33 => ?_)
              obtain ⟨z34, rfl, q35, q35a, q35b⟩ := h33
              have f36 : e_fr mL w w32 := e_fr.trans j18 (e_fr.mono q35 (fun c k q => by exact q))
              have l37 : w32 286 a = w 286 a := f36 286 a no_51_0
              have l38 : w32 286 b = w 286 b := f36 286 b no_51_0
              have l39 : w32 276 (36 * a + 17) = w 276 (36 * a + 17) := f36 276 (36 * a + 17) no_51_1
              have l40 : w32 276 (36 * b + 17) = w 276 (36 * b + 17) := f36 276 (36 * b + 17) no_51_1
              show e_Ok 20 elay ecode eI (d + 1) 316 (43, [(0, (1, 275)), (1, (0, a)), (2, (0, u)), (3, (0, b)), (4, (0, m)), (5, (0, y1)), (6, (0, y2))], [(0, z34)], w32) _
              refine e_Ok.if1 rfl (fun h41 => ?_) (fun h41 => ?_)
              · replace h41 : (z34 : Int) = 0 := h41
                refine e_Ok.inc (z := y2 + 1) rfl rfl (by first | with_reducible rfl | omega) (by omega) ?_
                show e_Ok 20 elay ecode eI (d + 1) 316 (51, [(6, (0, y2 + 1)), (0, (1, 275)), (1, (0, a)), (2, (0, u)), (3, (0, b)), (4, (0, m)), (5, (0, y1))], [], w32) _
                refine e_Ok.run (t' := (16, [(6, (0, y2 + 1)), (0, (1, 275)), (1, (0, a)), (2, (0, u)), (3, (0, b)), (4, (0, m)), (5, (0, y1))], [], w32)) 1 rfl ?_
                refine e_Ok.sub eAlk (e_sub_of rfl ?_) (ih17 (y2 + 1) w32 ⟨f36, by omega⟩ (by omega))
                exact ⟨rfl, rfl, rfl, rfl, rfl, rfl, rfl, trivial⟩
              · replace h41 : (z34 : Int) ≠ 0 := (show ¬ ((z34 : Int) = 0) from h41)
                refine e_Ok.run (t' := (47, [(0, (1, 275)), (1, (0, a)), (2, (0, u)), (3, (0, b)), (4, (0, m)), (5, (0, y1)), (6, (0, y2))], [(0, 1)], w32)) 1 rfl ?_
                refine e_Ok.rets rfl rfl ?_
                exact ⟨_, rfl, f36, by omega, by omega⟩
        refine e_Ok.sub eAlk (e_sub_of rfl ?_) (hL16 (8 + 1 : Int).toNat 0 v1 ⟨j3, by omega⟩ (by omega))
        exact ⟨rfl, rfl, rfl, rfl, rfl, rfl, rfl, trivial⟩
  refine e_Ok.sub eAlk (e_sub_of rfl ?_) (hL1 (8 + 1 : Int).toNat 0 w ⟨(e_fr.refl w), by omega⟩ (by omega))
  exact ⟨rfl, rfl, rfl, rfl, rfl, rfl, trivial⟩
end
end
-- part 52
section
noncomputable section
theorem c_300 {d : Nat} {w : eW} (hT : e_Has mTy w) {a : Int} : e_Ok 20 elay ecode eI d 300 (0, [(0, (1, 275)), (1, (0, a))], [], w) (fun r w' => ∃ z : Int, r = [(0, z)] ∧ w = w' ∧ -2147483648 ≤ z ∧ z ≤ 2147483647) := by
  refine e_Ok.run (t' := (4, [(0, (1, 275)), (1, (0, a))], [(0, 4095), (0, a)], w)) 2 rfl ?_
  refine e_Ok.andm 4095 12 rfl (by decide) (fun z1 hz1 => ?_)
  replace hz1 : 0 ≤ z1 ∧ z1 ≤ 4095 := by omega
  refine e_Ok.run (t' := (10, [(2, (0, z1)), (0, (1, 275)), (1, (0, a))], [(0, 1024), (0, z1)], w)) 3 rfl ?_
  refine e_Ok.if2 rfl (fun h2 => ?_) (fun h2 => ?_)
  · replace h2 : (z1 : Int) > 1024 := h2
    refine e_Ok.run (t' := (26, [(2, (0, z1)), (0, (1, 275)), (1, (0, a))], [(0, 2048), (0, z1)], w)) 2 rfl ?_
    refine e_Ok.if2 rfl (fun h3 => ?_) (fun h3 => ?_)
    · replace h3 : (z1 : Int) > 2048 := h3
      refine e_Ok.run (t' := (46, [(2, (0, z1)), (0, (1, 275)), (1, (0, a))], [(0, 3072), (0, z1)], w)) 2 rfl ?_
      refine e_Ok.if2 rfl (fun h4 => ?_) (fun h4 => ?_)
      · replace h4 : (z1 : Int) > 3072 := h4
        refine e_Ok.run (t' := (64, [(2, (0, z1)), (0, (1, 275)), (1, (0, a))], [(1, 275)], w)) 1 rfl ?_
        refine e_Ok.getr (z := 320) rfl (el_o rfl) rfl rfl (e_Has.eq hT rfl) ⟨by decide, by decide⟩ ?_
        refine e_Ok.run (t' := (71, [(2, (0, z1)), (0, (1, 275)), (1, (0, a))], [(0, z1), (0, 4096), (1, 320)], w)) 2 rfl ?_
        refine e_Ok.sub' (z := -z1 + 4096) rfl (by first | with_reducible rfl | exact Int.add_comm _ _ | omega) (by omega) ?_
        have h5 := (e_Has.get hT (c := 320) (k := -z1 + 4096) (lo := (-2147483648)) (hi := 2147483647) rfl (by decide))
        refine e_Ok.ald (z := w 320 (-z1 + 4096)) rfl (el_o rfl) rfl (by omega) rfl (by first | exact e_bq h5 (by decide) (by decide) | omega) ?_
        refine e_Ok.anyU rfl (fun z6 z6a z6b => ?_)
        refine e_Ok.rets rfl rfl ?_
        exact ⟨_, rfl, rfl, by omega, by omega⟩
      · replace h4 : (z1 : Int) ≤ 3072 := Int.not_lt.mp (show ¬ ((z1 : Int) > 3072) from h4)
        refine e_Ok.run (t' := (50, [(2, (0, z1)), (0, (1, 275)), (1, (0, a))], [(1, 275)], w)) 1 rfl ?_
        refine e_Ok.getr (z := 320) rfl (el_o rfl) rfl rfl (e_Has.eq hT rfl) ⟨by decide, by decide⟩ ?_
        refine e_Ok.run (t' := (57, [(2, (0, z1)), (0, (1, 275)), (1, (0, a))], [(0, 2048), (0, z1), (1, 320)], w)) 2 rfl ?_
        refine e_Ok.sub' (z := z1 - 2048) rfl (by first | with_reducible rfl | exact Int.add_comm _ _ | omega) (by omega) ?_
        have h7 := (e_Has.get hT (c := 320) (k := z1 - 2048) (lo := (-2147483648)) (hi := 2147483647) rfl (by decide))
        refine e_Ok.ald (z := w 320 (z1 - 2048)) rfl (el_o rfl) rfl (by omega) rfl (by first | exact e_bq h7 (by decide) (by decide) | omega) ?_
        refine e_Ok.anyU rfl (fun z8 z8a z8b => ?_)
        refine e_Ok.run (t' := (74, [(2, (0, z1)), (0, (1, 275)), (1, (0, a))], [(0, z8)], w)) 1 rfl ?_
        refine e_Ok.rets rfl rfl ?_
        exact ⟨_, rfl, rfl, by omega, by omega⟩
    · replace h3 : (z1 : Int) ≤ 2048 := Int.not_lt.mp (show ¬ ((z1 : Int) > 2048) from h3)
      refine e_Ok.run (t' := (30, [(2, (0, z1)), (0, (1, 275)), (1, (0, a))], [(1, 275)], w)) 1 rfl ?_
      refine e_Ok.getr (z := 320) rfl (el_o rfl) rfl rfl (e_Has.eq hT rfl) ⟨by decide, by decide⟩ ?_
      refine e_Ok.run (t' := (37, [(2, (0, z1)), (0, (1, 275)), (1, (0, a))], [(0, z1), (0, 2048), (1, 320)], w)) 2 rfl ?_
      refine e_Ok.sub' (z := -z1 + 2048) rfl (by first | with_reducible rfl | exact Int.add_comm _ _ | omega) (by omega) ?_
      have h9 := (e_Has.get hT (c := 320) (k := -z1 + 2048) (lo := (-2147483648)) (hi := 2147483647) rfl (by decide))
      refine e_Ok.ald (z := w 320 (-z1 + 2048)) rfl (el_o rfl) rfl (by omega) rfl (by first | exact e_bq h9 (by decide) (by decide) | omega) ?_
      refine e_Ok.run (t' := (74, [(2, (0, z1)), (0, (1, 275)), (1, (0, a))], [(0, w 320 (-z1 + 2048))], w)) 1 rfl ?_
      refine e_Ok.rets rfl rfl ?_
      exact ⟨_, rfl, rfl, by omega, by omega⟩
  · replace h2 : (z1 : Int) ≤ 1024 := Int.not_lt.mp (show ¬ ((z1 : Int) > 1024) from h2)
    refine e_Ok.run (t' := (14, [(2, (0, z1)), (0, (1, 275)), (1, (0, a))], [(1, 275)], w)) 1 rfl ?_
    refine e_Ok.getr (z := 320) rfl (el_o rfl) rfl rfl (e_Has.eq hT rfl) ⟨by decide, by decide⟩ ?_
    refine e_Ok.run (t' := (18, [(2, (0, z1)), (0, (1, 275)), (1, (0, a))], [(0, z1), (1, 320)], w)) 1 rfl ?_
    have h10 := (e_Has.get hT (c := 320) (k := z1) (lo := (-2147483648)) (hi := 2147483647) rfl (by decide))
    refine e_Ok.ald (z := w 320 z1) rfl (el_o rfl) rfl (by omega) rfl (by first | exact e_bq h10 (by decide) (by decide) | omega) ?_
    refine e_Ok.run (t' := (74, [(2, (0, z1)), (0, (1, 275)), (1, (0, a))], [(0, w 320 z1)], w)) 1 rfl ?_
    refine e_Ok.rets rfl rfl ?_
    exact ⟨_, rfl, rfl, by omega, by omega⟩
theorem no_52_0 {t : Int} {k : Int} : ¬ mPt t 275 k := by unfold mPt; omega
theorem no_52_1 {t : Int} {k : Int} : ¬ mPt t 286 k := by unfold mPt; omega
theorem no_52_2 {t : Int} {k : Int} : ¬ mPt t 276 k := by unfold mPt; omega
theorem no_52_3 {t : Int} {k : Int} : ¬ mPt t 292 k := by unfold mPt; omega
theorem no_52_4 {t : Int} {k : Int} : ¬ mPt t 287 k := by unfold mPt; omega
theorem c_301_0 {d : Nat} (hd : 21 ≤ d) {w : eW} (hT : e_Has mTy w) {a : Int} (ha : 0 ≤ a ∧ a ≤ 3) : e_Ok 20 elay ecode eI d 301 (0, [(0, (1, 275)), (1, (0, a)), (2, (0, 0))], [], w) (fun r w' => r = [] ∧ e_fr (mPt (7 * a)) w w' ∧ e_pk2 w' (7 * a) (w 286 a)) := by
  obtain ⟨d, rfl⟩ : ∃ e, d = e + 1 := ⟨d - 1, by omega⟩
  have hja := (e_Has.get hT (c := 286) (k := a) (lo := 0) (hi := 6) rfl (by decide))
  refine e_Ok.run (t' := (1, [(0, (1, 275)), (1, (0, a)), (2, (0, 0))], [(0, 0)], w)) 1 rfl ?_
  refine e_Ok.if1 rfl (fun h1 => ?_) (fun h1 => ?_)
  · replace h1 : (0 : Int) = 0 := h1
    refine e_Ok.run (t' := (12, [(0, (1, 275)), (1, (0, a)), (2, (0, 0))], [(0, a), (0, 7)], w)) 2 rfl ?_
    refine e_Ok.mul (z := 7 * a) rfl (by first | with_reducible rfl | exact Int.add_comm _ _ | omega) (by omega) ?_
    refine e_Ok.run (t' := (18, [(3, (0, 7 * a)), (0, (1, 275)), (1, (0, a)), (2, (0, 0))], [(1, 275), (4, 1048576)], w)) 3 rfl ?_
    refine e_Ok.getr (z := 282) rfl (el_o rfl) rfl rfl (e_Has.eq hT rfl) ⟨by decide, by decide⟩ ?_
    refine e_Ok.run (t' := (22, [(3, (0, 7 * a)), (0, (1, 275)), (1, (0, a)), (2, (0, 0))], [(0, a), (1, 282), (4, 1048576)], w)) 1 rfl ?_
    have h2 := (e_Has.get hT (c := 282) (k := a) (lo := (-8000)) (hi := 8000) rfl (by decide))
    refine e_Ok.ald (z := w 282 a) rfl (el_o rfl) rfl (by omega) rfl (by first | exact e_bq h2 (by decide) (by decide) | omega) ?_
    refine e_Ok.run (t' := (24, [(3, (0, 7 * a)), (0, (1, 275)), (1, (0, a)), (2, (0, 0))], [(4, w 282 a), (4, 1048576)], w)) 1 rfl ?_
    refine e_Ok.mulL (z := 1048576 * w 282 a) rfl (by omega) (by omega) ?_
    refine e_Ok.run (t' := (31, [(4, (4, 1048576 * w 282 a)), (3, (0, 7 * a)), (0, (1, 275)), (1, (0, a)), (2, (0, 0))], [(1, 275), (4, 1048576)], w)) 3 rfl ?_
    refine e_Ok.getr (z := 283) rfl (el_o rfl) rfl rfl (e_Has.eq hT rfl) ⟨by decide, by decide⟩ ?_
    refine e_Ok.run (t' := (35, [(4, (4, 1048576 * w 282 a)), (3, (0, 7 * a)), (0, (1, 275)), (1, (0, a)), (2, (0, 0))], [(0, a), (1, 283), (4, 1048576)], w)) 1 rfl ?_
    have h4 := (e_Has.get hT (c := 283) (k := a) (lo := (-8000)) (hi := 8000) rfl (by decide))
    refine e_Ok.ald (z := w 283 a) rfl (el_o rfl) rfl (by omega) rfl (by first | exact e_bq h4 (by decide) (by decide) | omega) ?_
    refine e_Ok.run (t' := (37, [(4, (4, 1048576 * w 282 a)), (3, (0, 7 * a)), (0, (1, 275)), (1, (0, a)), (2, (0, 0))], [(4, w 283 a), (4, 1048576)], w)) 1 rfl ?_
    refine e_Ok.mulL (z := 1048576 * w 283 a) rfl (by omega) (by omega) ?_
    refine e_Ok.run (t' := (41, [(6, (4, 1048576 * w 283 a)), (4, (4, 1048576 * w 282 a)), (3, (0, 7 * a)), (0, (1, 275)), (1, (0, a)), (2, (0, 0))], [(1, 275)], w)) 2 rfl ?_
    refine e_Ok.getr (z := 284) rfl (el_o rfl) rfl rfl (e_Has.eq hT rfl) ⟨by decide, by decide⟩ ?_
    refine e_Ok.run (t' := (45, [(6, (4, 1048576 * w 283 a)), (4, (4, 1048576 * w 282 a)), (3, (0, 7 * a)), (0, (1, 275)), (1, (0, a)), (2, (0, 0))], [(0, a), (1, 284)], w)) 1 rfl ?_
    have h6 := (e_Has.get hT (c := 284) (k := a) (lo := 0) (hi := 4095) rfl (by decide))
    refine e_Ok.ald (z := w 284 a) rfl (el_o rfl) rfl (by omega) rfl (by first | exact e_bq h6 (by decide) (by decide) | omega) ?_
    refine e_Ok.run (t' := (49, [(8, (0, w 284 a)), (6, (4, 1048576 * w 283 a)), (4, (4, 1048576 * w 282 a)), (3, (0, 7 * a)), (0, (1, 275)), (1, (0, a)), (2, (0, 0))], [(1, 275)], w)) 2 rfl ?_
    refine e_Ok.getr (z := 321) rfl (el_o rfl) rfl rfl (e_Has.eq hT rfl) ⟨by decide, by decide⟩ ?_
    refine e_Ok.run (t' := (54, [(8, (0, w 284 a)), (6, (4, 1048576 * w 283 a)), (4, (4, 1048576 * w 282 a)), (3, (0, 7 * a)), (0, (1, 275)), (1, (0, a)), (2, (0, 0))], [(1, 275), (0, 7 * a), (1, 321)], w)) 2 rfl ?_
    refine e_Ok.getr (z := 282) rfl (el_o rfl) rfl rfl (e_Has.eq hT rfl) ⟨by decide, by decide⟩ ?_
    refine e_Ok.run (t' := (58, [(8, (0, w 284 a)), (6, (4, 1048576 * w 283 a)), (4, (4, 1048576 * w 282 a)), (3, (0, 7 * a)), (0, (1, 275)), (1, (0, a)), (2, (0, 0))], [(0, a), (1, 282), (0, 7 * a), (1, 321)], w)) 1 rfl ?_
    refine e_Ok.ald (z := w 282 a) rfl (el_o rfl) rfl (by omega) rfl (by omega) ?_
    refine e_Ok.ast rfl (el_o rfl) rfl rfl (by omega) ?_
    generalize hw7 : e_up w 321 (7 * a) (w 282 a) = w7
    have f8 : e_fr (mPt (7 * a)) w w7 := e_fr.up (e_fr.refl w) hw7 (by first | exact ⟨Or.inl rfl, ⟨(by omega), (by omega)⟩⟩ | (unfold mPt; omega))
    refine e_Ok.run (t' := (61, [(8, (0, w 284 a)), (6, (4, 1048576 * w 283 a)), (4, (4, 1048576 * w 282 a)), (3, (0, 7 * a)), (0, (1, 275)), (1, (0, a)), (2, (0, 0))], [(1, 275)], w7)) 1 rfl ?_
    refine e_Ok.getr (z := 322) rfl (el_o rfl) rfl rfl (e_uq hw7 (Or.inl (by first | decide | exact e_neo (by decide) | exact e_ne1 (by decide) | exact e_ne2 (by decide) | omega)) (e_Has.eq hT rfl)) ⟨by decide, by decide⟩ ?_
    refine e_Ok.run (t' := (66, [(8, (0, w 284 a)), (6, (4, 1048576 * w 283 a)), (4, (4, 1048576 * w 282 a)), (3, (0, 7 * a)), (0, (1, 275)), (1, (0, a)), (2, (0, 0))], [(1, 275), (0, 7 * a), (1, 322)], w7)) 2 rfl ?_
    refine e_Ok.getr (z := 283) rfl (el_o rfl) rfl rfl (e_uq hw7 (Or.inl (by first | decide | exact e_neo (by decide) | exact e_ne1 (by decide) | exact e_ne2 (by decide) | omega)) (e_Has.eq hT rfl)) ⟨by decide, by decide⟩ ?_
    refine e_Ok.run (t' := (70, [(8, (0, w 284 a)), (6, (4, 1048576 * w 283 a)), (4, (4, 1048576 * w 282 a)), (3, (0, 7 * a)), (0, (1, 275)), (1, (0, a)), (2, (0, 0))], [(0, a), (1, 283), (0, 7 * a), (1, 322)], w7)) 1 rfl ?_
    refine e_Ok.ald (z := w 283 a) rfl (el_o rfl) rfl (by omega) (e_uq hw7 (Or.inl (by first | decide | exact e_neo (by decide) | exact e_ne1 (by decide) | exact e_ne2 (by decide) | omega)) rfl) (by omega) ?_
    refine e_Ok.ast rfl (el_o rfl) rfl rfl (by omega) ?_
    generalize hw9 : e_up w7 322 (7 * a) (w 283 a) = w9
    have f10 : e_fr (mPt (7 * a)) w w9 := e_fr.up f8 hw9 (by first | exact ⟨Or.inr rfl, ⟨(by omega), (by omega)⟩⟩ | (unfold mPt; omega))
    refine e_Ok.run (t' := (75, [(9, (0, 0)), (8, (0, w 284 a)), (6, (4, 1048576 * w 283 a)), (4, (4, 1048576 * w 282 a)), (3, (0, 7 * a)), (0, (1, 275)), (1, (0, a)), (2, (0, 0))], [], w9)) 2 rfl ?_
    have hL11 : ∀ (n : Nat) (y4 : Int) (y6 : Int) (y8 : Int) (y9 : Int) (v1 : eW), e_fr (mPt (7 * a)) w v1 ∧ e_kn v1 321 (7 * a) (7 * a + y9) ∧ e_kn v1 322 (7 * a) (7 * a + y9) ∧ 0 ≤ y9 ∧ y9 ≤ 6 → 7 - y9 < n → e_Ok 20 elay ecode eI (d + 1) 301 (75, [(0, (1, 275)), (1, (0, a)), (2, (0, 0)), (3, (0, 7 * a)), (4, (4, y4)), (6, (4, y6)), (8, (0, y8)), (9, (0, y9))], [], v1) (fun r w' => r = [] ∧ e_fr (mPt (7 * a)) w w' ∧ e_pk2 w' (7 * a) (w 286 a)) := by
      intro n
      induction n with
      | zero => intro y4 y6 y8 y9 v1 hj hm; obtain ⟨j13, j14, j15, j16⟩ := hj; exfalso; omega
      | succ n ih12 =>
        intro y4 y6 y8 y9 v1 hj hm
        obtain ⟨j13, j14, j15, j16⟩ := hj
        refine e_Ok.run (t' := (78, [(0, (1, 275)), (1, (0, a)), (2, (0, 0)), (3, (0, 7 * a)), (4, (4, y4)), (6, (4, y6)), (8, (0, y8)), (9, (0, y9))], [(1, 275), (0, y9)], v1)) 2 rfl ?_
        refine e_Ok.getr (z := 286) rfl (el_o rfl) rfl rfl ((j13 275 15 (by first | exact no_52_0 | (unfold mPt; omega))).trans (e_Has.eq hT rfl)) ⟨by decide, by decide⟩ ?_
        refine e_Ok.run (t' := (82, [(0, (1, 275)), (1, (0, a)), (2, (0, 0)), (3, (0, 7 * a)), (4, (4, y4)), (6, (4, y6)), (8, (0, y8)), (9, (0, y9))], [(0, a), (1, 286), (0, y9)], v1)) 1 rfl ?_
        have h17 := (e_Has.get hT (c := 286) (k := a) (lo := 0) (hi := 6) rfl (by decide))
        refine e_Ok.ald (z := w 286 a) rfl (el_o rfl) rfl (by omega) ((j13 286 a (by first | exact no_52_1 | (unfold mPt; omega))).trans rfl) (by first | exact e_bq h17 (by decide) (by decide) | omega) ?_
        refine e_Ok.if2 rfl (fun h18 => ?_) (fun h18 => ?_)
        · replace h18 : (y9 : Int) ≥ w 286 a := h18
          refine e_Ok.rets rfl rfl ?_
          exact ⟨rfl, j13, e_kn_sub j14 (by omega) (by omega), e_kn_sub j15 (by omega) (by omega)⟩
        · replace h18 : (y9 : Int) < w 286 a := Int.not_le.mp (show ¬ ((y9 : Int) ≥ w 286 a) from h18)
          refine e_Ok.run (t' := (87, [(0, (1, 275)), (1, (0, a)), (2, (0, 0)), (3, (0, 7 * a)), (4, (4, y4)), (6, (4, y6)), (8, (0, y8)), (9, (0, y9))], [(0, 0)], v1)) 1 rfl ?_
          refine e_Ok.if1 rfl (fun h19 => ?_) (fun h19 => ?_)
          · replace h19 : (0 : Int) = 0 := h19
            refine e_Ok.run (t' := (101, [(0, (1, 275)), (1, (0, a)), (2, (0, 0)), (3, (0, 7 * a)), (4, (4, y4)), (6, (4, y6)), (8, (0, y8)), (9, (0, y9))], [(1, 275)], v1)) 1 rfl ?_
            refine e_Ok.getr (z := 276) rfl (el_o rfl) rfl rfl ((j13 275 0 (by first | exact no_52_0 | (unfold mPt; omega))).trans (e_Has.eq hT rfl)) ⟨by decide, by decide⟩ ?_
            refine e_Ok.run (t' := (105, [(0, (1, 275)), (1, (0, a)), (2, (0, 0)), (3, (0, 7 * a)), (4, (4, y4)), (6, (4, y6)), (8, (0, y8)), (9, (0, y9))], [(0, a), (1, 276)], v1)) 1 rfl ?_
            refine e_Ok.callS rfl (by first | exact e_dq hd rfl | omega) rfl rfl (c_268 (by omega)) (fun r20 w21 h22 => ?_)
            obtain ⟨rfl, rfl⟩ := h22
            show e_Ok 20 elay ecode eI (d + 1) 301 (108, [(0, (1, 275)), (1, (0, a)), (2, (0, 0)), (3, (0, 7 * a)), (4, (4, y4)), (6, (4, y6)), (8, (0, y8)), (9, (0, y9))], [(0, 36 * a + 16), (1, 276)], v1) _
            refine e_Ok.run (t' := (110, [(0, (1, 275)), (1, (0, a)), (2, (0, 0)), (3, (0, 7 * a)), (4, (4, y4)), (6, (4, y6)), (8, (0, y8)), (9, (0, y9))], [(0, 16), (0, 36 * a + 16), (1, 276)], v1)) 1 rfl ?_
            refine e_Ok.add (z := 36 * a + 32) rfl (by first | with_reducible rfl | exact Int.add_comm _ _ | omega) (by omega) ?_
            refine e_Ok.run (t' := (113, [(0, (1, 275)), (1, (0, a)), (2, (0, 0)), (3, (0, 7 * a)), (4, (4, y4)), (6, (4, y6)), (8, (0, y8)), (9, (0, y9))], [(0, y9), (0, 36 * a + 32), (1, 276)], v1)) 1 rfl ?_
            refine e_Ok.add (z := 36 * a + y9 + 32) rfl (by first | with_reducible rfl | exact Int.add_comm _ _ | omega) (by omega) ?_
            have h23 := (e_Has.get hT (c := 276) (k := 36 * a + y9 + 32) (lo := (-100000)) (hi := 100000) (nR_VALUE (a := a) (j := y9) (by omega) (by omega)) (by decide))
            refine e_Ok.ald (z := w 276 (36 * a + y9 + 32)) rfl (el_o rfl) rfl (by omega) ((j13 276 (36 * a + y9 + 32) (by first | exact no_52_2 | (unfold mPt; omega))).trans rfl) (by first | exact e_bq h23 (by decide) (by decide) | omega) ?_
            refine e_Ok.run (t' := (118, [(10, (0, w 276 (36 * a + y9 + 32))), (0, (1, 275)), (1, (0, a)), (2, (0, 0)), (3, (0, 7 * a)), (4, (4, y4)), (6, (4, y6)), (8, (0, y8)), (9, (0, y9))], [(1, 275)], v1)) 2 rfl ?_
            refine e_Ok.getr (z := 292) rfl (el_o rfl) rfl rfl ((j13 275 21 (by first | exact no_52_0 | (unfold mPt; omega))).trans (e_Has.eq hT rfl)) ⟨by decide, by decide⟩ ?_
            refine e_Ok.run (t' := (124, [(10, (0, w 276 (36 * a + y9 + 32))), (0, (1, 275)), (1, (0, a)), (2, (0, 0)), (3, (0, 7 * a)), (4, (4, y4)), (6, (4, y6)), (8, (0, y8)), (9, (0, y9))], [(0, a), (0, 6), (1, 292)], v1)) 2 rfl ?_
            refine e_Ok.mul (z := 6 * a) rfl (by first | with_reducible rfl | exact Int.add_comm _ _ | omega) (by omega) ?_
            refine e_Ok.run (t' := (127, [(10, (0, w 276 (36 * a + y9 + 32))), (0, (1, 275)), (1, (0, a)), (2, (0, 0)), (3, (0, 7 * a)), (4, (4, y4)), (6, (4, y6)), (8, (0, y8)), (9, (0, y9))], [(0, y9), (0, 6 * a), (1, 292)], v1)) 1 rfl ?_
            refine e_Ok.add (z := 6 * a + y9) rfl (by first | with_reducible rfl | exact Int.add_comm _ _ | omega) (by omega) ?_
            have h24 := (e_Has.get hT (c := 292) (k := 6 * a + y9) (lo := 0) (hi := 8000) rfl (by decide))
            refine e_Ok.ald (z := w 292 (6 * a + y9)) rfl (el_o rfl) rfl (by omega) ((j13 292 (6 * a + y9) (by first | exact no_52_3 | (unfold mPt; omega))).trans rfl) (by first | exact e_bq h24 (by decide) (by decide) | omega) ?_
            refine e_Ok.run (t' := (132, [(11, (0, w 292 (6 * a + y9))), (10, (0, w 276 (36 * a + y9 + 32))), (0, (1, 275)), (1, (0, a)), (2, (0, 0)), (3, (0, 7 * a)), (4, (4, y4)), (6, (4, y6)), (8, (0, y8)), (9, (0, y9))], [(1, 275)], v1)) 2 rfl ?_
            refine e_Ok.getr (z := 287) rfl (el_o rfl) rfl rfl ((j13 275 16 (by first | exact no_52_0 | (unfold mPt; omega))).trans (e_Has.eq hT rfl)) ⟨by decide, by decide⟩ ?_
            refine e_Ok.run (t' := (138, [(11, (0, w 292 (6 * a + y9))), (10, (0, w 276 (36 * a + y9 + 32))), (0, (1, 275)), (1, (0, a)), (2, (0, 0)), (3, (0, 7 * a)), (4, (4, y4)), (6, (4, y6)), (8, (0, y8)), (9, (0, y9))], [(0, a), (0, 6), (1, 287)], v1)) 2 rfl ?_
            refine e_Ok.mul (z := 6 * a) rfl (by first | with_reducible rfl | exact Int.add_comm _ _ | omega) (by omega) ?_
            refine e_Ok.run (t' := (141, [(11, (0, w 292 (6 * a + y9))), (10, (0, w 276 (36 * a + y9 + 32))), (0, (1, 275)), (1, (0, a)), (2, (0, 0)), (3, (0, 7 * a)), (4, (4, y4)), (6, (4, y6)), (8, (0, y8)), (9, (0, y9))], [(0, y9), (0, 6 * a), (1, 287)], v1)) 1 rfl ?_
            refine e_Ok.add (z := 6 * a + y9) rfl (by first | with_reducible rfl | exact Int.add_comm _ _ | omega) (by omega) ?_
            have h25 := (e_Has.get hT (c := 287) (k := 6 * a + y9) (lo := 0) (hi := 1) rfl (by decide))
            refine e_Ok.ald (z := w 287 (6 * a + y9)) rfl (el_o rfl) rfl (by omega) ((j13 287 (6 * a + y9) (by first | exact no_52_4 | (unfold mPt; omega))).trans rfl) (by first | exact e_bq h25 (by decide) (by decide) | omega) ?_
            refine e_Ok.run (t' := (144, [(11, (0, w 292 (6 * a + y9))), (10, (0, w 276 (36 * a + y9 + 32))), (0, (1, 275)), (1, (0, a)), (2, (0, 0)), (3, (0, 7 * a)), (4, (4, y4)), (6, (4, y6)), (8, (0, y8)), (9, (0, y9))], [(0, 1), (0, w 287 (6 * a + y9))], v1)) 1 rfl ?_
            refine e_Ok.if2 rfl (fun h26 => ?_) (fun h26 => ?_)
            · replace h26 : (w 287 (6 * a + y9) : Int) ≠ 1 := h26
              refine e_Ok.run (t' := (161, [(11, (0, w 292 (6 * a + y9))), (10, (0, w 276 (36 * a + y9 + 32))), (0, (1, 275)), (1, (0, a)), (2, (0, 0)), (3, (0, 7 * a)), (4, (4, y4)), (6, (4, y6)), (8, (0, y8)), (9, (0, y9))], [(0, w 276 (36 * a + y9 + 32)), (0, w 292 (6 * a + y9))], v1)) 2 rfl ?_
              refine e_Ok.add (z := w 292 (6 * a + y9) + w 276 (36 * a + y9 + 32)) rfl (by first | with_reducible rfl | exact Int.add_comm _ _ | omega) (by omega) ?_
              refine e_Ok.run (t' := (175, [(11, (0, w 292 (6 * a + y9) + w 276 (36 * a + y9 + 32))), (10, (0, w 276 (36 * a + y9 + 32))), (0, (1, 275)), (1, (0, a)), (2, (0, 0)), (3, (0, 7 * a)), (4, (4, y4)), (6, (4, y6)), (8, (0, y8)), (9, (0, y9))], [(0, 1024), (0, y8), (1, 275), (4, w 292 (6 * a + y9) + w 276 (36 * a + y9 + 32)), (4, y4)], v1)) 7 rfl ?_
              refine e_Ok.any rfl (eF_add_any _ _) (fun z27 z27a z27b => ?_)
              refine e_Ok.callV rfl (by first | exact e_dq hd rfl | omega) rfl rfl rfl rfl (c_300 (mT_Pt j13 hT)) (fun r28 w29 h30 => ?_)
              obtain ⟨z31, rfl, rfl, q32a, q32b⟩ := h30
              show e_Ok 20 elay ecode eI (d + 1) 301 (179, [(11, (0, w 292 (6 * a + y9) + w 276 (36 * a + y9 + 32))), (10, (0, w 276 (36 * a + y9 + 32))), (0, (1, 275)), (1, (0, a)), (2, (0, 0)), (3, (0, 7 * a)), (4, (4, y4)), (6, (4, y6)), (8, (0, y8)), (9, (0, y9))], [(0, z31), (4, w 292 (6 * a + y9) + w 276 (36 * a + y9 + 32)), (4, y4)], v1) _
              refine e_Ok.run (t' := (180, [(11, (0, w 292 (6 * a + y9) + w 276 (36 * a + y9 + 32))), (10, (0, w 276 (36 * a + y9 + 32))), (0, (1, 275)), (1, (0, a)), (2, (0, 0)), (3, (0, 7 * a)), (4, (4, y4)), (6, (4, y6)), (8, (0, y8)), (9, (0, y9))], [(4, z31), (4, w 292 (6 * a + y9) + w 276 (36 * a + y9 + 32)), (4, y4)], v1)) 1 rfl ?_
              refine e_Ok.anyL rfl ⟨_, rfl⟩ (fun x33 => ?_)
              refine e_Ok.anyL rfl ⟨_, rfl⟩ (fun x34 => ?_)
              refine e_Ok.run (t' := (192, [(4, (4, x34)), (11, (0, w 292 (6 * a + y9) + w 276 (36 * a + y9 + 32))), (10, (0, w 276 (36 * a + y9 + 32))), (0, (1, 275)), (1, (0, a)), (2, (0, 0)), (3, (0, 7 * a)), (6, (4, y6)), (8, (0, y8)), (9, (0, y9))], [(0, y8), (1, 275), (4, w 292 (6 * a + y9) + w 276 (36 * a + y9 + 32)), (4, y6)], v1)) 6 rfl ?_
              refine e_Ok.callV rfl (by first | exact e_dq hd rfl | omega) rfl rfl rfl rfl (c_300 (mT_Pt j13 hT)) (fun r35 w36 h37 => ?_)
              obtain ⟨z38, rfl, rfl, q39a, q39b⟩ := h37
              show e_Ok 20 elay ecode eI (d + 1) 301 (195, [(4, (4, x34)), (11, (0, w 292 (6 * a + y9) + w 276 (36 * a + y9 + 32))), (10, (0, w 276 (36 * a + y9 + 32))), (0, (1, 275)), (1, (0, a)), (2, (0, 0)), (3, (0, 7 * a)), (6, (4, y6)), (8, (0, y8)), (9, (0, y9))], [(0, z38), (4, w 292 (6 * a + y9) + w 276 (36 * a + y9 + 32)), (4, y6)], v1) _
              refine e_Ok.run (t' := (196, [(4, (4, x34)), (11, (0, w 292 (6 * a + y9) + w 276 (36 * a + y9 + 32))), (10, (0, w 276 (36 * a + y9 + 32))), (0, (1, 275)), (1, (0, a)), (2, (0, 0)), (3, (0, 7 * a)), (6, (4, y6)), (8, (0, y8)), (9, (0, y9))], [(4, z38), (4, w 292 (6 * a + y9) + w 276 (36 * a + y9 + 32)), (4, y6)], v1)) 1 rfl ?_
              refine e_Ok.anyL rfl ⟨_, rfl⟩ (fun x40 => ?_)
              refine e_Ok.anyL rfl ⟨_, rfl⟩ (fun x41 => ?_)
              refine e_Ok.run (t' := (201, [(6, (4, x41)), (4, (4, x34)), (11, (0, w 292 (6 * a + y9) + w 276 (36 * a + y9 + 32))), (10, (0, w 276 (36 * a + y9 + 32))), (0, (1, 275)), (1, (0, a)), (2, (0, 0)), (3, (0, 7 * a)), (8, (0, y8)), (9, (0, y9))], [(1, 275)], v1)) 2 rfl ?_
              refine e_Ok.getr (z := 321) rfl (el_o rfl) rfl rfl ((j13 275 55 (by first | exact no_52_0 | (unfold mPt; omega))).trans (e_Has.eq hT rfl)) ⟨by decide, by decide⟩ ?_
              refine e_Ok.run (t' := (207, [(6, (4, x41)), (4, (4, x34)), (11, (0, w 292 (6 * a + y9) + w 276 (36 * a + y9 + 32))), (10, (0, w 276 (36 * a + y9 + 32))), (0, (1, 275)), (1, (0, a)), (2, (0, 0)), (3, (0, 7 * a)), (8, (0, y8)), (9, (0, y9))], [(0, y9), (0, 7 * a), (1, 321)], v1)) 2 rfl ?_
              refine e_Ok.add (z := 7 * a + y9) rfl (by first | with_reducible rfl | exact Int.add_comm _ _ | omega) (by omega) ?_
              refine e_Ok.run (t' := (209, [(6, (4, x41)), (4, (4, x34)), (11, (0, w 292 (6 * a + y9) + w 276 (36 * a + y9 + 32))), (10, (0, w 276 (36 * a + y9 + 32))), (0, (1, 275)), (1, (0, a)), (2, (0, 0)), (3, (0, 7 * a)), (8, (0, y8)), (9, (0, y9))], [(0, 1), (0, 7 * a + y9), (1, 321)], v1)) 1 rfl ?_
              refine e_Ok.add (z := 7 * a + y9 + 1) rfl (by first | with_reducible rfl | exact Int.add_comm _ _ | omega) (by omega) ?_
              refine e_Ok.run (t' := (215, [(6, (4, x41)), (4, (4, x34)), (11, (0, w 292 (6 * a + y9) + w 276 (36 * a + y9 + 32))), (10, (0, w 276 (36 * a + y9 + 32))), (0, (1, 275)), (1, (0, a)), (2, (0, 0)), (3, (0, 7 * a)), (8, (0, y8)), (9, (0, y9))], [(4, 524288), (4, x34), (0, 7 * a + y9 + 1), (1, 321)], v1)) 2 rfl ?_
              refine e_Ok.anyL rfl ⟨_, rfl⟩ (fun x42 => ?_)
              refine e_Ok.run (t' := (218, [(6, (4, x41)), (4, (4, x34)), (11, (0, w 292 (6 * a + y9) + w 276 (36 * a + y9 + 32))), (10, (0, w 276 (36 * a + y9 + 32))), (0, (1, 275)), (1, (0, a)), (2, (0, 0)), (3, (0, 7 * a)), (8, (0, y8)), (9, (0, y9))], [(0, 20), (4, x42), (0, 7 * a + y9 + 1), (1, 321)], v1)) 1 rfl ?_
              refine e_Ok.anyS rfl ⟨_, rfl⟩ (fun x43 => ?_)
              refine e_Ok.l2i rfl (fun z44 z44a z44b => ?_)
              refine e_Ok.ast rfl (el_o rfl) rfl rfl (by omega) ?_
              generalize hw45 : e_up v1 321 (7 * a + y9 + 1) z44 = w45
              have f46 : e_fr (mPt (7 * a)) w w45 := e_fr.up j13 hw45 (by unfold mPt; omega)
              refine e_Ok.run (t' := (222, [(6, (4, x41)), (4, (4, x34)), (11, (0, w 292 (6 * a + y9) + w 276 (36 * a + y9 + 32))), (10, (0, w 276 (36 * a + y9 + 32))), (0, (1, 275)), (1, (0, a)), (2, (0, 0)), (3, (0, 7 * a)), (8, (0, y8)), (9, (0, y9))], [(1, 275)], w45)) 1 rfl ?_
              refine e_Ok.getr (z := 322) rfl (el_o rfl) rfl rfl (e_uq hw45 (Or.inl (by first | decide | exact e_neo (by decide) | exact e_ne1 (by decide) | exact e_ne2 (by decide) | omega)) ((j13 275 56 (by first | exact no_52_0 | (unfold mPt; omega))).trans (e_Has.eq hT rfl))) ⟨by decide, by decide⟩ ?_
              refine e_Ok.run (t' := (228, [(6, (4, x41)), (4, (4, x34)), (11, (0, w 292 (6 * a + y9) + w 276 (36 * a + y9 + 32))), (10, (0, w 276 (36 * a + y9 + 32))), (0, (1, 275)), (1, (0, a)), (2, (0, 0)), (3, (0, 7 * a)), (8, (0, y8)), (9, (0, y9))], [(0, y9), (0, 7 * a), (1, 322)], w45)) 2 rfl ?_
              refine e_Ok.add (z := 7 * a + y9) rfl (by first | with_reducible rfl | exact Int.add_comm _ _ | omega) (by omega) ?_
              refine e_Ok.run (t' := (230, [(6, (4, x41)), (4, (4, x34)), (11, (0, w 292 (6 * a + y9) + w 276 (36 * a + y9 + 32))), (10, (0, w 276 (36 * a + y9 + 32))), (0, (1, 275)), (1, (0, a)), (2, (0, 0)), (3, (0, 7 * a)), (8, (0, y8)), (9, (0, y9))], [(0, 1), (0, 7 * a + y9), (1, 322)], w45)) 1 rfl ?_
              refine e_Ok.add (z := 7 * a + y9 + 1) rfl (by first | with_reducible rfl | exact Int.add_comm _ _ | omega) (by omega) ?_
              refine e_Ok.run (t' := (236, [(6, (4, x41)), (4, (4, x34)), (11, (0, w 292 (6 * a + y9) + w 276 (36 * a + y9 + 32))), (10, (0, w 276 (36 * a + y9 + 32))), (0, (1, 275)), (1, (0, a)), (2, (0, 0)), (3, (0, 7 * a)), (8, (0, y8)), (9, (0, y9))], [(4, 524288), (4, x41), (0, 7 * a + y9 + 1), (1, 322)], w45)) 2 rfl ?_
              refine e_Ok.anyL rfl ⟨_, rfl⟩ (fun x47 => ?_)
              refine e_Ok.run (t' := (239, [(6, (4, x41)), (4, (4, x34)), (11, (0, w 292 (6 * a + y9) + w 276 (36 * a + y9 + 32))), (10, (0, w 276 (36 * a + y9 + 32))), (0, (1, 275)), (1, (0, a)), (2, (0, 0)), (3, (0, 7 * a)), (8, (0, y8)), (9, (0, y9))], [(0, 20), (4, x47), (0, 7 * a + y9 + 1), (1, 322)], w45)) 1 rfl ?_
              refine e_Ok.anyS rfl ⟨_, rfl⟩ (fun x48 => ?_)
              refine e_Ok.l2i rfl (fun z49 z49a z49b => ?_)
              refine e_Ok.ast rfl (el_o rfl) rfl rfl (by omega) ?_
              generalize hw50 : e_up w45 322 (7 * a + y9 + 1) z49 = w50
              have f51 : e_fr (mPt (7 * a)) w w50 := e_fr.up f46 hw50 (by unfold mPt; omega)
              refine e_Ok.inc (z := y9 + 1) rfl rfl (by first | with_reducible rfl | omega) (by omega) ?_
              show e_Ok 20 elay ecode eI (d + 1) 301 (245, [(9, (0, y9 + 1)), (6, (4, x41)), (4, (4, x34)), (11, (0, w 292 (6 * a + y9) + w 276 (36 * a + y9 + 32))), (10, (0, w 276 (36 * a + y9 + 32))), (0, (1, 275)), (1, (0, a)), (2, (0, 0)), (3, (0, 7 * a)), (8, (0, y8))], [], w50) _
              refine e_Ok.run (t' := (75, [(9, (0, y9 + 1)), (6, (4, x41)), (4, (4, x34)), (11, (0, w 292 (6 * a + y9) + w 276 (36 * a + y9 + 32))), (10, (0, w 276 (36 * a + y9 + 32))), (0, (1, 275)), (1, (0, a)), (2, (0, 0)), (3, (0, 7 * a)), (8, (0, y8))], [], w50)) 1 rfl ?_
              refine e_Ok.sub eAlk (e_sub_of rfl ?_) (ih12 x34 x41 y8 (y9 + 1) w50 ⟨f51, (e_kn_sub (e_kn.oth (e_kn.ext j14 hw45 (by omega) (by omega)) hw50 (by decide)) (by omega) (by omega)), (e_kn_sub (e_kn.ext (e_kn.oth j15 hw45 (by decide)) hw50 (by omega) (by omega)) (by omega) (by omega)), by omega⟩ (by omega))
              exact ⟨rfl, rfl, rfl, rfl, rfl, rfl, rfl, rfl, trivial⟩
            · replace h26 : (w 287 (6 * a + y9) : Int) = 1 := Classical.not_not.mp (show ¬ ((w 287 (6 * a + y9) : Int) ≠ 1) from h26)
              refine e_Ok.run (t' := (151, [(11, (0, w 292 (6 * a + y9))), (10, (0, w 276 (36 * a + y9 + 32))), (0, (1, 275)), (1, (0, a)), (2, (0, 0)), (3, (0, 7 * a)), (4, (4, y4)), (6, (4, y6)), (8, (0, y8)), (9, (0, y9))], [(0, w 276 (36 * a + y9 + 32)), (0, y8)], v1)) 2 rfl ?_
              refine e_Ok.any rfl (eF_add_any _ _) (fun z52 z52a z52b => ?_)
              refine e_Ok.run (t' := (175, [(8, (0, z52)), (11, (0, w 292 (6 * a + y9))), (10, (0, w 276 (36 * a + y9 + 32))), (0, (1, 275)), (1, (0, a)), (2, (0, 0)), (3, (0, 7 * a)), (4, (4, y4)), (6, (4, y6)), (9, (0, y9))], [(0, 1024), (0, z52), (1, 275), (4, w 292 (6 * a + y9)), (4, y4)], v1)) 8 rfl ?_
              refine e_Ok.any rfl (eF_add_any _ _) (fun z53 z53a z53b => ?_)
              refine e_Ok.callV rfl (by first | exact e_dq hd rfl | omega) rfl rfl rfl rfl (c_300 (mT_Pt j13 hT)) (fun r54 w55 h56 => ?_)
              obtain ⟨z57, rfl, rfl, q58a, q58b⟩ := h56
              show e_Ok 20 elay ecode eI (d + 1) 301 (179, [(8, (0, z52)), (11, (0, w 292 (6 * a + y9))), (10, (0, w 276 (36 * a + y9 + 32))), (0, (1, 275)), (1, (0, a)), (2, (0, 0)), (3, (0, 7 * a)), (4, (4, y4)), (6, (4, y6)), (9, (0, y9))], [(0, z57), (4, w 292 (6 * a + y9)), (4, y4)], v1) _
              refine e_Ok.run (t' := (180, [(8, (0, z52)), (11, (0, w 292 (6 * a + y9))), (10, (0, w 276 (36 * a + y9 + 32))), (0, (1, 275)), (1, (0, a)), (2, (0, 0)), (3, (0, 7 * a)), (4, (4, y4)), (6, (4, y6)), (9, (0, y9))], [(4, z57), (4, w 292 (6 * a + y9)), (4, y4)], v1)) 1 rfl ?_
              refine e_Ok.anyL rfl ⟨_, rfl⟩ (fun x59 => ?_)
              refine e_Ok.anyL rfl ⟨_, rfl⟩ (fun x60 => ?_)
              refine e_Ok.run (t' := (192, [(4, (4, x60)), (8, (0, z52)), (11, (0, w 292 (6 * a + y9))), (10, (0, w 276 (36 * a + y9 + 32))), (0, (1, 275)), (1, (0, a)), (2, (0, 0)), (3, (0, 7 * a)), (6, (4, y6)), (9, (0, y9))], [(0, z52), (1, 275), (4, w 292 (6 * a + y9)), (4, y6)], v1)) 6 rfl ?_
              refine e_Ok.callV rfl (by first | exact e_dq hd rfl | omega) rfl rfl rfl rfl (c_300 (mT_Pt j13 hT)) (fun r61 w62 h63 => ?_)
              obtain ⟨z64, rfl, rfl, q65a, q65b⟩ := h63
              show e_Ok 20 elay ecode eI (d + 1) 301 (195, [(4, (4, x60)), (8, (0, z52)), (11, (0, w 292 (6 * a + y9))), (10, (0, w 276 (36 * a + y9 + 32))), (0, (1, 275)), (1, (0, a)), (2, (0, 0)), (3, (0, 7 * a)), (6, (4, y6)), (9, (0, y9))], [(0, z64), (4, w 292 (6 * a + y9)), (4, y6)], v1) _
              refine e_Ok.run (t' := (196, [(4, (4, x60)), (8, (0, z52)), (11, (0, w 292 (6 * a + y9))), (10, (0, w 276 (36 * a + y9 + 32))), (0, (1, 275)), (1, (0, a)), (2, (0, 0)), (3, (0, 7 * a)), (6, (4, y6)), (9, (0, y9))], [(4, z64), (4, w 292 (6 * a + y9)), (4, y6)], v1)) 1 rfl ?_
              refine e_Ok.anyL rfl ⟨_, rfl⟩ (fun x66 => ?_)
              refine e_Ok.anyL rfl ⟨_, rfl⟩ (fun x67 => ?_)
              refine e_Ok.run (t' := (201, [(6, (4, x67)), (4, (4, x60)), (8, (0, z52)), (11, (0, w 292 (6 * a + y9))), (10, (0, w 276 (36 * a + y9 + 32))), (0, (1, 275)), (1, (0, a)), (2, (0, 0)), (3, (0, 7 * a)), (9, (0, y9))], [(1, 275)], v1)) 2 rfl ?_
              refine e_Ok.getr (z := 321) rfl (el_o rfl) rfl rfl ((j13 275 55 (by first | exact no_52_0 | (unfold mPt; omega))).trans (e_Has.eq hT rfl)) ⟨by decide, by decide⟩ ?_
              refine e_Ok.run (t' := (207, [(6, (4, x67)), (4, (4, x60)), (8, (0, z52)), (11, (0, w 292 (6 * a + y9))), (10, (0, w 276 (36 * a + y9 + 32))), (0, (1, 275)), (1, (0, a)), (2, (0, 0)), (3, (0, 7 * a)), (9, (0, y9))], [(0, y9), (0, 7 * a), (1, 321)], v1)) 2 rfl ?_
              refine e_Ok.add (z := 7 * a + y9) rfl (by first | with_reducible rfl | exact Int.add_comm _ _ | omega) (by omega) ?_
              refine e_Ok.run (t' := (209, [(6, (4, x67)), (4, (4, x60)), (8, (0, z52)), (11, (0, w 292 (6 * a + y9))), (10, (0, w 276 (36 * a + y9 + 32))), (0, (1, 275)), (1, (0, a)), (2, (0, 0)), (3, (0, 7 * a)), (9, (0, y9))], [(0, 1), (0, 7 * a + y9), (1, 321)], v1)) 1 rfl ?_
              refine e_Ok.add (z := 7 * a + y9 + 1) rfl (by first | with_reducible rfl | exact Int.add_comm _ _ | omega) (by omega) ?_
              refine e_Ok.run (t' := (215, [(6, (4, x67)), (4, (4, x60)), (8, (0, z52)), (11, (0, w 292 (6 * a + y9))), (10, (0, w 276 (36 * a + y9 + 32))), (0, (1, 275)), (1, (0, a)), (2, (0, 0)), (3, (0, 7 * a)), (9, (0, y9))], [(4, 524288), (4, x60), (0, 7 * a + y9 + 1), (1, 321)], v1)) 2 rfl ?_
              refine e_Ok.anyL rfl ⟨_, rfl⟩ (fun x68 => ?_)
              refine e_Ok.run (t' := (218, [(6, (4, x67)), (4, (4, x60)), (8, (0, z52)), (11, (0, w 292 (6 * a + y9))), (10, (0, w 276 (36 * a + y9 + 32))), (0, (1, 275)), (1, (0, a)), (2, (0, 0)), (3, (0, 7 * a)), (9, (0, y9))], [(0, 20), (4, x68), (0, 7 * a + y9 + 1), (1, 321)], v1)) 1 rfl ?_
              refine e_Ok.anyS rfl ⟨_, rfl⟩ (fun x69 => ?_)
              refine e_Ok.l2i rfl (fun z70 z70a z70b => ?_)
              refine e_Ok.ast rfl (el_o rfl) rfl rfl (by omega) ?_
              generalize hw71 : e_up v1 321 (7 * a + y9 + 1) z70 = w71
              have f72 : e_fr (mPt (7 * a)) w w71 := e_fr.up j13 hw71 (by unfold mPt; omega)
              refine e_Ok.run (t' := (222, [(6, (4, x67)), (4, (4, x60)), (8, (0, z52)), (11, (0, w 292 (6 * a + y9))), (10, (0, w 276 (36 * a + y9 + 32))), (0, (1, 275)), (1, (0, a)), (2, (0, 0)), (3, (0, 7 * a)), (9, (0, y9))], [(1, 275)], w71)) 1 rfl ?_
              refine e_Ok.getr (z := 322) rfl (el_o rfl) rfl rfl (e_uq hw71 (Or.inl (by first | decide | exact e_neo (by decide) | exact e_ne1 (by decide) | exact e_ne2 (by decide) | omega)) ((j13 275 56 (by first | exact no_52_0 | (unfold mPt; omega))).trans (e_Has.eq hT rfl))) ⟨by decide, by decide⟩ ?_
              refine e_Ok.run (t' := (228, [(6, (4, x67)), (4, (4, x60)), (8, (0, z52)), (11, (0, w 292 (6 * a + y9))), (10, (0, w 276 (36 * a + y9 + 32))), (0, (1, 275)), (1, (0, a)), (2, (0, 0)), (3, (0, 7 * a)), (9, (0, y9))], [(0, y9), (0, 7 * a), (1, 322)], w71)) 2 rfl ?_
              refine e_Ok.add (z := 7 * a + y9) rfl (by first | with_reducible rfl | exact Int.add_comm _ _ | omega) (by omega) ?_
              refine e_Ok.run (t' := (230, [(6, (4, x67)), (4, (4, x60)), (8, (0, z52)), (11, (0, w 292 (6 * a + y9))), (10, (0, w 276 (36 * a + y9 + 32))), (0, (1, 275)), (1, (0, a)), (2, (0, 0)), (3, (0, 7 * a)), (9, (0, y9))], [(0, 1), (0, 7 * a + y9), (1, 322)], w71)) 1 rfl ?_
              refine e_Ok.add (z := 7 * a + y9 + 1) rfl (by first | with_reducible rfl | exact Int.add_comm _ _ | omega) (by omega) ?_
              refine e_Ok.run (t' := (236, [(6, (4, x67)), (4, (4, x60)), (8, (0, z52)), (11, (0, w 292 (6 * a + y9))), (10, (0, w 276 (36 * a + y9 + 32))), (0, (1, 275)), (1, (0, a)), (2, (0, 0)), (3, (0, 7 * a)), (9, (0, y9))], [(4, 524288), (4, x67), (0, 7 * a + y9 + 1), (1, 322)], w71)) 2 rfl ?_
              refine e_Ok.anyL rfl ⟨_, rfl⟩ (fun x73 => ?_)
              refine e_Ok.run (t' := (239, [(6, (4, x67)), (4, (4, x60)), (8, (0, z52)), (11, (0, w 292 (6 * a + y9))), (10, (0, w 276 (36 * a + y9 + 32))), (0, (1, 275)), (1, (0, a)), (2, (0, 0)), (3, (0, 7 * a)), (9, (0, y9))], [(0, 20), (4, x73), (0, 7 * a + y9 + 1), (1, 322)], w71)) 1 rfl ?_
              refine e_Ok.anyS rfl ⟨_, rfl⟩ (fun x74 => ?_)
              refine e_Ok.l2i rfl (fun z75 z75a z75b => ?_)
              refine e_Ok.ast rfl (el_o rfl) rfl rfl (by omega) ?_
              generalize hw76 : e_up w71 322 (7 * a + y9 + 1) z75 = w76
              have f77 : e_fr (mPt (7 * a)) w w76 := e_fr.up f72 hw76 (by unfold mPt; omega)
              refine e_Ok.inc (z := y9 + 1) rfl rfl (by first | with_reducible rfl | omega) (by omega) ?_
              show e_Ok 20 elay ecode eI (d + 1) 301 (245, [(9, (0, y9 + 1)), (6, (4, x67)), (4, (4, x60)), (8, (0, z52)), (11, (0, w 292 (6 * a + y9))), (10, (0, w 276 (36 * a + y9 + 32))), (0, (1, 275)), (1, (0, a)), (2, (0, 0)), (3, (0, 7 * a))], [], w76) _
              refine e_Ok.run (t' := (75, [(9, (0, y9 + 1)), (6, (4, x67)), (4, (4, x60)), (8, (0, z52)), (11, (0, w 292 (6 * a + y9))), (10, (0, w 276 (36 * a + y9 + 32))), (0, (1, 275)), (1, (0, a)), (2, (0, 0)), (3, (0, 7 * a))], [], w76)) 1 rfl ?_
              refine e_Ok.sub eAlk (e_sub_of rfl ?_) (ih12 x60 x67 z52 (y9 + 1) w76 ⟨f77, (e_kn_sub (e_kn.oth (e_kn.ext j14 hw71 (by omega) (by omega)) hw76 (by decide)) (by omega) (by omega)), (e_kn_sub (e_kn.ext (e_kn.oth j15 hw71 (by decide)) hw76 (by omega) (by omega)) (by omega) (by omega)), by omega⟩ (by omega))
              exact ⟨rfl, rfl, rfl, rfl, rfl, rfl, rfl, rfl, trivial⟩
          · replace h19 : (0 : Int) ≠ 0 := (show ¬ ((0 : Int) = 0) from h19)
            exfalso; omega
    refine e_Ok.sub eAlk (e_sub_of rfl ?_) (hL11 (7 + 1 : Int).toNat (1048576 * w 282 a) (1048576 * w 283 a) (w 284 a) 0 w9 ⟨f10, (e_kn_sub (e_kn.oth (e_kn.one hw7 (by omega)) hw9 (by decide)) (by omega) (by omega)), (e_kn_sub (e_kn.one hw9 (by omega)) (by omega) (by omega)), by omega⟩ (by omega))
    exact ⟨rfl, rfl, rfl, rfl, rfl, rfl, rfl, rfl, trivial⟩
  · replace h1 : (0 : Int) ≠ 0 := (show ¬ ((0 : Int) = 0) from h1)
    exfalso; omega
theorem no_52_5 {t : Int} {k : Int} : ¬ mPt t 323 k := by unfold mPt; omega
theorem c_301_1 {d : Nat} (hd : 21 ≤ d) {w : eW} (hT : e_Has mTy w) {a : Int} (ha : 0 ≤ a ∧ a ≤ 3) (k1 : e_kn w 323 0 (w 286 a - 1)) : e_Ok 20 elay ecode eI d 301 (0, [(0, (1, 275)), (1, (0, a)), (2, (0, 1))], [], w) (fun r w' => r = [] ∧ e_fr (mPt (28)) w w' ∧ e_pk2 w' (28) (w 286 a)) := by
  obtain ⟨d, rfl⟩ : ∃ e, d = e + 1 := ⟨d - 1, by omega⟩
  have hja := (e_Has.get hT (c := 286) (k := a) (lo := 0) (hi := 6) rfl (by decide))
  refine e_Ok.run (t' := (1, [(0, (1, 275)), (1, (0, a)), (2, (0, 1))], [(0, 1)], w)) 1 rfl ?_
  refine e_Ok.if1 rfl (fun h1 => ?_) (fun h1 => ?_)
  · replace h1 : (1 : Int) = 0 := h1
    exfalso; omega
  · replace h1 : (1 : Int) ≠ 0 := (show ¬ ((1 : Int) = 0) from h1)
    refine e_Ok.run (t' := (18, [(3, (0, 28)), (0, (1, 275)), (1, (0, a)), (2, (0, 1))], [(1, 275), (4, 1048576)], w)) 5 rfl ?_
    refine e_Ok.getr (z := 282) rfl (el_o rfl) rfl rfl (e_Has.eq hT rfl) ⟨by decide, by decide⟩ ?_
    refine e_Ok.run (t' := (22, [(3, (0, 28)), (0, (1, 275)), (1, (0, a)), (2, (0, 1))], [(0, a), (1, 282), (4, 1048576)], w)) 1 rfl ?_
    have h2 := (e_Has.get hT (c := 282) (k := a) (lo := (-8000)) (hi := 8000) rfl (by decide))
    refine e_Ok.ald (z := w 282 a) rfl (el_o rfl) rfl (by omega) rfl (by first | exact e_bq h2 (by decide) (by decide) | omega) ?_
    refine e_Ok.run (t' := (24, [(3, (0, 28)), (0, (1, 275)), (1, (0, a)), (2, (0, 1))], [(4, w 282 a), (4, 1048576)], w)) 1 rfl ?_
    refine e_Ok.mulL (z := 1048576 * w 282 a) rfl (by omega) (by omega) ?_
    refine e_Ok.run (t' := (31, [(4, (4, 1048576 * w 282 a)), (3, (0, 28)), (0, (1, 275)), (1, (0, a)), (2, (0, 1))], [(1, 275), (4, 1048576)], w)) 3 rfl ?_
    refine e_Ok.getr (z := 283) rfl (el_o rfl) rfl rfl (e_Has.eq hT rfl) ⟨by decide, by decide⟩ ?_
    refine e_Ok.run (t' := (35, [(4, (4, 1048576 * w 282 a)), (3, (0, 28)), (0, (1, 275)), (1, (0, a)), (2, (0, 1))], [(0, a), (1, 283), (4, 1048576)], w)) 1 rfl ?_
    have h4 := (e_Has.get hT (c := 283) (k := a) (lo := (-8000)) (hi := 8000) rfl (by decide))
    refine e_Ok.ald (z := w 283 a) rfl (el_o rfl) rfl (by omega) rfl (by first | exact e_bq h4 (by decide) (by decide) | omega) ?_
    refine e_Ok.run (t' := (37, [(4, (4, 1048576 * w 282 a)), (3, (0, 28)), (0, (1, 275)), (1, (0, a)), (2, (0, 1))], [(4, w 283 a), (4, 1048576)], w)) 1 rfl ?_
    refine e_Ok.mulL (z := 1048576 * w 283 a) rfl (by omega) (by omega) ?_
    refine e_Ok.run (t' := (41, [(6, (4, 1048576 * w 283 a)), (4, (4, 1048576 * w 282 a)), (3, (0, 28)), (0, (1, 275)), (1, (0, a)), (2, (0, 1))], [(1, 275)], w)) 2 rfl ?_
    refine e_Ok.getr (z := 284) rfl (el_o rfl) rfl rfl (e_Has.eq hT rfl) ⟨by decide, by decide⟩ ?_
    refine e_Ok.run (t' := (45, [(6, (4, 1048576 * w 283 a)), (4, (4, 1048576 * w 282 a)), (3, (0, 28)), (0, (1, 275)), (1, (0, a)), (2, (0, 1))], [(0, a), (1, 284)], w)) 1 rfl ?_
    have h6 := (e_Has.get hT (c := 284) (k := a) (lo := 0) (hi := 4095) rfl (by decide))
    refine e_Ok.ald (z := w 284 a) rfl (el_o rfl) rfl (by omega) rfl (by first | exact e_bq h6 (by decide) (by decide) | omega) ?_
    refine e_Ok.run (t' := (49, [(8, (0, w 284 a)), (6, (4, 1048576 * w 283 a)), (4, (4, 1048576 * w 282 a)), (3, (0, 28)), (0, (1, 275)), (1, (0, a)), (2, (0, 1))], [(1, 275)], w)) 2 rfl ?_
    refine e_Ok.getr (z := 321) rfl (el_o rfl) rfl rfl (e_Has.eq hT rfl) ⟨by decide, by decide⟩ ?_
    refine e_Ok.run (t' := (54, [(8, (0, w 284 a)), (6, (4, 1048576 * w 283 a)), (4, (4, 1048576 * w 282 a)), (3, (0, 28)), (0, (1, 275)), (1, (0, a)), (2, (0, 1))], [(1, 275), (0, 28), (1, 321)], w)) 2 rfl ?_
    refine e_Ok.getr (z := 282) rfl (el_o rfl) rfl rfl (e_Has.eq hT rfl) ⟨by decide, by decide⟩ ?_
    refine e_Ok.run (t' := (58, [(8, (0, w 284 a)), (6, (4, 1048576 * w 283 a)), (4, (4, 1048576 * w 282 a)), (3, (0, 28)), (0, (1, 275)), (1, (0, a)), (2, (0, 1))], [(0, a), (1, 282), (0, 28), (1, 321)], w)) 1 rfl ?_
    refine e_Ok.ald (z := w 282 a) rfl (el_o rfl) rfl (by omega) rfl (by omega) ?_
    refine e_Ok.ast rfl (el_o rfl) rfl rfl (by omega) ?_
    generalize hw7 : e_up w 321 28 (w 282 a) = w7
    have f8 : e_fr (mPt (28)) w w7 := e_fr.up (e_fr.refl w) hw7 (by first | exact ⟨Or.inl rfl, ⟨(by decide), (by decide)⟩⟩ | (unfold mPt; omega))
    refine e_Ok.run (t' := (61, [(8, (0, w 284 a)), (6, (4, 1048576 * w 283 a)), (4, (4, 1048576 * w 282 a)), (3, (0, 28)), (0, (1, 275)), (1, (0, a)), (2, (0, 1))], [(1, 275)], w7)) 1 rfl ?_
    refine e_Ok.getr (z := 322) rfl (el_o rfl) rfl rfl (e_uq hw7 (Or.inl (by first | decide | exact e_neo (by decide) | exact e_ne1 (by decide) | exact e_ne2 (by decide) | omega)) (e_Has.eq hT rfl)) ⟨by decide, by decide⟩ ?_
    refine e_Ok.run (t' := (66, [(8, (0, w 284 a)), (6, (4, 1048576 * w 283 a)), (4, (4, 1048576 * w 282 a)), (3, (0, 28)), (0, (1, 275)), (1, (0, a)), (2, (0, 1))], [(1, 275), (0, 28), (1, 322)], w7)) 2 rfl ?_
    refine e_Ok.getr (z := 283) rfl (el_o rfl) rfl rfl (e_uq hw7 (Or.inl (by first | decide | exact e_neo (by decide) | exact e_ne1 (by decide) | exact e_ne2 (by decide) | omega)) (e_Has.eq hT rfl)) ⟨by decide, by decide⟩ ?_
    refine e_Ok.run (t' := (70, [(8, (0, w 284 a)), (6, (4, 1048576 * w 283 a)), (4, (4, 1048576 * w 282 a)), (3, (0, 28)), (0, (1, 275)), (1, (0, a)), (2, (0, 1))], [(0, a), (1, 283), (0, 28), (1, 322)], w7)) 1 rfl ?_
    refine e_Ok.ald (z := w 283 a) rfl (el_o rfl) rfl (by omega) (e_uq hw7 (Or.inl (by first | decide | exact e_neo (by decide) | exact e_ne1 (by decide) | exact e_ne2 (by decide) | omega)) rfl) (by omega) ?_
    refine e_Ok.ast rfl (el_o rfl) rfl rfl (by omega) ?_
    generalize hw9 : e_up w7 322 28 (w 283 a) = w9
    have f10 : e_fr (mPt (28)) w w9 := e_fr.up f8 hw9 (by first | exact ⟨Or.inr rfl, ⟨(by decide), (by decide)⟩⟩ | (unfold mPt; omega))
    refine e_Ok.run (t' := (75, [(9, (0, 0)), (8, (0, w 284 a)), (6, (4, 1048576 * w 283 a)), (4, (4, 1048576 * w 282 a)), (3, (0, 28)), (0, (1, 275)), (1, (0, a)), (2, (0, 1))], [], w9)) 2 rfl ?_
    have hL11 : ∀ (n : Nat) (y4 : Int) (y6 : Int) (y8 : Int) (y9 : Int) (v1 : eW), e_fr (mPt (28)) w v1 ∧ e_kn v1 321 (28) (28 + y9) ∧ e_kn v1 322 (28) (28 + y9) ∧ 0 ≤ y9 ∧ y9 ≤ 6 → 7 - y9 < n → e_Ok 20 elay ecode eI (d + 1) 301 (75, [(0, (1, 275)), (1, (0, a)), (2, (0, 1)), (3, (0, 28)), (4, (4, y4)), (6, (4, y6)), (8, (0, y8)), (9, (0, y9))], [], v1) (fun r w' => r = [] ∧ e_fr (mPt (28)) w w' ∧ e_pk2 w' (28) (w 286 a)) := by
      intro n
      induction n with
      | zero => intro y4 y6 y8 y9 v1 hj hm; obtain ⟨j13, j14, j15, j16⟩ := hj; exfalso; omega
      | succ n ih12 =>
        intro y4 y6 y8 y9 v1 hj hm
        obtain ⟨j13, j14, j15, j16⟩ := hj
        refine e_Ok.run (t' := (78, [(0, (1, 275)), (1, (0, a)), (2, (0, 1)), (3, (0, 28)), (4, (4, y4)), (6, (4, y6)), (8, (0, y8)), (9, (0, y9))], [(1, 275), (0, y9)], v1)) 2 rfl ?_
        refine e_Ok.getr (z := 286) rfl (el_o rfl) rfl rfl ((j13 275 15 (by first | exact no_52_0 | (unfold mPt; omega))).trans (e_Has.eq hT rfl)) ⟨by decide, by decide⟩ ?_
        refine e_Ok.run (t' := (82, [(0, (1, 275)), (1, (0, a)), (2, (0, 1)), (3, (0, 28)), (4, (4, y4)), (6, (4, y6)), (8, (0, y8)), (9, (0, y9))], [(0, a), (1, 286), (0, y9)], v1)) 1 rfl ?_
        have h17 := (e_Has.get hT (c := 286) (k := a) (lo := 0) (hi := 6) rfl (by decide))
        refine e_Ok.ald (z := w 286 a) rfl (el_o rfl) rfl (by omega) ((j13 286 a (by first | exact no_52_1 | (unfold mPt; omega))).trans rfl) (by first | exact e_bq h17 (by decide) (by decide) | omega) ?_
        refine e_Ok.if2 rfl (fun h18 => ?_) (fun h18 => ?_)
        · replace h18 : (y9 : Int) ≥ w 286 a := h18
          refine e_Ok.rets rfl rfl ?_
          exact ⟨rfl, j13, e_kn_sub j14 (by omega) (by omega), e_kn_sub j15 (by omega) (by omega)⟩
        · replace h18 : (y9 : Int) < w 286 a := Int.not_le.mp (show ¬ ((y9 : Int) ≥ w 286 a) from h18)
          refine e_Ok.run (t' := (87, [(0, (1, 275)), (1, (0, a)), (2, (0, 1)), (3, (0, 28)), (4, (4, y4)), (6, (4, y6)), (8, (0, y8)), (9, (0, y9))], [(0, 1)], v1)) 1 rfl ?_
          refine e_Ok.if1 rfl (fun h19 => ?_) (fun h19 => ?_)
          · replace h19 : (1 : Int) = 0 := h19
            exfalso; omega
          · replace h19 : (1 : Int) ≠ 0 := (show ¬ ((1 : Int) = 0) from h19)
            refine e_Ok.run (t' := (91, [(0, (1, 275)), (1, (0, a)), (2, (0, 1)), (3, (0, 28)), (4, (4, y4)), (6, (4, y6)), (8, (0, y8)), (9, (0, y9))], [(1, 275)], v1)) 1 rfl ?_
            refine e_Ok.getr (z := 323) rfl (el_o rfl) rfl rfl ((j13 275 57 (by first | exact no_52_0 | (unfold mPt; omega))).trans (e_Has.eq hT rfl)) ⟨by decide, by decide⟩ ?_
            refine e_Ok.run (t' := (96, [(0, (1, 275)), (1, (0, a)), (2, (0, 1)), (3, (0, 28)), (4, (4, y4)), (6, (4, y6)), (8, (0, y8)), (9, (0, y9))], [(0, y9), (1, 323)], v1)) 1 rfl ?_
            have h20 := (k1 y9 (by omega) (by omega))
            refine e_Ok.ald (z := w 323 y9) rfl (el_o rfl) rfl (by omega) ((j13 323 y9 (by first | exact no_52_5 | (unfold mPt; omega))).trans rfl) (by omega) ?_
            refine e_Ok.run (t' := (118, [(10, (0, w 323 y9)), (0, (1, 275)), (1, (0, a)), (2, (0, 1)), (3, (0, 28)), (4, (4, y4)), (6, (4, y6)), (8, (0, y8)), (9, (0, y9))], [(1, 275)], v1)) 3 rfl ?_
            refine e_Ok.getr (z := 292) rfl (el_o rfl) rfl rfl ((j13 275 21 (by first | exact no_52_0 | (unfold mPt; omega))).trans (e_Has.eq hT rfl)) ⟨by decide, by decide⟩ ?_
            refine e_Ok.run (t' := (124, [(10, (0, w 323 y9)), (0, (1, 275)), (1, (0, a)), (2, (0, 1)), (3, (0, 28)), (4, (4, y4)), (6, (4, y6)), (8, (0, y8)), (9, (0, y9))], [(0, a), (0, 6), (1, 292)], v1)) 2 rfl ?_
            refine e_Ok.mul (z := 6 * a) rfl (by first | with_reducible rfl | exact Int.add_comm _ _ | omega) (by omega) ?_
            refine e_Ok.run (t' := (127, [(10, (0, w 323 y9)), (0, (1, 275)), (1, (0, a)), (2, (0, 1)), (3, (0, 28)), (4, (4, y4)), (6, (4, y6)), (8, (0, y8)), (9, (0, y9))], [(0, y9), (0, 6 * a), (1, 292)], v1)) 1 rfl ?_
            refine e_Ok.add (z := 6 * a + y9) rfl (by first | with_reducible rfl | exact Int.add_comm _ _ | omega) (by omega) ?_
            have h21 := (e_Has.get hT (c := 292) (k := 6 * a + y9) (lo := 0) (hi := 8000) rfl (by decide))
            refine e_Ok.ald (z := w 292 (6 * a + y9)) rfl (el_o rfl) rfl (by omega) ((j13 292 (6 * a + y9) (by first | exact no_52_3 | (unfold mPt; omega))).trans rfl) (by first | exact e_bq h21 (by decide) (by decide) | omega) ?_
            refine e_Ok.run (t' := (132, [(11, (0, w 292 (6 * a + y9))), (10, (0, w 323 y9)), (0, (1, 275)), (1, (0, a)), (2, (0, 1)), (3, (0, 28)), (4, (4, y4)), (6, (4, y6)), (8, (0, y8)), (9, (0, y9))], [(1, 275)], v1)) 2 rfl ?_
            refine e_Ok.getr (z := 287) rfl (el_o rfl) rfl rfl ((j13 275 16 (by first | exact no_52_0 | (unfold mPt; omega))).trans (e_Has.eq hT rfl)) ⟨by decide, by decide⟩ ?_
            refine e_Ok.run (t' := (138, [(11, (0, w 292 (6 * a + y9))), (10, (0, w 323 y9)), (0, (1, 275)), (1, (0, a)), (2, (0, 1)), (3, (0, 28)), (4, (4, y4)), (6, (4, y6)), (8, (0, y8)), (9, (0, y9))], [(0, a), (0, 6), (1, 287)], v1)) 2 rfl ?_
            refine e_Ok.mul (z := 6 * a) rfl (by first | with_reducible rfl | exact Int.add_comm _ _ | omega) (by omega) ?_
            refine e_Ok.run (t' := (141, [(11, (0, w 292 (6 * a + y9))), (10, (0, w 323 y9)), (0, (1, 275)), (1, (0, a)), (2, (0, 1)), (3, (0, 28)), (4, (4, y4)), (6, (4, y6)), (8, (0, y8)), (9, (0, y9))], [(0, y9), (0, 6 * a), (1, 287)], v1)) 1 rfl ?_
            refine e_Ok.add (z := 6 * a + y9) rfl (by first | with_reducible rfl | exact Int.add_comm _ _ | omega) (by omega) ?_
            have h22 := (e_Has.get hT (c := 287) (k := 6 * a + y9) (lo := 0) (hi := 1) rfl (by decide))
            refine e_Ok.ald (z := w 287 (6 * a + y9)) rfl (el_o rfl) rfl (by omega) ((j13 287 (6 * a + y9) (by first | exact no_52_4 | (unfold mPt; omega))).trans rfl) (by first | exact e_bq h22 (by decide) (by decide) | omega) ?_
            refine e_Ok.run (t' := (144, [(11, (0, w 292 (6 * a + y9))), (10, (0, w 323 y9)), (0, (1, 275)), (1, (0, a)), (2, (0, 1)), (3, (0, 28)), (4, (4, y4)), (6, (4, y6)), (8, (0, y8)), (9, (0, y9))], [(0, 1), (0, w 287 (6 * a + y9))], v1)) 1 rfl ?_
            refine e_Ok.if2 rfl (fun h23 => ?_) (fun h23 => ?_)
            · replace h23 : (w 287 (6 * a + y9) : Int) ≠ 1 := h23
              refine e_Ok.run (t' := (161, [(11, (0, w 292 (6 * a + y9))), (10, (0, w 323 y9)), (0, (1, 275)), (1, (0, a)), (2, (0, 1)), (3, (0, 28)), (4, (4, y4)), (6, (4, y6)), (8, (0, y8)), (9, (0, y9))], [(0, w 323 y9), (0, w 292 (6 * a + y9))], v1)) 2 rfl ?_
              refine e_Ok.any rfl (eF_add_any _ _) (fun z24 z24a z24b => ?_)
              refine e_Ok.run (t' := (175, [(11, (0, z24)), (10, (0, w 323 y9)), (0, (1, 275)), (1, (0, a)), (2, (0, 1)), (3, (0, 28)), (4, (4, y4)), (6, (4, y6)), (8, (0, y8)), (9, (0, y9))], [(0, 1024), (0, y8), (1, 275), (4, z24), (4, y4)], v1)) 7 rfl ?_
              refine e_Ok.any rfl (eF_add_any _ _) (fun z25 z25a z25b => ?_)
              refine e_Ok.callV rfl (by first | exact e_dq hd rfl | omega) rfl rfl rfl rfl (c_300 (mT_Pt j13 hT)) (fun r26 w27 h28 => ?_)
              obtain ⟨z29, rfl, rfl, q30a, q30b⟩ := h28
              show e_Ok 20 elay ecode eI (d + 1) 301 (179, [(11, (0, z24)), (10, (0, w 323 y9)), (0, (1, 275)), (1, (0, a)), (2, (0, 1)), (3, (0, 28)), (4, (4, y4)), (6, (4, y6)), (8, (0, y8)), (9, (0, y9))], [(0, z29), (4, z24), (4, y4)], v1) _
              refine e_Ok.run (t' := (180, [(11, (0, z24)), (10, (0, w 323 y9)), (0, (1, 275)), (1, (0, a)), (2, (0, 1)), (3, (0, 28)), (4, (4, y4)), (6, (4, y6)), (8, (0, y8)), (9, (0, y9))], [(4, z29), (4, z24), (4, y4)], v1)) 1 rfl ?_
              refine e_Ok.anyL rfl ⟨_, rfl⟩ (fun x31 => ?_)
              refine e_Ok.anyL rfl ⟨_, rfl⟩ (fun x32 => ?_)
              refine e_Ok.run (t' := (192, [(4, (4, x32)), (11, (0, z24)), (10, (0, w 323 y9)), (0, (1, 275)), (1, (0, a)), (2, (0, 1)), (3, (0, 28)), (6, (4, y6)), (8, (0, y8)), (9, (0, y9))], [(0, y8), (1, 275), (4, z24), (4, y6)], v1)) 6 rfl ?_
              refine e_Ok.callV rfl (by first | exact e_dq hd rfl | omega) rfl rfl rfl rfl (c_300 (mT_Pt j13 hT)) (fun r33 w34 h35 => ?_)
              obtain ⟨z36, rfl, rfl, q37a, q37b⟩ := h35
              show e_Ok 20 elay ecode eI (d + 1) 301 (195, [(4, (4, x32)), (11, (0, z24)), (10, (0, w 323 y9)), (0, (1, 275)), (1, (0, a)), (2, (0, 1)), (3, (0, 28)), (6, (4, y6)), (8, (0, y8)), (9, (0, y9))], [(0, z36), (4, z24), (4, y6)], v1) _
              refine e_Ok.run (t' := (196, [(4, (4, x32)), (11, (0, z24)), (10, (0, w 323 y9)), (0, (1, 275)), (1, (0, a)), (2, (0, 1)), (3, (0, 28)), (6, (4, y6)), (8, (0, y8)), (9, (0, y9))], [(4, z36), (4, z24), (4, y6)], v1)) 1 rfl ?_
              refine e_Ok.anyL rfl ⟨_, rfl⟩ (fun x38 => ?_)
              refine e_Ok.anyL rfl ⟨_, rfl⟩ (fun x39 => ?_)
              refine e_Ok.run (t' := (201, [(6, (4, x39)), (4, (4, x32)), (11, (0, z24)), (10, (0, w 323 y9)), (0, (1, 275)), (1, (0, a)), (2, (0, 1)), (3, (0, 28)), (8, (0, y8)), (9, (0, y9))], [(1, 275)], v1)) 2 rfl ?_
              refine e_Ok.getr (z := 321) rfl (el_o rfl) rfl rfl ((j13 275 55 (by first | exact no_52_0 | (unfold mPt; omega))).trans (e_Has.eq hT rfl)) ⟨by decide, by decide⟩ ?_
              refine e_Ok.run (t' := (207, [(6, (4, x39)), (4, (4, x32)), (11, (0, z24)), (10, (0, w 323 y9)), (0, (1, 275)), (1, (0, a)), (2, (0, 1)), (3, (0, 28)), (8, (0, y8)), (9, (0, y9))], [(0, y9), (0, 28), (1, 321)], v1)) 2 rfl ?_
              refine e_Ok.add (z := y9 + 28) rfl (by first | with_reducible rfl | exact Int.add_comm _ _ | omega) (by omega) ?_
              refine e_Ok.run (t' := (209, [(6, (4, x39)), (4, (4, x32)), (11, (0, z24)), (10, (0, w 323 y9)), (0, (1, 275)), (1, (0, a)), (2, (0, 1)), (3, (0, 28)), (8, (0, y8)), (9, (0, y9))], [(0, 1), (0, y9 + 28), (1, 321)], v1)) 1 rfl ?_
              refine e_Ok.add (z := y9 + 29) rfl (by first | with_reducible rfl | exact Int.add_comm _ _ | omega) (by omega) ?_
              refine e_Ok.run (t' := (215, [(6, (4, x39)), (4, (4, x32)), (11, (0, z24)), (10, (0, w 323 y9)), (0, (1, 275)), (1, (0, a)), (2, (0, 1)), (3, (0, 28)), (8, (0, y8)), (9, (0, y9))], [(4, 524288), (4, x32), (0, y9 + 29), (1, 321)], v1)) 2 rfl ?_
              refine e_Ok.anyL rfl ⟨_, rfl⟩ (fun x40 => ?_)
              refine e_Ok.run (t' := (218, [(6, (4, x39)), (4, (4, x32)), (11, (0, z24)), (10, (0, w 323 y9)), (0, (1, 275)), (1, (0, a)), (2, (0, 1)), (3, (0, 28)), (8, (0, y8)), (9, (0, y9))], [(0, 20), (4, x40), (0, y9 + 29), (1, 321)], v1)) 1 rfl ?_
              refine e_Ok.anyS rfl ⟨_, rfl⟩ (fun x41 => ?_)
              refine e_Ok.l2i rfl (fun z42 z42a z42b => ?_)
              refine e_Ok.ast rfl (el_o rfl) rfl rfl (by omega) ?_
              generalize hw43 : e_up v1 321 (y9 + 29) z42 = w43
              have f44 : e_fr (mPt (28)) w w43 := e_fr.up j13 hw43 (by unfold mPt; omega)
              refine e_Ok.run (t' := (222, [(6, (4, x39)), (4, (4, x32)), (11, (0, z24)), (10, (0, w 323 y9)), (0, (1, 275)), (1, (0, a)), (2, (0, 1)), (3, (0, 28)), (8, (0, y8)), (9, (0, y9))], [(1, 275)], w43)) 1 rfl ?_
              refine e_Ok.getr (z := 322) rfl (el_o rfl) rfl rfl (e_uq hw43 (Or.inl (by first | decide | exact e_neo (by decide) | exact e_ne1 (by decide) | exact e_ne2 (by decide) | omega)) ((j13 275 56 (by first | exact no_52_0 | (unfold mPt; omega))).trans (e_Has.eq hT rfl))) ⟨by decide, by decide⟩ ?_
              refine e_Ok.run (t' := (228, [(6, (4, x39)), (4, (4, x32)), (11, (0, z24)), (10, (0, w 323 y9)), (0, (1, 275)), (1, (0, a)), (2, (0, 1)), (3, (0, 28)), (8, (0, y8)), (9, (0, y9))], [(0, y9), (0, 28), (1, 322)], w43)) 2 rfl ?_
              refine e_Ok.add (z := y9 + 28) rfl (by first | with_reducible rfl | exact Int.add_comm _ _ | omega) (by omega) ?_
              refine e_Ok.run (t' := (230, [(6, (4, x39)), (4, (4, x32)), (11, (0, z24)), (10, (0, w 323 y9)), (0, (1, 275)), (1, (0, a)), (2, (0, 1)), (3, (0, 28)), (8, (0, y8)), (9, (0, y9))], [(0, 1), (0, y9 + 28), (1, 322)], w43)) 1 rfl ?_
              refine e_Ok.add (z := y9 + 29) rfl (by first | with_reducible rfl | exact Int.add_comm _ _ | omega) (by omega) ?_
              refine e_Ok.run (t' := (236, [(6, (4, x39)), (4, (4, x32)), (11, (0, z24)), (10, (0, w 323 y9)), (0, (1, 275)), (1, (0, a)), (2, (0, 1)), (3, (0, 28)), (8, (0, y8)), (9, (0, y9))], [(4, 524288), (4, x39), (0, y9 + 29), (1, 322)], w43)) 2 rfl ?_
              refine e_Ok.anyL rfl ⟨_, rfl⟩ (fun x45 => ?_)
              refine e_Ok.run (t' := (239, [(6, (4, x39)), (4, (4, x32)), (11, (0, z24)), (10, (0, w 323 y9)), (0, (1, 275)), (1, (0, a)), (2, (0, 1)), (3, (0, 28)), (8, (0, y8)), (9, (0, y9))], [(0, 20), (4, x45), (0, y9 + 29), (1, 322)], w43)) 1 rfl ?_
              refine e_Ok.anyS rfl ⟨_, rfl⟩ (fun x46 => ?_)
              refine e_Ok.l2i rfl (fun z47 z47a z47b => ?_)
              refine e_Ok.ast rfl (el_o rfl) rfl rfl (by omega) ?_
              generalize hw48 : e_up w43 322 (y9 + 29) z47 = w48
              have f49 : e_fr (mPt (28)) w w48 := e_fr.up f44 hw48 (by unfold mPt; omega)
              refine e_Ok.inc (z := y9 + 1) rfl rfl (by first | with_reducible rfl | omega) (by omega) ?_
              show e_Ok 20 elay ecode eI (d + 1) 301 (245, [(9, (0, y9 + 1)), (6, (4, x39)), (4, (4, x32)), (11, (0, z24)), (10, (0, w 323 y9)), (0, (1, 275)), (1, (0, a)), (2, (0, 1)), (3, (0, 28)), (8, (0, y8))], [], w48) _
              refine e_Ok.run (t' := (75, [(9, (0, y9 + 1)), (6, (4, x39)), (4, (4, x32)), (11, (0, z24)), (10, (0, w 323 y9)), (0, (1, 275)), (1, (0, a)), (2, (0, 1)), (3, (0, 28)), (8, (0, y8))], [], w48)) 1 rfl ?_
              refine e_Ok.sub eAlk (e_sub_of rfl ?_) (ih12 x32 x39 y8 (y9 + 1) w48 ⟨f49, (e_kn_sub (e_kn.oth (e_kn.ext j14 hw43 (by omega) (by omega)) hw48 (by decide)) (by omega) (by omega)), (e_kn_sub (e_kn.ext (e_kn.oth j15 hw43 (by decide)) hw48 (by omega) (by omega)) (by omega) (by omega)), by omega⟩ (by omega))
              exact ⟨rfl, rfl, rfl, rfl, rfl, rfl, rfl, rfl, trivial⟩
            · replace h23 : (w 287 (6 * a + y9) : Int) = 1 := Classical.not_not.mp (show ¬ ((w 287 (6 * a + y9) : Int) ≠ 1) from h23)
              refine e_Ok.run (t' := (151, [(11, (0, w 292 (6 * a + y9))), (10, (0, w 323 y9)), (0, (1, 275)), (1, (0, a)), (2, (0, 1)), (3, (0, 28)), (4, (4, y4)), (6, (4, y6)), (8, (0, y8)), (9, (0, y9))], [(0, w 323 y9), (0, y8)], v1)) 2 rfl ?_
              refine e_Ok.any rfl (eF_add_any _ _) (fun z50 z50a z50b => ?_)
              refine e_Ok.run (t' := (175, [(8, (0, z50)), (11, (0, w 292 (6 * a + y9))), (10, (0, w 323 y9)), (0, (1, 275)), (1, (0, a)), (2, (0, 1)), (3, (0, 28)), (4, (4, y4)), (6, (4, y6)), (9, (0, y9))], [(0, 1024), (0, z50), (1, 275), (4, w 292 (6 * a + y9)), (4, y4)], v1)) 8 rfl ?_
              refine e_Ok.any rfl (eF_add_any _ _) (fun z51 z51a z51b => ?_)
              refine e_Ok.callV rfl (by first | exact e_dq hd rfl | omega) rfl rfl rfl rfl (c_300 (mT_Pt j13 hT)) (fun r52 w53 h54 => ?_)
              obtain ⟨z55, rfl, rfl, q56a, q56b⟩ := h54
              show e_Ok 20 elay ecode eI (d + 1) 301 (179, [(8, (0, z50)), (11, (0, w 292 (6 * a + y9))), (10, (0, w 323 y9)), (0, (1, 275)), (1, (0, a)), (2, (0, 1)), (3, (0, 28)), (4, (4, y4)), (6, (4, y6)), (9, (0, y9))], [(0, z55), (4, w 292 (6 * a + y9)), (4, y4)], v1) _
              refine e_Ok.run (t' := (180, [(8, (0, z50)), (11, (0, w 292 (6 * a + y9))), (10, (0, w 323 y9)), (0, (1, 275)), (1, (0, a)), (2, (0, 1)), (3, (0, 28)), (4, (4, y4)), (6, (4, y6)), (9, (0, y9))], [(4, z55), (4, w 292 (6 * a + y9)), (4, y4)], v1)) 1 rfl ?_
              refine e_Ok.anyL rfl ⟨_, rfl⟩ (fun x57 => ?_)
              refine e_Ok.anyL rfl ⟨_, rfl⟩ (fun x58 => ?_)
              refine e_Ok.run (t' := (192, [(4, (4, x58)), (8, (0, z50)), (11, (0, w 292 (6 * a + y9))), (10, (0, w 323 y9)), (0, (1, 275)), (1, (0, a)), (2, (0, 1)), (3, (0, 28)), (6, (4, y6)), (9, (0, y9))], [(0, z50), (1, 275), (4, w 292 (6 * a + y9)), (4, y6)], v1)) 6 rfl ?_
              refine e_Ok.callV rfl (by first | exact e_dq hd rfl | omega) rfl rfl rfl rfl (c_300 (mT_Pt j13 hT)) (fun r59 w60 h61 => ?_)
              obtain ⟨z62, rfl, rfl, q63a, q63b⟩ := h61
              show e_Ok 20 elay ecode eI (d + 1) 301 (195, [(4, (4, x58)), (8, (0, z50)), (11, (0, w 292 (6 * a + y9))), (10, (0, w 323 y9)), (0, (1, 275)), (1, (0, a)), (2, (0, 1)), (3, (0, 28)), (6, (4, y6)), (9, (0, y9))], [(0, z62), (4, w 292 (6 * a + y9)), (4, y6)], v1) _
              refine e_Ok.run (t' := (196, [(4, (4, x58)), (8, (0, z50)), (11, (0, w 292 (6 * a + y9))), (10, (0, w 323 y9)), (0, (1, 275)), (1, (0, a)), (2, (0, 1)), (3, (0, 28)), (6, (4, y6)), (9, (0, y9))], [(4, z62), (4, w 292 (6 * a + y9)), (4, y6)], v1)) 1 rfl ?_
              refine e_Ok.anyL rfl ⟨_, rfl⟩ (fun x64 => ?_)
              refine e_Ok.anyL rfl ⟨_, rfl⟩ (fun x65 => ?_)
              refine e_Ok.run (t' := (201, [(6, (4, x65)), (4, (4, x58)), (8, (0, z50)), (11, (0, w 292 (6 * a + y9))), (10, (0, w 323 y9)), (0, (1, 275)), (1, (0, a)), (2, (0, 1)), (3, (0, 28)), (9, (0, y9))], [(1, 275)], v1)) 2 rfl ?_
              refine e_Ok.getr (z := 321) rfl (el_o rfl) rfl rfl ((j13 275 55 (by first | exact no_52_0 | (unfold mPt; omega))).trans (e_Has.eq hT rfl)) ⟨by decide, by decide⟩ ?_
              refine e_Ok.run (t' := (207, [(6, (4, x65)), (4, (4, x58)), (8, (0, z50)), (11, (0, w 292 (6 * a + y9))), (10, (0, w 323 y9)), (0, (1, 275)), (1, (0, a)), (2, (0, 1)), (3, (0, 28)), (9, (0, y9))], [(0, y9), (0, 28), (1, 321)], v1)) 2 rfl ?_
              refine e_Ok.add (z := y9 + 28) rfl (by first | with_reducible rfl | exact Int.add_comm _ _ | omega) (by omega) ?_
              refine e_Ok.run (t' := (209, [(6, (4, x65)), (4, (4, x58)), (8, (0, z50)), (11, (0, w 292 (6 * a + y9))), (10, (0, w 323 y9)), (0, (1, 275)), (1, (0, a)), (2, (0, 1)), (3, (0, 28)), (9, (0, y9))], [(0, 1), (0, y9 + 28), (1, 321)], v1)) 1 rfl ?_
              refine e_Ok.add (z := y9 + 29) rfl (by first | with_reducible rfl | exact Int.add_comm _ _ | omega) (by omega) ?_
              refine e_Ok.run (t' := (215, [(6, (4, x65)), (4, (4, x58)), (8, (0, z50)), (11, (0, w 292 (6 * a + y9))), (10, (0, w 323 y9)), (0, (1, 275)), (1, (0, a)), (2, (0, 1)), (3, (0, 28)), (9, (0, y9))], [(4, 524288), (4, x58), (0, y9 + 29), (1, 321)], v1)) 2 rfl ?_
              refine e_Ok.anyL rfl ⟨_, rfl⟩ (fun x66 => ?_)
              refine e_Ok.run (t' := (218, [(6, (4, x65)), (4, (4, x58)), (8, (0, z50)), (11, (0, w 292 (6 * a + y9))), (10, (0, w 323 y9)), (0, (1, 275)), (1, (0, a)), (2, (0, 1)), (3, (0, 28)), (9, (0, y9))], [(0, 20), (4, x66), (0, y9 + 29), (1, 321)], v1)) 1 rfl ?_
              refine e_Ok.anyS rfl ⟨_, rfl⟩ (fun x67 => ?_)
              refine e_Ok.l2i rfl (fun z68 z68a z68b => ?_)
              refine e_Ok.ast rfl (el_o rfl) rfl rfl (by omega) ?_
              generalize hw69 : e_up v1 321 (y9 + 29) z68 = w69
              have f70 : e_fr (mPt (28)) w w69 := e_fr.up j13 hw69 (by unfold mPt; omega)
              refine e_Ok.run (t' := (222, [(6, (4, x65)), (4, (4, x58)), (8, (0, z50)), (11, (0, w 292 (6 * a + y9))), (10, (0, w 323 y9)), (0, (1, 275)), (1, (0, a)), (2, (0, 1)), (3, (0, 28)), (9, (0, y9))], [(1, 275)], w69)) 1 rfl ?_
              refine e_Ok.getr (z := 322) rfl (el_o rfl) rfl rfl (e_uq hw69 (Or.inl (by first | decide | exact e_neo (by decide) | exact e_ne1 (by decide) | exact e_ne2 (by decide) | omega)) ((j13 275 56 (by first | exact no_52_0 | (unfold mPt; omega))).trans (e_Has.eq hT rfl))) ⟨by decide, by decide⟩ ?_
              refine e_Ok.run (t' := (228, [(6, (4, x65)), (4, (4, x58)), (8, (0, z50)), (11, (0, w 292 (6 * a + y9))), (10, (0, w 323 y9)), (0, (1, 275)), (1, (0, a)), (2, (0, 1)), (3, (0, 28)), (9, (0, y9))], [(0, y9), (0, 28), (1, 322)], w69)) 2 rfl ?_
              refine e_Ok.add (z := y9 + 28) rfl (by first | with_reducible rfl | exact Int.add_comm _ _ | omega) (by omega) ?_
              refine e_Ok.run (t' := (230, [(6, (4, x65)), (4, (4, x58)), (8, (0, z50)), (11, (0, w 292 (6 * a + y9))), (10, (0, w 323 y9)), (0, (1, 275)), (1, (0, a)), (2, (0, 1)), (3, (0, 28)), (9, (0, y9))], [(0, 1), (0, y9 + 28), (1, 322)], w69)) 1 rfl ?_
              refine e_Ok.add (z := y9 + 29) rfl (by first | with_reducible rfl | exact Int.add_comm _ _ | omega) (by omega) ?_
              refine e_Ok.run (t' := (236, [(6, (4, x65)), (4, (4, x58)), (8, (0, z50)), (11, (0, w 292 (6 * a + y9))), (10, (0, w 323 y9)), (0, (1, 275)), (1, (0, a)), (2, (0, 1)), (3, (0, 28)), (9, (0, y9))], [(4, 524288), (4, x65), (0, y9 + 29), (1, 322)], w69)) 2 rfl ?_
              refine e_Ok.anyL rfl ⟨_, rfl⟩ (fun x71 => ?_)
              refine e_Ok.run (t' := (239, [(6, (4, x65)), (4, (4, x58)), (8, (0, z50)), (11, (0, w 292 (6 * a + y9))), (10, (0, w 323 y9)), (0, (1, 275)), (1, (0, a)), (2, (0, 1)), (3, (0, 28)), (9, (0, y9))], [(0, 20), (4, x71), (0, y9 + 29), (1, 322)], w69)) 1 rfl ?_
              refine e_Ok.anyS rfl ⟨_, rfl⟩ (fun x72 => ?_)
              refine e_Ok.l2i rfl (fun z73 z73a z73b => ?_)
              refine e_Ok.ast rfl (el_o rfl) rfl rfl (by omega) ?_
              generalize hw74 : e_up w69 322 (y9 + 29) z73 = w74
              have f75 : e_fr (mPt (28)) w w74 := e_fr.up f70 hw74 (by unfold mPt; omega)
              refine e_Ok.inc (z := y9 + 1) rfl rfl (by first | with_reducible rfl | omega) (by omega) ?_
              show e_Ok 20 elay ecode eI (d + 1) 301 (245, [(9, (0, y9 + 1)), (6, (4, x65)), (4, (4, x58)), (8, (0, z50)), (11, (0, w 292 (6 * a + y9))), (10, (0, w 323 y9)), (0, (1, 275)), (1, (0, a)), (2, (0, 1)), (3, (0, 28))], [], w74) _
              refine e_Ok.run (t' := (75, [(9, (0, y9 + 1)), (6, (4, x65)), (4, (4, x58)), (8, (0, z50)), (11, (0, w 292 (6 * a + y9))), (10, (0, w 323 y9)), (0, (1, 275)), (1, (0, a)), (2, (0, 1)), (3, (0, 28))], [], w74)) 1 rfl ?_
              refine e_Ok.sub eAlk (e_sub_of rfl ?_) (ih12 x58 x65 z50 (y9 + 1) w74 ⟨f75, (e_kn_sub (e_kn.oth (e_kn.ext j14 hw69 (by omega) (by omega)) hw74 (by decide)) (by omega) (by omega)), (e_kn_sub (e_kn.ext (e_kn.oth j15 hw69 (by decide)) hw74 (by omega) (by omega)) (by omega) (by omega)), by omega⟩ (by omega))
              exact ⟨rfl, rfl, rfl, rfl, rfl, rfl, rfl, rfl, trivial⟩
    refine e_Ok.sub eAlk (e_sub_of rfl ?_) (hL11 (7 + 1 : Int).toNat (1048576 * w 282 a) (1048576 * w 283 a) (w 284 a) 0 w9 ⟨f10, (e_kn_sub (e_kn.oth (e_kn.one hw7 (by omega)) hw9 (by decide)) (by omega) (by omega)), (e_kn_sub (e_kn.one hw9 (by omega)) (by omega) (by omega)), by omega⟩ (by omega))
    exact ⟨rfl, rfl, rfl, rfl, rfl, rfl, rfl, rfl, trivial⟩
theorem no_52_6 {k : Int} : ¬ mP 286 k := by unfold mP; omega
theorem no_52_7 {k : Int} : ¬ mP 275 k := by unfold mP; omega
theorem su_52_17 {t : Int} {c k : Int} (q : mPt t c k) : mP c k := by
  unfold mPt at q
  rcases q with ⟨(q | q), ⟨q, q⟩⟩
  · exact Or.inl (by omega)
  · exact Or.inr (by omega)
theorem c_302 {d : Nat} (hd : 22 ≤ d) {w : eW} (hT : e_Has mTy w) : e_Ok 20 elay ecode eI d 302 (0, [(0, (1, 275))], [], w) (fun r w' => r = [] ∧ e_fr mP w w' ∧ ∀ b, 0 ≤ b → b < w 275 10 → e_pk2 w' (7 * b) (w 286 b)) := by
  obtain ⟨d, rfl⟩ : ∃ e, d = e + 1 := ⟨d - 1, by omega⟩
  refine e_Ok.run (t' := (2, [(1, (0, 0)), (0, (1, 275))], [], w)) 2 rfl ?_
  have hL1 : ∀ (n : Nat) (y1 : Int) (v1 : eW), e_fr mP w v1 ∧ (∀ b, 0 ≤ b → b < y1 → e_pk2 v1 (7 * b) (w 286 b)) ∧ 0 ≤ y1 ∧ y1 ≤ 4 → 5 - y1 < n → e_Ok 20 elay ecode eI (d + 1) 302 (2, [(0, (1, 275)), (1, (0, y1))], [], v1) (fun r w' => r = [] ∧ e_fr mP w w' ∧ ∀ b, 0 ≤ b → b < w 275 10 → e_pk2 w' (7 * b) (w 286 b)) := by
    intro n
    induction n with
    | zero => intro y1 v1 hj hm; obtain ⟨j3, j4, j5⟩ := hj; exfalso; omega
    | succ n ih2 =>
      intro y1 v1 hj hm
      obtain ⟨j3, j4, j5⟩ := hj
      have l_y1 : v1 286 y1 = w 286 y1 := j3 286 y1 no_52_6
      refine e_Ok.run (t' := (4, [(0, (1, 275)), (1, (0, y1))], [(1, 275), (0, y1)], v1)) 2 rfl ?_
      have h6 := (e_Has.get hT (c := 275) (k := 10) (lo := 0) (hi := 4) rfl (by decide))
      refine e_Ok.getf (z := w 275 10) rfl (el_o rfl) rfl rfl ((j3 275 10 no_52_7).trans rfl) (by first | exact e_bq h6 (by decide) (by decide) | omega) ?_
      refine e_Ok.if2 rfl (fun h7 => ?_) (fun h7 => ?_)
      · replace h7 : (y1 : Int) ≥ w 275 10 := h7
        refine e_Ok.rets rfl rfl ?_
        exact ⟨rfl, j3, fun b g1 g2 => j4 b g1 (by omega)⟩
      · replace h7 : (y1 : Int) < w 275 10 := Int.not_le.mp (show ¬ ((y1 : Int) ≥ w 275 10) from h7)
        refine e_Ok.run (t' := (13, [(0, (1, 275)), (1, (0, y1))], [(0, 0), (0, y1), (1, 275)], v1)) 3 rfl ?_
        refine e_Ok.callV rfl (by first | exact e_dq hd rfl | omega) rfl rfl rfl rfl (c_301_0 (by first | exact e_dq hd rfl | omega) (mT_P j3 hT) (by omega)) (fun r8 w9 h10 => ?_)
        obtain ⟨rfl, q11, q11k⟩ := h10
        have f12 : e_fr mP w w9 := e_fr.trans j3 (e_fr.mono q11 (fun c k q => by first | exact su_52_17 q | (unfold mPt at q; unfold mP; omega)))
        show e_Ok 20 elay ecode eI (d + 1) 302 (16, [(0, (1, 275)), (1, (0, y1))], [], w9) _
        refine e_Ok.inc (z := y1 + 1) rfl rfl (by first | with_reducible rfl | omega) (by omega) ?_
        show e_Ok 20 elay ecode eI (d + 1) 302 (19, [(1, (0, y1 + 1)), (0, (1, 275))], [], w9) _
        refine e_Ok.run (t' := (2, [(1, (0, y1 + 1)), (0, (1, 275))], [], w9)) 1 rfl ?_
        refine e_Ok.sub eAlk (e_sub_of rfl ?_) (ih2 (y1 + 1) w9 ⟨f12, (fun b g1 g2 => Decidable.byCases (p := b = y1) (fun e => by rw [e, ← l_y1]; exact q11k) (fun e => e_pk2.fr q11 (fun k g3 g4 => by have := e_Has.get hT (c := 286) (k := b) (lo := 0) (hi := 6) rfl (by decide); unfold mPt; omega) (j4 b g1 (by omega)))), by omega⟩ (by omega))
        exact ⟨rfl, rfl, trivial⟩
  refine e_Ok.sub eAlk (e_sub_of rfl ?_) (hL1 (5 + 1 : Int).toNat 0 w ⟨(e_fr.refl w), (fun b g1 g2 => by omega), by omega⟩ (by omega))
  exact ⟨rfl, rfl, trivial⟩
theorem no_52_8 {k : Int} : ¬ mL 286 k := by unfold mL; omega
theorem no_52_9 : ¬ mL 275 10 := by unfold mL; omega
theorem c_317 {d : Nat} (hd : 25 ≤ d) {w : eW} (hT : e_Has mTy w) {a u m : Int} (ha : 0 ≤ a ∧ a ≤ 3) (hu : 0 ≤ u ∧ u ≤ 28) (k1 : e_kn w 321 u (u + w 286 a)) (k2 : e_kn w 322 u (u + w 286 a)) (kall : ∀ b, 0 ≤ b → b < w 275 10 → e_pk2 w (7 * b) (w 286 b)) : e_Ok 20 elay ecode eI d 317 (0, [(0, (1, 275)), (1, (0, a)), (2, (0, u)), (3, (0, m))], [], w) (fun r w' => ∃ z : Int, r = [(0, z)] ∧ e_fr mL w w' ∧ 0 ≤ z ∧ z ≤ 1) := by
  obtain ⟨d, rfl⟩ : ∃ e, d = e + 1 := ⟨d - 1, by omega⟩
  have hja := (e_Has.get hT (c := 286) (k := a) (lo := 0) (hi := 6) rfl (by decide))
  refine e_Ok.run (t' := (4, [(0, (1, 275)), (1, (0, a)), (2, (0, u)), (3, (0, m))], [(0, m), (0, u), (0, a), (1, 275)], w)) 4 rfl ?_
  refine e_Ok.callV rfl (by first | exact e_dq hd rfl | omega) rfl rfl rfl rfl (c_315 (by first | exact e_dq hd rfl | omega) hT (by omega) (by omega) (e_kn_sub k1 (by omega) (by omega)) (e_kn_sub k2 (by omega) (by omega))) (fun r1 w2 h3 => ?_)
  obtain ⟨z4, rfl, q5, q5a, q5b⟩ := h3
  have f6 : e_fr mL w w2 := e_fr.trans (e_fr.refl w) (e_fr.mono q5 (fun c k q => by exact q))
  have l7 : w2 286 a = w 286 a := f6 286 a no_52_8
  show e_Ok 20 elay ecode eI (d + 1) 317 (7, [(0, (1, 275)), (1, (0, a)), (2, (0, u)), (3, (0, m))], [(0, z4)], w2) _
  refine e_Ok.run (t' := (12, [(5, (0, 0)), (4, (0, z4)), (0, (1, 275)), (1, (0, a)), (2, (0, u)), (3, (0, m))], [], w2)) 3 rfl ?_
  have hL8 : ∀ (n : Nat) (y4 : Int) (y5 : Int) (v1 : eW), e_fr mL w v1 ∧ 0 ≤ y4 ∧ y4 ≤ 1 ∧ 0 ≤ y5 ∧ y5 ≤ 4 → 5 - y5 < n → e_Ok 20 elay ecode eI (d + 1) 317 (12, [(0, (1, 275)), (1, (0, a)), (2, (0, u)), (3, (0, m)), (4, (0, y4)), (5, (0, y5))], [], v1) (fun r w' => ∃ z : Int, r = [(0, z)] ∧ e_fr mL w w' ∧ 0 ≤ z ∧ z ≤ 1) := by
    intro n
    induction n with
    | zero => intro y4 y5 v1 hj hm; obtain ⟨j10, j11, j12⟩ := hj; exfalso; omega
    | succ n ih9 =>
      intro y4 y5 v1 hj hm
      obtain ⟨j10, j11, j12⟩ := hj
      have l13 : v1 286 a = w 286 a := j10 286 a no_52_8
      have l14 : v1 286 y5 = w 286 y5 := j10 286 y5 no_52_8
      refine e_Ok.run (t' := (15, [(0, (1, 275)), (1, (0, a)), (2, (0, u)), (3, (0, m)), (4, (0, y4)), (5, (0, y5))], [(1, 275), (0, y5)], v1)) 2 rfl ?_
      have h15 := (e_Has.get hT (c := 275) (k := 10) (lo := 0) (hi := 4) rfl (by decide))
      refine e_Ok.getf (z := w 275 10) rfl (el_o rfl) rfl rfl ((j10 275 10 no_52_9).trans rfl) (by first | exact e_bq h15 (by decide) (by decide) | omega) ?_
      refine e_Ok.if2 rfl (fun h16 => ?_) (fun h16 => ?_)
      · replace h16 : (y5 : Int) ≥ w 275 10 := h16
        refine e_Ok.run (t' := (59, [(0, (1, 275)), (1, (0, a)), (2, (0, u)), (3, (0, m)), (4, (0, y4)), (5, (0, y5))], [(0, y4)], v1)) 1 rfl ?_
        refine e_Ok.retb rfl (by omega) ?_
        exact ⟨_, rfl, j10, by omega, by omega⟩
      · replace h16 : (y5 : Int) < w 275 10 := Int.not_le.mp (show ¬ ((y5 : Int) ≥ w 275 10) from h16)
        refine e_Ok.run (t' := (23, [(0, (1, 275)), (1, (0, a)), (2, (0, u)), (3, (0, m)), (4, (0, y4)), (5, (0, y5))], [(0, y4)], v1)) 1 rfl ?_
        refine e_Ok.if1 rfl (fun h17 => ?_) (fun h17 => ?_)
        · replace h17 : (y4 : Int) ≠ 0 := h17
          refine e_Ok.run (t' := (59, [(0, (1, 275)), (1, (0, a)), (2, (0, u)), (3, (0, m)), (4, (0, y4)), (5, (0, y5))], [(0, y4)], v1)) 1 rfl ?_
          refine e_Ok.retb rfl (by omega) ?_
          exact ⟨_, rfl, j10, by omega, by omega⟩
        · replace h17 : (y4 : Int) = 0 := Classical.not_not.mp (show ¬ ((y4 : Int) ≠ 0) from h17)
          refine e_Ok.run (t' := (29, [(0, (1, 275)), (1, (0, a)), (2, (0, u)), (3, (0, m)), (4, (0, y4)), (5, (0, y5))], [(0, a), (0, y5)], v1)) 2 rfl ?_
          refine e_Ok.if2 rfl (fun h18 => ?_) (fun h18 => ?_)
          · replace h18 : (y5 : Int) = a := h18
            refine e_Ok.run (t' := (51, [(4, (0, 0)), (0, (1, 275)), (1, (0, a)), (2, (0, u)), (3, (0, m)), (5, (0, y5))], [], v1)) 2 rfl ?_
            refine e_Ok.inc (z := y5 + 1) rfl rfl (by first | with_reducible rfl | omega) (by omega) ?_
            show e_Ok 20 elay ecode eI (d + 1) 317 (54, [(5, (0, y5 + 1)), (4, (0, 0)), (0, (1, 275)), (1, (0, a)), (2, (0, u)), (3, (0, m))], [], v1) _
            refine e_Ok.run (t' := (12, [(5, (0, y5 + 1)), (4, (0, 0)), (0, (1, 275)), (1, (0, a)), (2, (0, u)), (3, (0, m))], [], v1)) 1 rfl ?_
            refine e_Ok.sub eAlk (e_sub_of rfl ?_) (ih9 0 (y5 + 1) v1 ⟨j10, by omega, by omega⟩ (by omega))
            exact ⟨rfl, rfl, rfl, rfl, rfl, rfl, trivial⟩
          · replace h18 : (y5 : Int) ≠ a := (show ¬ ((y5 : Int) = a) from h18)
            refine e_Ok.run (t' := (38, [(0, (1, 275)), (1, (0, a)), (2, (0, u)), (3, (0, m)), (4, (0, y4)), (5, (0, y5))], [(0, m), (0, y5), (0, u), (0, a), (1, 275)], v1)) 5 rfl ?_
            refine e_Ok.callV rfl (by first | exact e_dq hd rfl | omega) rfl rfl rfl rfl (c_316 (by first | exact e_dq hd rfl | omega) (mT_L j10 hT) (by omega) (by omega) (by omega) (e_kn_sub (e_kn.fr j10 (fun k q => by unfold mL at q; omega) k1) (by omega) (by omega)) (e_kn_sub (e_kn.fr j10 (fun k q => by unfold mL at q; omega) k2) (by omega) (by omega)) (e_kn_sub (e_kn.fr j10 (fun k q => by unfold mL at q; omega) (kall y5 (by omega) (by omega)).1) (by omega) (by omega)) (e_kn_sub (e_kn.fr j10 (fun k q => by unfold mL at q; omega) (kall y5 (by omega) (by omega)).2) (by omega) (by omega))) (fun r19 w20 h21 => ?_)
            obtain ⟨z22, rfl, q23, q23a, q23b⟩ := h21
            have f24 : e_fr mL w w20 := e_fr.trans j10 (e_fr.mono q23 (fun c k q => by exact q))
            have l25 : w20 286 a = w 286 a := f24 286 a no_52_8
            have l26 : w20 286 y5 = w 286 y5 := f24 286 y5 no_52_8
            show e_Ok 20 elay ecode eI (d + 1) 317 (41, [(0, (1, 275)), (1, (0, a)), (2, (0, u)), (3, (0, m)), (4, (0, y4)), (5, (0, y5))], [(0, z22)], w20) _
            refine e_Ok.if1 rfl (fun h27 => ?_) (fun h27 => ?_)
            · replace h27 : (z22 : Int) = 0 := h27
              refine e_Ok.run (t' := (51, [(4, (0, 0)), (0, (1, 275)), (1, (0, a)), (2, (0, u)), (3, (0, m)), (5, (0, y5))], [], w20)) 2 rfl ?_
              refine e_Ok.inc (z := y5 + 1) rfl rfl (by first | with_reducible rfl | omega) (by omega) ?_
              show e_Ok 20 elay ecode eI (d + 1) 317 (54, [(5, (0, y5 + 1)), (4, (0, 0)), (0, (1, 275)), (1, (0, a)), (2, (0, u)), (3, (0, m))], [], w20) _
              refine e_Ok.run (t' := (12, [(5, (0, y5 + 1)), (4, (0, 0)), (0, (1, 275)), (1, (0, a)), (2, (0, u)), (3, (0, m))], [], w20)) 1 rfl ?_
              refine e_Ok.sub eAlk (e_sub_of rfl ?_) (ih9 0 (y5 + 1) w20 ⟨f24, by omega, by omega⟩ (by omega))
              exact ⟨rfl, rfl, rfl, rfl, rfl, rfl, trivial⟩
            · replace h27 : (z22 : Int) ≠ 0 := (show ¬ ((z22 : Int) = 0) from h27)
              refine e_Ok.run (t' := (51, [(4, (0, 1)), (0, (1, 275)), (1, (0, a)), (2, (0, u)), (3, (0, m)), (5, (0, y5))], [], w20)) 3 rfl ?_
              refine e_Ok.inc (z := y5 + 1) rfl rfl (by first | with_reducible rfl | omega) (by omega) ?_
              show e_Ok 20 elay ecode eI (d + 1) 317 (54, [(5, (0, y5 + 1)), (4, (0, 1)), (0, (1, 275)), (1, (0, a)), (2, (0, u)), (3, (0, m))], [], w20) _
              refine e_Ok.run (t' := (12, [(5, (0, y5 + 1)), (4, (0, 1)), (0, (1, 275)), (1, (0, a)), (2, (0, u)), (3, (0, m))], [], w20)) 1 rfl ?_
              refine e_Ok.sub eAlk (e_sub_of rfl ?_) (ih9 1 (y5 + 1) w20 ⟨f24, by omega, by omega⟩ (by omega))
              exact ⟨rfl, rfl, rfl, rfl, rfl, rfl, trivial⟩
  refine e_Ok.sub eAlk (e_sub_of rfl ?_) (hL8 (5 + 1 : Int).toNat z4 0 w2 ⟨f6, by omega, by omega⟩ (by omega))
  exact ⟨rfl, rfl, rfl, rfl, rfl, rfl, trivial⟩
theorem c_404 {d : Nat} (hd : 25 ≤ d) {w : eW} (hT : e_Has mTy w) (kall : ∀ b, 0 ≤ b → b < w 275 10 → e_pk2 w (7 * b) (w 286 b)) : e_Ok 20 elay ecode eI d 404 (0, [(0, (1, 275))], [], w) (fun r w' => ∃ z : Int, r = [(0, z)] ∧ e_fr mL w w' ∧ -1 ≤ z ∧ z < w 275 10) := by
  obtain ⟨d, rfl⟩ : ∃ e, d = e + 1 := ⟨d - 1, by omega⟩
  have harms := e_Has.get hT (c := 275) (k := 10) (lo := 0) (hi := 4) rfl (by decide)
  refine e_Ok.run (t' := (2, [(1, (0, 0)), (0, (1, 275))], [], w)) 2 rfl ?_
  have hL1 : ∀ (n : Nat) (y1 : Int) (v1 : eW), e_fr mL w v1 ∧ 0 ≤ y1 ∧ y1 ≤ 4 → 5 - y1 < n → e_Ok 20 elay ecode eI (d + 1) 404 (2, [(0, (1, 275)), (1, (0, y1))], [], v1) (fun r w' => ∃ z : Int, r = [(0, z)] ∧ e_fr mL w w' ∧ -1 ≤ z ∧ z < w 275 10) := by
    intro n
    induction n with
    | zero => intro y1 v1 hj hm; obtain ⟨j3, j4⟩ := hj; exfalso; omega
    | succ n ih2 =>
      intro y1 v1 hj hm
      obtain ⟨j3, j4⟩ := hj
      have l5 : v1 286 y1 = w 286 y1 := j3 286 y1 no_52_8
      refine e_Ok.run (t' := (4, [(0, (1, 275)), (1, (0, y1))], [(1, 275), (0, y1)], v1)) 2 rfl ?_
      have h6 := (e_Has.get hT (c := 275) (k := 10) (lo := 0) (hi := 4) rfl (by decide))
      refine e_Ok.getf (z := w 275 10) rfl (el_o rfl) rfl rfl ((j3 275 10 no_52_9).trans rfl) (by first | exact e_bq h6 (by decide) (by decide) | omega) ?_
      refine e_Ok.if2 rfl (fun h7 => ?_) (fun h7 => ?_)
      · replace h7 : (y1 : Int) ≥ w 275 10 := h7
        refine e_Ok.run (t' := (68, [(0, (1, 275)), (1, (0, y1))], [(0, (-1))], v1)) 1 rfl ?_
        refine e_Ok.rets rfl rfl ?_
        exact ⟨_, rfl, j3, by omega, by omega⟩
      · replace h7 : (y1 : Int) < w 275 10 := Int.not_le.mp (show ¬ ((y1 : Int) ≥ w 275 10) from h7)
        refine e_Ok.run (t' := (15, [(0, (1, 275)), (1, (0, y1))], [(0, y1), (0, 7), (0, y1), (1, 275)], v1)) 4 rfl ?_
        refine e_Ok.mul (z := 7 * y1) rfl (by first | with_reducible rfl | exact Int.add_comm _ _ | omega) (by omega) ?_
        refine e_Ok.run (t' := (17, [(0, (1, 275)), (1, (0, y1))], [(0, 0), (0, 7 * y1), (0, y1), (1, 275)], v1)) 1 rfl ?_
        refine e_Ok.callV rfl (by first | exact e_dq hd rfl | omega) rfl rfl rfl rfl (c_315 (by first | exact e_dq hd rfl | omega) (mT_L j3 hT) (by omega) (by omega) (e_kn_sub (e_kn.fr j3 (fun k q => by unfold mL at q; omega) (kall y1 (by omega) (by omega)).1) (by omega) (by omega)) (e_kn_sub (e_kn.fr j3 (fun k q => by unfold mL at q; omega) (kall y1 (by omega) (by omega)).2) (by omega) (by omega))) (fun r8 w9 h10 => ?_)
        obtain ⟨z11, rfl, q12, q12a, q12b⟩ := h10
        have f13 : e_fr mL w w9 := e_fr.trans j3 (e_fr.mono q12 (fun c k q => by exact q))
        have l14 : w9 286 y1 = w 286 y1 := f13 286 y1 no_52_8
        show e_Ok 20 elay ecode eI (d + 1) 404 (20, [(0, (1, 275)), (1, (0, y1))], [(0, z11)], w9) _
        refine e_Ok.run (t' := (23, [(2, (0, z11)), (0, (1, 275)), (1, (0, y1))], [(0, 1), (0, y1)], w9)) 3 rfl ?_
        refine e_Ok.add (z := y1 + 1) rfl (by first | with_reducible rfl | exact Int.add_comm _ _ | omega) (by omega) ?_
        refine e_Ok.run (t' := (25, [(3, (0, y1 + 1)), (2, (0, z11)), (0, (1, 275)), (1, (0, y1))], [], w9)) 1 rfl ?_
        have hL15 : ∀ (n : Nat) (y2 : Int) (y3 : Int) (v2 : eW), e_fr mL w v2 ∧ 0 ≤ y2 ∧ y2 ≤ 1 ∧ 1 ≤ y3 ∧ y3 ≤ 5 → 6 - y3 < n → e_Ok 20 elay ecode eI (d + 1) 404 (25, [(0, (1, 275)), (1, (0, y1)), (2, (0, y2)), (3, (0, y3))], [], v2) (fun r w' => ∃ z : Int, r = [(0, z)] ∧ e_fr mL w w' ∧ -1 ≤ z ∧ z < w 275 10) := by
          intro n
          induction n with
          | zero => intro y2 y3 v2 hj hm; obtain ⟨j17, j18, j19⟩ := hj; exfalso; omega
          | succ n ih16 =>
            intro y2 y3 v2 hj hm
            obtain ⟨j17, j18, j19⟩ := hj
            have l20 : v2 286 y1 = w 286 y1 := j17 286 y1 no_52_8
            have l21 : v2 286 y3 = w 286 y3 := j17 286 y3 no_52_8
            refine e_Ok.run (t' := (27, [(0, (1, 275)), (1, (0, y1)), (2, (0, y2)), (3, (0, y3))], [(1, 275), (0, y3)], v2)) 2 rfl ?_
            refine e_Ok.getf (z := w 275 10) rfl (el_o rfl) rfl rfl ((j17 275 10 no_52_9).trans rfl) (by omega) ?_
            refine e_Ok.if2 rfl (fun h22 => ?_) (fun h22 => ?_)
            · replace h22 : (y3 : Int) ≥ w 275 10 := h22
              refine e_Ok.run (t' := (56, [(0, (1, 275)), (1, (0, y1)), (2, (0, y2)), (3, (0, y3))], [(0, y2)], v2)) 1 rfl ?_
              refine e_Ok.if1 rfl (fun h23 => ?_) (fun h23 => ?_)
              · replace h23 : (y2 : Int) = 0 := h23
                refine e_Ok.inc (z := y1 + 1) rfl rfl (by first | with_reducible rfl | omega) (by omega) ?_
                show e_Ok 20 elay ecode eI (d + 1) 404 (64, [(1, (0, y1 + 1)), (0, (1, 275)), (2, (0, y2)), (3, (0, y3))], [], v2) _
                refine e_Ok.run (t' := (2, [(1, (0, y1 + 1)), (0, (1, 275)), (2, (0, y2)), (3, (0, y3))], [], v2)) 1 rfl ?_
                refine e_Ok.sub eAlk (e_sub_of rfl ?_) (ih2 (y1 + 1) v2 ⟨j17, by omega⟩ (by omega))
                exact ⟨rfl, rfl, trivial⟩
              · replace h23 : (y2 : Int) ≠ 0 := (show ¬ ((y2 : Int) = 0) from h23)
                refine e_Ok.run (t' := (60, [(0, (1, 275)), (1, (0, y1)), (2, (0, y2)), (3, (0, y3))], [(0, y1)], v2)) 1 rfl ?_
                refine e_Ok.rets rfl rfl ?_
                exact ⟨_, rfl, j17, by omega, by omega⟩
            · replace h22 : (y3 : Int) < w 275 10 := Int.not_le.mp (show ¬ ((y3 : Int) ≥ w 275 10) from h22)
              refine e_Ok.run (t' := (34, [(0, (1, 275)), (1, (0, y1)), (2, (0, y2)), (3, (0, y3))], [(0, y2)], v2)) 1 rfl ?_
              refine e_Ok.if1 rfl (fun h24 => ?_) (fun h24 => ?_)
              · replace h24 : (y2 : Int) ≠ 0 := h24
                refine e_Ok.run (t' := (56, [(0, (1, 275)), (1, (0, y1)), (2, (0, y2)), (3, (0, y3))], [(0, y2)], v2)) 1 rfl ?_
                refine e_Ok.if1 rfl (fun h25 => ?_) (fun h25 => ?_)
                · replace h25 : (y2 : Int) = 0 := h25
                  exfalso; omega
                · replace h25 : (y2 : Int) ≠ 0 := (show ¬ ((y2 : Int) = 0) from h25)
                  refine e_Ok.run (t' := (60, [(0, (1, 275)), (1, (0, y1)), (2, (0, y2)), (3, (0, y3))], [(0, y1)], v2)) 1 rfl ?_
                  refine e_Ok.rets rfl rfl ?_
                  exact ⟨_, rfl, j17, by omega, by omega⟩
              · replace h24 : (y2 : Int) = 0 := Classical.not_not.mp (show ¬ ((y2 : Int) ≠ 0) from h24)
                refine e_Ok.run (t' := (42, [(0, (1, 275)), (1, (0, y1)), (2, (0, y2)), (3, (0, y3))], [(0, y1), (0, 7), (0, y1), (1, 275)], v2)) 4 rfl ?_
                refine e_Ok.mul (z := 7 * y1) rfl (by first | with_reducible rfl | exact Int.add_comm _ _ | omega) (by omega) ?_
                refine e_Ok.run (t' := (45, [(0, (1, 275)), (1, (0, y1)), (2, (0, y2)), (3, (0, y3))], [(0, 0), (0, y3), (0, 7 * y1), (0, y1), (1, 275)], v2)) 2 rfl ?_
                refine e_Ok.callV rfl (by first | exact e_dq hd rfl | omega) rfl rfl rfl rfl (c_316 (by first | exact e_dq hd rfl | omega) (mT_L j17 hT) (by omega) (by omega) (by omega) (e_kn_sub (e_kn.fr j17 (fun k q => by unfold mL at q; omega) (kall y1 (by omega) (by omega)).1) (by omega) (by omega)) (e_kn_sub (e_kn.fr j17 (fun k q => by unfold mL at q; omega) (kall y1 (by omega) (by omega)).2) (by omega) (by omega)) (e_kn_sub (e_kn.fr j17 (fun k q => by unfold mL at q; omega) (kall y3 (by omega) (by omega)).1) (by omega) (by omega)) (e_kn_sub (e_kn.fr j17 (fun k q => by unfold mL at q; omega) (kall y3 (by omega) (by omega)).2) (by omega) (by omega))) (fun r26 w27 h28 => ?_)
                obtain ⟨z29, rfl, q30, q30a, q30b⟩ := h28
                have f31 : e_fr mL w w27 := e_fr.trans j17 (e_fr.mono q30 (fun c k q => by exact q))
                have l32 : w27 286 y1 = w 286 y1 := f31 286 y1 no_52_8
                have l33 : w27 286 y3 = w 286 y3 := f31 286 y3 no_52_8
                show e_Ok 20 elay ecode eI (d + 1) 404 (48, [(0, (1, 275)), (1, (0, y1)), (2, (0, y2)), (3, (0, y3))], [(0, z29)], w27) _
                refine e_Ok.run (t' := (49, [(2, (0, z29)), (0, (1, 275)), (1, (0, y1)), (3, (0, y3))], [], w27)) 1 rfl ?_
                refine e_Ok.inc (z := y3 + 1) rfl rfl (by first | with_reducible rfl | omega) (by omega) ?_
                show e_Ok 20 elay ecode eI (d + 1) 404 (52, [(3, (0, y3 + 1)), (2, (0, z29)), (0, (1, 275)), (1, (0, y1))], [], w27) _
                refine e_Ok.run (t' := (25, [(3, (0, y3 + 1)), (2, (0, z29)), (0, (1, 275)), (1, (0, y1))], [], w27)) 1 rfl ?_
                refine e_Ok.sub eAlk (e_sub_of rfl ?_) (ih16 z29 (y3 + 1) w27 ⟨f31, by omega, by omega⟩ (by omega))
                exact ⟨rfl, rfl, rfl, rfl, trivial⟩
        refine e_Ok.sub eAlk (e_sub_of rfl ?_) (hL15 (6 + 1 : Int).toNat z11 (y1 + 1) w9 ⟨f13, by omega, by omega⟩ (by omega))
        exact ⟨rfl, rfl, rfl, rfl, trivial⟩
  refine e_Ok.sub eAlk (e_sub_of rfl ?_) (hL1 (5 + 1 : Int).toNat 0 w ⟨(e_fr.refl w), by omega⟩ (by omega))
  exact ⟨rfl, rfl, trivial⟩
theorem c_319 {d : Nat} {w : eW} (hT : e_Has mTy w) {a b c : Int} (hE : w 276 5 ≤ 2147483646) (ha : -2147483648 ≤ a ∧ a ≤ 2147483647) (hb : -2147483648 ≤ b ∧ b ≤ 2147483647) (hc : -2147483648 ≤ c ∧ c ≤ 2147483647) : e_Ok 20 elay ecode eI d 319 (0, [(0, (1, 275)), (1, (0, a)), (2, (0, b)), (3, (0, c))], [], w) (fun r w' => r = [] ∧ e_fr mE w w' ∧ e_Has mTy w' ∧ w' 276 5 = w 276 5 + 1) := by
  have hev := e_Has.get hT (c := 276) (k := 5) (lo := 0) (hi := 2147483647) rfl (by decide)
  refine e_Ok.run (t' := (1, [(0, (1, 275)), (1, (0, a)), (2, (0, b)), (3, (0, c))], [(1, 275)], w)) 1 rfl ?_
  refine e_Ok.getr (z := 276) rfl (el_o rfl) rfl rfl (e_Has.eq hT rfl) ⟨by decide, by decide⟩ ?_
  refine e_Ok.run (t' := (5, [(0, (1, 275)), (1, (0, a)), (2, (0, b)), (3, (0, c))], [(0, 5), (1, 276)], w)) 1 rfl ?_
  refine e_Ok.ald (z := w 276 5) rfl (el_o rfl) rfl (by omega) rfl (by omega) ?_
  refine e_Ok.run (t' := (9, [(0, (1, 275)), (1, (0, a)), (2, (0, b)), (3, (0, c))], [(0, 2000), (0, w 276 5)], w)) 1 rfl ?_
  refine e_Ok.if2 rfl (fun h1 => ?_) (fun h1 => ?_)
  · replace h1 : (w 276 5 : Int) ≥ 2000 := h1
    refine e_Ok.run (t' := (70, [(0, (1, 275)), (1, (0, a)), (2, (0, b)), (3, (0, c))], [(1, 275)], w)) 1 rfl ?_
    refine e_Ok.getr (z := 276) rfl (el_o rfl) rfl rfl (e_Has.eq hT rfl) ⟨by decide, by decide⟩ ?_
    refine e_Ok.run (t' := (75, [(0, (1, 275)), (1, (0, a)), (2, (0, b)), (3, (0, c))], [(0, 5), (1, 276), (0, 5), (1, 276)], w)) 2 rfl ?_
    refine e_Ok.ald (z := w 276 5) rfl (el_o rfl) rfl (by omega) rfl (by omega) ?_
    refine e_Ok.run (t' := (77, [(0, (1, 275)), (1, (0, a)), (2, (0, b)), (3, (0, c))], [(0, 1), (0, w 276 5), (0, 5), (1, 276)], w)) 1 rfl ?_
    refine e_Ok.add (z := w 276 5 + 1) rfl (by first | with_reducible rfl | exact Int.add_comm _ _ | omega) (by omega) ?_
    refine e_Ok.ast rfl (el_o rfl) rfl rfl (by omega) ?_
    generalize hw2 : e_up w 276 5 (w 276 5 + 1) = w2
    have f3 : e_fr mE w w2 := e_fr.up (e_fr.refl w) hw2 (by first | exact ⟨rfl, Or.inl rfl⟩ | (unfold mE; omega))
    have hT4 : e_Has mTy w2 := e_Has.upr hT hw2 rfl (by omega)
    refine e_Ok.rets rfl rfl ?_
    exact ⟨rfl, f3, hT4, (e_ue hw2)⟩
  · replace h1 : (w 276 5 : Int) < 2000 := Int.not_le.mp (show ¬ ((w 276 5 : Int) ≥ 2000) from h1)
    refine e_Ok.run (t' := (17, [(0, (1, 275)), (1, (0, a)), (2, (0, b)), (3, (0, c))], [(1, 275), (0, 4), (0, 25060)], w)) 3 rfl ?_
    refine e_Ok.getr (z := 276) rfl (el_o rfl) rfl rfl (e_Has.eq hT rfl) ⟨by decide, by decide⟩ ?_
    refine e_Ok.run (t' := (21, [(0, (1, 275)), (1, (0, a)), (2, (0, b)), (3, (0, c))], [(0, 5), (1, 276), (0, 4), (0, 25060)], w)) 1 rfl ?_
    refine e_Ok.ald (z := w 276 5) rfl (el_o rfl) rfl (by omega) rfl (by omega) ?_
    refine e_Ok.mul (z := 4 * w 276 5) rfl (by first | with_reducible rfl | exact Int.add_comm _ _ | omega) (by omega) ?_
    refine e_Ok.add (z := 4 * w 276 5 + 25060) rfl (by first | with_reducible rfl | exact Int.add_comm _ _ | omega) (by omega) ?_
    refine e_Ok.run (t' := (27, [(4, (0, 4 * w 276 5 + 25060)), (0, (1, 275)), (1, (0, a)), (2, (0, b)), (3, (0, c))], [(1, 275)], w)) 2 rfl ?_
    refine e_Ok.getr (z := 276) rfl (el_o rfl) rfl rfl (e_Has.eq hT rfl) ⟨by decide, by decide⟩ ?_
    refine e_Ok.run (t' := (33, [(4, (0, 4 * w 276 5 + 25060)), (0, (1, 275)), (1, (0, a)), (2, (0, b)), (3, (0, c))], [(1, 275), (0, 4 * w 276 5 + 25060), (1, 276)], w)) 2 rfl ?_
    refine e_Ok.getr (z := 276) rfl (el_o rfl) rfl rfl (e_Has.eq hT rfl) ⟨by decide, by decide⟩ ?_
    refine e_Ok.run (t' := (37, [(4, (0, 4 * w 276 5 + 25060)), (0, (1, 275)), (1, (0, a)), (2, (0, b)), (3, (0, c))], [(0, 0), (1, 276), (0, 4 * w 276 5 + 25060), (1, 276)], w)) 1 rfl ?_
    have h5 := (e_Has.get hT (c := 276) (k := 0) (lo := 0) (hi := 6000) rfl (by decide))
    refine e_Ok.ald (z := w 276 0) rfl (el_o rfl) rfl (by omega) rfl (by first | exact e_bq h5 (by decide) (by decide) | omega) ?_
    refine e_Ok.ast rfl (el_o rfl) rfl rfl (by omega) ?_
    generalize hw6 : e_up w 276 (4 * w 276 5 + 25060) (w 276 0) = w6
    have f7 : e_fr mE w w6 := e_fr.up (e_fr.refl w) hw6 (by first | exact ⟨rfl, Or.inr (by omega)⟩ | (unfold mE; omega))
    have hT8 : e_Has mTy w6 := e_Has.upr hT hw6 (nR_EV (by omega)) (by omega)
    refine e_Ok.run (t' := (40, [(4, (0, 4 * w 276 5 + 25060)), (0, (1, 275)), (1, (0, a)), (2, (0, b)), (3, (0, c))], [(1, 275)], w6)) 1 rfl ?_
    refine e_Ok.getr (z := 276) rfl (el_o rfl) rfl rfl (e_uq hw6 (Or.inl (by first | decide | exact e_neo (by decide) | exact e_ne1 (by decide) | exact e_ne2 (by decide) | omega)) (e_Has.eq hT rfl)) ⟨by decide, by decide⟩ ?_
    refine e_Ok.run (t' := (46, [(4, (0, 4 * w 276 5 + 25060)), (0, (1, 275)), (1, (0, a)), (2, (0, b)), (3, (0, c))], [(0, 1), (0, 4 * w 276 5 + 25060), (1, 276)], w6)) 2 rfl ?_
    refine e_Ok.add (z := 4 * w 276 5 + 25061) rfl (by first | with_reducible rfl | exact Int.add_comm _ _ | omega) (by omega) ?_
    refine e_Ok.run (t' := (48, [(4, (0, 4 * w 276 5 + 25060)), (0, (1, 275)), (1, (0, a)), (2, (0, b)), (3, (0, c))], [(0, a), (0, 4 * w 276 5 + 25061), (1, 276)], w6)) 1 rfl ?_
    refine e_Ok.ast rfl (el_o rfl) rfl rfl (by omega) ?_
    generalize hw9 : e_up w6 276 (4 * w 276 5 + 25061) a = w9
    have f10 : e_fr mE w w9 := e_fr.up f7 hw9 (by first | exact ⟨rfl, Or.inr (by omega)⟩ | (unfold mE; omega))
    have hT11 : e_Has mTy w9 := e_Has.upr hT8 hw9 (nR_EV (by omega)) (by omega)
    refine e_Ok.run (t' := (50, [(4, (0, 4 * w 276 5 + 25060)), (0, (1, 275)), (1, (0, a)), (2, (0, b)), (3, (0, c))], [(1, 275)], w9)) 1 rfl ?_
    refine e_Ok.getr (z := 276) rfl (el_o rfl) rfl rfl (e_uq hw9 (Or.inl (by first | decide | exact e_neo (by decide) | exact e_ne1 (by decide) | exact e_ne2 (by decide) | omega)) (e_uq hw6 (Or.inl (by first | decide | exact e_neo (by decide) | exact e_ne1 (by decide) | exact e_ne2 (by decide) | omega)) (e_Has.eq hT rfl))) ⟨by decide, by decide⟩ ?_
    refine e_Ok.run (t' := (56, [(4, (0, 4 * w 276 5 + 25060)), (0, (1, 275)), (1, (0, a)), (2, (0, b)), (3, (0, c))], [(0, 2), (0, 4 * w 276 5 + 25060), (1, 276)], w9)) 2 rfl ?_
    refine e_Ok.add (z := 4 * w 276 5 + 25062) rfl (by first | with_reducible rfl | exact Int.add_comm _ _ | omega) (by omega) ?_
    refine e_Ok.run (t' := (58, [(4, (0, 4 * w 276 5 + 25060)), (0, (1, 275)), (1, (0, a)), (2, (0, b)), (3, (0, c))], [(0, b), (0, 4 * w 276 5 + 25062), (1, 276)], w9)) 1 rfl ?_
    refine e_Ok.ast rfl (el_o rfl) rfl rfl (by omega) ?_
    generalize hw12 : e_up w9 276 (4 * w 276 5 + 25062) b = w12
    have f13 : e_fr mE w w12 := e_fr.up f10 hw12 (by first | exact ⟨rfl, Or.inr (by omega)⟩ | (unfold mE; omega))
    have hT14 : e_Has mTy w12 := e_Has.upr hT11 hw12 (nR_EV (by omega)) (by omega)
    refine e_Ok.run (t' := (60, [(4, (0, 4 * w 276 5 + 25060)), (0, (1, 275)), (1, (0, a)), (2, (0, b)), (3, (0, c))], [(1, 275)], w12)) 1 rfl ?_
    refine e_Ok.getr (z := 276) rfl (el_o rfl) rfl rfl (e_uq hw12 (Or.inl (by first | decide | exact e_neo (by decide) | exact e_ne1 (by decide) | exact e_ne2 (by decide) | omega)) (e_uq hw9 (Or.inl (by first | decide | exact e_neo (by decide) | exact e_ne1 (by decide) | exact e_ne2 (by decide) | omega)) (e_uq hw6 (Or.inl (by first | decide | exact e_neo (by decide) | exact e_ne1 (by decide) | exact e_ne2 (by decide) | omega)) (e_Has.eq hT rfl)))) ⟨by decide, by decide⟩ ?_
    refine e_Ok.run (t' := (66, [(4, (0, 4 * w 276 5 + 25060)), (0, (1, 275)), (1, (0, a)), (2, (0, b)), (3, (0, c))], [(0, 3), (0, 4 * w 276 5 + 25060), (1, 276)], w12)) 2 rfl ?_
    refine e_Ok.add (z := 4 * w 276 5 + 25063) rfl (by first | with_reducible rfl | exact Int.add_comm _ _ | omega) (by omega) ?_
    refine e_Ok.run (t' := (68, [(4, (0, 4 * w 276 5 + 25060)), (0, (1, 275)), (1, (0, a)), (2, (0, b)), (3, (0, c))], [(0, c), (0, 4 * w 276 5 + 25063), (1, 276)], w12)) 1 rfl ?_
    refine e_Ok.ast rfl (el_o rfl) rfl rfl (by omega) ?_
    generalize hw15 : e_up w12 276 (4 * w 276 5 + 25063) c = w15
    have f16 : e_fr mE w w15 := e_fr.up f13 hw15 (by first | exact ⟨rfl, Or.inr (by omega)⟩ | (unfold mE; omega))
    have hT17 : e_Has mTy w15 := e_Has.upr hT14 hw15 (nR_EV (by omega)) (by omega)
    refine e_Ok.run (t' := (70, [(4, (0, 4 * w 276 5 + 25060)), (0, (1, 275)), (1, (0, a)), (2, (0, b)), (3, (0, c))], [(1, 275)], w15)) 1 rfl ?_
    refine e_Ok.getr (z := 276) rfl (el_o rfl) rfl rfl (e_uq hw15 (Or.inl (by first | decide | exact e_neo (by decide) | exact e_ne1 (by decide) | exact e_ne2 (by decide) | omega)) (e_uq hw12 (Or.inl (by first | decide | exact e_neo (by decide) | exact e_ne1 (by decide) | exact e_ne2 (by decide) | omega)) (e_uq hw9 (Or.inl (by first | decide | exact e_neo (by decide) | exact e_ne1 (by decide) | exact e_ne2 (by decide) | omega)) (e_uq hw6 (Or.inl (by first | decide | exact e_neo (by decide) | exact e_ne1 (by decide) | exact e_ne2 (by decide) | omega)) (e_Has.eq hT rfl))))) ⟨by decide, by decide⟩ ?_
    refine e_Ok.run (t' := (75, [(4, (0, 4 * w 276 5 + 25060)), (0, (1, 275)), (1, (0, a)), (2, (0, b)), (3, (0, c))], [(0, 5), (1, 276), (0, 5), (1, 276)], w15)) 2 rfl ?_
    refine e_Ok.ald (z := w 276 5) rfl (el_o rfl) rfl (by omega) (e_uq hw15 (Or.inr (by first | decide | exact e_neo (by decide) | exact e_ne1 (by decide) | exact e_ne2 (by decide) | omega)) (e_uq hw12 (Or.inr (by first | decide | exact e_neo (by decide) | exact e_ne1 (by decide) | exact e_ne2 (by decide) | omega)) (e_uq hw9 (Or.inr (by first | decide | exact e_neo (by decide) | exact e_ne1 (by decide) | exact e_ne2 (by decide) | omega)) (e_uq hw6 (Or.inr (by first | decide | exact e_neo (by decide) | exact e_ne1 (by decide) | exact e_ne2 (by decide) | omega)) rfl)))) (by omega) ?_
    refine e_Ok.run (t' := (77, [(4, (0, 4 * w 276 5 + 25060)), (0, (1, 275)), (1, (0, a)), (2, (0, b)), (3, (0, c))], [(0, 1), (0, w 276 5), (0, 5), (1, 276)], w15)) 1 rfl ?_
    refine e_Ok.add (z := w 276 5 + 1) rfl (by first | with_reducible rfl | exact Int.add_comm _ _ | omega) (by omega) ?_
    refine e_Ok.ast rfl (el_o rfl) rfl rfl (by omega) ?_
    generalize hw18 : e_up w15 276 5 (w 276 5 + 1) = w18
    have f19 : e_fr mE w w18 := e_fr.up f16 hw18 (by first | exact ⟨rfl, Or.inl rfl⟩ | (unfold mE; omega))
    have hT20 : e_Has mTy w18 := e_Has.upr hT17 hw18 rfl (by omega)
    refine e_Ok.rets rfl rfl ?_
    exact ⟨rfl, f19, hT20, (e_ue hw18)⟩
theorem no_52_10 {k : Int} : ¬ mQ 275 k := by unfold mQ; omega
theorem no_52_11 {k : Int} : ¬ mQ 276 k := by unfold mQ; omega
theorem no_52_12 {k : Int} : ¬ mQ 319 k := by unfold mQ; omega
theorem no_52_13 {k : Int} : ¬ mQ 318 k := by unfold mQ; omega
theorem c_320 {d : Nat} {w : eW} (hT : e_Has mTy w) (hA : mAc w) {p : Int} (hp : 0 ≤ p ∧ p ≤ 63) : e_Ok 20 elay ecode eI d 320 (0, [(0, (1, 275)), (1, (0, p))], [], w) (fun r w' => ∃ z : Int, r = [(0, z)] ∧ e_fr mQ w w' ∧ -2147483648 ≤ z ∧ z ≤ 2147483647) := by
  obtain ⟨rk, hrk⟩ := hA
  have hrp := hrk p (by omega) (by omega)
  refine e_Ok.run (t' := (4, [(3, (0, p)), (2, (0, 0)), (0, (1, 275)), (1, (0, p))], [], w)) 4 rfl ?_
  have hL1 : ∀ (n : Nat) (y2 : Int) (y3 : Int) (v1 : eW), e_fr mQ w v1 ∧ e_kr v1 326 0 (y2 - 1) 0 63 ∧ 0 ≤ y3 ∧ y3 ≤ 63 ∧ 0 ≤ y2 ∧ y2 + rk y3 ≤ 63 ∧ 0 ≤ rk y3 → rk y3 < n → e_Ok 20 elay ecode eI d 320 (4, [(0, (1, 275)), (2, (0, y2)), (3, (0, y3))], [], v1) (fun r w' => ∃ z : Int, r = [(0, z)] ∧ e_fr mQ w w' ∧ -2147483648 ≤ z ∧ z ≤ 2147483647) := by
    intro n
    induction n with
    | zero => intro y2 y3 v1 hj hm; obtain ⟨j3, j4, j5, j6⟩ := hj; exfalso; omega
    | succ n ih2 =>
      intro y2 y3 v1 hj hm
      obtain ⟨j3, j4, j5, j6⟩ := hj
      refine e_Ok.run (t' := (5, [(0, (1, 275)), (2, (0, y2)), (3, (0, y3))], [(1, 275)], v1)) 1 rfl ?_
      refine e_Ok.getr (z := 276) rfl (el_o rfl) rfl rfl ((j3 275 0 no_52_10).trans (e_Has.eq hT rfl)) ⟨by decide, by decide⟩ ?_
      refine e_Ok.run (t' := (12, [(0, (1, 275)), (2, (0, y2)), (3, (0, y3))], [(0, y3), (0, 224), (1, 276)], v1)) 2 rfl ?_
      refine e_Ok.add (z := y3 + 224) rfl (by first | with_reducible rfl | exact Int.add_comm _ _ | omega) (by omega) ?_
      have h7 := (e_Has.get hT (c := 276) (k := y3 + 224) (lo := 0) (hi := 1) (nR_FORCED (p := y3) (by omega)) (by decide))
      refine e_Ok.ald (z := w 276 (y3 + 224)) rfl (el_o rfl) rfl (by omega) ((j3 276 (y3 + 224) no_52_11).trans rfl) (by first | exact e_bq h7 (by decide) (by decide) | omega) ?_
      refine e_Ok.if1 rfl (fun h8 => ?_) (fun h8 => ?_)
      · replace h8 : (w 276 (y3 + 224) : Int) ≠ 0 := h8
        refine e_Ok.run (t' := (47, [(0, (1, 275)), (2, (0, y2)), (3, (0, y3))], [(1, 275)], v1)) 1 rfl ?_
        refine e_Ok.getr (z := 276) rfl (el_o rfl) rfl rfl ((j3 275 0 no_52_10).trans (e_Has.eq hT rfl)) ⟨by decide, by decide⟩ ?_
        refine e_Ok.run (t' := (54, [(0, (1, 275)), (2, (0, y2)), (3, (0, y3))], [(0, y3), (0, 224), (1, 276)], v1)) 2 rfl ?_
        refine e_Ok.add (z := y3 + 224) rfl (by first | with_reducible rfl | exact Int.add_comm _ _ | omega) (by omega) ?_
        refine e_Ok.ald (z := w 276 (y3 + 224)) rfl (el_o rfl) rfl (by omega) ((j3 276 (y3 + 224) no_52_11).trans rfl) (by omega) ?_
        refine e_Ok.run (t' := (57, [(0, (1, 275)), (2, (0, y2)), (3, (0, y3))], [(0, 1), (0, w 276 (y3 + 224))], v1)) 1 rfl ?_
        refine e_Ok.if2 rfl (fun h9 => ?_) (fun h9 => ?_)
        · replace h9 : (w 276 (y3 + 224) : Int) ≠ 1 := h9
          exfalso; omega
        · replace h9 : (w 276 (y3 + 224) : Int) = 1 := Classical.not_not.mp (show ¬ ((w 276 (y3 + 224) : Int) ≠ 1) from h9)
          refine e_Ok.run (t' := (61, [(0, (1, 275)), (2, (0, y2)), (3, (0, y3))], [(1, 275)], v1)) 1 rfl ?_
          refine e_Ok.getr (z := 276) rfl (el_o rfl) rfl rfl ((j3 275 0 no_52_10).trans (e_Has.eq hT rfl)) ⟨by decide, by decide⟩ ?_
          refine e_Ok.run (t' := (68, [(0, (1, 275)), (2, (0, y2)), (3, (0, y3))], [(0, y3), (0, 288), (1, 276)], v1)) 2 rfl ?_
          refine e_Ok.add (z := y3 + 288) rfl (by first | with_reducible rfl | exact Int.add_comm _ _ | omega) (by omega) ?_
          have h10 := (e_Has.get hT (c := 276) (k := y3 + 288) (lo := (-2147483648)) (hi := 2147483647) (nR_FORCE (p := y3) (by omega)) (by decide))
          refine e_Ok.ald (z := w 276 (y3 + 288)) rfl (el_o rfl) rfl (by omega) ((j3 276 (y3 + 288) no_52_11).trans rfl) (by first | exact e_bq h10 (by decide) (by decide) | omega) ?_
          refine e_Ok.run (t' := (87, [(4, (0, w 276 (y3 + 288))), (0, (1, 275)), (2, (0, y2)), (3, (0, y3))], [(0, 1), (0, y2)], v1)) 4 rfl ?_
          refine e_Ok.sub' (z := y2 - 1) rfl (by first | with_reducible rfl | exact Int.add_comm _ _ | omega) (by omega) ?_
          refine e_Ok.run (t' := (90, [(5, (0, y2 - 1)), (4, (0, w 276 (y3 + 288))), (0, (1, 275)), (2, (0, y2)), (3, (0, y3))], [], v1)) 1 rfl ?_
          have hL11 : ∀ (n : Nat) (y4 : Int) (y5 : Int), -2147483648 ≤ y4 ∧ y4 ≤ 2147483647 ∧ -1 ≤ y5 ∧ y5 ≤ y2 - 1 → y5 + 1 < n → e_Ok 20 elay ecode eI d 320 (90, [(0, (1, 275)), (4, (0, y4)), (5, (0, y5))], [], v1) (fun r w' => ∃ z : Int, r = [(0, z)] ∧ e_fr mQ w w' ∧ -2147483648 ≤ z ∧ z ≤ 2147483647) := by
            intro n
            induction n with
            | zero => intro y4 y5 hj hm; obtain ⟨j13, j14⟩ := hj; exfalso; omega
            | succ n ih12 =>
              intro y4 y5 hj hm
              obtain ⟨j13, j14⟩ := hj
              refine e_Ok.run (t' := (92, [(0, (1, 275)), (4, (0, y4)), (5, (0, y5))], [(0, y5)], v1)) 1 rfl ?_
              refine e_Ok.if1 rfl (fun h15 => ?_) (fun h15 => ?_)
              · replace h15 : (y5 : Int) < 0 := h15
                refine e_Ok.run (t' := (135, [(0, (1, 275)), (4, (0, y4)), (5, (0, y5))], [(0, y4)], v1)) 1 rfl ?_
                refine e_Ok.rets rfl rfl ?_
                exact ⟨_, rfl, j3, by omega, by omega⟩
              · replace h15 : (y5 : Int) ≥ 0 := Int.not_lt.mp (show ¬ ((y5 : Int) < 0) from h15)
                refine e_Ok.run (t' := (96, [(0, (1, 275)), (4, (0, y4)), (5, (0, y5))], [(1, 275)], v1)) 1 rfl ?_
                refine e_Ok.getr (z := 319) rfl (el_o rfl) rfl rfl ((j3 275 53 no_52_10).trans (e_Has.eq hT rfl)) ⟨by decide, by decide⟩ ?_
                refine e_Ok.run (t' := (100, [(0, (1, 275)), (4, (0, y4)), (5, (0, y5))], [(1, 275), (1, 319)], v1)) 1 rfl ?_
                refine e_Ok.getr (z := 326) rfl (el_o rfl) rfl rfl ((j3 275 63 no_52_10).trans (e_Has.eq hT rfl)) ⟨by decide, by decide⟩ ?_
                refine e_Ok.run (t' := (105, [(0, (1, 275)), (4, (0, y4)), (5, (0, y5))], [(0, y5), (1, 326), (1, 319)], v1)) 1 rfl ?_
                have h16 := (j4 y5 (by omega) (by omega))
                refine e_Ok.ald (z := v1 326 y5) rfl (el_o rfl) rfl (by omega) rfl (by omega) ?_
                have h17 := (e_Has.get hT (c := 319) (k := v1 326 y5) (lo := 0) (hi := 1) rfl (by decide))
                refine e_Ok.ald (z := w 319 (v1 326 y5)) rfl (el_o rfl) rfl (by omega) ((j3 319 (v1 326 y5) no_52_12).trans rfl) (by first | exact e_bq h17 (by decide) (by decide) | omega) ?_
                refine e_Ok.if1 rfl (fun h18 => ?_) (fun h18 => ?_)
                · replace h18 : (w 319 (v1 326 y5) : Int) ≠ 0 := h18
                  refine e_Ok.run (t' := (117, [(0, (1, 275)), (4, (0, y4)), (5, (0, y5))], [(0, y4)], v1)) 1 rfl ?_
                  refine e_Ok.if1 rfl (fun h19 => ?_) (fun h19 => ?_)
                  · replace h19 : (y4 : Int) ≠ 0 := h19
                    refine e_Ok.run (t' := (127, [(4, (0, 0)), (0, (1, 275)), (5, (0, y5))], [], v1)) 2 rfl ?_
                    refine e_Ok.inc (z := y5 - 1) rfl rfl (by first | with_reducible rfl | omega) (by omega) ?_
                    show e_Ok 20 elay ecode eI d 320 (130, [(5, (0, y5 - 1)), (4, (0, 0)), (0, (1, 275))], [], v1) _
                    refine e_Ok.run (t' := (90, [(5, (0, y5 - 1)), (4, (0, 0)), (0, (1, 275))], [], v1)) 1 rfl ?_
                    refine e_Ok.sub eAlk (e_sub_of rfl ?_) (ih12 0 (y5 - 1) ⟨by omega, by omega⟩ (by omega))
                    exact ⟨rfl, rfl, rfl, trivial⟩
                  · replace h19 : (y4 : Int) = 0 := Classical.not_not.mp (show ¬ ((y4 : Int) ≠ 0) from h19)
                    refine e_Ok.run (t' := (127, [(4, (0, 1)), (0, (1, 275)), (5, (0, y5))], [], v1)) 3 rfl ?_
                    refine e_Ok.inc (z := y5 - 1) rfl rfl (by first | with_reducible rfl | omega) (by omega) ?_
                    show e_Ok 20 elay ecode eI d 320 (130, [(5, (0, y5 - 1)), (4, (0, 1)), (0, (1, 275))], [], v1) _
                    refine e_Ok.run (t' := (90, [(5, (0, y5 - 1)), (4, (0, 1)), (0, (1, 275))], [], v1)) 1 rfl ?_
                    refine e_Ok.sub eAlk (e_sub_of rfl ?_) (ih12 1 (y5 - 1) ⟨by omega, by omega⟩ (by omega))
                    exact ⟨rfl, rfl, rfl, trivial⟩
                · replace h18 : (w 319 (v1 326 y5) : Int) = 0 := Classical.not_not.mp (show ¬ ((w 319 (v1 326 y5) : Int) ≠ 0) from h18)
                  refine e_Ok.run (t' := (127, [(4, (0, y4)), (0, (1, 275)), (5, (0, y5))], [], v1)) 3 rfl ?_
                  refine e_Ok.inc (z := y5 - 1) rfl rfl (by first | with_reducible rfl | omega) (by omega) ?_
                  show e_Ok 20 elay ecode eI d 320 (130, [(5, (0, y5 - 1)), (4, (0, y4)), (0, (1, 275))], [], v1) _
                  refine e_Ok.run (t' := (90, [(5, (0, y5 - 1)), (4, (0, y4)), (0, (1, 275))], [], v1)) 1 rfl ?_
                  refine e_Ok.sub eAlk (e_sub_of rfl ?_) (ih12 y4 (y5 - 1) ⟨by omega, by omega⟩ (by omega))
                  exact ⟨rfl, rfl, rfl, trivial⟩
          refine e_Ok.sub eAlk (e_sub_of rfl ?_) (hL11 (63 + 1 : Int).toNat (w 276 (y3 + 288)) (y2 - 1) ⟨by omega, by omega⟩ (by omega))
          exact ⟨rfl, rfl, rfl, trivial⟩
      · replace h8 : (w 276 (y3 + 224) : Int) = 0 := Classical.not_not.mp (show ¬ ((w 276 (y3 + 224) : Int) ≠ 0) from h8)
        refine e_Ok.run (t' := (18, [(0, (1, 275)), (2, (0, y2)), (3, (0, y3))], [(1, 275)], v1)) 1 rfl ?_
        refine e_Ok.getr (z := 318) rfl (el_o rfl) rfl rfl ((j3 275 52 no_52_10).trans (e_Has.eq hT rfl)) ⟨by decide, by decide⟩ ?_
        refine e_Ok.run (t' := (22, [(0, (1, 275)), (2, (0, y2)), (3, (0, y3))], [(0, y3), (1, 318)], v1)) 1 rfl ?_
        have h20 := (e_Has.get hT (c := 318) (k := y3) (lo := (-1)) (hi := 63) rfl (by decide))
        refine e_Ok.ald (z := w 318 y3) rfl (el_o rfl) rfl (by omega) ((j3 318 y3 no_52_13).trans rfl) (by first | exact e_bq h20 (by decide) (by decide) | omega) ?_
        refine e_Ok.if1 rfl (fun h21 => ?_) (fun h21 => ?_)
        · replace h21 : (w 318 y3 : Int) < 0 := h21
          refine e_Ok.run (t' := (47, [(0, (1, 275)), (2, (0, y2)), (3, (0, y3))], [(1, 275)], v1)) 1 rfl ?_
          refine e_Ok.getr (z := 276) rfl (el_o rfl) rfl rfl ((j3 275 0 no_52_10).trans (e_Has.eq hT rfl)) ⟨by decide, by decide⟩ ?_
          refine e_Ok.run (t' := (54, [(0, (1, 275)), (2, (0, y2)), (3, (0, y3))], [(0, y3), (0, 224), (1, 276)], v1)) 2 rfl ?_
          refine e_Ok.add (z := y3 + 224) rfl (by first | with_reducible rfl | exact Int.add_comm _ _ | omega) (by omega) ?_
          refine e_Ok.ald (z := w 276 (y3 + 224)) rfl (el_o rfl) rfl (by omega) ((j3 276 (y3 + 224) no_52_11).trans rfl) (by omega) ?_
          refine e_Ok.run (t' := (57, [(0, (1, 275)), (2, (0, y2)), (3, (0, y3))], [(0, 1), (0, w 276 (y3 + 224))], v1)) 1 rfl ?_
          refine e_Ok.if2 rfl (fun h22 => ?_) (fun h22 => ?_)
          · replace h22 : (w 276 (y3 + 224) : Int) ≠ 1 := h22
            refine e_Ok.run (t' := (74, [(0, (1, 275)), (2, (0, y2)), (3, (0, y3))], [(1, 275)], v1)) 1 rfl ?_
            refine e_Ok.getr (z := 276) rfl (el_o rfl) rfl rfl ((j3 275 0 no_52_10).trans (e_Has.eq hT rfl)) ⟨by decide, by decide⟩ ?_
            refine e_Ok.run (t' := (81, [(0, (1, 275)), (2, (0, y2)), (3, (0, y3))], [(0, y3), (0, 160), (1, 276)], v1)) 2 rfl ?_
            refine e_Ok.add (z := y3 + 160) rfl (by first | with_reducible rfl | exact Int.add_comm _ _ | omega) (by omega) ?_
            have h23 := (e_Has.get hT (c := 276) (k := y3 + 160) (lo := (-2147483648)) (hi := 2147483647) (nR_OWN (p := y3) (by omega)) (by decide))
            refine e_Ok.ald (z := w 276 (y3 + 160)) rfl (el_o rfl) rfl (by omega) ((j3 276 (y3 + 160) no_52_11).trans rfl) (by first | exact e_bq h23 (by decide) (by decide) | omega) ?_
            refine e_Ok.run (t' := (87, [(4, (0, w 276 (y3 + 160))), (0, (1, 275)), (2, (0, y2)), (3, (0, y3))], [(0, 1), (0, y2)], v1)) 3 rfl ?_
            refine e_Ok.sub' (z := y2 - 1) rfl (by first | with_reducible rfl | exact Int.add_comm _ _ | omega) (by omega) ?_
            refine e_Ok.run (t' := (90, [(5, (0, y2 - 1)), (4, (0, w 276 (y3 + 160))), (0, (1, 275)), (2, (0, y2)), (3, (0, y3))], [], v1)) 1 rfl ?_
            have hL24 : ∀ (n : Nat) (y4 : Int) (y5 : Int), -2147483648 ≤ y4 ∧ y4 ≤ 2147483647 ∧ -1 ≤ y5 ∧ y5 ≤ y2 - 1 → y5 + 1 < n → e_Ok 20 elay ecode eI d 320 (90, [(0, (1, 275)), (4, (0, y4)), (5, (0, y5))], [], v1) (fun r w' => ∃ z : Int, r = [(0, z)] ∧ e_fr mQ w w' ∧ -2147483648 ≤ z ∧ z ≤ 2147483647) := by
              intro n
              induction n with
              | zero => intro y4 y5 hj hm; obtain ⟨j26, j27⟩ := hj; exfalso; omega
              | succ n ih25 =>
                intro y4 y5 hj hm
                obtain ⟨j26, j27⟩ := hj
                refine e_Ok.run (t' := (92, [(0, (1, 275)), (4, (0, y4)), (5, (0, y5))], [(0, y5)], v1)) 1 rfl ?_
                refine e_Ok.if1 rfl (fun h28 => ?_) (fun h28 => ?_)
                · replace h28 : (y5 : Int) < 0 := h28
                  refine e_Ok.run (t' := (135, [(0, (1, 275)), (4, (0, y4)), (5, (0, y5))], [(0, y4)], v1)) 1 rfl ?_
                  refine e_Ok.rets rfl rfl ?_
                  exact ⟨_, rfl, j3, by omega, by omega⟩
                · replace h28 : (y5 : Int) ≥ 0 := Int.not_lt.mp (show ¬ ((y5 : Int) < 0) from h28)
                  refine e_Ok.run (t' := (96, [(0, (1, 275)), (4, (0, y4)), (5, (0, y5))], [(1, 275)], v1)) 1 rfl ?_
                  refine e_Ok.getr (z := 319) rfl (el_o rfl) rfl rfl ((j3 275 53 no_52_10).trans (e_Has.eq hT rfl)) ⟨by decide, by decide⟩ ?_
                  refine e_Ok.run (t' := (100, [(0, (1, 275)), (4, (0, y4)), (5, (0, y5))], [(1, 275), (1, 319)], v1)) 1 rfl ?_
                  refine e_Ok.getr (z := 326) rfl (el_o rfl) rfl rfl ((j3 275 63 no_52_10).trans (e_Has.eq hT rfl)) ⟨by decide, by decide⟩ ?_
                  refine e_Ok.run (t' := (105, [(0, (1, 275)), (4, (0, y4)), (5, (0, y5))], [(0, y5), (1, 326), (1, 319)], v1)) 1 rfl ?_
                  have h29 := (j4 y5 (by omega) (by omega))
                  refine e_Ok.ald (z := v1 326 y5) rfl (el_o rfl) rfl (by omega) rfl (by omega) ?_
                  have h30 := (e_Has.get hT (c := 319) (k := v1 326 y5) (lo := 0) (hi := 1) rfl (by decide))
                  refine e_Ok.ald (z := w 319 (v1 326 y5)) rfl (el_o rfl) rfl (by omega) ((j3 319 (v1 326 y5) no_52_12).trans rfl) (by first | exact e_bq h30 (by decide) (by decide) | omega) ?_
                  refine e_Ok.if1 rfl (fun h31 => ?_) (fun h31 => ?_)
                  · replace h31 : (w 319 (v1 326 y5) : Int) ≠ 0 := h31
                    refine e_Ok.run (t' := (117, [(0, (1, 275)), (4, (0, y4)), (5, (0, y5))], [(0, y4)], v1)) 1 rfl ?_
                    refine e_Ok.if1 rfl (fun h32 => ?_) (fun h32 => ?_)
                    · replace h32 : (y4 : Int) ≠ 0 := h32
                      refine e_Ok.run (t' := (127, [(4, (0, 0)), (0, (1, 275)), (5, (0, y5))], [], v1)) 2 rfl ?_
                      refine e_Ok.inc (z := y5 - 1) rfl rfl (by first | with_reducible rfl | omega) (by omega) ?_
                      show e_Ok 20 elay ecode eI d 320 (130, [(5, (0, y5 - 1)), (4, (0, 0)), (0, (1, 275))], [], v1) _
                      refine e_Ok.run (t' := (90, [(5, (0, y5 - 1)), (4, (0, 0)), (0, (1, 275))], [], v1)) 1 rfl ?_
                      refine e_Ok.sub eAlk (e_sub_of rfl ?_) (ih25 0 (y5 - 1) ⟨by omega, by omega⟩ (by omega))
                      exact ⟨rfl, rfl, rfl, trivial⟩
                    · replace h32 : (y4 : Int) = 0 := Classical.not_not.mp (show ¬ ((y4 : Int) ≠ 0) from h32)
                      refine e_Ok.run (t' := (127, [(4, (0, 1)), (0, (1, 275)), (5, (0, y5))], [], v1)) 3 rfl ?_
                      refine e_Ok.inc (z := y5 - 1) rfl rfl (by first | with_reducible rfl | omega) (by omega) ?_
                      show e_Ok 20 elay ecode eI d 320 (130, [(5, (0, y5 - 1)), (4, (0, 1)), (0, (1, 275))], [], v1) _
                      refine e_Ok.run (t' := (90, [(5, (0, y5 - 1)), (4, (0, 1)), (0, (1, 275))], [], v1)) 1 rfl ?_
                      refine e_Ok.sub eAlk (e_sub_of rfl ?_) (ih25 1 (y5 - 1) ⟨by omega, by omega⟩ (by omega))
                      exact ⟨rfl, rfl, rfl, trivial⟩
                  · replace h31 : (w 319 (v1 326 y5) : Int) = 0 := Classical.not_not.mp (show ¬ ((w 319 (v1 326 y5) : Int) ≠ 0) from h31)
                    refine e_Ok.run (t' := (127, [(4, (0, y4)), (0, (1, 275)), (5, (0, y5))], [], v1)) 3 rfl ?_
                    refine e_Ok.inc (z := y5 - 1) rfl rfl (by first | with_reducible rfl | omega) (by omega) ?_
                    show e_Ok 20 elay ecode eI d 320 (130, [(5, (0, y5 - 1)), (4, (0, y4)), (0, (1, 275))], [], v1) _
                    refine e_Ok.run (t' := (90, [(5, (0, y5 - 1)), (4, (0, y4)), (0, (1, 275))], [], v1)) 1 rfl ?_
                    refine e_Ok.sub eAlk (e_sub_of rfl ?_) (ih25 y4 (y5 - 1) ⟨by omega, by omega⟩ (by omega))
                    exact ⟨rfl, rfl, rfl, trivial⟩
            refine e_Ok.sub eAlk (e_sub_of rfl ?_) (hL24 (63 + 1 : Int).toNat (w 276 (y3 + 160)) (y2 - 1) ⟨by omega, by omega⟩ (by omega))
            exact ⟨rfl, rfl, rfl, trivial⟩
          · replace h22 : (w 276 (y3 + 224) : Int) = 1 := Classical.not_not.mp (show ¬ ((w 276 (y3 + 224) : Int) ≠ 1) from h22)
            exfalso; omega
        · replace h21 : (w 318 y3 : Int) ≥ 0 := Int.not_lt.mp (show ¬ ((w 318 y3 : Int) < 0) from h21)
          refine e_Ok.run (t' := (27, [(0, (1, 275)), (2, (0, y2)), (3, (0, y3))], [(1, 275)], v1)) 1 rfl ?_
          refine e_Ok.getr (z := 326) rfl (el_o rfl) rfl rfl ((j3 275 63 no_52_10).trans (e_Has.eq hT rfl)) ⟨by decide, by decide⟩ ?_
          refine e_Ok.run (t' := (32, [(0, (1, 275)), (2, (0, y2)), (3, (0, y3))], [(0, y3), (0, y2), (1, 326)], v1)) 2 rfl ?_
          refine e_Ok.ast rfl (el_o rfl) rfl rfl (by omega) ?_
          generalize hw33 : e_up v1 326 y2 y3 = w33
          have f34 : e_fr mQ w w33 := e_fr.up j3 hw33 (by first | exact rfl | (unfold mQ; omega))
          refine e_Ok.inc (z := y2 + 1) rfl rfl (by first | with_reducible rfl | omega) (by omega) ?_
          show e_Ok 20 elay ecode eI d 320 (36, [(2, (0, y2 + 1)), (0, (1, 275)), (3, (0, y3))], [], w33) _
          refine e_Ok.run (t' := (37, [(2, (0, y2 + 1)), (0, (1, 275)), (3, (0, y3))], [(1, 275)], w33)) 1 rfl ?_
          refine e_Ok.getr (z := 318) rfl (el_o rfl) rfl rfl (e_uq hw33 (Or.inl (by first | decide | exact e_neo (by decide) | exact e_ne1 (by decide) | exact e_ne2 (by decide) | omega)) ((j3 275 52 no_52_10).trans (e_Has.eq hT rfl))) ⟨by decide, by decide⟩ ?_
          refine e_Ok.run (t' := (41, [(2, (0, y2 + 1)), (0, (1, 275)), (3, (0, y3))], [(0, y3), (1, 318)], w33)) 1 rfl ?_
          refine e_Ok.ald (z := w 318 y3) rfl (el_o rfl) rfl (by omega) (e_uq hw33 (Or.inl (by first | decide | exact e_neo (by decide) | exact e_ne1 (by decide) | exact e_ne2 (by decide) | omega)) ((j3 318 y3 no_52_13).trans rfl)) (by omega) ?_
          refine e_Ok.run (t' := (4, [(3, (0, w 318 y3)), (2, (0, y2 + 1)), (0, (1, 275))], [], w33)) 2 rfl ?_
          refine e_Ok.sub eAlk (e_sub_of rfl ?_) (ih2 (y2 + 1) (w 318 y3) w33 ⟨f34, (fun i g1 g2 => (e_kr.ext j4 hw33 (by omega) (by omega)) i g1 (by omega)), by have g := hrk y3 (by omega) (by omega); have g2 := g.2 (by omega); have g3 := hrk (w 318 y3) (by omega) (by omega); omega, by have g := hrk y3 (by omega) (by omega); have g2 := g.2 (by omega); have g3 := hrk (w 318 y3) (by omega) (by omega); omega⟩ (by have g := hrk y3 (by omega) (by omega); have g2 := g.2 (by omega); have g3 := hrk (w 318 y3) (by omega) (by omega); omega))
          exact ⟨rfl, rfl, rfl, trivial⟩
  refine e_Ok.sub eAlk (e_sub_of rfl ?_) (hL1 (rk p + 1 : Int).toNat 0 p w ⟨(e_fr.refl w), (e_kr.nil (by omega)), by omega, by omega⟩ (by omega))
  exact ⟨rfl, rfl, rfl, trivial⟩
theorem no_52_14 {k : Int} : ¬ mW 275 k := by unfold mW; omega
theorem su_52_18 {c k : Int} (q : mQ c k) : mW c k := by
  unfold mQ at q
  rcases q with q
  · exact Or.inl (by omega)
theorem c_321 {d : Nat} (hd : 21 ≤ d) {w : eW} (hT : e_Has mTy w) (hA : mAc w) : e_Ok 20 elay ecode eI d 321 (0, [(0, (1, 275))], [], w) (fun r w' => r = [] ∧ e_fr mW w w' ∧ e_kr w' 327 0 63 0 1) := by
  obtain ⟨d, rfl⟩ : ∃ e, d = e + 1 := ⟨d - 1, by omega⟩
  refine e_Ok.run (t' := (2, [(1, (0, 0)), (0, (1, 275))], [], w)) 2 rfl ?_
  have hL1 : ∀ (n : Nat) (y1 : Int) (v1 : eW), e_fr mW w v1 ∧ e_kr v1 327 0 (y1 - 1) 0 1 ∧ 0 ≤ y1 ∧ y1 ≤ 64 → 65 - y1 < n → e_Ok 20 elay ecode eI (d + 1) 321 (2, [(0, (1, 275)), (1, (0, y1))], [], v1) (fun r w' => r = [] ∧ e_fr mW w w' ∧ e_kr w' 327 0 63 0 1) := by
    intro n
    induction n with
    | zero => intro y1 v1 hj hm; obtain ⟨j3, j4, j5⟩ := hj; exfalso; omega
    | succ n ih2 =>
      intro y1 v1 hj hm
      obtain ⟨j3, j4, j5⟩ := hj
      refine e_Ok.run (t' := (5, [(0, (1, 275)), (1, (0, y1))], [(0, 64), (0, y1)], v1)) 2 rfl ?_
      refine e_Ok.if2 rfl (fun h6 => ?_) (fun h6 => ?_)
      · replace h6 : (y1 : Int) ≥ 64 := h6
        refine e_Ok.rets rfl rfl ?_
        exact ⟨rfl, j3, fun i g1 g2 => j4 i g1 (by omega)⟩
      · replace h6 : (y1 : Int) < 64 := Int.not_le.mp (show ¬ ((y1 : Int) ≥ 64) from h6)
        refine e_Ok.run (t' := (9, [(0, (1, 275)), (1, (0, y1))], [(1, 275)], v1)) 1 rfl ?_
        refine e_Ok.getr (z := 327) rfl (el_o rfl) rfl rfl ((j3 275 64 no_52_14).trans (e_Has.eq hT rfl)) ⟨by decide, by decide⟩ ?_
        refine e_Ok.run (t' := (15, [(0, (1, 275)), (1, (0, y1))], [(0, y1), (1, 275), (0, y1), (1, 327)], v1)) 3 rfl ?_
        refine e_Ok.callV rfl (by first | exact e_dq hd rfl | omega) rfl rfl rfl rfl (c_320 (mT_W j3 hT) (mAc.fr' (fun k q => by unfold mW at q; omega) j3 hA) (by omega)) (fun r7 w8 h9 => ?_)
        obtain ⟨z10, rfl, q11, q11a, q11b⟩ := h9
        have f12 : e_fr mW w w8 := e_fr.trans j3 (e_fr.mono q11 (fun c k q => su_52_18 q))
        show e_Ok 20 elay ecode eI (d + 1) 321 (18, [(0, (1, 275)), (1, (0, y1))], [(0, z10), (0, y1), (1, 327)], w8) _
        have hJ15 : ∀ m14 : Int, 0 ≤ m14 ∧ m14 ≤ 1 → e_Ok 20 elay ecode eI (d + 1) 321 (26, [(0, (1, 275)), (1, (0, y1))], [(0, m14), (0, y1), (1, 327)], w8) (fun r w' => r = [] ∧ e_fr mW w w' ∧ e_kr w' 327 0 63 0 1) := by
          intro m14 m14r
          refine e_Ok.ast rfl (el_o rfl) rfl (e_nar_b (by omega)) (by omega) ?_
          generalize hw16 : e_up w8 327 y1 m14 = w16
          have f17 : e_fr mW w w16 := e_fr.up f12 hw16 (by first | exact Or.inr rfl | (unfold mW; omega))
          refine e_Ok.inc (z := y1 + 1) rfl rfl (by first | with_reducible rfl | omega) (by omega) ?_
          show e_Ok 20 elay ecode eI (d + 1) 321 (30, [(1, (0, y1 + 1)), (0, (1, 275))], [], w16) _
          refine e_Ok.run (t' := (2, [(1, (0, y1 + 1)), (0, (1, 275))], [], w16)) 1 rfl ?_
          refine e_Ok.sub eAlk (e_sub_of rfl ?_) (ih2 (y1 + 1) w16 ⟨f17, (fun i g1 g2 => (e_kr.ext (e_kr.fr q11 (fun k q => by unfold mQ at q; omega) j4) hw16 (by omega) (by omega)) i g1 (by omega)), by omega⟩ (by omega))
          exact ⟨rfl, rfl, trivial⟩
        refine e_Ok.if1 rfl (fun h13 => ?_) (fun h13 => ?_)
        · exact e_Ok.run 1 rfl (hJ15 0 (by omega))
        · exact e_Ok.run 2 rfl (hJ15 1 (by omega))
  refine e_Ok.sub eAlk (e_sub_of rfl ?_) (hL1 (65 + 1 : Int).toNat 0 w ⟨(e_fr.refl w), (e_kr.nil (by omega)), by omega⟩ (by omega))
  exact ⟨rfl, rfl, trivial⟩
theorem no_52_15 {k : Int} : ¬ mR 275 k := by unfold mR; omega
theorem no_52_16 {k : Int} : ¬ mR 327 k := by unfold mR; omega
theorem su_52_19 {c k : Int} (q : mQ c k) : mR c k := by
  unfold mQ at q
  rcases q with q
  · exact Or.inr (by omega)
theorem c_322 {d : Nat} (hd : 21 ≤ d) {w : eW} (hT : e_Has mTy w) (hA : mAc w) (hk : e_kr w 327 0 63 0 1) : e_Ok 20 elay ecode eI d 322 (0, [(0, (1, 275))], [], w) (fun r w' => r = [] ∧ e_fr mR w w' ∧ e_Has mTy w') := by
  obtain ⟨d, rfl⟩ : ∃ e, d = e + 1 := ⟨d - 1, by omega⟩
  refine e_Ok.run (t' := (2, [(1, (0, 0)), (0, (1, 275))], [], w)) 2 rfl ?_
  have hL1 : ∀ (n : Nat) (y1 : Int) (v1 : eW), e_fr mR w v1 ∧ e_Has mTy v1 ∧ 0 ≤ y1 ∧ y1 ≤ 64 → 65 - y1 < n → e_Ok 20 elay ecode eI (d + 1) 322 (2, [(0, (1, 275)), (1, (0, y1))], [], v1) (fun r w' => r = [] ∧ e_fr mR w w' ∧ e_Has mTy w') := by
    intro n
    induction n with
    | zero => intro y1 v1 hj hm; obtain ⟨j3, j4, j5⟩ := hj; exfalso; omega
    | succ n ih2 =>
      intro y1 v1 hj hm
      obtain ⟨j3, j4, j5⟩ := hj
      refine e_Ok.run (t' := (5, [(0, (1, 275)), (1, (0, y1))], [(0, 64), (0, y1)], v1)) 2 rfl ?_
      refine e_Ok.if2 rfl (fun h6 => ?_) (fun h6 => ?_)
      · replace h6 : (y1 : Int) ≥ 64 := h6
        refine e_Ok.rets rfl rfl ?_
        exact ⟨rfl, j3, j4⟩
      · replace h6 : (y1 : Int) < 64 := Int.not_le.mp (show ¬ ((y1 : Int) ≥ 64) from h6)
        refine e_Ok.run (t' := (9, [(0, (1, 275)), (1, (0, y1))], [(1, 275)], v1)) 1 rfl ?_
        refine e_Ok.getr (z := 276) rfl (el_o rfl) rfl rfl ((j3 275 0 no_52_15).trans (e_Has.eq hT rfl)) ⟨by decide, by decide⟩ ?_
        refine e_Ok.run (t' := (16, [(0, (1, 275)), (1, (0, y1))], [(0, y1), (0, 352), (1, 276)], v1)) 2 rfl ?_
        refine e_Ok.add (z := y1 + 352) rfl (by first | with_reducible rfl | exact Int.add_comm _ _ | omega) (by omega) ?_
        refine e_Ok.run (t' := (18, [(0, (1, 275)), (1, (0, y1))], [(0, y1 + 352), (1, 276), (0, y1 + 352), (1, 276)], v1)) 1 rfl ?_
        have h7 := (e_Has.get j4 (c := 276) (k := y1 + 352) (lo := (-2147483648)) (hi := 2147483647) (nR_RISES (p := y1) (by omega)) (by decide))
        refine e_Ok.ald (z := v1 276 (y1 + 352)) rfl (el_o rfl) rfl (by omega) rfl (by first | exact e_bq h7 (by decide) (by decide) | omega) ?_
        refine e_Ok.run (t' := (20, [(0, (1, 275)), (1, (0, y1))], [(1, 275), (0, v1 276 (y1 + 352)), (0, y1 + 352), (1, 276)], v1)) 1 rfl ?_
        refine e_Ok.getr (z := 327) rfl (el_o rfl) rfl rfl ((j3 275 64 no_52_15).trans (e_Has.eq hT rfl)) ⟨by decide, by decide⟩ ?_
        refine e_Ok.run (t' := (24, [(0, (1, 275)), (1, (0, y1))], [(0, y1), (1, 327), (0, v1 276 (y1 + 352)), (0, y1 + 352), (1, 276)], v1)) 1 rfl ?_
        have h8 := (hk y1 (by omega) (by omega))
        refine e_Ok.ald (z := w 327 y1) rfl (el_o rfl) rfl (by omega) ((j3 327 y1 no_52_16).trans rfl) (by omega) ?_
        refine e_Ok.if1 rfl (fun h9 => ?_) (fun h9 => ?_)
        · replace h9 : (w 327 y1 : Int) = 0 := h9
          refine e_Ok.run (t' := (41, [(0, (1, 275)), (1, (0, y1))], [(0, 0), (0, v1 276 (y1 + 352)), (0, y1 + 352), (1, 276)], v1)) 1 rfl ?_
          refine e_Ok.add (z := v1 276 (y1 + 352)) rfl (by first | with_reducible rfl | exact Int.add_comm _ _ | omega) (by omega) ?_
          refine e_Ok.ast rfl (el_o rfl) rfl rfl (by omega) ?_
          generalize hw10 : e_up v1 276 (y1 + 352) (v1 276 (y1 + 352)) = w10
          have f11 : e_fr mR w w10 := e_fr.up j3 hw10 (by unfold mR; omega)
          have hT12 : e_Has mTy w10 := e_Has.upr j4 hw10 (nR_RISES (p := y1) (by omega)) (by omega)
          refine e_Ok.inc (z := y1 + 1) rfl rfl (by first | with_reducible rfl | omega) (by omega) ?_
          show e_Ok 20 elay ecode eI (d + 1) 322 (46, [(1, (0, y1 + 1)), (0, (1, 275))], [], w10) _
          refine e_Ok.run (t' := (2, [(1, (0, y1 + 1)), (0, (1, 275))], [], w10)) 1 rfl ?_
          refine e_Ok.sub eAlk (e_sub_of rfl ?_) (ih2 (y1 + 1) w10 ⟨f11, hT12, by omega⟩ (by omega))
          exact ⟨rfl, rfl, trivial⟩
        · replace h9 : (w 327 y1 : Int) ≠ 0 := (show ¬ ((w 327 y1 : Int) = 0) from h9)
          refine e_Ok.run (t' := (30, [(0, (1, 275)), (1, (0, y1))], [(0, y1), (1, 275), (0, v1 276 (y1 + 352)), (0, y1 + 352), (1, 276)], v1)) 2 rfl ?_
          refine e_Ok.callV rfl (by first | exact e_dq hd rfl | omega) rfl rfl rfl rfl (c_320 j4 (mAc.fr' (fun k q => by unfold mR at q; omega) j3 hA) (by omega)) (fun r13 w14 h15 => ?_)
          obtain ⟨z16, rfl, q17, q17a, q17b⟩ := h15
          have f18 : e_fr mR w w14 := e_fr.trans j3 (e_fr.mono q17 (fun c k q => su_52_19 q))
          show e_Ok 20 elay ecode eI (d + 1) 322 (33, [(0, (1, 275)), (1, (0, y1))], [(0, z16), (0, v1 276 (y1 + 352)), (0, y1 + 352), (1, 276)], w14) _
          have hJ21 : ∀ m20 : Int, 0 ≤ m20 ∧ m20 ≤ 1 → e_Ok 20 elay ecode eI (d + 1) 322 (41, [(0, (1, 275)), (1, (0, y1))], [(0, m20), (0, v1 276 (y1 + 352)), (0, y1 + 352), (1, 276)], w14) (fun r w' => r = [] ∧ e_fr mR w w' ∧ e_Has mTy w') := by
            intro m20 m20r
            refine e_Ok.any rfl (eF_add_any _ _) (fun z22 z22a z22b => ?_)
            refine e_Ok.ast rfl (el_o rfl) rfl rfl (by omega) ?_
            generalize hw23 : e_up w14 276 (y1 + 352) z22 = w23
            have f24 : e_fr mR w w23 := e_fr.up f18 hw23 (by unfold mR; omega)
            have hT25 : e_Has mTy w23 := e_Has.upr (mT_Q q17 j4) hw23 (nR_RISES (p := y1) (by omega)) (by omega)
            refine e_Ok.inc (z := y1 + 1) rfl rfl (by first | with_reducible rfl | omega) (by omega) ?_
            show e_Ok 20 elay ecode eI (d + 1) 322 (46, [(1, (0, y1 + 1)), (0, (1, 275))], [], w23) _
            refine e_Ok.run (t' := (2, [(1, (0, y1 + 1)), (0, (1, 275))], [], w23)) 1 rfl ?_
            refine e_Ok.sub eAlk (e_sub_of rfl ?_) (ih2 (y1 + 1) w23 ⟨f24, hT25, by omega⟩ (by omega))
            exact ⟨rfl, rfl, trivial⟩
          refine e_Ok.if1 rfl (fun h19 => ?_) (fun h19 => ?_)
          · exact e_Ok.run 1 rfl (hJ21 0 (by omega))
          · exact e_Ok.run 2 rfl (hJ21 1 (by omega))
  refine e_Ok.sub eAlk (e_sub_of rfl ?_) (hL1 (65 + 1 : Int).toNat 0 w ⟨(e_fr.refl w), hT, by omega⟩ (by omega))
  exact ⟨rfl, rfl, trivial⟩
end
end
