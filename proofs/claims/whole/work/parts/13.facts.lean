/-! what the tables say of the rows of code; by program (wip/whole/gen13.py), decided by the kernel -/
def x_on (o : Nat) : String := match o with
  | 0 => RX0
  | 1 => RX1
  | 2 => RX2
  | 3 => RX3
  | 4 => RX4
  | 5 => RX5
  | 6 => RX6
  | 7 => RX7
  | 8 => RX8
  | 9 => RX9
  | 10 => RX10
  | 11 => RJ6
  | 12 => RJ7
  | _ => RL
def x_oc (j : Nat) : Nat := (bif Nat.blt j 113 then (bif Nat.blt j 56 then (bif Nat.blt j 28 then (bif Nat.blt j 14 then (bif Nat.blt j 7 then (bif Nat.blt j 3 then (bif Nat.blt j 1 then 0 else (bif Nat.blt j 2 then 0 else 0)) else (bif Nat.blt j 5 then (bif Nat.blt j 4 then 0 else 0) else (bif Nat.blt j 6 then 0 else 0))) else (bif Nat.blt j 10 then (bif Nat.blt j 8 then 1 else (bif Nat.blt j 9 then 1 else 1)) else (bif Nat.blt j 12 then (bif Nat.blt j 11 then 2 else 2) else (bif Nat.blt j 13 then 2 else 2)))) else (bif Nat.blt j 21 then (bif Nat.blt j 17 then (bif Nat.blt j 15 then 2 else (bif Nat.blt j 16 then 2 else 2)) else (bif Nat.blt j 19 then (bif Nat.blt j 18 then 2 else 2) else (bif Nat.blt j 20 then 2 else 2))) else (bif Nat.blt j 24 then (bif Nat.blt j 22 then 2 else (bif Nat.blt j 23 then 3 else 3)) else (bif Nat.blt j 26 then (bif Nat.blt j 25 then 3 else 4) else (bif Nat.blt j 27 then 4 else 4))))) else (bif Nat.blt j 42 then (bif Nat.blt j 35 then (bif Nat.blt j 31 then (bif Nat.blt j 29 then 4 else (bif Nat.blt j 30 then 5 else 5)) else (bif Nat.blt j 33 then (bif Nat.blt j 32 then 5 else 5) else (bif Nat.blt j 34 then 5 else 5))) else (bif Nat.blt j 38 then (bif Nat.blt j 36 then 5 else (bif Nat.blt j 37 then 5 else 5)) else (bif Nat.blt j 40 then (bif Nat.blt j 39 then 6 else 6) else (bif Nat.blt j 41 then 6 else 6)))) else (bif Nat.blt j 49 then (bif Nat.blt j 45 then (bif Nat.blt j 43 then 6 else (bif Nat.blt j 44 then 6 else 6)) else (bif Nat.blt j 47 then (bif Nat.blt j 46 then 6 else 6) else (bif Nat.blt j 48 then 6 else 6))) else (bif Nat.blt j 52 then (bif Nat.blt j 50 then 6 else (bif Nat.blt j 51 then 6 else 6)) else (bif Nat.blt j 54 then (bif Nat.blt j 53 then 6 else 6) else (bif Nat.blt j 55 then 6 else 6)))))) else (bif Nat.blt j 84 then (bif Nat.blt j 70 then (bif Nat.blt j 63 then (bif Nat.blt j 59 then (bif Nat.blt j 57 then 7 else (bif Nat.blt j 58 then 7 else 7)) else (bif Nat.blt j 61 then (bif Nat.blt j 60 then 7 else 7) else (bif Nat.blt j 62 then 7 else 7))) else (bif Nat.blt j 66 then (bif Nat.blt j 64 then 7 else (bif Nat.blt j 65 then 8 else 8)) else (bif Nat.blt j 68 then (bif Nat.blt j 67 then 8 else 8) else (bif Nat.blt j 69 then 8 else 8)))) else (bif Nat.blt j 77 then (bif Nat.blt j 73 then (bif Nat.blt j 71 then 8 else (bif Nat.blt j 72 then 8 else 8)) else (bif Nat.blt j 75 then (bif Nat.blt j 74 then 8 else 8) else (bif Nat.blt j 76 then 9 else 9))) else (bif Nat.blt j 80 then (bif Nat.blt j 78 then 9 else (bif Nat.blt j 79 then 9 else 9)) else (bif Nat.blt j 82 then (bif Nat.blt j 81 then 9 else 9) else (bif Nat.blt j 83 then 9 else 9))))) else (bif Nat.blt j 98 then (bif Nat.blt j 91 then (bif Nat.blt j 87 then (bif Nat.blt j 85 then 9 else (bif Nat.blt j 86 then 9 else 9)) else (bif Nat.blt j 89 then (bif Nat.blt j 88 then 9 else 9) else (bif Nat.blt j 90 then 9 else 9))) else (bif Nat.blt j 94 then (bif Nat.blt j 92 then 9 else (bif Nat.blt j 93 then 9 else 9)) else (bif Nat.blt j 96 then (bif Nat.blt j 95 then 9 else 9) else (bif Nat.blt j 97 then 9 else 9)))) else (bif Nat.blt j 105 then (bif Nat.blt j 101 then (bif Nat.blt j 99 then 9 else (bif Nat.blt j 100 then 9 else 9)) else (bif Nat.blt j 103 then (bif Nat.blt j 102 then 9 else 9) else (bif Nat.blt j 104 then 9 else 9))) else (bif Nat.blt j 109 then (bif Nat.blt j 107 then (bif Nat.blt j 106 then 9 else 9) else (bif Nat.blt j 108 then 9 else 9)) else (bif Nat.blt j 111 then (bif Nat.blt j 110 then 9 else 9) else (bif Nat.blt j 112 then 9 else 9))))))) else (bif Nat.blt j 169 then (bif Nat.blt j 141 then (bif Nat.blt j 127 then (bif Nat.blt j 120 then (bif Nat.blt j 116 then (bif Nat.blt j 114 then 9 else (bif Nat.blt j 115 then 9 else 9)) else (bif Nat.blt j 118 then (bif Nat.blt j 117 then 9 else 9) else (bif Nat.blt j 119 then 9 else 9))) else (bif Nat.blt j 123 then (bif Nat.blt j 121 then 9 else (bif Nat.blt j 122 then 9 else 9)) else (bif Nat.blt j 125 then (bif Nat.blt j 124 then 9 else 9) else (bif Nat.blt j 126 then 9 else 9)))) else (bif Nat.blt j 134 then (bif Nat.blt j 130 then (bif Nat.blt j 128 then 9 else (bif Nat.blt j 129 then 9 else 9)) else (bif Nat.blt j 132 then (bif Nat.blt j 131 then 9 else 9) else (bif Nat.blt j 133 then 10 else 10))) else (bif Nat.blt j 137 then (bif Nat.blt j 135 then 10 else (bif Nat.blt j 136 then 10 else 10)) else (bif Nat.blt j 139 then (bif Nat.blt j 138 then 10 else 10) else (bif Nat.blt j 140 then 10 else 10))))) else (bif Nat.blt j 155 then (bif Nat.blt j 148 then (bif Nat.blt j 144 then (bif Nat.blt j 142 then 10 else (bif Nat.blt j 143 then 10 else 10)) else (bif Nat.blt j 146 then (bif Nat.blt j 145 then 10 else 10) else (bif Nat.blt j 147 then 10 else 10))) else (bif Nat.blt j 151 then (bif Nat.blt j 149 then 10 else (bif Nat.blt j 150 then 10 else 10)) else (bif Nat.blt j 153 then (bif Nat.blt j 152 then 10 else 10) else (bif Nat.blt j 154 then 10 else 10)))) else (bif Nat.blt j 162 then (bif Nat.blt j 158 then (bif Nat.blt j 156 then 10 else (bif Nat.blt j 157 then 10 else 10)) else (bif Nat.blt j 160 then (bif Nat.blt j 159 then 10 else 10) else (bif Nat.blt j 161 then 10 else 10))) else (bif Nat.blt j 165 then (bif Nat.blt j 163 then 10 else (bif Nat.blt j 164 then 10 else 10)) else (bif Nat.blt j 167 then (bif Nat.blt j 166 then 10 else 10) else (bif Nat.blt j 168 then 10 else 10)))))) else (bif Nat.blt j 197 then (bif Nat.blt j 183 then (bif Nat.blt j 176 then (bif Nat.blt j 172 then (bif Nat.blt j 170 then 10 else (bif Nat.blt j 171 then 10 else 10)) else (bif Nat.blt j 174 then (bif Nat.blt j 173 then 10 else 10) else (bif Nat.blt j 175 then 10 else 10))) else (bif Nat.blt j 179 then (bif Nat.blt j 177 then 10 else (bif Nat.blt j 178 then 10 else 10)) else (bif Nat.blt j 181 then (bif Nat.blt j 180 then 10 else 10) else (bif Nat.blt j 182 then 10 else 10)))) else (bif Nat.blt j 190 then (bif Nat.blt j 186 then (bif Nat.blt j 184 then 10 else (bif Nat.blt j 185 then 10 else 10)) else (bif Nat.blt j 188 then (bif Nat.blt j 187 then 10 else 10) else (bif Nat.blt j 189 then 10 else 10))) else (bif Nat.blt j 193 then (bif Nat.blt j 191 then 10 else (bif Nat.blt j 192 then 10 else 10)) else (bif Nat.blt j 195 then (bif Nat.blt j 194 then 10 else 10) else (bif Nat.blt j 196 then 10 else 10))))) else (bif Nat.blt j 211 then (bif Nat.blt j 204 then (bif Nat.blt j 200 then (bif Nat.blt j 198 then 10 else (bif Nat.blt j 199 then 10 else 10)) else (bif Nat.blt j 202 then (bif Nat.blt j 201 then 10 else 10) else (bif Nat.blt j 203 then 10 else 10))) else (bif Nat.blt j 207 then (bif Nat.blt j 205 then 10 else (bif Nat.blt j 206 then 10 else 10)) else (bif Nat.blt j 209 then (bif Nat.blt j 208 then 10 else 10) else (bif Nat.blt j 210 then 10 else 10)))) else (bif Nat.blt j 218 then (bif Nat.blt j 214 then (bif Nat.blt j 212 then 10 else (bif Nat.blt j 213 then 10 else 10)) else (bif Nat.blt j 216 then (bif Nat.blt j 215 then 10 else 10) else (bif Nat.blt j 217 then 10 else 10))) else (bif Nat.blt j 222 then (bif Nat.blt j 220 then (bif Nat.blt j 219 then 10 else 10) else (bif Nat.blt j 221 then 10 else 10)) else (bif Nat.blt j 224 then (bif Nat.blt j 223 then 10 else 11) else (bif Nat.blt j 225 then 12 else 12))))))))
def x_npt (j : Nat) : Nat := (bif Nat.blt j 113 then (bif Nat.blt j 56 then (bif Nat.blt j 28 then (bif Nat.blt j 14 then (bif Nat.blt j 7 then (bif Nat.blt j 3 then (bif Nat.blt j 1 then 0 else (bif Nat.blt j 2 then 4 else 2)) else (bif Nat.blt j 5 then (bif Nat.blt j 4 then 2 else 0) else (bif Nat.blt j 6 then 0 else 2))) else (bif Nat.blt j 10 then (bif Nat.blt j 8 then 0 else (bif Nat.blt j 9 then 0 else 2)) else (bif Nat.blt j 12 then (bif Nat.blt j 11 then 0 else 3) else (bif Nat.blt j 13 then 1 else 1)))) else (bif Nat.blt j 21 then (bif Nat.blt j 17 then (bif Nat.blt j 15 then 2 else (bif Nat.blt j 16 then 1 else 3)) else (bif Nat.blt j 19 then (bif Nat.blt j 18 then 1 else 3) else (bif Nat.blt j 20 then 3 else 1))) else (bif Nat.blt j 24 then (bif Nat.blt j 22 then 1 else (bif Nat.blt j 23 then 0 else 1)) else (bif Nat.blt j 26 then (bif Nat.blt j 25 then 0 else 0) else (bif Nat.blt j 27 then 1 else 4))))) else (bif Nat.blt j 42 then (bif Nat.blt j 35 then (bif Nat.blt j 31 then (bif Nat.blt j 29 then 4 else (bif Nat.blt j 30 then 0 else 2)) else (bif Nat.blt j 33 then (bif Nat.blt j 32 then 1 else 2) else (bif Nat.blt j 34 then 2 else 4))) else (bif Nat.blt j 38 then (bif Nat.blt j 36 then 3 else (bif Nat.blt j 37 then 3 else 4)) else (bif Nat.blt j 40 then (bif Nat.blt j 39 then 0 else 1) else (bif Nat.blt j 41 then 0 else 0)))) else (bif Nat.blt j 49 then (bif Nat.blt j 45 then (bif Nat.blt j 43 then 0 else (bif Nat.blt j 44 then 0 else 0)) else (bif Nat.blt j 47 then (bif Nat.blt j 46 then 0 else 0) else (bif Nat.blt j 48 then 0 else 1))) else (bif Nat.blt j 52 then (bif Nat.blt j 50 then 0 else (bif Nat.blt j 51 then 0 else 0)) else (bif Nat.blt j 54 then (bif Nat.blt j 53 then 1 else 1) else (bif Nat.blt j 55 then 1 else 1)))))) else (bif Nat.blt j 84 then (bif Nat.blt j 70 then (bif Nat.blt j 63 then (bif Nat.blt j 59 then (bif Nat.blt j 57 then 0 else (bif Nat.blt j 58 then 0 else 1)) else (bif Nat.blt j 61 then (bif Nat.blt j 60 then 1 else 1) else (bif Nat.blt j 62 then 5 else 1))) else (bif Nat.blt j 66 then (bif Nat.blt j 64 then 3 else (bif Nat.blt j 65 then 0 else 1)) else (bif Nat.blt j 68 then (bif Nat.blt j 67 then 1 else 3) else (bif Nat.blt j 69 then 3 else 1)))) else (bif Nat.blt j 77 then (bif Nat.blt j 73 then (bif Nat.blt j 71 then 2 else (bif Nat.blt j 72 then 1 else 1)) else (bif Nat.blt j 75 then (bif Nat.blt j 74 then 1 else 1) else (bif Nat.blt j 76 then 0 else 1))) else (bif Nat.blt j 80 then (bif Nat.blt j 78 then 2 else (bif Nat.blt j 79 then 6 else 0)) else (bif Nat.blt j 82 then (bif Nat.blt j 81 then 1 else 4) else (bif Nat.blt j 83 then 3 else 3))))) else (bif Nat.blt j 98 then (bif Nat.blt j 91 then (bif Nat.blt j 87 then (bif Nat.blt j 85 then 2 else (bif Nat.blt j 86 then 2 else 2)) else (bif Nat.blt j 89 then (bif Nat.blt j 88 then 3 else 3) else (bif Nat.blt j 90 then 4 else 2))) else (bif Nat.blt j 94 then (bif Nat.blt j 92 then 3 else (bif Nat.blt j 93 then 2 else 3)) else (bif Nat.blt j 96 then (bif Nat.blt j 95 then 2 else 4) else (bif Nat.blt j 97 then 3 else 1)))) else (bif Nat.blt j 105 then (bif Nat.blt j 101 then (bif Nat.blt j 99 then 2 else (bif Nat.blt j 100 then 1 else 1)) else (bif Nat.blt j 103 then (bif Nat.blt j 102 then 0 else 1) else (bif Nat.blt j 104 then 3 else 3))) else (bif Nat.blt j 109 then (bif Nat.blt j 107 then (bif Nat.blt j 106 then 2 else 2) else (bif Nat.blt j 108 then 3 else 2)) else (bif Nat.blt j 111 then (bif Nat.blt j 110 then 3 else 2) else (bif Nat.blt j 112 then 4 else 0))))))) else (bif Nat.blt j 169 then (bif Nat.blt j 141 then (bif Nat.blt j 127 then (bif Nat.blt j 120 then (bif Nat.blt j 116 then (bif Nat.blt j 114 then 0 else (bif Nat.blt j 115 then 3 else 3)) else (bif Nat.blt j 118 then (bif Nat.blt j 117 then 5 else 4) else (bif Nat.blt j 119 then 2 else 1))) else (bif Nat.blt j 123 then (bif Nat.blt j 121 then 0 else (bif Nat.blt j 122 then 1 else 1)) else (bif Nat.blt j 125 then (bif Nat.blt j 124 then 3 else 3) else (bif Nat.blt j 126 then 3 else 3)))) else (bif Nat.blt j 134 then (bif Nat.blt j 130 then (bif Nat.blt j 128 then 1 else (bif Nat.blt j 129 then 2 else 2)) else (bif Nat.blt j 132 then (bif Nat.blt j 131 then 3 else 3) else (bif Nat.blt j 133 then 0 else 3))) else (bif Nat.blt j 137 then (bif Nat.blt j 135 then 3 else (bif Nat.blt j 136 then 1 else 1)) else (bif Nat.blt j 139 then (bif Nat.blt j 138 then 2 else 1) else (bif Nat.blt j 140 then 6 else 2))))) else (bif Nat.blt j 155 then (bif Nat.blt j 148 then (bif Nat.blt j 144 then (bif Nat.blt j 142 then 0 else (bif Nat.blt j 143 then 1 else 1)) else (bif Nat.blt j 146 then (bif Nat.blt j 145 then 1 else 1) else (bif Nat.blt j 147 then 1 else 1))) else (bif Nat.blt j 151 then (bif Nat.blt j 149 then 0 else (bif Nat.blt j 150 then 0 else 0)) else (bif Nat.blt j 153 then (bif Nat.blt j 152 then 3 else 1) else (bif Nat.blt j 154 then 1 else 5)))) else (bif Nat.blt j 162 then (bif Nat.blt j 158 then (bif Nat.blt j 156 then 4 else (bif Nat.blt j 157 then 3 else 3)) else (bif Nat.blt j 160 then (bif Nat.blt j 159 then 3 else 2) else (bif Nat.blt j 161 then 3 else 3))) else (bif Nat.blt j 165 then (bif Nat.blt j 163 then 2 else (bif Nat.blt j 164 then 2 else 1)) else (bif Nat.blt j 167 then (bif Nat.blt j 166 then 2 else 2) else (bif Nat.blt j 168 then 2 else 3)))))) else (bif Nat.blt j 197 then (bif Nat.blt j 183 then (bif Nat.blt j 176 then (bif Nat.blt j 172 then (bif Nat.blt j 170 then 3 else (bif Nat.blt j 171 then 3 else 3)) else (bif Nat.blt j 174 then (bif Nat.blt j 173 then 4 else 2) else (bif Nat.blt j 175 then 3 else 2))) else (bif Nat.blt j 179 then (bif Nat.blt j 177 then 3 else (bif Nat.blt j 178 then 3 else 3)) else (bif Nat.blt j 181 then (bif Nat.blt j 180 then 2 else 4) else (bif Nat.blt j 182 then 2 else 1)))) else (bif Nat.blt j 190 then (bif Nat.blt j 186 then (bif Nat.blt j 184 then 0 else (bif Nat.blt j 185 then 2 else 2)) else (bif Nat.blt j 188 then (bif Nat.blt j 187 then 3 else 1) else (bif Nat.blt j 189 then 1 else 1))) else (bif Nat.blt j 193 then (bif Nat.blt j 191 then 2 else (bif Nat.blt j 192 then 1 else 1)) else (bif Nat.blt j 195 then (bif Nat.blt j 194 then 1 else 1) else (bif Nat.blt j 196 then 0 else 0))))) else (bif Nat.blt j 211 then (bif Nat.blt j 204 then (bif Nat.blt j 200 then (bif Nat.blt j 198 then 1 else (bif Nat.blt j 199 then 2 else 3)) else (bif Nat.blt j 202 then (bif Nat.blt j 201 then 3 else 1) else (bif Nat.blt j 203 then 2 else 4))) else (bif Nat.blt j 207 then (bif Nat.blt j 205 then 2 else (bif Nat.blt j 206 then 2 else 2)) else (bif Nat.blt j 209 then (bif Nat.blt j 208 then 2 else 3) else (bif Nat.blt j 210 then 2 else 3)))) else (bif Nat.blt j 218 then (bif Nat.blt j 214 then (bif Nat.blt j 212 then 2 else (bif Nat.blt j 213 then 2 else 4)) else (bif Nat.blt j 216 then (bif Nat.blt j 215 then 0 else 0) else (bif Nat.blt j 217 then 3 else 3))) else (bif Nat.blt j 222 then (bif Nat.blt j 220 then (bif Nat.blt j 219 then 5 else 4) else (bif Nat.blt j 221 then 2 else 1)) else (bif Nat.blt j 224 then (bif Nat.blt j 223 then 2 else 1) else (bif Nat.blt j 225 then 2 else 2))))))))
def x_pc (j : Nat) : Nat := (bif Nat.blt j 113 then (bif Nat.blt j 56 then (bif Nat.blt j 28 then (bif Nat.blt j 14 then (bif Nat.blt j 7 then (bif Nat.blt j 3 then (bif Nat.blt j 1 then 300 else (bif Nat.blt j 2 then 767 else 775)) else (bif Nat.blt j 5 then (bif Nat.blt j 4 then 779 else 787) else (bif Nat.blt j 6 then 791 else 795))) else (bif Nat.blt j 10 then (bif Nat.blt j 8 then 257 else (bif Nat.blt j 9 then 725 else 733)) else (bif Nat.blt j 12 then (bif Nat.blt j 11 then 102 else 628) else (bif Nat.blt j 13 then 729 else 640)))) else (bif Nat.blt j 21 then (bif Nat.blt j 17 then (bif Nat.blt j 15 then 644 else (bif Nat.blt j 16 then 998 else 662)) else (bif Nat.blt j 19 then (bif Nat.blt j 18 then 666 else 656) else (bif Nat.blt j 20 then 674 else 670))) else (bif Nat.blt j 24 then (bif Nat.blt j 22 then 858 else (bif Nat.blt j 23 then 327 else 841)) else (bif Nat.blt j 26 then (bif Nat.blt j 25 then 849 else 273) else (bif Nat.blt j 27 then 713 else 687))))) else (bif Nat.blt j 42 then (bif Nat.blt j 35 then (bif Nat.blt j 31 then (bif Nat.blt j 29 then 695 else (bif Nat.blt j 30 then 336 else 938)) else (bif Nat.blt j 33 then (bif Nat.blt j 32 then 897 else 947) else (bif Nat.blt j 34 then 973 else 977))) else (bif Nat.blt j 38 then (bif Nat.blt j 36 then 893 else (bif Nat.blt j 37 then 912 else 943)) else (bif Nat.blt j 40 then (bif Nat.blt j 39 then 194 else 402) else (bif Nat.blt j 41 then 409 else 466)))) else (bif Nat.blt j 49 then (bif Nat.blt j 45 then (bif Nat.blt j 43 then 470 else (bif Nat.blt j 44 then 474 else 487)) else (bif Nat.blt j 47 then (bif Nat.blt j 46 then 491 else 495) else (bif Nat.blt j 48 then 478 else 462))) else (bif Nat.blt j 52 then (bif Nat.blt j 50 then 420 else (bif Nat.blt j 51 then 430 else 455)) else (bif Nat.blt j 54 then (bif Nat.blt j 53 then 435 else 426) else (bif Nat.blt j 55 then 451 else 458)))))) else (bif Nat.blt j 84 then (bif Nat.blt j 70 then (bif Nat.blt j 63 then (bif Nat.blt j 59 then (bif Nat.blt j 57 then 200 else (bif Nat.blt j 58 then 413 else 482)) else (bif Nat.blt j 61 then (bif Nat.blt j 60 then 502 else 506) else (bif Nat.blt j 62 then 596 else 603))) else (bif Nat.blt j 66 then (bif Nat.blt j 64 then 606 else (bif Nat.blt j 65 then 95 else 588)) else (bif Nat.blt j 68 then (bif Nat.blt j 67 then 872 else 621) else (bif Nat.blt j 69 then 636 else 994)))) else (bif Nat.blt j 77 then (bif Nat.blt j 73 then (bif Nat.blt j 71 then 845 else (bif Nat.blt j 72 then 877 else 807)) else (bif Nat.blt j 75 then (bif Nat.blt j 74 then 811 else 829) else (bif Nat.blt j 76 then 87 else 555))) else (bif Nat.blt j 80 then (bif Nat.blt j 78 then 559 else (bif Nat.blt j 79 then 565 else 572)) else (bif Nat.blt j 82 then (bif Nat.blt j 81 then 580 else 584) else (bif Nat.blt j 83 then 617 else 632))))) else (bif Nat.blt j 98 then (bif Nat.blt j 91 then (bif Nat.blt j 87 then (bif Nat.blt j 85 then 648 else (bif Nat.blt j 86 then 652 else 678)) else (bif Nat.blt j 89 then (bif Nat.blt j 88 then 682 else 705) else (bif Nat.blt j 90 then 709 else 717))) else (bif Nat.blt j 94 then (bif Nat.blt j 92 then 721 else (bif Nat.blt j 93 then 737 else 741)) else (bif Nat.blt j 96 then (bif Nat.blt j 95 then 754 else 758) else (bif Nat.blt j 97 then 763 else 799)))) else (bif Nat.blt j 105 then (bif Nat.blt j 101 then (bif Nat.blt j 99 then 803 else (bif Nat.blt j 100 then 815 else 825)) else (bif Nat.blt j 103 then (bif Nat.blt j 102 then 833 else 837) else (bif Nat.blt j 104 then 864 else 881))) else (bif Nat.blt j 109 then (bif Nat.blt j 107 then (bif Nat.blt j 106 then 885 else 904) else (bif Nat.blt j 108 then 918 else 922)) else (bif Nat.blt j 111 then (bif Nat.blt j 110 then 926 else 930) else (bif Nat.blt j 112 then 934 else 952))))))) else (bif Nat.blt j 169 then (bif Nat.blt j 141 then (bif Nat.blt j 127 then (bif Nat.blt j 120 then (bif Nat.blt j 116 then (bif Nat.blt j 114 then 956 else (bif Nat.blt j 115 then 960 else 964)) else (bif Nat.blt j 118 then (bif Nat.blt j 117 then 969 else 985) else (bif Nat.blt j 119 then 990 else 576))) else (bif Nat.blt j 123 then (bif Nat.blt j 121 then 592 else (bif Nat.blt j 122 then 889 else 908)) else (bif Nat.blt j 125 then (bif Nat.blt j 124 then 750 else 747) else (bif Nat.blt j 126 then 868 else 498)))) else (bif Nat.blt j 134 then (bif Nat.blt j 130 then (bif Nat.blt j 128 then 568 else (bif Nat.blt j 129 then 609 else 423)) else (bif Nat.blt j 132 then (bif Nat.blt j 131 then 405 else 701) else (bif Nat.blt j 133 then 1003 else 1015))) else (bif Nat.blt j 137 then (bif Nat.blt j 135 then 1251 else (bif Nat.blt j 136 then 1237 else 1212)) else (bif Nat.blt j 139 then (bif Nat.blt j 138 then 1216 else 1224) else (bif Nat.blt j 140 then 1221 else 1019))))) else (bif Nat.blt j 155 then (bif Nat.blt j 148 then (bif Nat.blt j 144 then (bif Nat.blt j 142 then 1012 else (bif Nat.blt j 143 then 1035 else 1028)) else (bif Nat.blt j 146 then (bif Nat.blt j 145 then 1032 else 1043) else (bif Nat.blt j 147 then 1039 else 1051))) else (bif Nat.blt j 151 then (bif Nat.blt j 149 then 1047 else (bif Nat.blt j 150 then 1023 else 1008)) else (bif Nat.blt j 153 then (bif Nat.blt j 152 then 1248 else 1245) else (bif Nat.blt j 154 then 1229 else 1241)))) else (bif Nat.blt j 162 then (bif Nat.blt j 158 then (bif Nat.blt j 156 then 1233 else (bif Nat.blt j 157 then 1255 else 1263)) else (bif Nat.blt j 160 then (bif Nat.blt j 159 then 1259 else 1267) else (bif Nat.blt j 161 then 1275 else 1283))) else (bif Nat.blt j 165 then (bif Nat.blt j 163 then 1291 else (bif Nat.blt j 164 then 1287 else 1279)) else (bif Nat.blt j 167 then (bif Nat.blt j 166 then 1271 else 1295) else (bif Nat.blt j 168 then 1308 else 1312)))))) else (bif Nat.blt j 197 then (bif Nat.blt j 183 then (bif Nat.blt j 176 then (bif Nat.blt j 172 then (bif Nat.blt j 170 then 1303 else (bif Nat.blt j 171 then 1299 else 1316)) else (bif Nat.blt j 174 then (bif Nat.blt j 173 then 1320 else 1324) else (bif Nat.blt j 175 then 1328 else 1333))) else (bif Nat.blt j 179 then (bif Nat.blt j 177 then 1346 else (bif Nat.blt j 178 then 1343 else 1337)) else (bif Nat.blt j 181 then (bif Nat.blt j 180 then 1350 else 1354) else (bif Nat.blt j 182 then 1377 else 1370)))) else (bif Nat.blt j 190 then (bif Nat.blt j 186 then (bif Nat.blt j 184 then 1366 else (bif Nat.blt j 185 then 1374 else 1362)) else (bif Nat.blt j 188 then (bif Nat.blt j 187 then 1358 else 1381) else (bif Nat.blt j 189 then 1393 else 1389))) else (bif Nat.blt j 193 then (bif Nat.blt j 191 then 1385 else (bif Nat.blt j 192 then 1400 else 1397)) else (bif Nat.blt j 195 then (bif Nat.blt j 194 then 1408 else 1404) else (bif Nat.blt j 196 then 1412 else 1420))))) else (bif Nat.blt j 211 then (bif Nat.blt j 204 then (bif Nat.blt j 200 then (bif Nat.blt j 198 then 1416 else (bif Nat.blt j 199 then 1430 else 1426)) else (bif Nat.blt j 202 then (bif Nat.blt j 201 then 1434 else 1446) else (bif Nat.blt j 203 then 1442 else 1454))) else (bif Nat.blt j 207 then (bif Nat.blt j 205 then 1450 else (bif Nat.blt j 206 then 1438 else 1462)) else (bif Nat.blt j 209 then (bif Nat.blt j 208 then 1458 else 1467) else (bif Nat.blt j 210 then 1471 else 1475)))) else (bif Nat.blt j 218 then (bif Nat.blt j 214 then (bif Nat.blt j 212 then 1483 else (bif Nat.blt j 213 then 1479 else 1487)) else (bif Nat.blt j 216 then (bif Nat.blt j 215 then 1491 else 1495) else (bif Nat.blt j 217 then 1499 else 1503))) else (bif Nat.blt j 222 then (bif Nat.blt j 220 then (bif Nat.blt j 219 then 1507 else 1511) else (bif Nat.blt j 221 then 1523 else 1520)) else (bif Nat.blt j 224 then (bif Nat.blt j 223 then 1516 else 818) else (bif Nat.blt j 225 then 690 else 416))))))))
def x_pst (j : Nat) : Nat := (bif Nat.blt j 113 then (bif Nat.blt j 56 then (bif Nat.blt j 28 then (bif Nat.blt j 14 then (bif Nat.blt j 7 then (bif Nat.blt j 3 then (bif Nat.blt j 1 then 0 else (bif Nat.blt j 2 then 0 else 0)) else (bif Nat.blt j 5 then (bif Nat.blt j 4 then 778 else 0) else (bif Nat.blt j 6 then 0 else 0))) else (bif Nat.blt j 10 then (bif Nat.blt j 8 then 0 else (bif Nat.blt j 9 then 0 else 0)) else (bif Nat.blt j 12 then (bif Nat.blt j 11 then 0 else 0) else (bif Nat.blt j 13 then 0 else 0)))) else (bif Nat.blt j 21 then (bif Nat.blt j 17 then (bif Nat.blt j 15 then 0 else (bif Nat.blt j 16 then 0 else 0)) else (bif Nat.blt j 19 then (bif Nat.blt j 18 then 0 else 0) else (bif Nat.blt j 20 then 0 else 0))) else (bif Nat.blt j 24 then (bif Nat.blt j 22 then 0 else (bif Nat.blt j 23 then 0 else 0)) else (bif Nat.blt j 26 then (bif Nat.blt j 25 then 0 else 0) else (bif Nat.blt j 27 then 0 else 0))))) else (bif Nat.blt j 42 then (bif Nat.blt j 35 then (bif Nat.blt j 31 then (bif Nat.blt j 29 then 0 else (bif Nat.blt j 30 then 0 else 0)) else (bif Nat.blt j 33 then (bif Nat.blt j 32 then 0 else 0) else (bif Nat.blt j 34 then 0 else 0))) else (bif Nat.blt j 38 then (bif Nat.blt j 36 then 0 else (bif Nat.blt j 37 then 0 else 0)) else (bif Nat.blt j 40 then (bif Nat.blt j 39 then 0 else 0) else (bif Nat.blt j 41 then 0 else 0)))) else (bif Nat.blt j 49 then (bif Nat.blt j 45 then (bif Nat.blt j 43 then 0 else (bif Nat.blt j 44 then 0 else 0)) else (bif Nat.blt j 47 then (bif Nat.blt j 46 then 0 else 0) else (bif Nat.blt j 48 then 0 else 0))) else (bif Nat.blt j 52 then (bif Nat.blt j 50 then 0 else (bif Nat.blt j 51 then 0 else 0)) else (bif Nat.blt j 54 then (bif Nat.blt j 53 then 0 else 425) else (bif Nat.blt j 55 then 450 else 457)))))) else (bif Nat.blt j 84 then (bif Nat.blt j 70 then (bif Nat.blt j 63 then (bif Nat.blt j 59 then (bif Nat.blt j 57 then 0 else (bif Nat.blt j 58 then 0 else 0)) else (bif Nat.blt j 61 then (bif Nat.blt j 60 then 0 else 0) else (bif Nat.blt j 62 then 0 else 0))) else (bif Nat.blt j 66 then (bif Nat.blt j 64 then 605 else (bif Nat.blt j 65 then 0 else 0)) else (bif Nat.blt j 68 then (bif Nat.blt j 67 then 0 else 0) else (bif Nat.blt j 69 then 0 else 0)))) else (bif Nat.blt j 77 then (bif Nat.blt j 73 then (bif Nat.blt j 71 then 0 else (bif Nat.blt j 72 then 0 else 0)) else (bif Nat.blt j 75 then (bif Nat.blt j 74 then 0 else 0) else (bif Nat.blt j 76 then 0 else 0))) else (bif Nat.blt j 80 then (bif Nat.blt j 78 then 0 else (bif Nat.blt j 79 then 0 else 0)) else (bif Nat.blt j 82 then (bif Nat.blt j 81 then 0 else 0) else (bif Nat.blt j 83 then 0 else 0))))) else (bif Nat.blt j 98 then (bif Nat.blt j 91 then (bif Nat.blt j 87 then (bif Nat.blt j 85 then 0 else (bif Nat.blt j 86 then 0 else 0)) else (bif Nat.blt j 89 then (bif Nat.blt j 88 then 0 else 0) else (bif Nat.blt j 90 then 0 else 0))) else (bif Nat.blt j 94 then (bif Nat.blt j 92 then 0 else (bif Nat.blt j 93 then 0 else 0)) else (bif Nat.blt j 96 then (bif Nat.blt j 95 then 0 else 0) else (bif Nat.blt j 97 then 0 else 0)))) else (bif Nat.blt j 105 then (bif Nat.blt j 101 then (bif Nat.blt j 99 then 0 else (bif Nat.blt j 100 then 0 else 0)) else (bif Nat.blt j 103 then (bif Nat.blt j 102 then 0 else 0) else (bif Nat.blt j 104 then 0 else 0))) else (bif Nat.blt j 109 then (bif Nat.blt j 107 then (bif Nat.blt j 106 then 0 else 0) else (bif Nat.blt j 108 then 0 else 0)) else (bif Nat.blt j 111 then (bif Nat.blt j 110 then 0 else 0) else (bif Nat.blt j 112 then 0 else 0))))))) else (bif Nat.blt j 169 then (bif Nat.blt j 141 then (bif Nat.blt j 127 then (bif Nat.blt j 120 then (bif Nat.blt j 116 then (bif Nat.blt j 114 then 0 else (bif Nat.blt j 115 then 0 else 0)) else (bif Nat.blt j 118 then (bif Nat.blt j 117 then 0 else 0) else (bif Nat.blt j 119 then 0 else 0))) else (bif Nat.blt j 123 then (bif Nat.blt j 121 then 0 else (bif Nat.blt j 122 then 0 else 0)) else (bif Nat.blt j 125 then (bif Nat.blt j 124 then 749 else 0) else (bif Nat.blt j 126 then 0 else 497)))) else (bif Nat.blt j 134 then (bif Nat.blt j 130 then (bif Nat.blt j 128 then 567 else (bif Nat.blt j 129 then 608 else 422)) else (bif Nat.blt j 132 then (bif Nat.blt j 131 then 404 else 700) else (bif Nat.blt j 133 then 0 else 1014))) else (bif Nat.blt j 137 then (bif Nat.blt j 135 then 1250 else (bif Nat.blt j 136 then 0 else 0)) else (bif Nat.blt j 139 then (bif Nat.blt j 138 then 0 else 1223) else (bif Nat.blt j 140 then 0 else 0))))) else (bif Nat.blt j 155 then (bif Nat.blt j 148 then (bif Nat.blt j 144 then (bif Nat.blt j 142 then 0 else (bif Nat.blt j 143 then 1034 else 0)) else (bif Nat.blt j 146 then (bif Nat.blt j 145 then 0 else 0) else (bif Nat.blt j 147 then 0 else 0))) else (bif Nat.blt j 151 then (bif Nat.blt j 149 then 0 else (bif Nat.blt j 150 then 0 else 0)) else (bif Nat.blt j 153 then (bif Nat.blt j 152 then 1247 else 0) else (bif Nat.blt j 154 then 0 else 0)))) else (bif Nat.blt j 162 then (bif Nat.blt j 158 then (bif Nat.blt j 156 then 0 else (bif Nat.blt j 157 then 0 else 0)) else (bif Nat.blt j 160 then (bif Nat.blt j 159 then 0 else 0) else (bif Nat.blt j 161 then 0 else 0))) else (bif Nat.blt j 165 then (bif Nat.blt j 163 then 0 else (bif Nat.blt j 164 then 0 else 0)) else (bif Nat.blt j 167 then (bif Nat.blt j 166 then 0 else 0) else (bif Nat.blt j 168 then 0 else 1311)))))) else (bif Nat.blt j 197 then (bif Nat.blt j 183 then (bif Nat.blt j 176 then (bif Nat.blt j 172 then (bif Nat.blt j 170 then 0 else (bif Nat.blt j 171 then 0 else 0)) else (bif Nat.blt j 174 then (bif Nat.blt j 173 then 0 else 0) else (bif Nat.blt j 175 then 0 else 0))) else (bif Nat.blt j 179 then (bif Nat.blt j 177 then 1345 else (bif Nat.blt j 178 then 0 else 0)) else (bif Nat.blt j 181 then (bif Nat.blt j 180 then 0 else 0) else (bif Nat.blt j 182 then 1376 else 0)))) else (bif Nat.blt j 190 then (bif Nat.blt j 186 then (bif Nat.blt j 184 then 0 else (bif Nat.blt j 185 then 0 else 0)) else (bif Nat.blt j 188 then (bif Nat.blt j 187 then 0 else 0) else (bif Nat.blt j 189 then 0 else 0))) else (bif Nat.blt j 193 then (bif Nat.blt j 191 then 0 else (bif Nat.blt j 192 then 1399 else 0)) else (bif Nat.blt j 195 then (bif Nat.blt j 194 then 0 else 0) else (bif Nat.blt j 196 then 0 else 0))))) else (bif Nat.blt j 211 then (bif Nat.blt j 204 then (bif Nat.blt j 200 then (bif Nat.blt j 198 then 0 else (bif Nat.blt j 199 then 0 else 0)) else (bif Nat.blt j 202 then (bif Nat.blt j 201 then 0 else 0) else (bif Nat.blt j 203 then 0 else 0))) else (bif Nat.blt j 207 then (bif Nat.blt j 205 then 0 else (bif Nat.blt j 206 then 0 else 0)) else (bif Nat.blt j 209 then (bif Nat.blt j 208 then 0 else 0) else (bif Nat.blt j 210 then 0 else 0)))) else (bif Nat.blt j 218 then (bif Nat.blt j 214 then (bif Nat.blt j 212 then 0 else (bif Nat.blt j 213 then 0 else 0)) else (bif Nat.blt j 216 then (bif Nat.blt j 215 then 0 else 0) else (bif Nat.blt j 217 then 0 else 0))) else (bif Nat.blt j 222 then (bif Nat.blt j 220 then (bif Nat.blt j 219 then 0 else 0) else (bif Nat.blt j 221 then 1522 else 0)) else (bif Nat.blt j 224 then (bif Nat.blt j 223 then 0 else 817) else (bif Nat.blt j 225 then 689 else 415))))))))
def x_pin (j : Nat) : Nat := (bif Nat.blt j 113 then (bif Nat.blt j 56 then (bif Nat.blt j 28 then (bif Nat.blt j 14 then (bif Nat.blt j 7 then (bif Nat.blt j 3 then (bif Nat.blt j 1 then 299 else (bif Nat.blt j 2 then 765 else 774)) else (bif Nat.blt j 5 then (bif Nat.blt j 4 then 0 else 786) else (bif Nat.blt j 6 then 790 else 794))) else (bif Nat.blt j 10 then (bif Nat.blt j 8 then 256 else (bif Nat.blt j 9 then 723 else 731)) else (bif Nat.blt j 12 then (bif Nat.blt j 11 then 101 else 626) else (bif Nat.blt j 13 then 727 else 638)))) else (bif Nat.blt j 21 then (bif Nat.blt j 17 then (bif Nat.blt j 15 then 642 else (bif Nat.blt j 16 then 996 else 660)) else (bif Nat.blt j 19 then (bif Nat.blt j 18 then 665 else 654) else (bif Nat.blt j 20 then 672 else 668))) else (bif Nat.blt j 24 then (bif Nat.blt j 22 then 856 else (bif Nat.blt j 23 then 326 else 839)) else (bif Nat.blt j 26 then (bif Nat.blt j 25 then 847 else 272) else (bif Nat.blt j 27 then 711 else 685))))) else (bif Nat.blt j 42 then (bif Nat.blt j 35 then (bif Nat.blt j 31 then (bif Nat.blt j 29 then 694 else (bif Nat.blt j 30 then 335 else 936)) else (bif Nat.blt j 33 then (bif Nat.blt j 32 then 895 else 945) else (bif Nat.blt j 34 then 971 else 975))) else (bif Nat.blt j 38 then (bif Nat.blt j 36 then 891 else (bif Nat.blt j 37 then 910 else 941)) else (bif Nat.blt j 40 then (bif Nat.blt j 39 then 193 else 400) else (bif Nat.blt j 41 then 407 else 465)))) else (bif Nat.blt j 49 then (bif Nat.blt j 45 then (bif Nat.blt j 43 then 469 else (bif Nat.blt j 44 then 473 else 486)) else (bif Nat.blt j 47 then (bif Nat.blt j 46 then 490 else 494) else (bif Nat.blt j 48 then 477 else 461))) else (bif Nat.blt j 52 then (bif Nat.blt j 50 then 419 else (bif Nat.blt j 51 then 429 else 454)) else (bif Nat.blt j 54 then (bif Nat.blt j 53 then 434 else 0) else (bif Nat.blt j 55 then 0 else 0)))))) else (bif Nat.blt j 84 then (bif Nat.blt j 70 then (bif Nat.blt j 63 then (bif Nat.blt j 59 then (bif Nat.blt j 57 then 199 else (bif Nat.blt j 58 then 411 else 480)) else (bif Nat.blt j 61 then (bif Nat.blt j 60 then 500 else 504) else (bif Nat.blt j 62 then 594 else 602))) else (bif Nat.blt j 66 then (bif Nat.blt j 64 then 0 else (bif Nat.blt j 65 then 94 else 586)) else (bif Nat.blt j 68 then (bif Nat.blt j 67 then 870 else 619) else (bif Nat.blt j 69 then 634 else 992)))) else (bif Nat.blt j 77 then (bif Nat.blt j 73 then (bif Nat.blt j 71 then 843 else (bif Nat.blt j 72 then 875 else 805)) else (bif Nat.blt j 75 then (bif Nat.blt j 74 then 810 else 827) else (bif Nat.blt j 76 then 86 else 553))) else (bif Nat.blt j 80 then (bif Nat.blt j 78 then 557 else (bif Nat.blt j 79 then 563 else 570)) else (bif Nat.blt j 82 then (bif Nat.blt j 81 then 578 else 582) else (bif Nat.blt j 83 then 615 else 630))))) else (bif Nat.blt j 98 then (bif Nat.blt j 91 then (bif Nat.blt j 87 then (bif Nat.blt j 85 then 646 else (bif Nat.blt j 86 then 650 else 676)) else (bif Nat.blt j 89 then (bif Nat.blt j 88 then 680 else 703) else (bif Nat.blt j 90 then 707 else 715))) else (bif Nat.blt j 94 then (bif Nat.blt j 92 then 719 else (bif Nat.blt j 93 then 735 else 739)) else (bif Nat.blt j 96 then (bif Nat.blt j 95 then 752 else 756) else (bif Nat.blt j 97 then 761 else 797)))) else (bif Nat.blt j 105 then (bif Nat.blt j 101 then (bif Nat.blt j 99 then 801 else (bif Nat.blt j 100 then 813 else 823)) else (bif Nat.blt j 103 then (bif Nat.blt j 102 then 831 else 835) else (bif Nat.blt j 104 then 862 else 879))) else (bif Nat.blt j 109 then (bif Nat.blt j 107 then (bif Nat.blt j 106 then 883 else 902) else (bif Nat.blt j 108 then 916 else 920)) else (bif Nat.blt j 111 then (bif Nat.blt j 110 then 924 else 928) else (bif Nat.blt j 112 then 932 else 950))))))) else (bif Nat.blt j 169 then (bif Nat.blt j 141 then (bif Nat.blt j 127 then (bif Nat.blt j 120 then (bif Nat.blt j 116 then (bif Nat.blt j 114 then 954 else (bif Nat.blt j 115 then 958 else 962)) else (bif Nat.blt j 118 then (bif Nat.blt j 117 then 967 else 983) else (bif Nat.blt j 119 then 988 else 575))) else (bif Nat.blt j 123 then (bif Nat.blt j 121 then 591 else (bif Nat.blt j 122 then 888 else 907)) else (bif Nat.blt j 125 then (bif Nat.blt j 124 then 0 else 746) else (bif Nat.blt j 126 then 867 else 0)))) else (bif Nat.blt j 134 then (bif Nat.blt j 130 then (bif Nat.blt j 128 then 0 else (bif Nat.blt j 129 then 0 else 0)) else (bif Nat.blt j 132 then (bif Nat.blt j 131 then 0 else 0) else (bif Nat.blt j 133 then 1002 else 0))) else (bif Nat.blt j 137 then (bif Nat.blt j 135 then 0 else (bif Nat.blt j 136 then 1236 else 1210)) else (bif Nat.blt j 139 then (bif Nat.blt j 138 then 1214 else 0) else (bif Nat.blt j 140 then 1219 else 1018))))) else (bif Nat.blt j 155 then (bif Nat.blt j 148 then (bif Nat.blt j 144 then (bif Nat.blt j 142 then 1011 else (bif Nat.blt j 143 then 0 else 1027)) else (bif Nat.blt j 146 then (bif Nat.blt j 145 then 1031 else 1042) else (bif Nat.blt j 147 then 1038 else 1050))) else (bif Nat.blt j 151 then (bif Nat.blt j 149 then 1046 else (bif Nat.blt j 150 then 1022 else 1006)) else (bif Nat.blt j 153 then (bif Nat.blt j 152 then 0 else 1244) else (bif Nat.blt j 154 then 1227 else 1240)))) else (bif Nat.blt j 162 then (bif Nat.blt j 158 then (bif Nat.blt j 156 then 1231 else (bif Nat.blt j 157 then 1253 else 1262)) else (bif Nat.blt j 160 then (bif Nat.blt j 159 then 1257 else 1265) else (bif Nat.blt j 161 then 1274 else 1282))) else (bif Nat.blt j 165 then (bif Nat.blt j 163 then 1290 else (bif Nat.blt j 164 then 1286 else 1278)) else (bif Nat.blt j 167 then (bif Nat.blt j 166 then 1269 else 1293) else (bif Nat.blt j 168 then 1307 else 0)))))) else (bif Nat.blt j 197 then (bif Nat.blt j 183 then (bif Nat.blt j 176 then (bif Nat.blt j 172 then (bif Nat.blt j 170 then 1302 else (bif Nat.blt j 171 then 1297 else 1314)) else (bif Nat.blt j 174 then (bif Nat.blt j 173 then 1318 else 1322) else (bif Nat.blt j 175 then 1326 else 1331))) else (bif Nat.blt j 179 then (bif Nat.blt j 177 then 0 else (bif Nat.blt j 178 then 1342 else 1335)) else (bif Nat.blt j 181 then (bif Nat.blt j 180 then 1348 else 1352) else (bif Nat.blt j 182 then 0 else 1369)))) else (bif Nat.blt j 190 then (bif Nat.blt j 186 then (bif Nat.blt j 184 then 1365 else (bif Nat.blt j 185 then 1373 else 1361)) else (bif Nat.blt j 188 then (bif Nat.blt j 187 then 1356 else 1379) else (bif Nat.blt j 189 then 1392 else 1388))) else (bif Nat.blt j 193 then (bif Nat.blt j 191 then 1383 else (bif Nat.blt j 192 then 0 else 1395)) else (bif Nat.blt j 195 then (bif Nat.blt j 194 then 1407 else 1402) else (bif Nat.blt j 196 then 1410 else 1419))))) else (bif Nat.blt j 211 then (bif Nat.blt j 204 then (bif Nat.blt j 200 then (bif Nat.blt j 198 then 1414 else (bif Nat.blt j 199 then 1429 else 1424)) else (bif Nat.blt j 202 then (bif Nat.blt j 201 then 1432 else 1445) else (bif Nat.blt j 203 then 1441 else 1453))) else (bif Nat.blt j 207 then (bif Nat.blt j 205 then 1449 else (bif Nat.blt j 206 then 1436 else 1461)) else (bif Nat.blt j 209 then (bif Nat.blt j 208 then 1456 else 1465) else (bif Nat.blt j 210 then 1469 else 1473)))) else (bif Nat.blt j 218 then (bif Nat.blt j 214 then (bif Nat.blt j 212 then 1482 else (bif Nat.blt j 213 then 1477 else 1485)) else (bif Nat.blt j 216 then (bif Nat.blt j 215 then 1489 else 1493) else (bif Nat.blt j 217 then 1497 else 1501))) else (bif Nat.blt j 222 then (bif Nat.blt j 220 then (bif Nat.blt j 219 then 1505 else 1509) else (bif Nat.blt j 221 then 0 else 1519)) else (bif Nat.blt j 224 then (bif Nat.blt j 223 then 1514 else 0) else (bif Nat.blt j 225 then 0 else 0))))))))
def x_psl (j : Nat) : Nat := (bif Nat.blt j 113 then (bif Nat.blt j 56 then (bif Nat.blt j 28 then (bif Nat.blt j 14 then (bif Nat.blt j 7 then (bif Nat.blt j 3 then (bif Nat.blt j 1 then 0 else (bif Nat.blt j 2 then 767 else 19)) else (bif Nat.blt j 5 then (bif Nat.blt j 4 then 0 else 20) else (bif Nat.blt j 6 then 21 else 22))) else (bif Nat.blt j 10 then (bif Nat.blt j 8 then 0 else (bif Nat.blt j 9 then 725 else 733)) else (bif Nat.blt j 12 then (bif Nat.blt j 11 then 0 else 628) else (bif Nat.blt j 13 then 729 else 640)))) else (bif Nat.blt j 21 then (bif Nat.blt j 17 then (bif Nat.blt j 15 then 644 else (bif Nat.blt j 16 then 998 else 662)) else (bif Nat.blt j 19 then (bif Nat.blt j 18 then 16 else 656) else (bif Nat.blt j 20 then 674 else 670))) else (bif Nat.blt j 24 then (bif Nat.blt j 22 then 858 else (bif Nat.blt j 23 then 0 else 841)) else (bif Nat.blt j 26 then (bif Nat.blt j 25 then 849 else 0) else (bif Nat.blt j 27 then 713 else 687))))) else (bif Nat.blt j 42 then (bif Nat.blt j 35 then (bif Nat.blt j 31 then (bif Nat.blt j 29 then 17 else (bif Nat.blt j 30 then 0 else 938)) else (bif Nat.blt j 33 then (bif Nat.blt j 32 then 897 else 947) else (bif Nat.blt j 34 then 973 else 977))) else (bif Nat.blt j 38 then (bif Nat.blt j 36 then 893 else (bif Nat.blt j 37 then 912 else 943)) else (bif Nat.blt j 40 then (bif Nat.blt j 39 then 0 else 402) else (bif Nat.blt j 41 then 409 else 6)))) else (bif Nat.blt j 49 then (bif Nat.blt j 45 then (bif Nat.blt j 43 then 7 else (bif Nat.blt j 44 then 8 else 10)) else (bif Nat.blt j 47 then (bif Nat.blt j 46 then 11 else 12) else (bif Nat.blt j 48 then 9 else 5))) else (bif Nat.blt j 52 then (bif Nat.blt j 50 then 1 else (bif Nat.blt j 51 then 2 else 4)) else (bif Nat.blt j 54 then (bif Nat.blt j 53 then 3 else 0) else (bif Nat.blt j 55 then 0 else 0)))))) else (bif Nat.blt j 84 then (bif Nat.blt j 70 then (bif Nat.blt j 63 then (bif Nat.blt j 59 then (bif Nat.blt j 57 then 0 else (bif Nat.blt j 58 then 413 else 482)) else (bif Nat.blt j 61 then (bif Nat.blt j 60 then 502 else 506) else (bif Nat.blt j 62 then 596 else 15))) else (bif Nat.blt j 66 then (bif Nat.blt j 64 then 0 else (bif Nat.blt j 65 then 0 else 588)) else (bif Nat.blt j 68 then (bif Nat.blt j 67 then 872 else 621) else (bif Nat.blt j 69 then 636 else 994)))) else (bif Nat.blt j 77 then (bif Nat.blt j 73 then (bif Nat.blt j 71 then 845 else (bif Nat.blt j 72 then 877 else 807)) else (bif Nat.blt j 75 then (bif Nat.blt j 74 then 23 else 829) else (bif Nat.blt j 76 then 0 else 555))) else (bif Nat.blt j 80 then (bif Nat.blt j 78 then 559 else (bif Nat.blt j 79 then 565 else 572)) else (bif Nat.blt j 82 then (bif Nat.blt j 81 then 580 else 584) else (bif Nat.blt j 83 then 617 else 632))))) else (bif Nat.blt j 98 then (bif Nat.blt j 91 then (bif Nat.blt j 87 then (bif Nat.blt j 85 then 648 else (bif Nat.blt j 86 then 652 else 678)) else (bif Nat.blt j 89 then (bif Nat.blt j 88 then 682 else 705) else (bif Nat.blt j 90 then 709 else 717))) else (bif Nat.blt j 94 then (bif Nat.blt j 92 then 721 else (bif Nat.blt j 93 then 737 else 741)) else (bif Nat.blt j 96 then (bif Nat.blt j 95 then 754 else 758) else (bif Nat.blt j 97 then 763 else 799)))) else (bif Nat.blt j 105 then (bif Nat.blt j 101 then (bif Nat.blt j 99 then 803 else (bif Nat.blt j 100 then 815 else 825)) else (bif Nat.blt j 103 then (bif Nat.blt j 102 then 833 else 837) else (bif Nat.blt j 104 then 864 else 881))) else (bif Nat.blt j 109 then (bif Nat.blt j 107 then (bif Nat.blt j 106 then 885 else 904) else (bif Nat.blt j 108 then 918 else 922)) else (bif Nat.blt j 111 then (bif Nat.blt j 110 then 926 else 930) else (bif Nat.blt j 112 then 934 else 952))))))) else (bif Nat.blt j 169 then (bif Nat.blt j 141 then (bif Nat.blt j 127 then (bif Nat.blt j 120 then (bif Nat.blt j 116 then (bif Nat.blt j 114 then 956 else (bif Nat.blt j 115 then 960 else 964)) else (bif Nat.blt j 118 then (bif Nat.blt j 117 then 969 else 985) else (bif Nat.blt j 119 then 990 else 13))) else (bif Nat.blt j 123 then (bif Nat.blt j 121 then 14 else (bif Nat.blt j 122 then 25 else 26)) else (bif Nat.blt j 125 then (bif Nat.blt j 124 then 0 else 18) else (bif Nat.blt j 126 then 24 else 0)))) else (bif Nat.blt j 134 then (bif Nat.blt j 130 then (bif Nat.blt j 128 then 0 else (bif Nat.blt j 129 then 0 else 0)) else (bif Nat.blt j 132 then (bif Nat.blt j 131 then 0 else 0) else (bif Nat.blt j 133 then 0 else 0))) else (bif Nat.blt j 137 then (bif Nat.blt j 135 then 0 else (bif Nat.blt j 136 then 36 else 1212)) else (bif Nat.blt j 139 then (bif Nat.blt j 138 then 1216 else 0) else (bif Nat.blt j 140 then 1221 else 28))))) else (bif Nat.blt j 155 then (bif Nat.blt j 148 then (bif Nat.blt j 144 then (bif Nat.blt j 142 then 27 else (bif Nat.blt j 143 then 0 else 30)) else (bif Nat.blt j 146 then (bif Nat.blt j 145 then 31 else 33) else (bif Nat.blt j 147 then 32 else 35))) else (bif Nat.blt j 151 then (bif Nat.blt j 149 then 34 else (bif Nat.blt j 150 then 29 else 1008)) else (bif Nat.blt j 153 then (bif Nat.blt j 152 then 0 else 38) else (bif Nat.blt j 154 then 1229 else 37)))) else (bif Nat.blt j 162 then (bif Nat.blt j 158 then (bif Nat.blt j 156 then 1233 else (bif Nat.blt j 157 then 1255 else 39)) else (bif Nat.blt j 160 then (bif Nat.blt j 159 then 1259 else 1267) else (bif Nat.blt j 161 then 40 else 42))) else (bif Nat.blt j 165 then (bif Nat.blt j 163 then 44 else (bif Nat.blt j 164 then 43 else 41)) else (bif Nat.blt j 167 then (bif Nat.blt j 166 then 1271 else 1295) else (bif Nat.blt j 168 then 46 else 0)))))) else (bif Nat.blt j 197 then (bif Nat.blt j 183 then (bif Nat.blt j 176 then (bif Nat.blt j 172 then (bif Nat.blt j 170 then 45 else (bif Nat.blt j 171 then 1299 else 1316)) else (bif Nat.blt j 174 then (bif Nat.blt j 173 then 1320 else 1324) else (bif Nat.blt j 175 then 1328 else 1333))) else (bif Nat.blt j 179 then (bif Nat.blt j 177 then 0 else (bif Nat.blt j 178 then 47 else 1337)) else (bif Nat.blt j 181 then (bif Nat.blt j 180 then 1350 else 1354) else (bif Nat.blt j 182 then 0 else 50)))) else (bif Nat.blt j 190 then (bif Nat.blt j 186 then (bif Nat.blt j 184 then 49 else (bif Nat.blt j 185 then 51 else 48)) else (bif Nat.blt j 188 then (bif Nat.blt j 187 then 1358 else 1381) else (bif Nat.blt j 189 then 53 else 52))) else (bif Nat.blt j 193 then (bif Nat.blt j 191 then 1385 else (bif Nat.blt j 192 then 0 else 1397)) else (bif Nat.blt j 195 then (bif Nat.blt j 194 then 54 else 1404) else (bif Nat.blt j 196 then 1412 else 55))))) else (bif Nat.blt j 211 then (bif Nat.blt j 204 then (bif Nat.blt j 200 then (bif Nat.blt j 198 then 1416 else (bif Nat.blt j 199 then 56 else 1426)) else (bif Nat.blt j 202 then (bif Nat.blt j 201 then 1434 else 58) else (bif Nat.blt j 203 then 57 else 60))) else (bif Nat.blt j 207 then (bif Nat.blt j 205 then 59 else (bif Nat.blt j 206 then 1438 else 61)) else (bif Nat.blt j 209 then (bif Nat.blt j 208 then 1458 else 1467) else (bif Nat.blt j 210 then 1471 else 1475)))) else (bif Nat.blt j 218 then (bif Nat.blt j 214 then (bif Nat.blt j 212 then 62 else (bif Nat.blt j 213 then 1479 else 1487)) else (bif Nat.blt j 216 then (bif Nat.blt j 215 then 1491 else 1495) else (bif Nat.blt j 217 then 1499 else 1503))) else (bif Nat.blt j 222 then (bif Nat.blt j 220 then (bif Nat.blt j 219 then 1507 else 1511) else (bif Nat.blt j 221 then 0 else 63)) else (bif Nat.blt j 224 then (bif Nat.blt j 223 then 1516 else 0) else (bif Nat.blt j 225 then 0 else 0))))))))
def x_pini (o : Nat) : Nat := (bif Nat.blt o 7 then (bif Nat.blt o 3 then (bif Nat.blt o 1 then 71 else (bif Nat.blt o 2 then 69 else 66)) else (bif Nat.blt o 5 then (bif Nat.blt o 4 then 72 else 70) else (bif Nat.blt o 6 then 73 else 67))) else (bif Nat.blt o 10 then (bif Nat.blt o 8 then 68 else (bif Nat.blt o 9 then 65 else 64)) else (bif Nat.blt o 12 then (bif Nat.blt o 11 then 79 else 81) else (bif Nat.blt o 13 then 78 else 63))))
def x_pins (o : Nat) : Nat := (bif Nat.blt o 5 then (bif Nat.blt o 2 then (bif Nat.blt o 1 then 297 else 254) else (bif Nat.blt o 3 then 99 else (bif Nat.blt o 4 then 324 else 270))) else (bif Nat.blt o 8 then (bif Nat.blt o 6 then 333 else (bif Nat.blt o 7 then 191 else 197)) else (bif Nat.blt o 9 then 92 else (bif Nat.blt o 10 then 84 else 1000))))
def x_TF : List (Nat × Nat × Nat × Nat × Nat) := [(9, 10, 9, 0, 508), (9, 16, 9, 1, 509), (9, 19, 9, 2, 510), (9, 22, 9, 3, 511), (9, 29, 9, 4, 512), (9, 36, 9, 5, 513), (9, 40, 9, 6, 514), (9, 44, 9, 7, 515), (9, 50, 9, 8, 516), (9, 57, 9, 9, 517), (9, 64, 9, 10, 518), (9, 71, 9, 11, 519), (9, 78, 9, 12, 520), (9, 85, 9, 13, 521), (9, 109, 6, 1, 221), (9, 116, 8, 1, 147), (9, 119, 8, 2, 149), (9, 122, 8, 3, 152), (9, 125, 8, 4, 154), (9, 128, 8, 5, 156), (9, 131, 8, 6, 158), (9, 134, 6, 2, 223), (9, 177, 2, 7, 126), (9, 199, 4, 2, 279), (9, 203, 4, 1, 277), (9, 210, 4, 3, 281), (9, 222, 2, 3, 113), (9, 229, 1, 0, 261), (9, 232, 4, 4, 283), (9, 252, 0, 4, 307), (9, 255, 0, 5, 309), (9, 261, 8, 10, 166), (9, 269, 1, 1, 263), (9, 278, 8, 7, 160), (9, 294, 2, 2, 109), (9, 297, 8, 8, 162), (9, 300, 8, 9, 164), (9, 307, 5, 1, 340), (9, 310, 5, 2, 342), (0, 9, 0, 0, 302), (0, 15, 0, 1, 303), (0, 18, 0, 2, 304), (0, 21, 0, 3, 305), (0, 25, 0, 4, 306), (0, 28, 0, 5, 308), (0, 31, 8, 1, 146), (0, 44, 2, 5, 117), (0, 49, 8, 2, 150), (0, 52, 2, 7, 122), (1, 9, 1, 0, 260), (1, 17, 1, 1, 262), (2, 9, 2, 0, 104), (2, 15, 2, 1, 105), (2, 18, 2, 2, 107), (2, 21, 2, 3, 110), (2, 24, 2, 4, 114), (2, 27, 2, 5, 116), (2, 30, 2, 6, 119), (2, 33, 2, 7, 121), (3, 7, 3, 0, 329), (4, 9, 4, 0, 275), (4, 15, 4, 1, 276), (4, 19, 4, 2, 278), (4, 22, 4, 3, 280), (4, 25, 4, 4, 282), (4, 40, 2, 7, 123), (5, 9, 5, 0, 338), (5, 15, 5, 1, 339), (5, 19, 5, 2, 341), (5, 46, 2, 7, 124), (6, 9, 6, 0, 219), (6, 18, 6, 1, 220), (6, 22, 6, 2, 222), (6, 26, 6, 3, 224), (6, 29, 6, 4, 225), (6, 32, 6, 5, 226), (6, 35, 6, 6, 227), (6, 38, 6, 7, 228), (7, 9, 7, 0, 202), (7, 15, 7, 1, 203), (7, 18, 7, 2, 204), (7, 21, 7, 3, 205), (7, 24, 7, 4, 206), (7, 48, 2, 1, 106), (7, 53, 2, 3, 111), (7, 56, 2, 4, 115), (8, 11, 8, 0, 144), (8, 17, 8, 1, 145), (8, 21, 8, 2, 148), (8, 24, 8, 3, 151), (8, 27, 8, 4, 153), (8, 30, 8, 5, 155), (8, 33, 8, 6, 157), (8, 36, 8, 7, 159), (8, 39, 8, 8, 161), (8, 42, 8, 9, 163), (8, 45, 8, 10, 165), (8, 66, 2, 5, 118), (8, 75, 2, 7, 125), (8, 93, 2, 2, 108), (8, 99, 2, 6, 120), (8, 102, 2, 3, 112), (10, 7, 10, 1, 1053), (10, 13, 10, 2, 1054), (10, 16, 10, 3, 1055), (10, 19, 10, 6, 1058), (10, 23, 10, 7, 1059), (10, 26, 10, 8, 1060), (10, 29, 10, 10, 1062), (10, 32, 10, 11, 1063), (10, 35, 10, 21, 1073), (10, 38, 10, 22, 1074), (10, 41, 10, 23, 1075), (10, 44, 10, 24, 1076), (10, 47, 10, 25, 1077), (10, 50, 10, 30, 1082), (10, 53, 10, 31, 1083), (10, 56, 10, 35, 1087), (10, 59, 10, 36, 1088), (10, 62, 10, 37, 1089), (10, 66, 10, 42, 1094), (10, 69, 10, 48, 1100), (10, 72, 10, 49, 1101), (10, 75, 10, 9, 1061), (10, 82, 10, 0, 1052), (10, 89, 10, 4, 1056), (10, 92, 10, 5, 1057), (10, 95, 10, 12, 1064), (10, 98, 10, 13, 1065), (10, 106, 10, 26, 1078), (10, 109, 10, 27, 1079), (10, 112, 10, 28, 1080), (10, 115, 10, 29, 1081), (10, 122, 10, 34, 1086), (10, 125, 10, 32, 1084), (10, 132, 10, 33, 1085), (10, 197, 10, 38, 1090), (10, 201, 10, 39, 1091), (10, 204, 10, 40, 1092), (10, 207, 10, 41, 1093), (10, 241, 10, 43, 1095), (10, 259, 10, 44, 1096), (10, 268, 10, 45, 1097), (10, 275, 10, 47, 1099), (10, 278, 10, 46, 1098), (10, 288, 10, 50, 1102), (10, 291, 10, 51, 1103), (10, 319, 10, 14, 1066), (10, 322, 10, 15, 1067), (10, 325, 10, 16, 1068), (10, 328, 10, 17, 1069), (10, 331, 10, 18, 1070), (10, 334, 10, 19, 1071), (10, 337, 10, 20, 1072)]
def x_TM : List (Nat × Nat × Nat × Nat) := [(9, 9, 64, 93), (9, 102, 39, 399), (9, 106, 40, 406), (9, 112, 60, 503), (9, 138, 126, 561), (9, 142, 127, 566), (9, 146, 119, 573), (9, 150, 65, 585), (9, 154, 120, 589), (9, 158, 61, 593), (9, 162, 67, 618), (9, 166, 68, 633), (9, 169, 13, 637), (9, 173, 14, 641), (9, 180, 18, 653), (9, 184, 16, 659), (9, 187, 20, 667), (9, 190, 19, 671), (9, 195, 27, 684), (9, 206, 131, 699), (9, 212, 26, 710), (9, 216, 8, 722), (9, 219, 12, 726), (9, 225, 9, 730), (9, 239, 124, 744), (9, 243, 123, 748), (9, 248, 1, 764), (9, 258, 72, 804), (9, 264, 223, 816), (9, 272, 74, 826), (9, 275, 23, 838), (9, 280, 70, 842), (9, 290, 125, 865), (9, 303, 121, 886), (9, 311, 35, 890), (9, 315, 122, 905), (9, 318, 36, 909), (9, 322, 30, 935), (9, 324, 37, 940), (9, 327, 66, 869), (9, 330, 32, 965), (9, 333, 33, 970), (9, 337, 34, 974), (9, 341, 31, 986), (9, 344, 69, 991), (9, 347, 15, 995), (9, 350, 71, 874), (0, 36, 65, 768), (0, 55, 18, 770), (0, 59, 20, 771), (0, 63, 2, 772), (0, 67, 4, 784), (0, 71, 5, 788), (0, 79, 3, 777), (0, 90, 6, 792), (2, 36, 61, 657), (2, 46, 17, 663), (4, 28, 224, 688), (4, 36, 28, 692), (4, 46, 16, 696), (4, 50, 18, 697), (4, 53, 20, 698), (5, 22, 225, 939), (5, 36, 33, 978), (5, 51, 31, 894), (5, 55, 16, 899), (5, 59, 18, 900), (5, 66, 32, 944), (6, 45, 57, 410), (6, 48, 49, 417), (6, 51, 48, 459), (6, 55, 41, 463), (6, 59, 59, 499), (6, 63, 42, 467), (6, 66, 58, 479), (6, 69, 43, 471), (6, 72, 47, 475), (6, 75, 44, 484), (6, 78, 45, 488), (6, 81, 46, 492), (6, 92, 53, 424), (6, 95, 50, 427), (6, 98, 54, 449), (6, 101, 51, 452), (6, 104, 55, 456), (6, 109, 52, 432), (7, 28, 225, 414), (7, 59, 62, 600), (7, 66, 63, 604), (8, 49, 12, 873), (8, 58, 65, 624), (8, 62, 11, 625), (8, 69, 24, 846), (8, 78, 16, 852), (8, 82, 18, 853), (8, 85, 20, 854), (8, 89, 21, 855), (8, 96, 73, 808), (13, 9, 75, 85), (13, 12, 132, 1001), (13, 13, 76, 552), (13, 17, 136, 1209), (13, 18, 77, 556), (13, 22, 137, 1213), (13, 23, 78, 562), (13, 27, 139, 1218), (13, 28, 79, 569), (13, 32, 150, 1225), (13, 33, 80, 577), (13, 36, 153, 1226), (13, 37, 81, 581), (13, 41, 155, 1230), (13, 42, 82, 614), (13, 46, 156, 1252), (13, 47, 83, 629), (13, 50, 158, 1256), (13, 51, 84, 645), (13, 54, 159, 1264), (13, 55, 85, 649), (13, 58, 165, 1268), (13, 59, 86, 675), (13, 62, 166, 1292), (13, 63, 87, 679), (13, 67, 170, 1296), (13, 68, 88, 702), (13, 71, 171, 1313), (13, 72, 89, 706), (13, 76, 172, 1317), (13, 77, 90, 714), (13, 81, 173, 1321), (13, 82, 91, 718), (13, 85, 174, 1325), (13, 86, 92, 734), (13, 89, 175, 1330), (13, 90, 93, 738), (13, 93, 178, 1334), (13, 94, 94, 751), (13, 97, 179, 1347), (13, 98, 95, 755), (13, 101, 180, 1351), (13, 102, 96, 760), (13, 105, 186, 1355), (13, 106, 97, 796), (13, 109, 187, 1378), (13, 110, 98, 800), (13, 113, 190, 1382), (13, 114, 99, 812), (13, 117, 192, 1394), (13, 118, 100, 822), (13, 121, 194, 1401), (13, 122, 101, 830), (13, 125, 195, 1409), (13, 126, 102, 834), (13, 129, 197, 1413), (13, 130, 103, 861), (13, 133, 199, 1423), (13, 134, 104, 878), (13, 137, 200, 1431), (13, 138, 105, 882), (13, 141, 205, 1435), (13, 142, 106, 901), (13, 145, 207, 1455), (13, 146, 107, 915), (13, 149, 208, 1464), (13, 150, 108, 919), (13, 153, 209, 1468), (13, 154, 109, 923), (13, 157, 210, 1472), (13, 158, 110, 927), (13, 161, 212, 1476), (13, 162, 111, 931), (13, 165, 213, 1484), (13, 166, 112, 949), (13, 169, 214, 1488), (13, 170, 113, 953), (13, 173, 215, 1492), (13, 174, 114, 957), (13, 177, 216, 1496), (13, 178, 115, 961), (13, 181, 217, 1500), (13, 182, 116, 966), (13, 186, 218, 1504), (13, 187, 117, 982), (13, 190, 219, 1508), (13, 191, 118, 987), (13, 194, 222, 1513), (10, 78, 150, 1005), (10, 85, 133, 1013), (10, 102, 138, 1222), (10, 118, 140, 1016), (10, 128, 142, 1033), (10, 135, 143, 1025), (10, 139, 145, 1040), (10, 142, 144, 1029), (10, 145, 141, 1009), (10, 149, 146, 1036), (10, 152, 148, 1044), (10, 155, 147, 1048), (10, 158, 149, 1020), (10, 162, 151, 1246), (10, 166, 152, 1242), (10, 169, 134, 1249), (10, 172, 135, 1234), (10, 175, 154, 1238), (10, 179, 157, 1260), (10, 182, 161, 1280), (10, 185, 160, 1272), (10, 188, 164, 1276), (10, 191, 163, 1284), (10, 194, 162, 1288), (10, 212, 169, 1300), (10, 217, 167, 1305), (10, 221, 168, 1310), (10, 227, 176, 1344), (10, 234, 177, 1340), (10, 238, 181, 1375), (10, 244, 183, 1363), (10, 247, 182, 1367), (10, 250, 184, 1371), (10, 253, 185, 1359), (10, 256, 188, 1390), (10, 262, 189, 1386), (10, 265, 191, 1398), (10, 272, 193, 1405), (10, 285, 196, 1417), (10, 294, 198, 1427), (10, 297, 201, 1443), (10, 300, 203, 1451), (10, 304, 202, 1439), (10, 307, 204, 1447), (10, 312, 206, 1459), (10, 316, 211, 1480), (10, 340, 156, 1512), (10, 343, 221, 1517), (10, 346, 220, 1521)]
def x_TN : List (Nat × Nat × Nat) := [(9, 28, 38), (9, 35, 56), (9, 56, 10), (9, 63, 7), (9, 70, 25), (9, 77, 0), (9, 84, 22), (9, 89, 29), (0, 40, 130), (0, 75, 129), (2, 42, 128), (5, 28, 129), (5, 32, 130), (6, 17, 56), (6, 41, 130), (6, 84, 126), (6, 88, 129), (7, 34, 130), (7, 38, 129), (7, 63, 128), (8, 48, 10), (8, 53, 126)]
def x_TP : List (Nat × Nat × Nat × Nat) := [(9, 1, 7, 88), (9, 92, 5, 351), (9, 98, 6, 361), (9, 284, 2, 610), (9, 353, 1, 611), (0, 3, 7, 301), (0, 82, 3, 780), (0, 87, 2, 783), (1, 3, 7, 258), (2, 3, 7, 103), (2, 51, 2, 860), (3, 1, 7, 328), (4, 3, 7, 274), (5, 3, 7, 337), (5, 40, 4, 979), (6, 3, 7, 195), (6, 135, 5, 436), (6, 141, 6, 437), (7, 3, 7, 201), (7, 42, 2, 597), (8, 3, 7, 96), (10, 1, 7, 1004)]
def x_TL : List (Nat × Nat × Nat × Nat) := [(9, 7, 8, 91), (9, 26, 6, 190), (9, 33, 7, 246), (9, 48, 5, 249), (9, 54, 2, 251), (9, 61, 1, 253), (9, 68, 4, 269), (9, 75, 0, 296), (9, 82, 3, 323), (6, 15, 7, 196), (8, 9, 2, 97), (13, 7, 9, 83), (13, 10, 10, 999)]
def x_TI : List (Nat × Nat × Int32 × Nat) := [(9, 137, 99999, 560), (2, 50, 99999, 859), (8, 57, 99999, 623), (10, 101, 99999, 1217), (10, 148, 100000, 1024), (11, 265, 1431655765, 819), (11, 266, 858993459, 820), (11, 267, 252645135, 821)]
def x_TJ : List (Nat × Nat × Int64 × Nat) := [(9, 193, (-4611686018427387904), 683), (9, 235, (-5), 742), (9, 237, (-7), 743), (9, 246, 100, 759), (1, 15, (-1), 259), (3, 13, 48271, 850), (3, 15, 2147483647, 851), (4, 34, 100, 691), (5, 62, 1000000000, 913), (5, 64, 100, 914), (10, 210, 100, 1309), (10, 215, (-4611686018427387904), 1304), (10, 225, (-1), 1329), (10, 230, (-5), 1338), (10, 232, (-7), 1339), (10, 281, 48271, 1421), (10, 283, 2147483647, 1422), (10, 310, 1000000000, 1463)]
def x_TT : List (Nat × Nat × Nat) := [(9, 90, 0), (6, 107, 1), (6, 113, 2), (6, 115, 3), (6, 117, 4), (6, 119, 5), (6, 121, 6), (6, 123, 7), (6, 125, 8), (6, 127, 9), (6, 129, 10), (6, 131, 11), (6, 133, 12)]
def x_pn (w : Nat) : MethodName := match w with
  | 1 => Lib.Math.max.name
  | 2 => Lib.Math.min.name
  | 3 => Lib.Math.abs.name
  | 4 => arraycopyName
  | 5 => yJ0_length_8abf5
  | 6 => yJ0_charAt_5068e
  | _ => Lib.objectInit
theorem x_Tb_at {i : Nat} {w : Cond} (h : lw_tbl[i]? = some w) (hg : goodWord w = true) : w ∈ x_Tb := List.mem_filter.mpr ⟨List.mem_of_getElem? h, hg⟩
set_option maxRecDepth 1000000 in
set_option maxHeartbeats 40000000 in
theorem x_TF_ok : ∀ q ∈ x_TF, lw_tbl[q.2.2.2.2]? = some (Cond.fieldLink (x_on q.1) q.2.1 (x_cn q.2.2.1) (x_ct q.2.2.1 q.2.2.2.1).2.1 (x_ct q.2.2.1 q.2.2.2.1).2.2.1) ∧ q.2.2.1 < 11 ∧ q.2.2.2.1 < x_nf q.2.2.1 := by decide +kernel
set_option maxRecDepth 1000000 in
set_option maxHeartbeats 40000000 in
theorem x_TM_ok : ∀ q ∈ x_TM, lw_tbl[q.2.2.2]? = some (Cond.methodLink (x_on q.1) q.2.1 (x_y q.2.2.1)) := by decide +kernel
set_option maxRecDepth 1000000 in
set_option maxHeartbeats 40000000 in
theorem x_TN_ok : ∀ q ∈ x_TN, (x_on q.1, q.2.1, x_y q.2.2, "InsuredAgainstLuck") ∈ x_Ln := by decide +kernel
set_option maxRecDepth 1000000 in
set_option maxHeartbeats 40000000 in
theorem x_TP_ok : ∀ q ∈ x_TP, lw_tbl[q.2.2.2]? = some (Cond.methodLink (x_on q.1) q.2.1 (x_pn q.2.2.1)) := by decide +kernel
set_option maxRecDepth 1000000 in
set_option maxHeartbeats 40000000 in
theorem x_TL_ok : ∀ q ∈ x_TL, lw_tbl[q.2.2.2]? = some (Cond.classLink (x_on q.1) q.2.1 (x_cn q.2.2.1)) := by decide +kernel
set_option maxRecDepth 1000000 in
set_option maxHeartbeats 40000000 in
theorem x_TI_ok : ∀ q ∈ x_TI, lw_tbl[q.2.2.2]? = some (Cond.constant (x_on q.1) q.2.1 q.2.2.1) := by decide +kernel
set_option maxRecDepth 1000000 in
set_option maxHeartbeats 40000000 in
theorem x_TJ_ok : ∀ q ∈ x_TJ, lw_tbl[q.2.2.2]? = some (Cond.constantLong (x_on q.1) q.2.1 q.2.2.1) := by decide +kernel
set_option maxRecDepth 1000000 in
set_option maxHeartbeats 40000000 in
theorem x_TT_ok : ∀ q ∈ x_TT, q.2.2 < 13 ∧ (x_strs[q.2.2]?).map (fun y => (y.1, y.2.1)) = some (x_on q.1, q.2.1) := by decide +kernel
theorem x_lt_step {P : Nat → Prop} {n : Nat} (h : ∀ j, j < n → P j) (hn : P n) : ∀ j, j < n + 1 → P j := fun j hj => (Nat.lt_or_eq_of_le (Nat.le_of_lt_succ hj)).elim (h j) (fun e => e ▸ hn)
def x_codeP (j : Nat) : Prop := lw_tbl[x_pc j]? = some (Cond.code (x_y j) (x_by j) (x_ml j) (x_rt j))
theorem x_code_0 : ∀ j, j < 0 → x_codeP j := fun j h => absurd h (by omega)
set_option maxRecDepth 1000000 in
theorem x_code_1 : ∀ j, j < 1 → x_codeP j := x_lt_step x_code_0 (show lw_tbl[300]? = some (Cond.code (x_y 0) (x_by 0) (x_ml 0) (x_rt 0)) from rfl)
set_option maxRecDepth 1000000 in
theorem x_code_2 : ∀ j, j < 2 → x_codeP j := x_lt_step x_code_1 (show lw_tbl[767]? = some (Cond.code (x_y 1) (x_by 1) (x_ml 1) (x_rt 1)) from rfl)
set_option maxRecDepth 1000000 in
theorem x_code_3 : ∀ j, j < 3 → x_codeP j := x_lt_step x_code_2 (show lw_tbl[775]? = some (Cond.code (x_y 2) (x_by 2) (x_ml 2) (x_rt 2)) from rfl)
set_option maxRecDepth 1000000 in
theorem x_code_4 : ∀ j, j < 4 → x_codeP j := x_lt_step x_code_3 (show lw_tbl[779]? = some (Cond.code (x_y 3) (x_by 3) (x_ml 3) (x_rt 3)) from rfl)
set_option maxRecDepth 1000000 in
theorem x_code_5 : ∀ j, j < 5 → x_codeP j := x_lt_step x_code_4 (show lw_tbl[787]? = some (Cond.code (x_y 4) (x_by 4) (x_ml 4) (x_rt 4)) from rfl)
set_option maxRecDepth 1000000 in
theorem x_code_6 : ∀ j, j < 6 → x_codeP j := x_lt_step x_code_5 (show lw_tbl[791]? = some (Cond.code (x_y 5) (x_by 5) (x_ml 5) (x_rt 5)) from rfl)
set_option maxRecDepth 1000000 in
theorem x_code_7 : ∀ j, j < 7 → x_codeP j := x_lt_step x_code_6 (show lw_tbl[795]? = some (Cond.code (x_y 6) (x_by 6) (x_ml 6) (x_rt 6)) from rfl)
set_option maxRecDepth 1000000 in
theorem x_code_8 : ∀ j, j < 8 → x_codeP j := x_lt_step x_code_7 (show lw_tbl[257]? = some (Cond.code (x_y 7) (x_by 7) (x_ml 7) (x_rt 7)) from rfl)
set_option maxRecDepth 1000000 in
theorem x_code_9 : ∀ j, j < 9 → x_codeP j := x_lt_step x_code_8 (show lw_tbl[725]? = some (Cond.code (x_y 8) (x_by 8) (x_ml 8) (x_rt 8)) from rfl)
set_option maxRecDepth 1000000 in
theorem x_code_10 : ∀ j, j < 10 → x_codeP j := x_lt_step x_code_9 (show lw_tbl[733]? = some (Cond.code (x_y 9) (x_by 9) (x_ml 9) (x_rt 9)) from rfl)
set_option maxRecDepth 1000000 in
theorem x_code_11 : ∀ j, j < 11 → x_codeP j := x_lt_step x_code_10 (show lw_tbl[102]? = some (Cond.code (x_y 10) (x_by 10) (x_ml 10) (x_rt 10)) from rfl)
set_option maxRecDepth 1000000 in
theorem x_code_12 : ∀ j, j < 12 → x_codeP j := x_lt_step x_code_11 (show lw_tbl[628]? = some (Cond.code (x_y 11) (x_by 11) (x_ml 11) (x_rt 11)) from rfl)
set_option maxRecDepth 1000000 in
theorem x_code_13 : ∀ j, j < 13 → x_codeP j := x_lt_step x_code_12 (show lw_tbl[729]? = some (Cond.code (x_y 12) (x_by 12) (x_ml 12) (x_rt 12)) from rfl)
set_option maxRecDepth 1000000 in
theorem x_code_14 : ∀ j, j < 14 → x_codeP j := x_lt_step x_code_13 (show lw_tbl[640]? = some (Cond.code (x_y 13) (x_by 13) (x_ml 13) (x_rt 13)) from rfl)
set_option maxRecDepth 1000000 in
theorem x_code_15 : ∀ j, j < 15 → x_codeP j := x_lt_step x_code_14 (show lw_tbl[644]? = some (Cond.code (x_y 14) (x_by 14) (x_ml 14) (x_rt 14)) from rfl)
set_option maxRecDepth 1000000 in
theorem x_code_16 : ∀ j, j < 16 → x_codeP j := x_lt_step x_code_15 (show lw_tbl[998]? = some (Cond.code (x_y 15) (x_by 15) (x_ml 15) (x_rt 15)) from rfl)
set_option maxRecDepth 1000000 in
theorem x_code_17 : ∀ j, j < 17 → x_codeP j := x_lt_step x_code_16 (show lw_tbl[662]? = some (Cond.code (x_y 16) (x_by 16) (x_ml 16) (x_rt 16)) from rfl)
set_option maxRecDepth 1000000 in
theorem x_code_18 : ∀ j, j < 18 → x_codeP j := x_lt_step x_code_17 (show lw_tbl[666]? = some (Cond.code (x_y 17) (x_by 17) (x_ml 17) (x_rt 17)) from rfl)
set_option maxRecDepth 1000000 in
theorem x_code_19 : ∀ j, j < 19 → x_codeP j := x_lt_step x_code_18 (show lw_tbl[656]? = some (Cond.code (x_y 18) (x_by 18) (x_ml 18) (x_rt 18)) from rfl)
set_option maxRecDepth 1000000 in
theorem x_code_20 : ∀ j, j < 20 → x_codeP j := x_lt_step x_code_19 (show lw_tbl[674]? = some (Cond.code (x_y 19) (x_by 19) (x_ml 19) (x_rt 19)) from rfl)
set_option maxRecDepth 1000000 in
theorem x_code_21 : ∀ j, j < 21 → x_codeP j := x_lt_step x_code_20 (show lw_tbl[670]? = some (Cond.code (x_y 20) (x_by 20) (x_ml 20) (x_rt 20)) from rfl)
set_option maxRecDepth 1000000 in
theorem x_code_22 : ∀ j, j < 22 → x_codeP j := x_lt_step x_code_21 (show lw_tbl[858]? = some (Cond.code (x_y 21) (x_by 21) (x_ml 21) (x_rt 21)) from rfl)
set_option maxRecDepth 1000000 in
theorem x_code_23 : ∀ j, j < 23 → x_codeP j := x_lt_step x_code_22 (show lw_tbl[327]? = some (Cond.code (x_y 22) (x_by 22) (x_ml 22) (x_rt 22)) from rfl)
set_option maxRecDepth 1000000 in
theorem x_code_24 : ∀ j, j < 24 → x_codeP j := x_lt_step x_code_23 (show lw_tbl[841]? = some (Cond.code (x_y 23) (x_by 23) (x_ml 23) (x_rt 23)) from rfl)
set_option maxRecDepth 1000000 in
theorem x_code_25 : ∀ j, j < 25 → x_codeP j := x_lt_step x_code_24 (show lw_tbl[849]? = some (Cond.code (x_y 24) (x_by 24) (x_ml 24) (x_rt 24)) from rfl)
set_option maxRecDepth 1000000 in
theorem x_code_26 : ∀ j, j < 26 → x_codeP j := x_lt_step x_code_25 (show lw_tbl[273]? = some (Cond.code (x_y 25) (x_by 25) (x_ml 25) (x_rt 25)) from rfl)
set_option maxRecDepth 1000000 in
theorem x_code_27 : ∀ j, j < 27 → x_codeP j := x_lt_step x_code_26 (show lw_tbl[713]? = some (Cond.code (x_y 26) (x_by 26) (x_ml 26) (x_rt 26)) from rfl)
set_option maxRecDepth 1000000 in
theorem x_code_28 : ∀ j, j < 28 → x_codeP j := x_lt_step x_code_27 (show lw_tbl[687]? = some (Cond.code (x_y 27) (x_by 27) (x_ml 27) (x_rt 27)) from rfl)
set_option maxRecDepth 1000000 in
theorem x_code_29 : ∀ j, j < 29 → x_codeP j := x_lt_step x_code_28 (show lw_tbl[695]? = some (Cond.code (x_y 28) (x_by 28) (x_ml 28) (x_rt 28)) from rfl)
set_option maxRecDepth 1000000 in
theorem x_code_30 : ∀ j, j < 30 → x_codeP j := x_lt_step x_code_29 (show lw_tbl[336]? = some (Cond.code (x_y 29) (x_by 29) (x_ml 29) (x_rt 29)) from rfl)
set_option maxRecDepth 1000000 in
theorem x_code_31 : ∀ j, j < 31 → x_codeP j := x_lt_step x_code_30 (show lw_tbl[938]? = some (Cond.code (x_y 30) (x_by 30) (x_ml 30) (x_rt 30)) from rfl)
set_option maxRecDepth 1000000 in
theorem x_code_32 : ∀ j, j < 32 → x_codeP j := x_lt_step x_code_31 (show lw_tbl[897]? = some (Cond.code (x_y 31) (x_by 31) (x_ml 31) (x_rt 31)) from rfl)
set_option maxRecDepth 1000000 in
theorem x_code_33 : ∀ j, j < 33 → x_codeP j := x_lt_step x_code_32 (show lw_tbl[947]? = some (Cond.code (x_y 32) (x_by 32) (x_ml 32) (x_rt 32)) from rfl)
set_option maxRecDepth 1000000 in
theorem x_code_34 : ∀ j, j < 34 → x_codeP j := x_lt_step x_code_33 (show lw_tbl[973]? = some (Cond.code (x_y 33) (x_by 33) (x_ml 33) (x_rt 33)) from rfl)
set_option maxRecDepth 1000000 in
theorem x_code_35 : ∀ j, j < 35 → x_codeP j := x_lt_step x_code_34 (show lw_tbl[977]? = some (Cond.code (x_y 34) (x_by 34) (x_ml 34) (x_rt 34)) from rfl)
set_option maxRecDepth 1000000 in
theorem x_code_36 : ∀ j, j < 36 → x_codeP j := x_lt_step x_code_35 (show lw_tbl[893]? = some (Cond.code (x_y 35) (x_by 35) (x_ml 35) (x_rt 35)) from rfl)
set_option maxRecDepth 1000000 in
theorem x_code_37 : ∀ j, j < 37 → x_codeP j := x_lt_step x_code_36 (show lw_tbl[912]? = some (Cond.code (x_y 36) (x_by 36) (x_ml 36) (x_rt 36)) from rfl)
set_option maxRecDepth 1000000 in
theorem x_code_38 : ∀ j, j < 38 → x_codeP j := x_lt_step x_code_37 (show lw_tbl[943]? = some (Cond.code (x_y 37) (x_by 37) (x_ml 37) (x_rt 37)) from rfl)
set_option maxRecDepth 1000000 in
theorem x_code_39 : ∀ j, j < 39 → x_codeP j := x_lt_step x_code_38 (show lw_tbl[194]? = some (Cond.code (x_y 38) (x_by 38) (x_ml 38) (x_rt 38)) from rfl)
set_option maxRecDepth 1000000 in
theorem x_code_40 : ∀ j, j < 40 → x_codeP j := x_lt_step x_code_39 (show lw_tbl[402]? = some (Cond.code (x_y 39) (x_by 39) (x_ml 39) (x_rt 39)) from rfl)
set_option maxRecDepth 1000000 in
theorem x_code_41 : ∀ j, j < 41 → x_codeP j := x_lt_step x_code_40 (show lw_tbl[409]? = some (Cond.code (x_y 40) (x_by 40) (x_ml 40) (x_rt 40)) from rfl)
set_option maxRecDepth 1000000 in
theorem x_code_42 : ∀ j, j < 42 → x_codeP j := x_lt_step x_code_41 (show lw_tbl[466]? = some (Cond.code (x_y 41) (x_by 41) (x_ml 41) (x_rt 41)) from rfl)
set_option maxRecDepth 1000000 in
theorem x_code_43 : ∀ j, j < 43 → x_codeP j := x_lt_step x_code_42 (show lw_tbl[470]? = some (Cond.code (x_y 42) (x_by 42) (x_ml 42) (x_rt 42)) from rfl)
set_option maxRecDepth 1000000 in
theorem x_code_44 : ∀ j, j < 44 → x_codeP j := x_lt_step x_code_43 (show lw_tbl[474]? = some (Cond.code (x_y 43) (x_by 43) (x_ml 43) (x_rt 43)) from rfl)
set_option maxRecDepth 1000000 in
theorem x_code_45 : ∀ j, j < 45 → x_codeP j := x_lt_step x_code_44 (show lw_tbl[487]? = some (Cond.code (x_y 44) (x_by 44) (x_ml 44) (x_rt 44)) from rfl)
set_option maxRecDepth 1000000 in
theorem x_code_46 : ∀ j, j < 46 → x_codeP j := x_lt_step x_code_45 (show lw_tbl[491]? = some (Cond.code (x_y 45) (x_by 45) (x_ml 45) (x_rt 45)) from rfl)
set_option maxRecDepth 1000000 in
theorem x_code_47 : ∀ j, j < 47 → x_codeP j := x_lt_step x_code_46 (show lw_tbl[495]? = some (Cond.code (x_y 46) (x_by 46) (x_ml 46) (x_rt 46)) from rfl)
set_option maxRecDepth 1000000 in
theorem x_code_48 : ∀ j, j < 48 → x_codeP j := x_lt_step x_code_47 (show lw_tbl[478]? = some (Cond.code (x_y 47) (x_by 47) (x_ml 47) (x_rt 47)) from rfl)
set_option maxRecDepth 1000000 in
theorem x_code_49 : ∀ j, j < 49 → x_codeP j := x_lt_step x_code_48 (show lw_tbl[462]? = some (Cond.code (x_y 48) (x_by 48) (x_ml 48) (x_rt 48)) from rfl)
set_option maxRecDepth 1000000 in
theorem x_code_50 : ∀ j, j < 50 → x_codeP j := x_lt_step x_code_49 (show lw_tbl[420]? = some (Cond.code (x_y 49) (x_by 49) (x_ml 49) (x_rt 49)) from rfl)
set_option maxRecDepth 1000000 in
theorem x_code_51 : ∀ j, j < 51 → x_codeP j := x_lt_step x_code_50 (show lw_tbl[430]? = some (Cond.code (x_y 50) (x_by 50) (x_ml 50) (x_rt 50)) from rfl)
set_option maxRecDepth 1000000 in
theorem x_code_52 : ∀ j, j < 52 → x_codeP j := x_lt_step x_code_51 (show lw_tbl[455]? = some (Cond.code (x_y 51) (x_by 51) (x_ml 51) (x_rt 51)) from rfl)
set_option maxRecDepth 1000000 in
theorem x_code_53 : ∀ j, j < 53 → x_codeP j := x_lt_step x_code_52 (show lw_tbl[435]? = some (Cond.code (x_y 52) (x_by 52) (x_ml 52) (x_rt 52)) from rfl)
set_option maxRecDepth 1000000 in
theorem x_code_54 : ∀ j, j < 54 → x_codeP j := x_lt_step x_code_53 (show lw_tbl[426]? = some (Cond.code (x_y 53) (x_by 53) (x_ml 53) (x_rt 53)) from rfl)
set_option maxRecDepth 1000000 in
theorem x_code_55 : ∀ j, j < 55 → x_codeP j := x_lt_step x_code_54 (show lw_tbl[451]? = some (Cond.code (x_y 54) (x_by 54) (x_ml 54) (x_rt 54)) from rfl)
set_option maxRecDepth 1000000 in
theorem x_code_56 : ∀ j, j < 56 → x_codeP j := x_lt_step x_code_55 (show lw_tbl[458]? = some (Cond.code (x_y 55) (x_by 55) (x_ml 55) (x_rt 55)) from rfl)
set_option maxRecDepth 1000000 in
theorem x_code_57 : ∀ j, j < 57 → x_codeP j := x_lt_step x_code_56 (show lw_tbl[200]? = some (Cond.code (x_y 56) (x_by 56) (x_ml 56) (x_rt 56)) from rfl)
set_option maxRecDepth 1000000 in
theorem x_code_58 : ∀ j, j < 58 → x_codeP j := x_lt_step x_code_57 (show lw_tbl[413]? = some (Cond.code (x_y 57) (x_by 57) (x_ml 57) (x_rt 57)) from rfl)
set_option maxRecDepth 1000000 in
theorem x_code_59 : ∀ j, j < 59 → x_codeP j := x_lt_step x_code_58 (show lw_tbl[482]? = some (Cond.code (x_y 58) (x_by 58) (x_ml 58) (x_rt 58)) from rfl)
set_option maxRecDepth 1000000 in
theorem x_code_60 : ∀ j, j < 60 → x_codeP j := x_lt_step x_code_59 (show lw_tbl[502]? = some (Cond.code (x_y 59) (x_by 59) (x_ml 59) (x_rt 59)) from rfl)
set_option maxRecDepth 1000000 in
theorem x_code_61 : ∀ j, j < 61 → x_codeP j := x_lt_step x_code_60 (show lw_tbl[506]? = some (Cond.code (x_y 60) (x_by 60) (x_ml 60) (x_rt 60)) from rfl)
set_option maxRecDepth 1000000 in
theorem x_code_62 : ∀ j, j < 62 → x_codeP j := x_lt_step x_code_61 (show lw_tbl[596]? = some (Cond.code (x_y 61) (x_by 61) (x_ml 61) (x_rt 61)) from rfl)
set_option maxRecDepth 1000000 in
theorem x_code_63 : ∀ j, j < 63 → x_codeP j := x_lt_step x_code_62 (show lw_tbl[603]? = some (Cond.code (x_y 62) (x_by 62) (x_ml 62) (x_rt 62)) from rfl)
set_option maxRecDepth 1000000 in
theorem x_code_64 : ∀ j, j < 64 → x_codeP j := x_lt_step x_code_63 (show lw_tbl[606]? = some (Cond.code (x_y 63) (x_by 63) (x_ml 63) (x_rt 63)) from rfl)
set_option maxRecDepth 1000000 in
theorem x_code_65 : ∀ j, j < 65 → x_codeP j := x_lt_step x_code_64 (show lw_tbl[95]? = some (Cond.code (x_y 64) (x_by 64) (x_ml 64) (x_rt 64)) from rfl)
set_option maxRecDepth 1000000 in
theorem x_code_66 : ∀ j, j < 66 → x_codeP j := x_lt_step x_code_65 (show lw_tbl[588]? = some (Cond.code (x_y 65) (x_by 65) (x_ml 65) (x_rt 65)) from rfl)
set_option maxRecDepth 1000000 in
theorem x_code_67 : ∀ j, j < 67 → x_codeP j := x_lt_step x_code_66 (show lw_tbl[872]? = some (Cond.code (x_y 66) (x_by 66) (x_ml 66) (x_rt 66)) from rfl)
set_option maxRecDepth 1000000 in
theorem x_code_68 : ∀ j, j < 68 → x_codeP j := x_lt_step x_code_67 (show lw_tbl[621]? = some (Cond.code (x_y 67) (x_by 67) (x_ml 67) (x_rt 67)) from rfl)
set_option maxRecDepth 1000000 in
theorem x_code_69 : ∀ j, j < 69 → x_codeP j := x_lt_step x_code_68 (show lw_tbl[636]? = some (Cond.code (x_y 68) (x_by 68) (x_ml 68) (x_rt 68)) from rfl)
set_option maxRecDepth 1000000 in
theorem x_code_70 : ∀ j, j < 70 → x_codeP j := x_lt_step x_code_69 (show lw_tbl[994]? = some (Cond.code (x_y 69) (x_by 69) (x_ml 69) (x_rt 69)) from rfl)
set_option maxRecDepth 1000000 in
theorem x_code_71 : ∀ j, j < 71 → x_codeP j := x_lt_step x_code_70 (show lw_tbl[845]? = some (Cond.code (x_y 70) (x_by 70) (x_ml 70) (x_rt 70)) from rfl)
set_option maxRecDepth 1000000 in
theorem x_code_72 : ∀ j, j < 72 → x_codeP j := x_lt_step x_code_71 (show lw_tbl[877]? = some (Cond.code (x_y 71) (x_by 71) (x_ml 71) (x_rt 71)) from rfl)
set_option maxRecDepth 1000000 in
theorem x_code_73 : ∀ j, j < 73 → x_codeP j := x_lt_step x_code_72 (show lw_tbl[807]? = some (Cond.code (x_y 72) (x_by 72) (x_ml 72) (x_rt 72)) from rfl)
set_option maxRecDepth 1000000 in
theorem x_code_74 : ∀ j, j < 74 → x_codeP j := x_lt_step x_code_73 (show lw_tbl[811]? = some (Cond.code (x_y 73) (x_by 73) (x_ml 73) (x_rt 73)) from rfl)
set_option maxRecDepth 1000000 in
theorem x_code_75 : ∀ j, j < 75 → x_codeP j := x_lt_step x_code_74 (show lw_tbl[829]? = some (Cond.code (x_y 74) (x_by 74) (x_ml 74) (x_rt 74)) from rfl)
set_option maxRecDepth 1000000 in
theorem x_code_76 : ∀ j, j < 76 → x_codeP j := x_lt_step x_code_75 (show lw_tbl[87]? = some (Cond.code (x_y 75) (x_by 75) (x_ml 75) (x_rt 75)) from rfl)
set_option maxRecDepth 1000000 in
theorem x_code_77 : ∀ j, j < 77 → x_codeP j := x_lt_step x_code_76 (show lw_tbl[555]? = some (Cond.code (x_y 76) (x_by 76) (x_ml 76) (x_rt 76)) from rfl)
set_option maxRecDepth 1000000 in
theorem x_code_78 : ∀ j, j < 78 → x_codeP j := x_lt_step x_code_77 (show lw_tbl[559]? = some (Cond.code (x_y 77) (x_by 77) (x_ml 77) (x_rt 77)) from rfl)
set_option maxRecDepth 1000000 in
theorem x_code_79 : ∀ j, j < 79 → x_codeP j := x_lt_step x_code_78 (show lw_tbl[565]? = some (Cond.code (x_y 78) (x_by 78) (x_ml 78) (x_rt 78)) from rfl)
set_option maxRecDepth 1000000 in
theorem x_code_80 : ∀ j, j < 80 → x_codeP j := x_lt_step x_code_79 (show lw_tbl[572]? = some (Cond.code (x_y 79) (x_by 79) (x_ml 79) (x_rt 79)) from rfl)
set_option maxRecDepth 1000000 in
theorem x_code_81 : ∀ j, j < 81 → x_codeP j := x_lt_step x_code_80 (show lw_tbl[580]? = some (Cond.code (x_y 80) (x_by 80) (x_ml 80) (x_rt 80)) from rfl)
set_option maxRecDepth 1000000 in
theorem x_code_82 : ∀ j, j < 82 → x_codeP j := x_lt_step x_code_81 (show lw_tbl[584]? = some (Cond.code (x_y 81) (x_by 81) (x_ml 81) (x_rt 81)) from rfl)
set_option maxRecDepth 1000000 in
theorem x_code_83 : ∀ j, j < 83 → x_codeP j := x_lt_step x_code_82 (show lw_tbl[617]? = some (Cond.code (x_y 82) (x_by 82) (x_ml 82) (x_rt 82)) from rfl)
set_option maxRecDepth 1000000 in
theorem x_code_84 : ∀ j, j < 84 → x_codeP j := x_lt_step x_code_83 (show lw_tbl[632]? = some (Cond.code (x_y 83) (x_by 83) (x_ml 83) (x_rt 83)) from rfl)
set_option maxRecDepth 1000000 in
theorem x_code_85 : ∀ j, j < 85 → x_codeP j := x_lt_step x_code_84 (show lw_tbl[648]? = some (Cond.code (x_y 84) (x_by 84) (x_ml 84) (x_rt 84)) from rfl)
set_option maxRecDepth 1000000 in
theorem x_code_86 : ∀ j, j < 86 → x_codeP j := x_lt_step x_code_85 (show lw_tbl[652]? = some (Cond.code (x_y 85) (x_by 85) (x_ml 85) (x_rt 85)) from rfl)
set_option maxRecDepth 1000000 in
theorem x_code_87 : ∀ j, j < 87 → x_codeP j := x_lt_step x_code_86 (show lw_tbl[678]? = some (Cond.code (x_y 86) (x_by 86) (x_ml 86) (x_rt 86)) from rfl)
set_option maxRecDepth 1000000 in
theorem x_code_88 : ∀ j, j < 88 → x_codeP j := x_lt_step x_code_87 (show lw_tbl[682]? = some (Cond.code (x_y 87) (x_by 87) (x_ml 87) (x_rt 87)) from rfl)
set_option maxRecDepth 1000000 in
theorem x_code_89 : ∀ j, j < 89 → x_codeP j := x_lt_step x_code_88 (show lw_tbl[705]? = some (Cond.code (x_y 88) (x_by 88) (x_ml 88) (x_rt 88)) from rfl)
set_option maxRecDepth 1000000 in
theorem x_code_90 : ∀ j, j < 90 → x_codeP j := x_lt_step x_code_89 (show lw_tbl[709]? = some (Cond.code (x_y 89) (x_by 89) (x_ml 89) (x_rt 89)) from rfl)
set_option maxRecDepth 1000000 in
theorem x_code_91 : ∀ j, j < 91 → x_codeP j := x_lt_step x_code_90 (show lw_tbl[717]? = some (Cond.code (x_y 90) (x_by 90) (x_ml 90) (x_rt 90)) from rfl)
set_option maxRecDepth 1000000 in
theorem x_code_92 : ∀ j, j < 92 → x_codeP j := x_lt_step x_code_91 (show lw_tbl[721]? = some (Cond.code (x_y 91) (x_by 91) (x_ml 91) (x_rt 91)) from rfl)
set_option maxRecDepth 1000000 in
theorem x_code_93 : ∀ j, j < 93 → x_codeP j := x_lt_step x_code_92 (show lw_tbl[737]? = some (Cond.code (x_y 92) (x_by 92) (x_ml 92) (x_rt 92)) from rfl)
set_option maxRecDepth 1000000 in
theorem x_code_94 : ∀ j, j < 94 → x_codeP j := x_lt_step x_code_93 (show lw_tbl[741]? = some (Cond.code (x_y 93) (x_by 93) (x_ml 93) (x_rt 93)) from rfl)
set_option maxRecDepth 1000000 in
theorem x_code_95 : ∀ j, j < 95 → x_codeP j := x_lt_step x_code_94 (show lw_tbl[754]? = some (Cond.code (x_y 94) (x_by 94) (x_ml 94) (x_rt 94)) from rfl)
set_option maxRecDepth 1000000 in
theorem x_code_96 : ∀ j, j < 96 → x_codeP j := x_lt_step x_code_95 (show lw_tbl[758]? = some (Cond.code (x_y 95) (x_by 95) (x_ml 95) (x_rt 95)) from rfl)
set_option maxRecDepth 1000000 in
theorem x_code_97 : ∀ j, j < 97 → x_codeP j := x_lt_step x_code_96 (show lw_tbl[763]? = some (Cond.code (x_y 96) (x_by 96) (x_ml 96) (x_rt 96)) from rfl)
set_option maxRecDepth 1000000 in
theorem x_code_98 : ∀ j, j < 98 → x_codeP j := x_lt_step x_code_97 (show lw_tbl[799]? = some (Cond.code (x_y 97) (x_by 97) (x_ml 97) (x_rt 97)) from rfl)
set_option maxRecDepth 1000000 in
theorem x_code_99 : ∀ j, j < 99 → x_codeP j := x_lt_step x_code_98 (show lw_tbl[803]? = some (Cond.code (x_y 98) (x_by 98) (x_ml 98) (x_rt 98)) from rfl)
set_option maxRecDepth 1000000 in
theorem x_code_100 : ∀ j, j < 100 → x_codeP j := x_lt_step x_code_99 (show lw_tbl[815]? = some (Cond.code (x_y 99) (x_by 99) (x_ml 99) (x_rt 99)) from rfl)
set_option maxRecDepth 1000000 in
theorem x_code_101 : ∀ j, j < 101 → x_codeP j := x_lt_step x_code_100 (show lw_tbl[825]? = some (Cond.code (x_y 100) (x_by 100) (x_ml 100) (x_rt 100)) from rfl)
set_option maxRecDepth 1000000 in
theorem x_code_102 : ∀ j, j < 102 → x_codeP j := x_lt_step x_code_101 (show lw_tbl[833]? = some (Cond.code (x_y 101) (x_by 101) (x_ml 101) (x_rt 101)) from rfl)
set_option maxRecDepth 1000000 in
theorem x_code_103 : ∀ j, j < 103 → x_codeP j := x_lt_step x_code_102 (show lw_tbl[837]? = some (Cond.code (x_y 102) (x_by 102) (x_ml 102) (x_rt 102)) from rfl)
set_option maxRecDepth 1000000 in
theorem x_code_104 : ∀ j, j < 104 → x_codeP j := x_lt_step x_code_103 (show lw_tbl[864]? = some (Cond.code (x_y 103) (x_by 103) (x_ml 103) (x_rt 103)) from rfl)
set_option maxRecDepth 1000000 in
theorem x_code_105 : ∀ j, j < 105 → x_codeP j := x_lt_step x_code_104 (show lw_tbl[881]? = some (Cond.code (x_y 104) (x_by 104) (x_ml 104) (x_rt 104)) from rfl)
set_option maxRecDepth 1000000 in
theorem x_code_106 : ∀ j, j < 106 → x_codeP j := x_lt_step x_code_105 (show lw_tbl[885]? = some (Cond.code (x_y 105) (x_by 105) (x_ml 105) (x_rt 105)) from rfl)
set_option maxRecDepth 1000000 in
theorem x_code_107 : ∀ j, j < 107 → x_codeP j := x_lt_step x_code_106 (show lw_tbl[904]? = some (Cond.code (x_y 106) (x_by 106) (x_ml 106) (x_rt 106)) from rfl)
set_option maxRecDepth 1000000 in
theorem x_code_108 : ∀ j, j < 108 → x_codeP j := x_lt_step x_code_107 (show lw_tbl[918]? = some (Cond.code (x_y 107) (x_by 107) (x_ml 107) (x_rt 107)) from rfl)
set_option maxRecDepth 1000000 in
theorem x_code_109 : ∀ j, j < 109 → x_codeP j := x_lt_step x_code_108 (show lw_tbl[922]? = some (Cond.code (x_y 108) (x_by 108) (x_ml 108) (x_rt 108)) from rfl)
set_option maxRecDepth 1000000 in
theorem x_code_110 : ∀ j, j < 110 → x_codeP j := x_lt_step x_code_109 (show lw_tbl[926]? = some (Cond.code (x_y 109) (x_by 109) (x_ml 109) (x_rt 109)) from rfl)
set_option maxRecDepth 1000000 in
theorem x_code_111 : ∀ j, j < 111 → x_codeP j := x_lt_step x_code_110 (show lw_tbl[930]? = some (Cond.code (x_y 110) (x_by 110) (x_ml 110) (x_rt 110)) from rfl)
set_option maxRecDepth 1000000 in
theorem x_code_112 : ∀ j, j < 112 → x_codeP j := x_lt_step x_code_111 (show lw_tbl[934]? = some (Cond.code (x_y 111) (x_by 111) (x_ml 111) (x_rt 111)) from rfl)
set_option maxRecDepth 1000000 in
theorem x_code_113 : ∀ j, j < 113 → x_codeP j := x_lt_step x_code_112 (show lw_tbl[952]? = some (Cond.code (x_y 112) (x_by 112) (x_ml 112) (x_rt 112)) from rfl)
set_option maxRecDepth 1000000 in
theorem x_code_114 : ∀ j, j < 114 → x_codeP j := x_lt_step x_code_113 (show lw_tbl[956]? = some (Cond.code (x_y 113) (x_by 113) (x_ml 113) (x_rt 113)) from rfl)
set_option maxRecDepth 1000000 in
theorem x_code_115 : ∀ j, j < 115 → x_codeP j := x_lt_step x_code_114 (show lw_tbl[960]? = some (Cond.code (x_y 114) (x_by 114) (x_ml 114) (x_rt 114)) from rfl)
set_option maxRecDepth 1000000 in
theorem x_code_116 : ∀ j, j < 116 → x_codeP j := x_lt_step x_code_115 (show lw_tbl[964]? = some (Cond.code (x_y 115) (x_by 115) (x_ml 115) (x_rt 115)) from rfl)
set_option maxRecDepth 1000000 in
theorem x_code_117 : ∀ j, j < 117 → x_codeP j := x_lt_step x_code_116 (show lw_tbl[969]? = some (Cond.code (x_y 116) (x_by 116) (x_ml 116) (x_rt 116)) from rfl)
set_option maxRecDepth 1000000 in
theorem x_code_118 : ∀ j, j < 118 → x_codeP j := x_lt_step x_code_117 (show lw_tbl[985]? = some (Cond.code (x_y 117) (x_by 117) (x_ml 117) (x_rt 117)) from rfl)
set_option maxRecDepth 1000000 in
theorem x_code_119 : ∀ j, j < 119 → x_codeP j := x_lt_step x_code_118 (show lw_tbl[990]? = some (Cond.code (x_y 118) (x_by 118) (x_ml 118) (x_rt 118)) from rfl)
set_option maxRecDepth 1000000 in
theorem x_code_120 : ∀ j, j < 120 → x_codeP j := x_lt_step x_code_119 (show lw_tbl[576]? = some (Cond.code (x_y 119) (x_by 119) (x_ml 119) (x_rt 119)) from rfl)
set_option maxRecDepth 1000000 in
theorem x_code_121 : ∀ j, j < 121 → x_codeP j := x_lt_step x_code_120 (show lw_tbl[592]? = some (Cond.code (x_y 120) (x_by 120) (x_ml 120) (x_rt 120)) from rfl)
set_option maxRecDepth 1000000 in
theorem x_code_122 : ∀ j, j < 122 → x_codeP j := x_lt_step x_code_121 (show lw_tbl[889]? = some (Cond.code (x_y 121) (x_by 121) (x_ml 121) (x_rt 121)) from rfl)
set_option maxRecDepth 1000000 in
theorem x_code_123 : ∀ j, j < 123 → x_codeP j := x_lt_step x_code_122 (show lw_tbl[908]? = some (Cond.code (x_y 122) (x_by 122) (x_ml 122) (x_rt 122)) from rfl)
set_option maxRecDepth 1000000 in
theorem x_code_124 : ∀ j, j < 124 → x_codeP j := x_lt_step x_code_123 (show lw_tbl[750]? = some (Cond.code (x_y 123) (x_by 123) (x_ml 123) (x_rt 123)) from rfl)
set_option maxRecDepth 1000000 in
theorem x_code_125 : ∀ j, j < 125 → x_codeP j := x_lt_step x_code_124 (show lw_tbl[747]? = some (Cond.code (x_y 124) (x_by 124) (x_ml 124) (x_rt 124)) from rfl)
set_option maxRecDepth 1000000 in
theorem x_code_126 : ∀ j, j < 126 → x_codeP j := x_lt_step x_code_125 (show lw_tbl[868]? = some (Cond.code (x_y 125) (x_by 125) (x_ml 125) (x_rt 125)) from rfl)
set_option maxRecDepth 1000000 in
theorem x_code_127 : ∀ j, j < 127 → x_codeP j := x_lt_step x_code_126 (show lw_tbl[498]? = some (Cond.code (x_y 126) (x_by 126) (x_ml 126) (x_rt 126)) from rfl)
set_option maxRecDepth 1000000 in
theorem x_code_128 : ∀ j, j < 128 → x_codeP j := x_lt_step x_code_127 (show lw_tbl[568]? = some (Cond.code (x_y 127) (x_by 127) (x_ml 127) (x_rt 127)) from rfl)
set_option maxRecDepth 1000000 in
theorem x_code_129 : ∀ j, j < 129 → x_codeP j := x_lt_step x_code_128 (show lw_tbl[609]? = some (Cond.code (x_y 128) (x_by 128) (x_ml 128) (x_rt 128)) from rfl)
set_option maxRecDepth 1000000 in
theorem x_code_130 : ∀ j, j < 130 → x_codeP j := x_lt_step x_code_129 (show lw_tbl[423]? = some (Cond.code (x_y 129) (x_by 129) (x_ml 129) (x_rt 129)) from rfl)
set_option maxRecDepth 1000000 in
theorem x_code_131 : ∀ j, j < 131 → x_codeP j := x_lt_step x_code_130 (show lw_tbl[405]? = some (Cond.code (x_y 130) (x_by 130) (x_ml 130) (x_rt 130)) from rfl)
set_option maxRecDepth 1000000 in
theorem x_code_132 : ∀ j, j < 132 → x_codeP j := x_lt_step x_code_131 (show lw_tbl[701]? = some (Cond.code (x_y 131) (x_by 131) (x_ml 131) (x_rt 131)) from rfl)
set_option maxRecDepth 1000000 in
theorem x_code_133 : ∀ j, j < 133 → x_codeP j := x_lt_step x_code_132 (show lw_tbl[1003]? = some (Cond.code (x_y 132) (x_by 132) (x_ml 132) (x_rt 132)) from rfl)
set_option maxRecDepth 1000000 in
theorem x_code_134 : ∀ j, j < 134 → x_codeP j := x_lt_step x_code_133 (show lw_tbl[1015]? = some (Cond.code (x_y 133) (x_by 133) (x_ml 133) (x_rt 133)) from rfl)
set_option maxRecDepth 1000000 in
theorem x_code_135 : ∀ j, j < 135 → x_codeP j := x_lt_step x_code_134 (show lw_tbl[1251]? = some (Cond.code (x_y 134) (x_by 134) (x_ml 134) (x_rt 134)) from rfl)
set_option maxRecDepth 1000000 in
theorem x_code_136 : ∀ j, j < 136 → x_codeP j := x_lt_step x_code_135 (show lw_tbl[1237]? = some (Cond.code (x_y 135) (x_by 135) (x_ml 135) (x_rt 135)) from rfl)
set_option maxRecDepth 1000000 in
theorem x_code_137 : ∀ j, j < 137 → x_codeP j := x_lt_step x_code_136 (show lw_tbl[1212]? = some (Cond.code (x_y 136) (x_by 136) (x_ml 136) (x_rt 136)) from rfl)
set_option maxRecDepth 1000000 in
theorem x_code_138 : ∀ j, j < 138 → x_codeP j := x_lt_step x_code_137 (show lw_tbl[1216]? = some (Cond.code (x_y 137) (x_by 137) (x_ml 137) (x_rt 137)) from rfl)
set_option maxRecDepth 1000000 in
theorem x_code_139 : ∀ j, j < 139 → x_codeP j := x_lt_step x_code_138 (show lw_tbl[1224]? = some (Cond.code (x_y 138) (x_by 138) (x_ml 138) (x_rt 138)) from rfl)
set_option maxRecDepth 1000000 in
theorem x_code_140 : ∀ j, j < 140 → x_codeP j := x_lt_step x_code_139 (show lw_tbl[1221]? = some (Cond.code (x_y 139) (x_by 139) (x_ml 139) (x_rt 139)) from rfl)
set_option maxRecDepth 1000000 in
theorem x_code_141 : ∀ j, j < 141 → x_codeP j := x_lt_step x_code_140 (show lw_tbl[1019]? = some (Cond.code (x_y 140) (x_by 140) (x_ml 140) (x_rt 140)) from rfl)
set_option maxRecDepth 1000000 in
theorem x_code_142 : ∀ j, j < 142 → x_codeP j := x_lt_step x_code_141 (show lw_tbl[1012]? = some (Cond.code (x_y 141) (x_by 141) (x_ml 141) (x_rt 141)) from rfl)
set_option maxRecDepth 1000000 in
theorem x_code_143 : ∀ j, j < 143 → x_codeP j := x_lt_step x_code_142 (show lw_tbl[1035]? = some (Cond.code (x_y 142) (x_by 142) (x_ml 142) (x_rt 142)) from rfl)
set_option maxRecDepth 1000000 in
theorem x_code_144 : ∀ j, j < 144 → x_codeP j := x_lt_step x_code_143 (show lw_tbl[1028]? = some (Cond.code (x_y 143) (x_by 143) (x_ml 143) (x_rt 143)) from rfl)
set_option maxRecDepth 1000000 in
theorem x_code_145 : ∀ j, j < 145 → x_codeP j := x_lt_step x_code_144 (show lw_tbl[1032]? = some (Cond.code (x_y 144) (x_by 144) (x_ml 144) (x_rt 144)) from rfl)
set_option maxRecDepth 1000000 in
theorem x_code_146 : ∀ j, j < 146 → x_codeP j := x_lt_step x_code_145 (show lw_tbl[1043]? = some (Cond.code (x_y 145) (x_by 145) (x_ml 145) (x_rt 145)) from rfl)
set_option maxRecDepth 1000000 in
theorem x_code_147 : ∀ j, j < 147 → x_codeP j := x_lt_step x_code_146 (show lw_tbl[1039]? = some (Cond.code (x_y 146) (x_by 146) (x_ml 146) (x_rt 146)) from rfl)
set_option maxRecDepth 1000000 in
theorem x_code_148 : ∀ j, j < 148 → x_codeP j := x_lt_step x_code_147 (show lw_tbl[1051]? = some (Cond.code (x_y 147) (x_by 147) (x_ml 147) (x_rt 147)) from rfl)
set_option maxRecDepth 1000000 in
theorem x_code_149 : ∀ j, j < 149 → x_codeP j := x_lt_step x_code_148 (show lw_tbl[1047]? = some (Cond.code (x_y 148) (x_by 148) (x_ml 148) (x_rt 148)) from rfl)
set_option maxRecDepth 1000000 in
theorem x_code_150 : ∀ j, j < 150 → x_codeP j := x_lt_step x_code_149 (show lw_tbl[1023]? = some (Cond.code (x_y 149) (x_by 149) (x_ml 149) (x_rt 149)) from rfl)
set_option maxRecDepth 1000000 in
theorem x_code_151 : ∀ j, j < 151 → x_codeP j := x_lt_step x_code_150 (show lw_tbl[1008]? = some (Cond.code (x_y 150) (x_by 150) (x_ml 150) (x_rt 150)) from rfl)
set_option maxRecDepth 1000000 in
theorem x_code_152 : ∀ j, j < 152 → x_codeP j := x_lt_step x_code_151 (show lw_tbl[1248]? = some (Cond.code (x_y 151) (x_by 151) (x_ml 151) (x_rt 151)) from rfl)
set_option maxRecDepth 1000000 in
theorem x_code_153 : ∀ j, j < 153 → x_codeP j := x_lt_step x_code_152 (show lw_tbl[1245]? = some (Cond.code (x_y 152) (x_by 152) (x_ml 152) (x_rt 152)) from rfl)
set_option maxRecDepth 1000000 in
theorem x_code_154 : ∀ j, j < 154 → x_codeP j := x_lt_step x_code_153 (show lw_tbl[1229]? = some (Cond.code (x_y 153) (x_by 153) (x_ml 153) (x_rt 153)) from rfl)
set_option maxRecDepth 1000000 in
theorem x_code_155 : ∀ j, j < 155 → x_codeP j := x_lt_step x_code_154 (show lw_tbl[1241]? = some (Cond.code (x_y 154) (x_by 154) (x_ml 154) (x_rt 154)) from rfl)
set_option maxRecDepth 1000000 in
theorem x_code_156 : ∀ j, j < 156 → x_codeP j := x_lt_step x_code_155 (show lw_tbl[1233]? = some (Cond.code (x_y 155) (x_by 155) (x_ml 155) (x_rt 155)) from rfl)
set_option maxRecDepth 1000000 in
theorem x_code_157 : ∀ j, j < 157 → x_codeP j := x_lt_step x_code_156 (show lw_tbl[1255]? = some (Cond.code (x_y 156) (x_by 156) (x_ml 156) (x_rt 156)) from rfl)
set_option maxRecDepth 1000000 in
theorem x_code_158 : ∀ j, j < 158 → x_codeP j := x_lt_step x_code_157 (show lw_tbl[1263]? = some (Cond.code (x_y 157) (x_by 157) (x_ml 157) (x_rt 157)) from rfl)
set_option maxRecDepth 1000000 in
theorem x_code_159 : ∀ j, j < 159 → x_codeP j := x_lt_step x_code_158 (show lw_tbl[1259]? = some (Cond.code (x_y 158) (x_by 158) (x_ml 158) (x_rt 158)) from rfl)
set_option maxRecDepth 1000000 in
theorem x_code_160 : ∀ j, j < 160 → x_codeP j := x_lt_step x_code_159 (show lw_tbl[1267]? = some (Cond.code (x_y 159) (x_by 159) (x_ml 159) (x_rt 159)) from rfl)
set_option maxRecDepth 1000000 in
theorem x_code_161 : ∀ j, j < 161 → x_codeP j := x_lt_step x_code_160 (show lw_tbl[1275]? = some (Cond.code (x_y 160) (x_by 160) (x_ml 160) (x_rt 160)) from rfl)
set_option maxRecDepth 1000000 in
theorem x_code_162 : ∀ j, j < 162 → x_codeP j := x_lt_step x_code_161 (show lw_tbl[1283]? = some (Cond.code (x_y 161) (x_by 161) (x_ml 161) (x_rt 161)) from rfl)
set_option maxRecDepth 1000000 in
theorem x_code_163 : ∀ j, j < 163 → x_codeP j := x_lt_step x_code_162 (show lw_tbl[1291]? = some (Cond.code (x_y 162) (x_by 162) (x_ml 162) (x_rt 162)) from rfl)
set_option maxRecDepth 1000000 in
theorem x_code_164 : ∀ j, j < 164 → x_codeP j := x_lt_step x_code_163 (show lw_tbl[1287]? = some (Cond.code (x_y 163) (x_by 163) (x_ml 163) (x_rt 163)) from rfl)
set_option maxRecDepth 1000000 in
theorem x_code_165 : ∀ j, j < 165 → x_codeP j := x_lt_step x_code_164 (show lw_tbl[1279]? = some (Cond.code (x_y 164) (x_by 164) (x_ml 164) (x_rt 164)) from rfl)
set_option maxRecDepth 1000000 in
theorem x_code_166 : ∀ j, j < 166 → x_codeP j := x_lt_step x_code_165 (show lw_tbl[1271]? = some (Cond.code (x_y 165) (x_by 165) (x_ml 165) (x_rt 165)) from rfl)
set_option maxRecDepth 1000000 in
theorem x_code_167 : ∀ j, j < 167 → x_codeP j := x_lt_step x_code_166 (show lw_tbl[1295]? = some (Cond.code (x_y 166) (x_by 166) (x_ml 166) (x_rt 166)) from rfl)
set_option maxRecDepth 1000000 in
theorem x_code_168 : ∀ j, j < 168 → x_codeP j := x_lt_step x_code_167 (show lw_tbl[1308]? = some (Cond.code (x_y 167) (x_by 167) (x_ml 167) (x_rt 167)) from rfl)
set_option maxRecDepth 1000000 in
theorem x_code_169 : ∀ j, j < 169 → x_codeP j := x_lt_step x_code_168 (show lw_tbl[1312]? = some (Cond.code (x_y 168) (x_by 168) (x_ml 168) (x_rt 168)) from rfl)
set_option maxRecDepth 1000000 in
theorem x_code_170 : ∀ j, j < 170 → x_codeP j := x_lt_step x_code_169 (show lw_tbl[1303]? = some (Cond.code (x_y 169) (x_by 169) (x_ml 169) (x_rt 169)) from rfl)
set_option maxRecDepth 1000000 in
theorem x_code_171 : ∀ j, j < 171 → x_codeP j := x_lt_step x_code_170 (show lw_tbl[1299]? = some (Cond.code (x_y 170) (x_by 170) (x_ml 170) (x_rt 170)) from rfl)
set_option maxRecDepth 1000000 in
theorem x_code_172 : ∀ j, j < 172 → x_codeP j := x_lt_step x_code_171 (show lw_tbl[1316]? = some (Cond.code (x_y 171) (x_by 171) (x_ml 171) (x_rt 171)) from rfl)
set_option maxRecDepth 1000000 in
theorem x_code_173 : ∀ j, j < 173 → x_codeP j := x_lt_step x_code_172 (show lw_tbl[1320]? = some (Cond.code (x_y 172) (x_by 172) (x_ml 172) (x_rt 172)) from rfl)
set_option maxRecDepth 1000000 in
theorem x_code_174 : ∀ j, j < 174 → x_codeP j := x_lt_step x_code_173 (show lw_tbl[1324]? = some (Cond.code (x_y 173) (x_by 173) (x_ml 173) (x_rt 173)) from rfl)
set_option maxRecDepth 1000000 in
theorem x_code_175 : ∀ j, j < 175 → x_codeP j := x_lt_step x_code_174 (show lw_tbl[1328]? = some (Cond.code (x_y 174) (x_by 174) (x_ml 174) (x_rt 174)) from rfl)
set_option maxRecDepth 1000000 in
theorem x_code_176 : ∀ j, j < 176 → x_codeP j := x_lt_step x_code_175 (show lw_tbl[1333]? = some (Cond.code (x_y 175) (x_by 175) (x_ml 175) (x_rt 175)) from rfl)
set_option maxRecDepth 1000000 in
theorem x_code_177 : ∀ j, j < 177 → x_codeP j := x_lt_step x_code_176 (show lw_tbl[1346]? = some (Cond.code (x_y 176) (x_by 176) (x_ml 176) (x_rt 176)) from rfl)
set_option maxRecDepth 1000000 in
theorem x_code_178 : ∀ j, j < 178 → x_codeP j := x_lt_step x_code_177 (show lw_tbl[1343]? = some (Cond.code (x_y 177) (x_by 177) (x_ml 177) (x_rt 177)) from rfl)
set_option maxRecDepth 1000000 in
theorem x_code_179 : ∀ j, j < 179 → x_codeP j := x_lt_step x_code_178 (show lw_tbl[1337]? = some (Cond.code (x_y 178) (x_by 178) (x_ml 178) (x_rt 178)) from rfl)
set_option maxRecDepth 1000000 in
theorem x_code_180 : ∀ j, j < 180 → x_codeP j := x_lt_step x_code_179 (show lw_tbl[1350]? = some (Cond.code (x_y 179) (x_by 179) (x_ml 179) (x_rt 179)) from rfl)
set_option maxRecDepth 1000000 in
theorem x_code_181 : ∀ j, j < 181 → x_codeP j := x_lt_step x_code_180 (show lw_tbl[1354]? = some (Cond.code (x_y 180) (x_by 180) (x_ml 180) (x_rt 180)) from rfl)
set_option maxRecDepth 1000000 in
theorem x_code_182 : ∀ j, j < 182 → x_codeP j := x_lt_step x_code_181 (show lw_tbl[1377]? = some (Cond.code (x_y 181) (x_by 181) (x_ml 181) (x_rt 181)) from rfl)
set_option maxRecDepth 1000000 in
theorem x_code_183 : ∀ j, j < 183 → x_codeP j := x_lt_step x_code_182 (show lw_tbl[1370]? = some (Cond.code (x_y 182) (x_by 182) (x_ml 182) (x_rt 182)) from rfl)
set_option maxRecDepth 1000000 in
theorem x_code_184 : ∀ j, j < 184 → x_codeP j := x_lt_step x_code_183 (show lw_tbl[1366]? = some (Cond.code (x_y 183) (x_by 183) (x_ml 183) (x_rt 183)) from rfl)
set_option maxRecDepth 1000000 in
theorem x_code_185 : ∀ j, j < 185 → x_codeP j := x_lt_step x_code_184 (show lw_tbl[1374]? = some (Cond.code (x_y 184) (x_by 184) (x_ml 184) (x_rt 184)) from rfl)
set_option maxRecDepth 1000000 in
theorem x_code_186 : ∀ j, j < 186 → x_codeP j := x_lt_step x_code_185 (show lw_tbl[1362]? = some (Cond.code (x_y 185) (x_by 185) (x_ml 185) (x_rt 185)) from rfl)
set_option maxRecDepth 1000000 in
theorem x_code_187 : ∀ j, j < 187 → x_codeP j := x_lt_step x_code_186 (show lw_tbl[1358]? = some (Cond.code (x_y 186) (x_by 186) (x_ml 186) (x_rt 186)) from rfl)
set_option maxRecDepth 1000000 in
theorem x_code_188 : ∀ j, j < 188 → x_codeP j := x_lt_step x_code_187 (show lw_tbl[1381]? = some (Cond.code (x_y 187) (x_by 187) (x_ml 187) (x_rt 187)) from rfl)
set_option maxRecDepth 1000000 in
theorem x_code_189 : ∀ j, j < 189 → x_codeP j := x_lt_step x_code_188 (show lw_tbl[1393]? = some (Cond.code (x_y 188) (x_by 188) (x_ml 188) (x_rt 188)) from rfl)
set_option maxRecDepth 1000000 in
theorem x_code_190 : ∀ j, j < 190 → x_codeP j := x_lt_step x_code_189 (show lw_tbl[1389]? = some (Cond.code (x_y 189) (x_by 189) (x_ml 189) (x_rt 189)) from rfl)
set_option maxRecDepth 1000000 in
theorem x_code_191 : ∀ j, j < 191 → x_codeP j := x_lt_step x_code_190 (show lw_tbl[1385]? = some (Cond.code (x_y 190) (x_by 190) (x_ml 190) (x_rt 190)) from rfl)
set_option maxRecDepth 1000000 in
theorem x_code_192 : ∀ j, j < 192 → x_codeP j := x_lt_step x_code_191 (show lw_tbl[1400]? = some (Cond.code (x_y 191) (x_by 191) (x_ml 191) (x_rt 191)) from rfl)
set_option maxRecDepth 1000000 in
theorem x_code_193 : ∀ j, j < 193 → x_codeP j := x_lt_step x_code_192 (show lw_tbl[1397]? = some (Cond.code (x_y 192) (x_by 192) (x_ml 192) (x_rt 192)) from rfl)
set_option maxRecDepth 1000000 in
theorem x_code_194 : ∀ j, j < 194 → x_codeP j := x_lt_step x_code_193 (show lw_tbl[1408]? = some (Cond.code (x_y 193) (x_by 193) (x_ml 193) (x_rt 193)) from rfl)
set_option maxRecDepth 1000000 in
theorem x_code_195 : ∀ j, j < 195 → x_codeP j := x_lt_step x_code_194 (show lw_tbl[1404]? = some (Cond.code (x_y 194) (x_by 194) (x_ml 194) (x_rt 194)) from rfl)
set_option maxRecDepth 1000000 in
theorem x_code_196 : ∀ j, j < 196 → x_codeP j := x_lt_step x_code_195 (show lw_tbl[1412]? = some (Cond.code (x_y 195) (x_by 195) (x_ml 195) (x_rt 195)) from rfl)
set_option maxRecDepth 1000000 in
theorem x_code_197 : ∀ j, j < 197 → x_codeP j := x_lt_step x_code_196 (show lw_tbl[1420]? = some (Cond.code (x_y 196) (x_by 196) (x_ml 196) (x_rt 196)) from rfl)
set_option maxRecDepth 1000000 in
theorem x_code_198 : ∀ j, j < 198 → x_codeP j := x_lt_step x_code_197 (show lw_tbl[1416]? = some (Cond.code (x_y 197) (x_by 197) (x_ml 197) (x_rt 197)) from rfl)
set_option maxRecDepth 1000000 in
theorem x_code_199 : ∀ j, j < 199 → x_codeP j := x_lt_step x_code_198 (show lw_tbl[1430]? = some (Cond.code (x_y 198) (x_by 198) (x_ml 198) (x_rt 198)) from rfl)
set_option maxRecDepth 1000000 in
theorem x_code_200 : ∀ j, j < 200 → x_codeP j := x_lt_step x_code_199 (show lw_tbl[1426]? = some (Cond.code (x_y 199) (x_by 199) (x_ml 199) (x_rt 199)) from rfl)
set_option maxRecDepth 1000000 in
theorem x_code_201 : ∀ j, j < 201 → x_codeP j := x_lt_step x_code_200 (show lw_tbl[1434]? = some (Cond.code (x_y 200) (x_by 200) (x_ml 200) (x_rt 200)) from rfl)
set_option maxRecDepth 1000000 in
theorem x_code_202 : ∀ j, j < 202 → x_codeP j := x_lt_step x_code_201 (show lw_tbl[1446]? = some (Cond.code (x_y 201) (x_by 201) (x_ml 201) (x_rt 201)) from rfl)
set_option maxRecDepth 1000000 in
theorem x_code_203 : ∀ j, j < 203 → x_codeP j := x_lt_step x_code_202 (show lw_tbl[1442]? = some (Cond.code (x_y 202) (x_by 202) (x_ml 202) (x_rt 202)) from rfl)
set_option maxRecDepth 1000000 in
theorem x_code_204 : ∀ j, j < 204 → x_codeP j := x_lt_step x_code_203 (show lw_tbl[1454]? = some (Cond.code (x_y 203) (x_by 203) (x_ml 203) (x_rt 203)) from rfl)
set_option maxRecDepth 1000000 in
theorem x_code_205 : ∀ j, j < 205 → x_codeP j := x_lt_step x_code_204 (show lw_tbl[1450]? = some (Cond.code (x_y 204) (x_by 204) (x_ml 204) (x_rt 204)) from rfl)
set_option maxRecDepth 1000000 in
theorem x_code_206 : ∀ j, j < 206 → x_codeP j := x_lt_step x_code_205 (show lw_tbl[1438]? = some (Cond.code (x_y 205) (x_by 205) (x_ml 205) (x_rt 205)) from rfl)
set_option maxRecDepth 1000000 in
theorem x_code_207 : ∀ j, j < 207 → x_codeP j := x_lt_step x_code_206 (show lw_tbl[1462]? = some (Cond.code (x_y 206) (x_by 206) (x_ml 206) (x_rt 206)) from rfl)
set_option maxRecDepth 1000000 in
theorem x_code_208 : ∀ j, j < 208 → x_codeP j := x_lt_step x_code_207 (show lw_tbl[1458]? = some (Cond.code (x_y 207) (x_by 207) (x_ml 207) (x_rt 207)) from rfl)
set_option maxRecDepth 1000000 in
theorem x_code_209 : ∀ j, j < 209 → x_codeP j := x_lt_step x_code_208 (show lw_tbl[1467]? = some (Cond.code (x_y 208) (x_by 208) (x_ml 208) (x_rt 208)) from rfl)
set_option maxRecDepth 1000000 in
theorem x_code_210 : ∀ j, j < 210 → x_codeP j := x_lt_step x_code_209 (show lw_tbl[1471]? = some (Cond.code (x_y 209) (x_by 209) (x_ml 209) (x_rt 209)) from rfl)
set_option maxRecDepth 1000000 in
theorem x_code_211 : ∀ j, j < 211 → x_codeP j := x_lt_step x_code_210 (show lw_tbl[1475]? = some (Cond.code (x_y 210) (x_by 210) (x_ml 210) (x_rt 210)) from rfl)
set_option maxRecDepth 1000000 in
theorem x_code_212 : ∀ j, j < 212 → x_codeP j := x_lt_step x_code_211 (show lw_tbl[1483]? = some (Cond.code (x_y 211) (x_by 211) (x_ml 211) (x_rt 211)) from rfl)
set_option maxRecDepth 1000000 in
theorem x_code_213 : ∀ j, j < 213 → x_codeP j := x_lt_step x_code_212 (show lw_tbl[1479]? = some (Cond.code (x_y 212) (x_by 212) (x_ml 212) (x_rt 212)) from rfl)
set_option maxRecDepth 1000000 in
theorem x_code_214 : ∀ j, j < 214 → x_codeP j := x_lt_step x_code_213 (show lw_tbl[1487]? = some (Cond.code (x_y 213) (x_by 213) (x_ml 213) (x_rt 213)) from rfl)
set_option maxRecDepth 1000000 in
theorem x_code_215 : ∀ j, j < 215 → x_codeP j := x_lt_step x_code_214 (show lw_tbl[1491]? = some (Cond.code (x_y 214) (x_by 214) (x_ml 214) (x_rt 214)) from rfl)
set_option maxRecDepth 1000000 in
theorem x_code_216 : ∀ j, j < 216 → x_codeP j := x_lt_step x_code_215 (show lw_tbl[1495]? = some (Cond.code (x_y 215) (x_by 215) (x_ml 215) (x_rt 215)) from rfl)
set_option maxRecDepth 1000000 in
theorem x_code_217 : ∀ j, j < 217 → x_codeP j := x_lt_step x_code_216 (show lw_tbl[1499]? = some (Cond.code (x_y 216) (x_by 216) (x_ml 216) (x_rt 216)) from rfl)
set_option maxRecDepth 1000000 in
theorem x_code_218 : ∀ j, j < 218 → x_codeP j := x_lt_step x_code_217 (show lw_tbl[1503]? = some (Cond.code (x_y 217) (x_by 217) (x_ml 217) (x_rt 217)) from rfl)
set_option maxRecDepth 1000000 in
theorem x_code_219 : ∀ j, j < 219 → x_codeP j := x_lt_step x_code_218 (show lw_tbl[1507]? = some (Cond.code (x_y 218) (x_by 218) (x_ml 218) (x_rt 218)) from rfl)
set_option maxRecDepth 1000000 in
theorem x_code_220 : ∀ j, j < 220 → x_codeP j := x_lt_step x_code_219 (show lw_tbl[1511]? = some (Cond.code (x_y 219) (x_by 219) (x_ml 219) (x_rt 219)) from rfl)
set_option maxRecDepth 1000000 in
theorem x_code_221 : ∀ j, j < 221 → x_codeP j := x_lt_step x_code_220 (show lw_tbl[1523]? = some (Cond.code (x_y 220) (x_by 220) (x_ml 220) (x_rt 220)) from rfl)
set_option maxRecDepth 1000000 in
theorem x_code_222 : ∀ j, j < 222 → x_codeP j := x_lt_step x_code_221 (show lw_tbl[1520]? = some (Cond.code (x_y 221) (x_by 221) (x_ml 221) (x_rt 221)) from rfl)
set_option maxRecDepth 1000000 in
theorem x_code_223 : ∀ j, j < 223 → x_codeP j := x_lt_step x_code_222 (show lw_tbl[1516]? = some (Cond.code (x_y 222) (x_by 222) (x_ml 222) (x_rt 222)) from rfl)
set_option maxRecDepth 1000000 in
theorem x_code_224 : ∀ j, j < 224 → x_codeP j := x_lt_step x_code_223 (show lw_tbl[818]? = some (Cond.code (x_y 223) (x_by 223) (x_ml 223) (x_rt 223)) from rfl)
set_option maxRecDepth 1000000 in
theorem x_code_225 : ∀ j, j < 225 → x_codeP j := x_lt_step x_code_224 (show lw_tbl[690]? = some (Cond.code (x_y 224) (x_by 224) (x_ml 224) (x_rt 224)) from rfl)
set_option maxRecDepth 1000000 in
theorem x_code_226 : ∀ j, j < 226 → x_codeP j := x_lt_step x_code_225 (show lw_tbl[416]? = some (Cond.code (x_y 225) (x_by 225) (x_ml 225) (x_rt 225)) from rfl)
theorem x_code_ok (j : Nat) (h : j < 226) : lw_tbl[x_pc j]? = some (Cond.code (x_y j) (x_by j) (x_ml j) (x_rt j)) := x_code_226 j h
set_option maxRecDepth 1000000 in
set_option maxHeartbeats 40000000 in
theorem x_st_ok : ∀ j, j < 226 → x_pst j ≠ 0 → lw_tbl[x_pst j]? = some (Cond.static (x_y j)) := by decide +kernel
set_option maxRecDepth 1000000 in
set_option maxHeartbeats 40000000 in
theorem x_in_ok : ∀ j, j < 226 → x_pin j ≠ 0 → lw_tbl[x_pin j]? = some (Cond.instanceMethod (x_y j)) := by decide +kernel
set_option maxRecDepth 1000000 in
set_option maxHeartbeats 40000000 in
theorem x_sl_ok : ∀ j, j < 226 → x_psl j ≠ 0 → lw_tbl[x_psl j - 1]? = some (Cond.selects (x_y j).cls (x_y j) (x_y j)) := by decide +kernel
set_option maxRecDepth 1000000 in
set_option maxHeartbeats 40000000 in
theorem x_oc_ok : ∀ j, j < 226 → (x_y j).cls = x_on (x_oc j) ∧ x_oc j < 13 ∧ x_ml j ≤ 45 ∧ x_np j = some (x_npt j) ∧ (x_ini j = true → (x_y j).name = "<init>" ∧ x_rt j = none) := by decide +kernel
set_option maxRecDepth 1000000 in
set_option maxHeartbeats 40000000 in
theorem x_ini_ok : ∀ o, o < 13 → lw_tbl[x_pini o]? = some (Cond.initialized (x_on o)) ∧ plainName (x_on o) = true ∧ x_on o ≠ "java/lang/invoke/MethodHandle" ∧ x_on o ≠ "java/lang/invoke/VarHandle" := by decide +kernel
set_option maxRecDepth 1000000 in
set_option maxHeartbeats 40000000 in
theorem x_ins_ok : ∀ o, o < 11 → lw_tbl[x_pins o]? = some (Cond.instantiable (x_cn o) (x_nf o)) ∧ x_on o = x_cn o := by decide +kernel
set_option maxRecDepth 1000000 in
set_option maxHeartbeats 40000000 in
theorem x_fx0 : Cond.static Lib.Math.max.name ∈ x_Tb := x_Tb_at (i := 612) (by decide +kernel) rfl
set_option maxRecDepth 1000000 in
set_option maxHeartbeats 40000000 in
theorem x_fx1 : Cond.static Lib.Math.min.name ∈ x_Tb := x_Tb_at (i := 598) (by decide +kernel) rfl
set_option maxRecDepth 1000000 in
set_option maxHeartbeats 40000000 in
theorem x_fx2 : Cond.static Lib.Math.abs.name ∈ x_Tb := x_Tb_at (i := 781) (by decide +kernel) rfl
set_option maxRecDepth 1000000 in
set_option maxHeartbeats 40000000 in
theorem x_fx3 : Cond.initialized "java/lang/Math" ∈ x_Tb := x_Tb_at (i := 80) (by decide +kernel) rfl
set_option maxRecDepth 1000000 in
set_option maxHeartbeats 40000000 in
theorem x_fx4 : Cond.code Lib.Math.max.name Lib.Math.max.code 2 (some .int) ∈ x_Tb := x_Tb_at (i := 613) (by decide +kernel) rfl
set_option maxRecDepth 1000000 in
set_option maxHeartbeats 40000000 in
theorem x_fx5 : Cond.code Lib.Math.min.name Lib.Math.min.code 2 (some .int) ∈ x_Tb := x_Tb_at (i := 599) (by decide +kernel) rfl
set_option maxRecDepth 1000000 in
set_option maxHeartbeats 40000000 in
theorem x_fx6 : Cond.code Lib.Math.abs.name Lib.Math.abs.code 1 (some .int) ∈ x_Tb := x_Tb_at (i := 782) (by decide +kernel) rfl
set_option maxRecDepth 1000000 in
set_option maxHeartbeats 40000000 in
theorem x_fx7 : Cond.native arraycopyName ∈ x_Tb := x_Tb_at (i := 981) (by decide +kernel) rfl
set_option maxRecDepth 1000000 in
set_option maxHeartbeats 40000000 in
theorem x_fx8 : Cond.static arraycopyName ∈ x_Tb := x_Tb_at (i := 980) (by decide +kernel) rfl
set_option maxRecDepth 1000000 in
set_option maxHeartbeats 40000000 in
theorem x_fx9 : Cond.initialized "java/lang/System" ∈ x_Tb := x_Tb_at (i := 82) (by decide +kernel) rfl
set_option maxRecDepth 1000000 in
set_option maxHeartbeats 40000000 in
theorem x_fx10 : Cond.instanceMethod Lib.objectInit ∈ x_Tb := x_Tb_at (i := 89) (by decide +kernel) rfl
set_option maxRecDepth 1000000 in
set_option maxHeartbeats 40000000 in
theorem x_fx11 : Cond.code Lib.objectInit ⟨#[0xb1]⟩ 1 none ∈ x_Tb := x_Tb_at (i := 90) (by decide +kernel) rfl
set_option maxRecDepth 1000000 in
set_option maxHeartbeats 40000000 in
theorem x_fx12 : Cond.arrayClass .int ∈ x_Tb := x_Tb_at (i := 218) (by decide +kernel) rfl
set_option maxRecDepth 1000000 in
set_option maxHeartbeats 40000000 in
theorem x_fx13 : Cond.arrayClass .long ∈ x_Tb := x_Tb_at (i := 295) (by decide +kernel) rfl
set_option maxRecDepth 1000000 in
set_option maxHeartbeats 40000000 in
theorem x_clsok_0 : x_clsok 0 := ⟨rfl, fun w hw => List.mem_filter.mpr ⟨(show ∀ w ∈ u_ws (x_cn 0) (x_ct 0) (x_nf 0), w ∈ lw_tbl by decide +kernel) w hw, (show ∀ w ∈ u_ws (x_cn 0) (x_ct 0) (x_nf 0), goodWord w = true by decide +kernel) w hw⟩, by decide +kernel, by decide +kernel, by decide +kernel, by decide +kernel⟩
set_option maxRecDepth 1000000 in
set_option maxHeartbeats 40000000 in
theorem x_clsok_1 : x_clsok 1 := ⟨rfl, fun w hw => List.mem_filter.mpr ⟨(show ∀ w ∈ u_ws (x_cn 1) (x_ct 1) (x_nf 1), w ∈ lw_tbl by decide +kernel) w hw, (show ∀ w ∈ u_ws (x_cn 1) (x_ct 1) (x_nf 1), goodWord w = true by decide +kernel) w hw⟩, by decide +kernel, by decide +kernel, by decide +kernel, by decide +kernel⟩
set_option maxRecDepth 1000000 in
set_option maxHeartbeats 40000000 in
theorem x_clsok_2 : x_clsok 2 := ⟨rfl, fun w hw => List.mem_filter.mpr ⟨(show ∀ w ∈ u_ws (x_cn 2) (x_ct 2) (x_nf 2), w ∈ lw_tbl by decide +kernel) w hw, (show ∀ w ∈ u_ws (x_cn 2) (x_ct 2) (x_nf 2), goodWord w = true by decide +kernel) w hw⟩, by decide +kernel, by decide +kernel, by decide +kernel, by decide +kernel⟩
set_option maxRecDepth 1000000 in
set_option maxHeartbeats 40000000 in
theorem x_clsok_3 : x_clsok 3 := ⟨rfl, fun w hw => List.mem_filter.mpr ⟨(show ∀ w ∈ u_ws (x_cn 3) (x_ct 3) (x_nf 3), w ∈ lw_tbl by decide +kernel) w hw, (show ∀ w ∈ u_ws (x_cn 3) (x_ct 3) (x_nf 3), goodWord w = true by decide +kernel) w hw⟩, by decide +kernel, by decide +kernel, by decide +kernel, by decide +kernel⟩
set_option maxRecDepth 1000000 in
set_option maxHeartbeats 40000000 in
theorem x_clsok_4 : x_clsok 4 := ⟨rfl, fun w hw => List.mem_filter.mpr ⟨(show ∀ w ∈ u_ws (x_cn 4) (x_ct 4) (x_nf 4), w ∈ lw_tbl by decide +kernel) w hw, (show ∀ w ∈ u_ws (x_cn 4) (x_ct 4) (x_nf 4), goodWord w = true by decide +kernel) w hw⟩, by decide +kernel, by decide +kernel, by decide +kernel, by decide +kernel⟩
set_option maxRecDepth 1000000 in
set_option maxHeartbeats 40000000 in
theorem x_clsok_5 : x_clsok 5 := ⟨rfl, fun w hw => List.mem_filter.mpr ⟨(show ∀ w ∈ u_ws (x_cn 5) (x_ct 5) (x_nf 5), w ∈ lw_tbl by decide +kernel) w hw, (show ∀ w ∈ u_ws (x_cn 5) (x_ct 5) (x_nf 5), goodWord w = true by decide +kernel) w hw⟩, by decide +kernel, by decide +kernel, by decide +kernel, by decide +kernel⟩
set_option maxRecDepth 1000000 in
set_option maxHeartbeats 40000000 in
theorem x_clsok_6 : x_clsok 6 := ⟨rfl, fun w hw => List.mem_filter.mpr ⟨(show ∀ w ∈ u_ws (x_cn 6) (x_ct 6) (x_nf 6), w ∈ lw_tbl by decide +kernel) w hw, (show ∀ w ∈ u_ws (x_cn 6) (x_ct 6) (x_nf 6), goodWord w = true by decide +kernel) w hw⟩, by decide +kernel, by decide +kernel, by decide +kernel, by decide +kernel⟩
set_option maxRecDepth 1000000 in
set_option maxHeartbeats 40000000 in
theorem x_clsok_7 : x_clsok 7 := ⟨rfl, fun w hw => List.mem_filter.mpr ⟨(show ∀ w ∈ u_ws (x_cn 7) (x_ct 7) (x_nf 7), w ∈ lw_tbl by decide +kernel) w hw, (show ∀ w ∈ u_ws (x_cn 7) (x_ct 7) (x_nf 7), goodWord w = true by decide +kernel) w hw⟩, by decide +kernel, by decide +kernel, by decide +kernel, by decide +kernel⟩
set_option maxRecDepth 1000000 in
set_option maxHeartbeats 40000000 in
theorem x_clsok_8 : x_clsok 8 := ⟨rfl, fun w hw => List.mem_filter.mpr ⟨(show ∀ w ∈ u_ws (x_cn 8) (x_ct 8) (x_nf 8), w ∈ lw_tbl by decide +kernel) w hw, (show ∀ w ∈ u_ws (x_cn 8) (x_ct 8) (x_nf 8), goodWord w = true by decide +kernel) w hw⟩, by decide +kernel, by decide +kernel, by decide +kernel, by decide +kernel⟩
set_option maxRecDepth 1000000 in
set_option maxHeartbeats 40000000 in
theorem x_clsok_9 : x_clsok 9 := ⟨rfl, fun w hw => List.mem_filter.mpr ⟨(show ∀ w ∈ u_ws (x_cn 9) (x_ct 9) (x_nf 9), w ∈ lw_tbl by decide +kernel) w hw, (show ∀ w ∈ u_ws (x_cn 9) (x_ct 9) (x_nf 9), goodWord w = true by decide +kernel) w hw⟩, by decide +kernel, by decide +kernel, by decide +kernel, by decide +kernel⟩
set_option maxRecDepth 1000000 in
set_option maxHeartbeats 40000000 in
theorem x_clsok_10 : x_clsok 10 := ⟨rfl, fun w hw => List.mem_filter.mpr ⟨(show ∀ w ∈ u_ws (x_cn 10) (x_ct 10) (x_nf 10), w ∈ lw_tbl by decide +kernel) w hw, (show ∀ w ∈ u_ws (x_cn 10) (x_ct 10) (x_nf 10), goodWord w = true by decide +kernel) w hw⟩, by decide +kernel, by decide +kernel, by decide +kernel, by decide +kernel⟩
theorem x_clsok_all (t : Nat) (h : t < 11) : x_clsok t := by
  match t, h with
  | 0, _ => exact x_clsok_0
  | 1, _ => exact x_clsok_1
  | 2, _ => exact x_clsok_2
  | 3, _ => exact x_clsok_3
  | 4, _ => exact x_clsok_4
  | 5, _ => exact x_clsok_5
  | 6, _ => exact x_clsok_6
  | 7, _ => exact x_clsok_7
  | 8, _ => exact x_clsok_8
  | 9, _ => exact x_clsok_9
  | 10, _ => exact x_clsok_10
  | t + 11, h => exact absurd h (by omega)
