theorem hcX0 : vwCl[0]? = some (RX0, TX0, 8) := rfl
theorem inX0 : ∀ w ∈ u_ws RX0 TX0 8, w ∈ GW := by
  intro w hw
  obtain ⟨k, hk, rfl⟩ := List.mem_map.mp hw
  have hk := List.mem_range.mp hk
  match k, hk with
  | 0, _ => exact wd119
  | 1, _ => exact wd121
  | 2, _ => exact wd123
  | 3, _ => exact wd125
  | 4, _ => exact wd127
  | 5, _ => exact wd129
  | 6, _ => exact wd131
  | 7, _ => exact wd133
  | k + 8, h => omega
theorem hcX1 : vwCl[1]? = some (RX1, TX1, 1) := rfl
theorem inX1 : ∀ w ∈ u_ws RX1 TX1 1, w ∈ GW := by
  intro w hw
  obtain ⟨k, hk, rfl⟩ := List.mem_map.mp hw
  have hk := List.mem_range.mp hk
  match k, hk with
  | 0, _ => exact wd199
  | k + 1, h => omega
theorem hcX2 : vwCl[2]? = some (RX2, TX2, 2) := rfl
theorem inX2 : ∀ w ∈ u_ws RX2 TX2 2, w ∈ GW := by
  intro w hw
  obtain ⟨k, hk, rfl⟩ := List.mem_map.mp hw
  have hk := List.mem_range.mp hk
  match k, hk with
  | 0, _ => exact wd192
  | 1, _ => exact wd194
  | k + 2, h => omega
theorem hcX3 : vwCl[3]? = some (RX3, TX3, 7) := rfl
theorem inX3 : ∀ w ∈ u_ws RX3 TX3 7, w ∈ GW := by
  intro w hw
  obtain ⟨k, hk, rfl⟩ := List.mem_map.mp hw
  have hk := List.mem_range.mp hk
  match k, hk with
  | 0, _ => exact wd156
  | 1, _ => exact wd158
  | 2, _ => exact wd160
  | 3, _ => exact wd162
  | 4, _ => exact wd164
  | 5, _ => exact wd166
  | 6, _ => exact wd168
  | k + 7, h => omega
theorem hcX4 : vwCl[4]? = some (RX4, TX4, 8) := rfl
theorem inX4 : ∀ w ∈ u_ws RX4 TX4 8, w ∈ GW := by
  intro w hw
  obtain ⟨k, hk, rfl⟩ := List.mem_map.mp hw
  have hk := List.mem_range.mp hk
  match k, hk with
  | 0, _ => exact wd212
  | 1, _ => exact wd214
  | 2, _ => exact wd216
  | 3, _ => exact wd218
  | 4, _ => exact wd220
  | 5, _ => exact wd222
  | 6, _ => exact wd224
  | 7, _ => exact wd226
  | k + 8, h => omega
theorem hcX5 : vwCl[5]? = some (RX5, TX5, 14) := rfl
theorem inX5 : ∀ w ∈ u_ws RX5 TX5 14, w ∈ GW := by
  intro w hw
  obtain ⟨k, hk, rfl⟩ := List.mem_map.mp hw
  have hk := List.mem_range.mp hk
  match k, hk with
  | 0, _ => exact wd700
  | 1, _ => exact wd702
  | 2, _ => exact wd704
  | 3, _ => exact wd706
  | 4, _ => exact wd708
  | 5, _ => exact wd710
  | 6, _ => exact wd712
  | 7, _ => exact wd714
  | 8, _ => exact wd716
  | 9, _ => exact wd718
  | 10, _ => exact wd720
  | 11, _ => exact wd722
  | 12, _ => exact wd724
  | 13, _ => exact wd726
  | k + 14, h => omega
def mX0_init : MI := (yX0_init, cX0_init, 1, none, { frames := 3, cells := 7, slots := 173, locals := 70 })
def mX0_become : MI := (yX0_become, cX0_become, 2, none, { frames := 2, cells := 0, slots := 0, locals := 61 })
theorem cvX0_become : CV mX0_become 1 := ⟨wd278, wd279, wd57, wd280, by decide +kernel⟩
def mX0_has : MI := (yX0_has, cX0_has, 2, (some .boolean), { frames := 0, cells := 0, slots := 0, locals := 0 })
theorem cvX0_has : CV mX0_has 1 := ⟨wd327, wd328, wd57, wd329, by decide +kernel⟩
def mX0_addDoor : MI := (yX0_addDoor, cX0_addDoor, 5, (some .boolean), { frames := 3, cells := 0, slots := 0, locals := 70 })
theorem cvX0_addDoor : CV mX0_addDoor 4 := ⟨wd300, wd301, wd57, wd302, by decide +kernel⟩
def mX0_wedgeOrNot : MI := (yX0_wedgeOrNot, cX0_wedgeOrNot, 2, (some .int), { frames := 1, cells := 0, slots := 0, locals := 22 })
theorem cvX0_wedgeOrNot : CV mX0_wedgeOrNot 1 := ⟨wd335, wd336, wd57, wd337, by decide +kernel⟩
def mX0_changeSides : MI := (yX0_changeSides, cX0_changeSides, 3, (some .int), { frames := 3, cells := 0, slots := 0, locals := 70 })
theorem cvX0_changeSides : CV mX0_changeSides 1 := ⟨wd331, wd332, wd57, wd333, by decide +kernel⟩
def mX0_wayBetween : MI := (yX0_wayBetween, cX0_wayBetween, 3, (some .int), { frames := 1, cells := 0, slots := 0, locals := 21 })
theorem cvX0_wayBetween : CV mX0_wayBetween 2 := ⟨wd471, wd472, wd57, wd473, by decide +kernel⟩
def mX0_firstDoors : MI := (yX0_firstDoors, cX0_firstDoors, 3, (some .int), { frames := 1, cells := 0, slots := 0, locals := 21 })
theorem cvX0_firstDoors : CV mX0_firstDoors 2 := ⟨wd348, wd349, wd57, wd350, by decide +kernel⟩
def mX0_measureWays : MI := (yX0_measureWays, cX0_measureWays, 4, none, { frames := 2, cells := 0, slots := 0, locals := 47 })
theorem cvX0_measureWays : CV mX0_measureWays 0 := ⟨wd86, wd0, wd57, wd87, by decide +kernel⟩
def mX0_shortenWaysBy : MI := (yX0_shortenWaysBy, cX0_shortenWaysBy, 6, (some .boolean), { frames := 1, cells := 0, slots := 0, locals := 22 })
theorem cvX0_shortenWaysBy : CV mX0_shortenWaysBy 2 := ⟨wd96, wd1, wd57, wd97, by decide +kernel⟩
def mX0_findFirsts : MI := (yX0_findFirsts, cX0_findFirsts, 5, none, { frames := 1, cells := 0, slots := 0, locals := 22 })
theorem cvX0_findFirsts : CV mX0_findFirsts 0 := ⟨wd100, wd2, wd57, wd101, by decide +kernel⟩
def mX0_opensBy : MI := (yX0_opensBy, cX0_opensBy, 10, (some .boolean), { frames := 1, cells := 0, slots := 0, locals := 21 })
theorem cvX0_opensBy : CV mX0_opensBy 4 := ⟨wd360, wd361, wd57, wd362, by decide +kernel⟩
def mX1_init : MI := (yX1_init, cX1_init, 1, none, { frames := 2, cells := 2, slots := 98, locals := 42 })
def mX1_lengthAt : MI := (yX1_lengthAt, cX1_lengthAt, 2, (some .int), { frames := 1, cells := 0, slots := 0, locals := 21 })
theorem cvX1_lengthAt : CV mX1_lengthAt 1 := ⟨wd262, wd263, wd58, wd264, by decide +kernel⟩
def mX1_shapeFault : MI := (yX1_shapeFault, cX1_shapeFault, 3, (some .int), { frames := 3, cells := 0, slots := 0, locals := 66 })
theorem cvX1_shapeFault : CV mX1_shapeFault 0 := ⟨wd254, wd255, wd58, wd256, by decide +kernel⟩
def mX1_fitsShape : MI := (yX1_fitsShape, cX1_fitsShape, 5, (some .boolean), { frames := 2, cells := 0, slots := 0, locals := 42 })
theorem cvX1_fitsShape : CV mX1_fitsShape 2 := ⟨wd259, wd4, wd58, wd260, by decide +kernel⟩
def mX1_kindOf : MI := (yX1_kindOf, cX1_kindOf, 1, (some .int), { frames := 0, cells := 0, slots := 0, locals := 0 })
theorem csX1_kindOf : CS mX1_kindOf 1 := ⟨wd267, wd58, wd268, by decide +kernel⟩
def mX1_digitAt : MI := (yX1_digitAt, cX1_digitAt, 2, (some .int), { frames := 1, cells := 0, slots := 0, locals := 21 })
theorem cvX1_digitAt : CV mX1_digitAt 1 := ⟨wd297, wd6, wd58, wd298, by decide +kernel⟩
def mX1_tell : MI := (yX1_tell, cX1_tell, 8, (some .boolean), { frames := 5, cells := 0, slots := 0, locals := 127 })
theorem cvX1_tell : CV mX1_tell 2 := ⟨wd292, wd293, wd58, wd294, by decide +kernel⟩
def mX1_tellPerson : MI := (yX1_tellPerson, cX1_tellPerson, 4, (some .boolean), { frames := 2, cells := 0, slots := 0, locals := 45 })
theorem csX1_tellPerson : CS mX1_tellPerson 4 := ⟨wd307, wd58, wd308, by decide +kernel⟩
def mX1_tellRoom : MI := (yX1_tellRoom, cX1_tellRoom, 4, (some .boolean), { frames := 1, cells := 0, slots := 0, locals := 22 })
theorem csX1_tellRoom : CS mX1_tellRoom 4 := ⟨wd316, wd58, wd317, by decide +kernel⟩
def mX1_tellDoor : MI := (yX1_tellDoor, cX1_tellDoor, 3, (some .boolean), { frames := 4, cells := 0, slots := 0, locals := 92 })
theorem csX1_tellDoor : CS mX1_tellDoor 3 := ⟨wd324, wd58, wd325, by decide +kernel⟩
def mX2_init : MI := (yX2_init, cX2_init, 2, none, { frames := 1, cells := 1, slots := 96, locals := 21 })
def mX2_isFull : MI := (yX2_isFull, cX2_isFull, 1, (some .boolean), { frames := 0, cells := 0, slots := 0, locals := 0 })
theorem cvX2_isFull : CV mX2_isFull 0 := ⟨wd240, wd241, wd59, wd242, by decide +kernel⟩
def mX2_add : MI := (yX2_add, cX2_add, 2, (some .int), { frames := 1, cells := 0, slots := 0, locals := 22 })
theorem cvX2_add : CV mX2_add 1 := ⟨wd244, wd245, wd59, wd246, by decide +kernel⟩
def mX2_empty : MI := (yX2_empty, cX2_empty, 2, (some .int), { frames := 0, cells := 0, slots := 0, locals := 0 })
theorem cvX2_empty : CV mX2_empty 0 := ⟨wd372, wd373, wd59, wd374, by decide +kernel⟩
def mX3_init : MI := (yX3_init, cX3_init, 1, none, { frames := 4, cells := 11, slots := 202, locals := 90 })
def mX3_become : MI := (yX3_become, cX3_become, 2, none, { frames := 3, cells := 0, slots := 0, locals := 82 })
theorem cvX3_become : CV mX3_become 1 := ⟨wd274, wd275, wd56, wd276, by decide +kernel⟩
def mX3_has : MI := (yX3_has, cX3_has, 2, (some .boolean), { frames := 0, cells := 0, slots := 0, locals := 0 })
theorem cvX3_has : CV mX3_has 1 := ⟨wd319, wd320, wd56, wd321, by decide +kernel⟩
def mX3_isHome : MI := (yX3_isHome, cX3_isHome, 2, (some .boolean), { frames := 1, cells := 0, slots := 0, locals := 21 })
theorem cvX3_isHome : CV mX3_isHome 1 := ⟨wd366, wd367, wd56, wd368, by decide +kernel⟩
def mX3_addPerson : MI := (yX3_addPerson, cX3_addPerson, 4, none, { frames := 1, cells := 0, slots := 0, locals := 22 })
theorem cvX3_addPerson : CV mX3_addPerson 3 := ⟨wd311, wd312, wd56, wd313, by decide +kernel⟩
def mX3_removePerson : MI := (yX3_removePerson, cX3_removePerson, 3, none, { frames := 1, cells := 0, slots := 0, locals := 22 })
theorem cvX3_removePerson : CV mX3_removePerson 1 := ⟨wd540, wd541, wd56, wd542, by decide +kernel⟩
def mX3_stay : MI := (yX3_stay, cX3_stay, 2, none, { frames := 1, cells := 0, slots := 0, locals := 22 })
theorem cvX3_stay : CV mX3_stay 1 := ⟨wd519, wd520, wd56, wd521, by decide +kernel⟩
def mX3_goHours : MI := (yX3_goHours, cX3_goHours, 7, (some .int), { frames := 4, cells := 0, slots := 0, locals := 101 })
theorem cvX3_goHours : CV mX3_goHours 2 := ⟨wd339, wd340, wd56, wd341, by decide +kernel⟩
def mX3_doorFor : MI := (yX3_doorFor, cX3_doorFor, 6, (some .int), { frames := 3, cells := 0, slots := 0, locals := 76 })
theorem cvX3_doorFor : CV mX3_doorFor 3 := ⟨wd343, wd344, wd56, wd345, by decide +kernel⟩
def mX3_opens : MI := (yX3_opens, cX3_opens, 7, (some .boolean), { frames := 2, cells := 0, slots := 0, locals := 50 })
theorem cvX3_opens : CV mX3_opens 2 := ⟨wd355, wd356, wd56, wd357, by decide +kernel⟩
def mX3_countIn : MI := (yX3_countIn, cX3_countIn, 2, (some .int), { frames := 2, cells := 0, slots := 0, locals := 45 })
theorem cvX3_countIn : CV mX3_countIn 1 := ⟨wd553, wd554, wd56, wd555, by decide +kernel⟩
def mX3_homeBits : MI := (yX3_homeBits, cX3_homeBits, 3, (some .int), { frames := 2, cells := 0, slots := 0, locals := 42 })
theorem cvX3_homeBits : CV mX3_homeBits 0 := ⟨wd430, wd431, wd56, wd432, by decide +kernel⟩
def mX3_homeCount : MI := (yX3_homeCount, cX3_homeCount, 1, (some .int), { frames := 3, cells := 0, slots := 0, locals := 64 })
theorem cvX3_homeCount : CV mX3_homeCount 0 := ⟨wd426, wd427, wd56, wd428, by decide +kernel⟩
def mX3_moodsTogether : MI := (yX3_moodsTogether, cX3_moodsTogether, 3, (some .int), { frames := 1, cells := 0, slots := 0, locals := 21 })
theorem cvX3_moodsTogether : CV mX3_moodsTogether 0 := ⟨wd619, wd620, wd56, wd621, by decide +kernel⟩
def mX4_init : MI := (yX4_init, cX4_init, 1, none, { frames := 5, cells := 43, slots := 839, locals := 110 })
def mX4_letter : MI := (yX4_letter, cX4_letter, 2, (some .int), { frames := 2, cells := 0, slots := 0, locals := 43 })
theorem cvX4_letter : CV mX4_letter 1 := ⟨wd230, wd231, wd55, wd232, by decide +kernel⟩
def mX4_town : MI := (yX4_town, cX4_town, 3, (some .int), { frames := 7, cells := 0, slots := 0, locals := 176 })
theorem cvX4_town : CV mX4_town 0 := ⟨wd250, wd251, wd55, wd252, by decide +kernel⟩
def mX4_tellStatements : MI := (yX4_tellStatements, cX4_tellStatements, 3, (some .int), { frames := 6, cells := 0, slots := 0, locals := 154 })
theorem cvX4_tellStatements : CV mX4_tellStatements 0 := ⟨wd271, wd5, wd55, wd272, by decide +kernel⟩
def mX4_door : MI := (yX4_door, cX4_door, 3, (some .int), { frames := 2, cells := 0, slots := 0, locals := 43 })
theorem cvX4_door : CV mX4_door 2 := ⟨wd376, wd377, wd55, wd378, by decide +kernel⟩
def mX4_person : MI := (yX4_person, cX4_person, 3, (some .int), { frames := 4, cells := 0, slots := 0, locals := 101 })
theorem cvX4_person : CV mX4_person 2 := ⟨wd381, wd382, wd55, wd383, by decide +kernel⟩
def mX4_wedges : MI := (yX4_wedges, cX4_wedges, 2, (some .int), { frames := 2, cells := 0, slots := 0, locals := 43 })
theorem cvX4_wedges : CV mX4_wedges 1 := ⟨wd387, wd388, wd55, wd389, by decide +kernel⟩
def mX4_turns : MI := (yX4_turns, cX4_turns, 2, (some .int), { frames := 4, cells := 0, slots := 0, locals := 92 })
theorem cvX4_turns : CV mX4_turns 1 := ⟨wd392, wd393, wd55, wd394, by decide +kernel⟩
def mX4_stands : MI := (yX4_stands, cX4_stands, 3, (some .int), { frames := 2, cells := 0, slots := 0, locals := 45 })
theorem cvX4_stands : CV mX4_stands 2 := ⟨wd397, wd398, wd55, wd399, by decide +kernel⟩
def mX4_wants : MI := (yX4_wants, cX4_wants, 3, (some .int), { frames := 2, cells := 0, slots := 0, locals := 45 })
theorem cvX4_wants : CV mX4_wants 2 := ⟨wd405, wd406, wd55, wd407, by decide +kernel⟩
def mX4_moods : MI := (yX4_moods, cX4_moods, 3, (some .int), { frames := 3, cells := 0, slots := 0, locals := 64 })
theorem cvX4_moods : CV mX4_moods 2 := ⟨wd409, wd410, wd55, wd411, by decide +kernel⟩
def mX4_changes : MI := (yX4_changes, cX4_changes, 4, (some .int), { frames := 3, cells := 0, slots := 0, locals := 64 })
theorem cvX4_changes : CV mX4_changes 3 := ⟨wd417, wd418, wd55, wd419, by decide +kernel⟩
def mX4_hours : MI := (yX4_hours, cX4_hours, 2, (some .int), { frames := 5, cells := 0, slots := 0, locals := 127 })
theorem cvX4_hours : CV mX4_hours 1 := ⟨wd421, wd422, wd55, wd423, by decide +kernel⟩
def mX4_personThen : MI := (yX4_personThen, cX4_personThen, 4, (some .int), { frames := 5, cells := 0, slots := 0, locals := 127 })
theorem cvX4_personThen : CV mX4_personThen 3 := ⟨wd440, wd441, wd55, wd442, by decide +kernel⟩
def mX4_letThen : MI := (yX4_letThen, cX4_letThen, 2, (some .int), { frames := 5, cells := 0, slots := 0, locals := 127 })
theorem cvX4_letThen : CV mX4_letThen 1 := ⟨wd447, wd448, wd55, wd449, by decide +kernel⟩
def mX4_comes : MI := (yX4_comes, cX4_comes, 3, (some .int), { frames := 6, cells := 0, slots := 0, locals := 150 })
theorem cvX4_comes : CV mX4_comes 2 := ⟨wd451, wd452, wd55, wd453, by decide +kernel⟩
def mX4_home : MI := (yX4_home, cX4_home, 2, (some .int), { frames := 6, cells := 0, slots := 0, locals := 150 })
theorem cvX4_home : CV mX4_home 1 := ⟨wd459, wd460, wd55, wd461, by decide +kernel⟩
def mX4_firstHourIn : MI := (yX4_firstHourIn, cX4_firstHourIn, 4, (some .int), { frames := 5, cells := 0, slots := 0, locals := 127 })
theorem cvX4_firstHourIn : CV mX4_firstHourIn 2 := ⟨wd456, wd8, wd55, wd457, by decide +kernel⟩
def mX4_firstHourAllHome : MI := (yX4_firstHourAllHome, cX4_firstHourAllHome, 2, (some .int), { frames := 5, cells := 0, slots := 0, locals := 127 })
theorem cvX4_firstHourAllHome : CV mX4_firstHourAllHome 0 := ⟨wd464, wd9, wd55, wd465, by decide +kernel⟩
def mX4_shutIn : MI := (yX4_shutIn, cX4_shutIn, 3, (some .int), { frames := 2, cells := 0, slots := 0, locals := 43 })
theorem cvX4_shutIn : CV mX4_shutIn 0 := ⟨wd467, wd468, wd55, wd469, by decide +kernel⟩
def mX4_stuck : MI := (yX4_stuck, cX4_stuck, 3, (some .int), { frames := 5, cells := 0, slots := 0, locals := 127 })
theorem cvX4_stuck : CV mX4_stuck 0 := ⟨wd475, wd476, wd55, wd477, by decide +kernel⟩
def mX4_way : MI := (yX4_way, cX4_way, 6, (some .int), { frames := 2, cells := 0, slots := 0, locals := 43 })
theorem cvX4_way : CV mX4_way 3 := ⟨wd479, wd480, wd55, wd481, by decide +kernel⟩
def mX4_round : MI := (yX4_round, cX4_round, 4, (some .int), { frames := 2, cells := 0, slots := 0, locals := 43 })
theorem cvX4_round : CV mX4_round 1 := ⟨wd488, wd489, wd55, wd490, by decide +kernel⟩
def mX4_reach : MI := (yX4_reach, cX4_reach, 4, (some .int), { frames := 2, cells := 0, slots := 0, locals := 43 })
theorem cvX4_reach : CV mX4_reach 1 := ⟨wd492, wd493, wd55, wd494, by decide +kernel⟩
def mX4_open : MI := (yX4_open, cX4_open, 3, (some .int), { frames := 3, cells := 0, slots := 0, locals := 76 })
theorem cvX4_open : CV mX4_open 0 := ⟨wd496, wd497, wd55, wd498, by decide +kernel⟩
def mX4_helper : MI := (yX4_helper, cX4_helper, 7, (some .int), { frames := 6, cells := 0, slots := 0, locals := 149 })
theorem cvX4_helper : CV mX4_helper 2 := ⟨wd501, wd502, wd55, wd503, by decide +kernel⟩
def mX4_homeWithHelper : MI := (yX4_homeWithHelper, cX4_homeWithHelper, 3, (some .int), { frames := 5, cells := 0, slots := 0, locals := 127 })
theorem cvX4_homeWithHelper : CV mX4_homeWithHelper 2 := ⟨wd506, wd10, wd55, wd507, by decide +kernel⟩
def mX4_fewest : MI := (yX4_fewest, cX4_fewest, 6, (some .int), { frames := 6, cells := 0, slots := 0, locals := 151 })
theorem cvX4_fewest : CV mX4_fewest 2 := ⟨wd510, wd511, wd55, wd512, by decide +kernel⟩
def mX4_isHomeWhileStay : MI := (yX4_isHomeWhileStay, cX4_isHomeWhileStay, 5, (some .boolean), { frames := 5, cells := 0, slots := 0, locals := 127 })
theorem cvX4_isHomeWhileStay : CV mX4_isHomeWhileStay 3 := ⟨wd516, wd11, wd55, wd517, by decide +kernel⟩
def mX4_turn : MI := (yX4_turn, cX4_turn, 2, (some .int), { frames := 6, cells := 0, slots := 0, locals := 152 })
theorem cvX4_turn : CV mX4_turn 1 := ⟨wd524, wd525, wd55, wd526, by decide +kernel⟩
def mX4_wedge : MI := (yX4_wedge, cX4_wedge, 2, (some .int), { frames := 6, cells := 0, slots := 0, locals := 152 })
theorem cvX4_wedge : CV mX4_wedge 1 := ⟨wd532, wd533, wd55, wd534, by decide +kernel⟩
def mX4_doorToChange : MI := (yX4_doorToChange, cX4_doorToChange, 6, (some .int), { frames := 5, cells := 0, slots := 0, locals := 127 })
theorem cvX4_doorToChange : CV mX4_doorToChange 2 := ⟨wd529, wd12, wd55, wd530, by decide +kernel⟩
def mX4_holds : MI := (yX4_holds, cX4_holds, 6, (some .int), { frames := 5, cells := 0, slots := 0, locals := 127 })
theorem cvX4_holds : CV mX4_holds 2 := ⟨wd536, wd537, wd55, wd538, by decide +kernel⟩
def mX4_crowd : MI := (yX4_crowd, cX4_crowd, 2, (some .int), { frames := 4, cells := 0, slots := 0, locals := 88 })
theorem cvX4_crowd : CV mX4_crowd 1 := ⟨wd545, wd546, wd55, wd547, by decide +kernel⟩
def mX4_crowdedRoom : MI := (yX4_crowdedRoom, cX4_crowdedRoom, 3, (some .int), { frames := 3, cells := 0, slots := 0, locals := 66 })
theorem cvX4_crowdedRoom : CV mX4_crowdedRoom 0 := ⟨wd550, wd13, wd55, wd551, by decide +kernel⟩
def mX4_emptyRooms : MI := (yX4_emptyRooms, cX4_emptyRooms, 3, (some .int), { frames := 3, cells := 0, slots := 0, locals := 66 })
theorem cvX4_emptyRooms : CV mX4_emptyRooms 0 := ⟨wd561, wd14, wd55, wd562, by decide +kernel⟩
def mX4_deadRooms : MI := (yX4_deadRooms, cX4_deadRooms, 3, (some .int), { frames := 2, cells := 0, slots := 0, locals := 45 })
theorem cvX4_deadRooms : CV mX4_deadRooms 0 := ⟨wd565, wd15, wd55, wd566, by decide +kernel⟩
def mX4_handles : MI := (yX4_handles, cX4_handles, 2, (some .int), { frames := 2, cells := 0, slots := 0, locals := 45 })
theorem cvX4_handles : CV mX4_handles 1 := ⟨wd569, wd570, wd55, wd571, by decide +kernel⟩
def mX4_meet : MI := (yX4_meet, cX4_meet, 6, (some .int), { frames := 3, cells := 0, slots := 0, locals := 66 })
theorem cvX4_meet : CV mX4_meet 1 := ⟨wd573, wd574, wd55, wd575, by decide +kernel⟩
def mX4_waysOfAllTo : MI := (yX4_waysOfAllTo, cX4_waysOfAllTo, 4, (some .int), { frames := 2, cells := 0, slots := 0, locals := 43 })
theorem cvX4_waysOfAllTo : CV mX4_waysOfAllTo 1 := ⟨wd578, wd16, wd55, wd579, by decide +kernel⟩
def mX4_two : MI := (yX4_two, cX4_two, 7, (some .int), { frames := 6, cells := 0, slots := 0, locals := 151 })
theorem cvX4_two : CV mX4_two 3 := ⟨wd581, wd582, wd55, wd583, by decide +kernel⟩
def mX4_tryPair : MI := (yX4_tryPair, cX4_tryPair, 5, none, { frames := 5, cells := 0, slots := 0, locals := 127 })
theorem cvX4_tryPair : CV mX4_tryPair 4 := ⟨wd586, wd17, wd55, wd587, by decide +kernel⟩
def mX4_gainOf : MI := (yX4_gainOf, cX4_gainOf, 2, (some .int), { frames := 1, cells := 0, slots := 0, locals := 21 })
theorem cvX4_gainOf : CV mX4_gainOf 1 := ⟨wd590, wd18, wd55, wd591, by decide +kernel⟩
def mX4_fire : MI := (yX4_fire, cX4_fire, 9, (some .long), { frames := 6, cells := 0, slots := 0, locals := 152 })
theorem cvX4_fire : CV mX4_fire 5 := ⟨wd593, wd594, wd55, wd595, by decide +kernel⟩
def mX4_isInBehindFires : MI := (yX4_isInBehindFires, cX4_isInBehindFires, 6, (some .boolean), { frames := 5, cells := 0, slots := 0, locals := 127 })
theorem cvX4_isInBehindFires : CV mX4_isInBehindFires 4 := ⟨wd603, wd20, wd55, wd604, by decide +kernel⟩
def mX4_mean : MI := (yX4_mean, cX4_mean, 2, (some .long), { frames := 3, cells := 0, slots := 0, locals := 64 })
theorem cvX4_mean : CV mX4_mean 1 := ⟨wd615, wd616, wd55, wd617, by decide +kernel⟩
def mX4_whatIs : MI := (yX4_whatIs, cX4_whatIs, 4, (some .int), { frames := 7, cells := 0, slots := 0, locals := 173 })
theorem cvX4_whatIs : CV mX4_whatIs 3 := ⟨wd623, wd624, wd55, wd625, by decide +kernel⟩
def mX4_kindsByRow : MI := (yX4_kindsByRow, cX4_kindsByRow, 5, (some .int), { frames := 6, cells := 0, slots := 0, locals := 149 })
theorem cvX4_kindsByRow : CV mX4_kindsByRow 2 := ⟨wd628, wd21, wd55, wd629, by decide +kernel⟩
def mX4_goalsByRow : MI := (yX4_goalsByRow, cX4_goalsByRow, 4, (some .int), { frames := 6, cells := 0, slots := 0, locals := 149 })
theorem cvX4_goalsByRow : CV mX4_goalsByRow 1 := ⟨wd636, wd23, wd55, wd637, by decide +kernel⟩
def mX4_isMindAsRow : MI := (yX4_isMindAsRow, cX4_isMindAsRow, 3, (some .boolean), { frames := 5, cells := 0, slots := 0, locals := 127 })
theorem cvX4_isMindAsRow : CV mX4_isMindAsRow 1 := ⟨wd632, wd22, wd55, wd633, by decide +kernel⟩
def mX4_row : MI := (yX4_row, cX4_row, 2, (some .int), { frames := 2, cells := 0, slots := 0, locals := 43 })
theorem cvX4_row : CV mX4_row 1 := ⟨wd639, wd640, wd55, wd641, by decide +kernel⟩
def mX4_judge : MI := (yX4_judge, cX4_judge, 3, (some .int), { frames := 1, cells := 0, slots := 0, locals := 21 })
theorem cvX4_judge : CV mX4_judge 0 := ⟨wd643, wd644, wd55, wd645, by decide +kernel⟩
def mX4_clear : MI := (yX4_clear, cX4_clear, 1, (some .int), { frames := 1, cells := 0, slots := 0, locals := 21 })
theorem cvX4_clear : CV mX4_clear 0 := ⟨wd647, wd648, wd55, wd649, by decide +kernel⟩
def mX4_lots : MI := (yX4_lots, cX4_lots, 8, (some .int), { frames := 5, cells := 0, slots := 0, locals := 127 })
theorem cvX4_lots : CV mX4_lots 3 := ⟨wd651, wd652, wd55, wd653, by decide +kernel⟩
def mX4_placeByLot : MI := (yX4_placeByLot, cX4_placeByLot, 4, (some .int), { frames := 1, cells := 0, slots := 0, locals := 22 })
theorem cvX4_placeByLot : CV mX4_placeByLot 1 := ⟨wd656, wd24, wd55, wd657, by decide +kernel⟩
def mX4_nextSeed : MI := (yX4_nextSeed, cX4_nextSeed, 1, (some .int), { frames := 0, cells := 0, slots := 0, locals := 0 })
theorem csX4_nextSeed : CS mX4_nextSeed 1 := ⟨wd659, wd55, wd660, by decide +kernel⟩
def mX4_draw : MI := (yX4_draw, cX4_draw, 1, (some .int), { frames := 0, cells := 0, slots := 0, locals := 0 })
theorem csX4_draw : CS mX4_draw 1 := ⟨wd664, wd55, wd665, by decide +kernel⟩
def mX4_image : MI := (yX4_image, cX4_image, 1, (some .int), { frames := 4, cells := 0, slots := 0, locals := 103 })
theorem cvX4_image : CV mX4_image 0 := ⟨wd668, wd669, wd55, wd670, by decide +kernel⟩
def mX4_on : MI := (yX4_on, cX4_on, 1, (some .int), { frames := 4, cells := 0, slots := 0, locals := 103 })
theorem cvX4_on : CV mX4_on 0 := ⟨wd672, wd673, wd55, wd674, by decide +kernel⟩
def mX4_count : MI := (yX4_count, cX4_count, 2, (some .int), { frames := 3, cells := 0, slots := 0, locals := 64 })
theorem cvX4_count : CV mX4_count 1 := ⟨wd676, wd677, wd55, wd678, by decide +kernel⟩
def mX4_refused : MI := (yX4_refused, cX4_refused, 2, (some .int), { frames := 1, cells := 0, slots := 0, locals := 22 })
theorem cvX4_refused : CV mX4_refused 1 := ⟨wd235, wd3, wd55, wd236, by decide +kernel⟩
def mX4_refusedNumber : MI := (yX4_refusedNumber, cX4_refusedNumber, 2, (some .int), { frames := 2, cells := 0, slots := 0, locals := 43 })
theorem cvX4_refusedNumber : CV mX4_refusedNumber 1 := ⟨wd414, wd7, wd55, wd415, by decide +kernel⟩
def mX4_refusedLong : MI := (yX4_refusedLong, cX4_refusedLong, 2, (some .long), { frames := 2, cells := 0, slots := 0, locals := 43 })
theorem cvX4_refusedLong : CV mX4_refusedLong 1 := ⟨wd598, wd19, wd55, wd599, by decide +kernel⟩
def mX4_at : MI := (yX4_at, cX4_at, 2, (some .int), { frames := 0, cells := 0, slots := 0, locals := 0 })
theorem csX4_at : CS mX4_at 2 := ⟨wd92, wd55, wd93, by decide +kernel⟩
def mX4_put : MI := (yX4_put, cX4_put, 3, none, { frames := 0, cells := 0, slots := 0, locals := 0 })
theorem csX4_put : CS mX4_put 3 := ⟨wd89, wd55, wd90, by decide +kernel⟩
def mX4_exchange : MI := (yX4_exchange, cX4_exchange, 4, (some .int), { frames := 1, cells := 0, slots := 0, locals := 22 })
theorem csX4_exchange : CS mX4_exchange 3 := ⟨wd402, wd55, wd403, by decide +kernel⟩
def mX4_bitsOf : MI := (yX4_bitsOf, cX4_bitsOf, 5, (some .int), { frames := 1, cells := 0, slots := 0, locals := 21 })
theorem csX4_bitsOf : CS mX4_bitsOf 3 := ⟨wd557, wd55, wd558, by decide +kernel⟩
def mX4_copy : MI := (yX4_copy, cX4_copy, 2, none, { frames := 1, cells := 0, slots := 0, locals := 40 })
theorem csX4_copy : CS mX4_copy 2 := ⟨wd282, wd55, wd283, by decide +kernel⟩
def mX4_isRoom : MI := (yX4_isRoom, cX4_isRoom, 1, (some .boolean), { frames := 0, cells := 0, slots := 0, locals := 0 })
theorem csX4_isRoom : CS mX4_isRoom 1 := ⟨wd304, wd55, wd305, by decide +kernel⟩
def mX4_isHalf : MI := (yX4_isHalf, cX4_isHalf, 1, (some .boolean), { frames := 0, cells := 0, slots := 0, locals := 0 })
theorem csX4_isHalf : CS mX4_isHalf 1 := ⟨wd444, wd55, wd445, by decide +kernel⟩
def mX4_hasBit : MI := (yX4_hasBit, cX4_hasBit, 2, (some .boolean), { frames := 0, cells := 0, slots := 0, locals := 0 })
theorem csX4_hasBit : CS mX4_hasBit 2 := ⟨wd352, wd55, wd353, by decide +kernel⟩
def mX4_toldWay : MI := (yX4_toldWay, cX4_toldWay, 1, (some .int), { frames := 0, cells := 0, slots := 0, locals := 0 })
theorem csX4_toldWay : CS mX4_toldWay 1 := ⟨wd483, wd55, wd484, by decide +kernel⟩
def mX4_power : MI := (yX4_power, cX4_power, 5, (some .long), { frames := 0, cells := 0, slots := 0, locals := 0 })
theorem csX4_power : CS mX4_power 2 := ⟨wd606, wd55, wd607, by decide +kernel⟩
def mX4_partOf : MI := (yX4_partOf, cX4_partOf, 7, (some .long), { frames := 1, cells := 0, slots := 0, locals := 30 })
theorem csX4_partOf : CS mX4_partOf 3 := ⟨wd609, wd55, wd610, by decide +kernel⟩
def mX4_commonDivisor : MI := (yX4_commonDivisor, cX4_commonDivisor, 11, (some .long), { frames := 0, cells := 0, slots := 0, locals := 0 })
theorem csX4_commonDivisor : CS mX4_commonDivisor 2 := ⟨wd612, wd55, wd613, by decide +kernel⟩
def mX5_init : MI := (yX5_init, cX5_init, 1, none, { frames := 1, cells := 9, slots := 471, locals := 20 })
def mX5_isIn : MI := (yX5_isIn, cX5_isIn, 3, (some .boolean), { frames := 0, cells := 0, slots := 0, locals := 0 })
theorem csX5_isIn : CS mX5_isIn 3 := ⟨wd761, wd61, wd762, by decide +kernel⟩
def mX5_least : MI := (yX5_least, cX5_least, 2, (some .int), { frames := 0, cells := 0, slots := 0, locals := 0 })
theorem csX5_least : CS mX5_least 2 := ⟨wd806, wd61, wd807, by decide +kernel⟩
def mX5_copies : MI := (yX5_copies, cX5_copies, 3, none, { frames := 0, cells := 0, slots := 0, locals := 0 })
theorem csX5_copies : CS mX5_copies 2 := ⟨wd764, wd61, wd765, by decide +kernel⟩
def mX5_no : MI := (yX5_no, cX5_no, 2, (some .int), { frames := 0, cells := 0, slots := 0, locals := 0 })
theorem cvX5_no : CV mX5_no 1 := ⟨wd735, wd25, wd61, wd736, by decide +kernel⟩
def mX5_noWide : MI := (yX5_noWide, cX5_noWide, 2, (some .long), { frames := 1, cells := 0, slots := 0, locals := 21 })
theorem cvX5_noWide : CV mX5_noWide 1 := ⟨wd1007, wd50, wd61, wd1008, by decide +kernel⟩
def mX5_ofD : MI := (yX5_ofD, cX5_ofD, 2, (some .int), { frames := 0, cells := 0, slots := 0, locals := 0 })
theorem csX5_ofD : CS mX5_ofD 2 := ⟨wd778, wd61, wd779, by decide +kernel⟩
def mX5_ofP : MI := (yX5_ofP, cX5_ofP, 2, (some .int), { frames := 0, cells := 0, slots := 0, locals := 0 })
theorem csX5_ofP : CS mX5_ofP 2 := ⟨wd784, wd61, wd785, by decide +kernel⟩
def mX5_isDoor : MI := (yX5_isDoor, cX5_isDoor, 2, (some .boolean), { frames := 1, cells := 0, slots := 0, locals := 22 })
theorem cvX5_isDoor : CV mX5_isDoor 1 := ⟨wd792, wd33, wd61, wd793, by decide +kernel⟩
def mX5_isPerson : MI := (yX5_isPerson, cX5_isPerson, 2, (some .boolean), { frames := 1, cells := 0, slots := 0, locals := 22 })
theorem cvX5_isPerson : CV mX5_isPerson 1 := ⟨wd788, wd32, wd61, wd789, by decide +kernel⟩
def mX5_isRoom : MI := (yX5_isRoom, cX5_isRoom, 1, (some .boolean), { frames := 1, cells := 0, slots := 0, locals := 22 })
theorem csX5_isRoom : CS mX5_isRoom 1 := ⟨wd775, wd61, wd776, by decide +kernel⟩
def mX5_has : MI := (yX5_has, cX5_has, 2, (some .boolean), { frames := 0, cells := 0, slots := 0, locals := 0 })
theorem csX5_has : CS mX5_has 2 := ⟨wd813, wd61, wd814, by decide +kernel⟩
def mX5_bits : MI := (yX5_bits, cX5_bits, 3, (some .int), { frames := 0, cells := 0, slots := 0, locals := 0 })
theorem csX5_bits : CS mX5_bits 1 := ⟨wd887, wd61, wd888, by decide +kernel⟩
def mX5_opensBy : MI := (yX5_opensBy, cX5_opensBy, 7, (some .boolean), { frames := 0, cells := 0, slots := 0, locals := 0 })
theorem csX5_opensBy : CS mX5_opensBy 5 := ⟨wd834, wd61, wd835, by decide +kernel⟩
def mX5_isThere : MI := (yX5_isThere, cX5_isThere, 3, (some .boolean), { frames := 1, cells := 0, slots := 0, locals := 21 })
theorem csX5_isThere : CS mX5_isThere 3 := ⟨wd831, wd61, wd832, by decide +kernel⟩
def mX5_opens : MI := (yX5_opens, cX5_opens, 7, (some .boolean), { frames := 2, cells := 0, slots := 0, locals := 43 })
theorem csX5_opens : CS mX5_opens 4 := ⟨wd828, wd61, wd829, by decide +kernel⟩
def mX5_measures : MI := (yX5_measures, cX5_measures, 5, none, { frames := 1, cells := 0, slots := 0, locals := 21 })
theorem cvX5_measures : CV mX5_measures 1 := ⟨wd803, wd35, wd61, wd804, by decide +kernel⟩
def mX5_wayOf : MI := (yX5_wayOf, cX5_wayOf, 3, (some .int), { frames := 0, cells := 0, slots := 0, locals := 0 })
theorem cvX5_wayOf : CV mX5_wayOf 2 := ⟨wd825, wd39, wd61, wd826, by decide +kernel⟩
def mX5_isOnWay : MI := (yX5_isOnWay, cX5_isOnWay, 5, (some .boolean), { frames := 1, cells := 0, slots := 0, locals := 22 })
theorem cvX5_isOnWay : CV mX5_isOnWay 4 := ⟨wd821, wd38, wd61, wd822, by decide +kernel⟩
def mX5_doorOf : MI := (yX5_doorOf, cX5_doorOf, 7, (some .int), { frames := 3, cells := 0, slots := 0, locals := 69 })
theorem cvX5_doorOf : CV mX5_doorOf 3 := ⟨wd817, wd37, wd61, wd818, by decide +kernel⟩
def mX5_hour : MI := (yX5_hour, cX5_hour, 4, none, { frames := 4, cells := 0, slots := 0, locals := 95 })
theorem cvX5_hour : CV mX5_hour 1 := ⟨wd810, wd36, wd61, wd811, by decide +kernel⟩
def mX5_hoursOn : MI := (yX5_hoursOn, cX5_hoursOn, 4, none, { frames := 5, cells := 0, slots := 0, locals := 118 })
theorem cvX5_hoursOn : CV mX5_hoursOn 2 := ⟨wd799, wd34, wd61, wd800, by decide +kernel⟩
def mX5_homeIn : MI := (yX5_homeIn, cX5_homeIn, 3, (some .int), { frames := 1, cells := 0, slots := 0, locals := 21 })
theorem csX5_homeIn : CS mX5_homeIn 1 := ⟨wd884, wd61, wd885, by decide +kernel⟩
def mX5_letter : MI := (yX5_letter, cX5_letter, 2, (some .int), { frames := 1, cells := 0, slots := 0, locals := 21 })
theorem cvX5_letter : CV mX5_letter 1 := ⟨wd730, wd731, wd61, wd732, by decide +kernel⟩
def mX5_here : MI := (yX5_here, cX5_here, 1, (some .int), { frames := 0, cells := 0, slots := 0, locals := 0 })
theorem cvX5_here : CV mX5_here 0 := ⟨wd747, wd27, wd61, wd748, by decide +kernel⟩
def mX5_readsNumber : MI := (yX5_readsNumber, cX5_readsNumber, 4, (some .boolean), { frames := 1, cells := 0, slots := 0, locals := 22 })
theorem cvX5_readsNumber : CV mX5_readsNumber 2 := ⟨wd758, wd29, wd61, wd759, by decide +kernel⟩
def mX5_kindBy : MI := (yX5_kindBy, cX5_kindBy, 1, (some .int), { frames := 0, cells := 0, slots := 0, locals := 0 })
theorem csX5_kindBy : CS mX5_kindBy 1 := ⟨wd754, wd61, wd755, by decide +kernel⟩
def mX5_readsKind : MI := (yX5_readsKind, cX5_readsKind, 1, (some .boolean), { frames := 1, cells := 0, slots := 0, locals := 20 })
theorem cvX5_readsKind : CV mX5_readsKind 0 := ⟨wd751, wd28, wd61, wd752, by decide +kernel⟩
def mX5_readsStatement : MI := (yX5_readsStatement, cX5_readsStatement, 3, (some .boolean), { frames := 2, cells := 0, slots := 0, locals := 45 })
theorem cvX5_readsStatement : CV mX5_readsStatement 0 := ⟨wd743, wd26, wd61, wd744, by decide +kernel⟩
def mX5_addsDoor : MI := (yX5_addsDoor, cX5_addsDoor, 2, (some .boolean), { frames := 2, cells := 0, slots := 0, locals := 42 })
theorem cvX5_addsDoor : CV mX5_addsDoor 0 := ⟨wd772, wd31, wd61, wd773, by decide +kernel⟩
def mX5_adds : MI := (yX5_adds, cX5_adds, 5, none, { frames := 1, cells := 0, slots := 0, locals := 21 })
theorem csX5_adds : CS mX5_adds 4 := ⟨wd781, wd61, wd782, by decide +kernel⟩
def mX5_turnsIn : MI := (yX5_turnsIn, cX5_turnsIn, 3, none, { frames := 1, cells := 0, slots := 0, locals := 21 })
theorem csX5_turnsIn : CS mX5_turnsIn 2 := ⟨wd795, wd61, wd796, by decide +kernel⟩
def mX5_isDone : MI := (yX5_isDone, cX5_isDone, 4, (some .boolean), { frames := 6, cells := 0, slots := 0, locals := 141 })
theorem cvX5_isDone : CV mX5_isDone 1 := ⟨wd768, wd30, wd61, wd769, by decide +kernel⟩
def mX5_town : MI := (yX5_town, cX5_town, 6, (some .int), { frames := 7, cells := 0, slots := 0, locals := 164 })
theorem cvX5_town : CV mX5_town 0 := ⟨wd738, wd739, wd61, wd740, by decide +kernel⟩
def mX5_door : MI := (yX5_door, cX5_door, 3, (some .int), { frames := 2, cells := 0, slots := 0, locals := 43 })
theorem cvX5_door : CV mX5_door 2 := ⟨wd837, wd838, wd61, wd839, by decide +kernel⟩
def mX5_person : MI := (yX5_person, cX5_person, 3, (some .int), { frames := 4, cells := 0, slots := 0, locals := 95 })
theorem cvX5_person : CV mX5_person 2 := ⟨wd841, wd842, wd61, wd843, by decide +kernel⟩
def mX5_wedges : MI := (yX5_wedges, cX5_wedges, 2, (some .int), { frames := 2, cells := 0, slots := 0, locals := 43 })
theorem cvX5_wedges : CV mX5_wedges 1 := ⟨wd845, wd846, wd61, wd847, by decide +kernel⟩
def mX5_turns : MI := (yX5_turns, cX5_turns, 2, (some .int), { frames := 2, cells := 0, slots := 0, locals := 43 })
theorem cvX5_turns : CV mX5_turns 1 := ⟨wd849, wd850, wd61, wd851, by decide +kernel⟩
def mX5_areWrong : MI := (yX5_areWrong, cX5_areWrong, 3, (some .boolean), { frames := 2, cells := 0, slots := 0, locals := 43 })
theorem cvX5_areWrong : CV mX5_areWrong 2 := ⟨wd862, wd41, wd61, wd863, by decide +kernel⟩
def mX5_sets : MI := (yX5_sets, cX5_sets, 5, (some .int), { frames := 3, cells := 0, slots := 0, locals := 65 })
theorem cvX5_sets : CV mX5_sets 3 := ⟨wd858, wd40, wd61, wd859, by decide +kernel⟩
def mX5_stands : MI := (yX5_stands, cX5_stands, 3, (some .int), { frames := 4, cells := 0, slots := 0, locals := 89 })
theorem cvX5_stands : CV mX5_stands 2 := ⟨wd853, wd854, wd61, wd855, by decide +kernel⟩
def mX5_wants : MI := (yX5_wants, cX5_wants, 3, (some .int), { frames := 4, cells := 0, slots := 0, locals := 89 })
theorem cvX5_wants : CV mX5_wants 2 := ⟨wd865, wd866, wd61, wd867, by decide +kernel⟩
def mX5_wrongBy : MI := (yX5_wrongBy, cX5_wrongBy, 3, (some .int), { frames := 0, cells := 0, slots := 0, locals := 0 })
theorem csX5_wrongBy : CS mX5_wrongBy 3 := ⟨wd873, wd61, wd874, by decide +kernel⟩
def mX5_moods : MI := (yX5_moods, cX5_moods, 5, (some .int), { frames := 2, cells := 0, slots := 0, locals := 43 })
theorem cvX5_moods : CV mX5_moods 2 := ⟨wd869, wd870, wd61, wd871, by decide +kernel⟩
def mX5_changes : MI := (yX5_changes, cX5_changes, 6, (some .int), { frames := 2, cells := 0, slots := 0, locals := 43 })
theorem cvX5_changes : CV mX5_changes 3 := ⟨wd876, wd877, wd61, wd878, by decide +kernel⟩
def mX5_hours : MI := (yX5_hours, cX5_hours, 2, (some .int), { frames := 6, cells := 0, slots := 0, locals := 141 })
theorem cvX5_hours : CV mX5_hours 1 := ⟨wd880, wd881, wd61, wd882, by decide +kernel⟩
def mX5_takes : MI := (yX5_takes, cX5_takes, 2, none, { frames := 6, cells := 0, slots := 0, locals := 141 })
theorem cvX5_takes : CV mX5_takes 1 := ⟨wd895, wd42, wd61, wd896, by decide +kernel⟩
def mX5_personThen : MI := (yX5_personThen, cX5_personThen, 5, (some .int), { frames := 7, cells := 0, slots := 0, locals := 162 })
theorem cvX5_personThen : CV mX5_personThen 3 := ⟨wd890, wd891, wd61, wd892, by decide +kernel⟩
def mX5_letThen : MI := (yX5_letThen, cX5_letThen, 3, (some .int), { frames := 7, cells := 0, slots := 0, locals := 162 })
theorem cvX5_letThen : CV mX5_letThen 1 := ⟨wd898, wd899, wd61, wd900, by decide +kernel⟩
def mX5_comesTo : MI := (yX5_comesTo, cX5_comesTo, 4, (some .int), { frames := 7, cells := 0, slots := 0, locals := 162 })
theorem cvX5_comesTo : CV mX5_comesTo 2 := ⟨wd907, wd43, wd61, wd908, by decide +kernel⟩
def mX5_comes : MI := (yX5_comes, cX5_comes, 3, (some .int), { frames := 8, cells := 0, slots := 0, locals := 185 })
theorem cvX5_comes : CV mX5_comes 2 := ⟨wd902, wd903, wd61, wd904, by decide +kernel⟩
def mX5_allHome : MI := (yX5_allHome, cX5_allHome, 2, (some .int), { frames := 7, cells := 0, slots := 0, locals := 162 })
theorem cvX5_allHome : CV mX5_allHome 0 := ⟨wd915, wd44, wd61, wd916, by decide +kernel⟩
def mX5_home : MI := (yX5_home, cX5_home, 2, (some .int), { frames := 8, cells := 0, slots := 0, locals := 185 })
theorem cvX5_home : CV mX5_home 1 := ⟨wd910, wd911, wd61, wd912, by decide +kernel⟩
def mX5_shutIn : MI := (yX5_shutIn, cX5_shutIn, 3, (some .int), { frames := 2, cells := 0, slots := 0, locals := 45 })
theorem cvX5_shutIn : CV mX5_shutIn 0 := ⟨wd918, wd919, wd61, wd920, by decide +kernel⟩
def mX5_isStill : MI := (yX5_isStill, cX5_isStill, 5, (some .boolean), { frames := 7, cells := 0, slots := 0, locals := 162 })
theorem cvX5_isStill : CV mX5_isStill 1 := ⟨wd927, wd45, wd61, wd928, by decide +kernel⟩
def mX5_whereIn : MI := (yX5_whereIn, cX5_whereIn, 3, (some .int), { frames := 1, cells := 0, slots := 0, locals := 21 })
theorem csX5_whereIn : CS mX5_whereIn 1 := ⟨wd930, wd61, wd931, by decide +kernel⟩
def mX5_stuck : MI := (yX5_stuck, cX5_stuck, 2, (some .int), { frames := 8, cells := 0, slots := 0, locals := 186 })
theorem cvX5_stuck : CV mX5_stuck 0 := ⟨wd922, wd923, wd61, wd924, by decide +kernel⟩
def mX5_way : MI := (yX5_way, cX5_way, 5, (some .int), { frames := 2, cells := 0, slots := 0, locals := 46 })
theorem cvX5_way : CV mX5_way 3 := ⟨wd933, wd934, wd61, wd935, by decide +kernel⟩
def mX5_round : MI := (yX5_round, cX5_round, 4, (some .int), { frames := 2, cells := 0, slots := 0, locals := 45 })
theorem cvX5_round : CV mX5_round 1 := ⟨wd937, wd938, wd61, wd939, by decide +kernel⟩
def mX5_reach : MI := (yX5_reach, cX5_reach, 4, (some .int), { frames := 2, cells := 0, slots := 0, locals := 45 })
theorem cvX5_reach : CV mX5_reach 1 := ⟨wd941, wd942, wd61, wd943, by decide +kernel⟩
def mX5_open : MI := (yX5_open, cX5_open, 3, (some .int), { frames := 3, cells := 0, slots := 0, locals := 69 })
theorem cvX5_open : CV mX5_open 0 := ⟨wd945, wd946, wd61, wd947, by decide +kernel⟩
def mX5_helper : MI := (yX5_helper, cX5_helper, 8, (some .int), { frames := 6, cells := 0, slots := 0, locals := 141 })
theorem cvX5_helper : CV mX5_helper 2 := ⟨wd949, wd950, wd61, wd951, by decide +kernel⟩
def mX5_fewest : MI := (yX5_fewest, cX5_fewest, 7, (some .int), { frames := 6, cells := 0, slots := 0, locals := 141 })
theorem cvX5_fewest : CV mX5_fewest 2 := ⟨wd953, wd954, wd61, wd955, by decide +kernel⟩
def mX5_bestDoor : MI := (yX5_bestDoor, cX5_bestDoor, 6, (some .int), { frames := 7, cells := 0, slots := 0, locals := 162 })
theorem cvX5_bestDoor : CV mX5_bestDoor 2 := ⟨wd962, wd46, wd61, wd963, by decide +kernel⟩
def mX5_turn : MI := (yX5_turn, cX5_turn, 3, (some .int), { frames := 8, cells := 0, slots := 0, locals := 187 })
theorem cvX5_turn : CV mX5_turn 1 := ⟨wd957, wd958, wd61, wd959, by decide +kernel⟩
def mX5_wedge : MI := (yX5_wedge, cX5_wedge, 3, (some .int), { frames := 8, cells := 0, slots := 0, locals := 187 })
theorem cvX5_wedge : CV mX5_wedge 1 := ⟨wd965, wd966, wd61, wd967, by decide +kernel⟩
def mX5_holds : MI := (yX5_holds, cX5_holds, 8, (some .int), { frames := 6, cells := 0, slots := 0, locals := 141 })
theorem cvX5_holds : CV mX5_holds 2 := ⟨wd969, wd970, wd61, wd971, by decide +kernel⟩
def mX5_manyIn : MI := (yX5_manyIn, cX5_manyIn, 4, (some .int), { frames := 1, cells := 0, slots := 0, locals := 21 })
theorem cvX5_manyIn : CV mX5_manyIn 1 := ⟨wd979, wd47, wd61, wd980, by decide +kernel⟩
def mX5_doorsBy : MI := (yX5_doorsBy, cX5_doorsBy, 5, (some .int), { frames := 1, cells := 0, slots := 0, locals := 21 })
theorem cvX5_doorsBy : CV mX5_doorsBy 2 := ⟨wd983, wd48, wd61, wd984, by decide +kernel⟩
def mX5_crowd : MI := (yX5_crowd, cX5_crowd, 5, (some .int), { frames := 2, cells := 0, slots := 0, locals := 45 })
theorem cvX5_crowd : CV mX5_crowd 1 := ⟨wd974, wd975, wd61, wd976, by decide +kernel⟩
def mX5_handles : MI := (yX5_handles, cX5_handles, 2, (some .int), { frames := 2, cells := 0, slots := 0, locals := 45 })
theorem cvX5_handles : CV mX5_handles 1 := ⟨wd986, wd987, wd61, wd988, by decide +kernel⟩
def mX5_meet : MI := (yX5_meet, cX5_meet, 7, (some .int), { frames := 2, cells := 0, slots := 0, locals := 45 })
theorem cvX5_meet : CV mX5_meet 1 := ⟨wd990, wd991, wd61, wd992, by decide +kernel⟩
def mX5_hasBy : MI := (yX5_hasBy, cX5_hasBy, 7, (some .int), { frames := 6, cells := 0, slots := 0, locals := 141 })
theorem cvX5_hasBy : CV mX5_hasBy 6 := ⟨wd999, wd49, wd61, wd1000, by decide +kernel⟩
def mX5_two : MI := (yX5_two, cX5_two, 8, (some .int), { frames := 7, cells := 0, slots := 0, locals := 167 })
theorem cvX5_two : CV mX5_two 3 := ⟨wd994, wd995, wd61, wd996, by decide +kernel⟩
def mX5_gcd : MI := (yX5_gcd, cX5_gcd, 10, (some .long), { frames := 0, cells := 0, slots := 0, locals := 0 })
theorem csX5_gcd : CS mX5_gcd 2 := ⟨wd1018, wd61, wd1019, by decide +kernel⟩
def mX5_partOf : MI := (yX5_partOf, cX5_partOf, 5, (some .long), { frames := 1, cells := 0, slots := 0, locals := 29 })
theorem csX5_partOf : CS mX5_partOf 3 := ⟨wd1015, wd61, wd1016, by decide +kernel⟩
def mX5_hourBy : MI := (yX5_hourBy, cX5_hourBy, 3, none, { frames := 5, cells := 0, slots := 0, locals := 118 })
theorem cvX5_hourBy : CV mX5_hourBy 1 := ⟨wd1012, wd51, wd61, wd1013, by decide +kernel⟩
def mX5_fire : MI := (yX5_fire, cX5_fire, 14, (some .long), { frames := 7, cells := 0, slots := 0, locals := 162 })
theorem cvX5_fire : CV mX5_fire 5 := ⟨wd1002, wd1003, wd61, wd1004, by decide +kernel⟩
def mX5_allMoods : MI := (yX5_allMoods, cX5_allMoods, 3, (some .int), { frames := 1, cells := 0, slots := 0, locals := 21 })
theorem cvX5_allMoods : CV mX5_allMoods 0 := ⟨wd1026, wd52, wd61, wd1027, by decide +kernel⟩
def mX5_mean : MI := (yX5_mean, cX5_mean, 2, (some .long), { frames := 2, cells := 0, slots := 0, locals := 53 })
theorem cvX5_mean : CV mX5_mean 1 := ⟨wd1021, wd1022, wd61, wd1023, by decide +kernel⟩
def mX5_whatIs : MI := (yX5_whatIs, cX5_whatIs, 8, (some .int), { frames := 7, cells := 0, slots := 0, locals := 162 })
theorem cvX5_whatIs : CV mX5_whatIs 3 := ⟨wd1029, wd1030, wd61, wd1031, by decide +kernel⟩
def mX5_row : MI := (yX5_row, cX5_row, 3, (some .int), { frames := 1, cells := 0, slots := 0, locals := 22 })
theorem cvX5_row : CV mX5_row 1 := ⟨wd1033, wd1034, wd61, wd1035, by decide +kernel⟩
def mX5_judge : MI := (yX5_judge, cX5_judge, 3, (some .int), { frames := 2, cells := 0, slots := 0, locals := 43 })
theorem cvX5_judge : CV mX5_judge 0 := ⟨wd1037, wd1038, wd61, wd1039, by decide +kernel⟩
def mX5_clear : MI := (yX5_clear, cX5_clear, 2, (some .int), { frames := 0, cells := 0, slots := 0, locals := 0 })
theorem cvX5_clear : CV mX5_clear 0 := ⟨wd1041, wd1042, wd61, wd1043, by decide +kernel⟩
def mX5_drawn : MI := (yX5_drawn, cX5_drawn, 2, (some .int), { frames := 0, cells := 0, slots := 0, locals := 0 })
theorem cvX5_drawn : CV mX5_drawn 1 := ⟨wd1050, wd53, wd61, wd1051, by decide +kernel⟩
def mX5_lots : MI := (yX5_lots, cX5_lots, 7, (some .int), { frames := 6, cells := 0, slots := 0, locals := 141 })
theorem cvX5_lots : CV mX5_lots 3 := ⟨wd1045, wd1046, wd61, wd1047, by decide +kernel⟩
def mX5_image : MI := (yX5_image, cX5_image, 1, (some .int), { frames := 1, cells := 0, slots := 0, locals := 22 })
theorem cvX5_image : CV mX5_image 0 := ⟨wd1056, wd1057, wd61, wd1058, by decide +kernel⟩
def mX5_on : MI := (yX5_on, cX5_on, 1, (some .int), { frames := 1, cells := 0, slots := 0, locals := 22 })
theorem cvX5_on : CV mX5_on 0 := ⟨wd1060, wd1061, wd61, wd1062, by decide +kernel⟩
def mX5_count : MI := (yX5_count, cX5_count, 2, (some .int), { frames := 2, cells := 0, slots := 0, locals := 43 })
theorem cvX5_count : CV mX5_count 1 := ⟨wd1064, wd1065, wd61, wd1066, by decide +kernel⟩
def mJ6_bitCount_0f7a4 : MI := (yJ6_bitCount_0f7a4, cJ6_bitCount_0f7a4, 1, (some .int), { frames := 0, cells := 0, slots := 0, locals := 0 })
theorem csJ6_bitCount_0f7a4 : CS mJ6_bitCount_0f7a4 1 := ⟨wd434, wd63, wd435, by decide +kernel⟩
