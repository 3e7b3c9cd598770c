import java.util.Arrays;

/**
 * A house for a robot cell: it checks what is asked, keeps the book of what was carried out, and
 * leads the cell through its ticks. What the cell is made of stands in the classes inside.
 */
public final class RobotCellHouse {
    public static final int BAD = -1, NO = -2, FULL = -3;

    private static final int MOST_ARMS = 4, MOST_JOINTS = 6, MOST_SOLIDS = 16, MOST_BELTS = 4;
    private static final int MOST_PARTS = 32, MOST_ZONES = 8, MOST_INPUTS = 8, PERSONS = 8;
    private static final int POINTS = 64, TASKS = 16, LOCKS = 8, MOST_NAMES = 32;
    private static final int MOST_BYTES = 4000, MOST_TICKS = 6000, MOST_EVENTS = 2000;
    private static final int MOST_ROWS = 2000, MOST_NODES = 1000, MOST_PLANS = 60;
    private static final int FARTHEST = 16000;

    private static final int TURN = 0, SLIDE = 1;
    private static final int STANDS = 0, GOES = 1, BRAKES = 2;
    private static final int OWN_MOVED = 1, OTHER_MOVED = 2;
    private static final int NONE = 0, READY = 1, MOVING = 2, WAITING = 3, UNTIL = 4;
    private static final int LOCKED = 5, ENDED = 6, FAULTED = 7;
    private static final int IN_HAND = 4, LIES = 8;

    private static final int TRIP_INPUT = 1, TRIP_TOUCH = 2, TRIP_ZONE = 3, TRIP_STOP = 4;
    private static final int NOTED = 1, TRIPPED = 2, SWITCHED_ON = 3, TASK_ENDED = 4;
    private static final int TASK_FAULTED = 5, GRIPPED = 6, DROPPED = 7, MOVE_ENDED = 8;
    private static final int MOVE_BROKEN = 9;

    private static final int ROW_START = 0, ROW_RUN = 1, ROW_SET = 2, ROW_FORCE = 3;
    private static final int ROW_CHANNEL = 4, ROW_RESET = 5, ROW_STOP = 6, ROW_ACKNOWLEDGE = 7;
    private static final int ROW_HAND = 8, ROW_AIM = 9, ROW_PLAN = 10, ROW_TRAVEL = 11;
    private static final int ROW_WIDTH = 4;

    // Instructions of a program: the lowest six bits say what to do, the others are its operand.
    private static final int OP_BITS = 6, OP_MASK = 63;
    private static final int OP_PUSH = 0, OP_LOW = 1, OP_READ = 2, OP_SIGNAL = 3, OP_JOINT = 4;
    private static final int OP_TIME = 5, OP_CAUGHT = 6, OP_POWER = 7, OP_HOLDING = 8;
    private static final int OP_NEGATE = 9, OP_NOT = 10, OP_TRUTH = 11, OP_OR = 12, OP_AND = 13;
    private static final int OP_ADD = 14, OP_SUBTRACT = 15, OP_MULTIPLY = 16, OP_DIVIDE = 17;
    private static final int OP_REST = 18, OP_EQUAL = 19, OP_UNEQUAL = 20, OP_LESS = 21;
    private static final int OP_AT_MOST = 22, OP_MORE = 23, OP_AT_LEAST = 24;
    private static final int OP_STORE = 25, OP_COLLECT = 26, OP_MOVE = 27, OP_WAIT = 28;
    private static final int OP_UNTIL = 29, OP_SET = 30, OP_TAKE = 31, OP_FREE = 32;
    private static final int OP_CALL = 33, OP_RUN = 34, OP_RAISE = 35, OP_NOTE = 36;
    private static final int OP_GRIP = 37, OP_DROP = 38, OP_WATCH = 39;
    private static final int OP_JUMP = 40, OP_UNLESS = 41, OP_RETURN = 42, OP_LAST = 43;
    private static final int OP_BREAK = 44, OP_LOOP = 45, OP_TRY = 46, OP_PART_END = 47;
    private static final int OP_FINAL_END = 48, OP_DATA = 49, OP_BEGIN = 50;

    // Sines of 0 .. 1024 4096ths of a turn, in 1048576ths: the quarter from which all others follow.
    private static final int[] SINES = {
        0, 1608, 3217, 4825, 6434, 8042, 9651, 11259, 12868, 14476, 16084, 17693,
        19301, 20909, 22517, 24125, 25733, 27341, 28949, 30557, 32165, 33773, 35380, 36988,
        38595, 40203, 41810, 43417, 45024, 46631, 48238, 49845, 51451, 53058, 54664, 56270,
        57876, 59482, 61088, 62694, 64299, 65905, 67510, 69115, 70720, 72325, 73929, 75534,
        77138, 78742, 80346, 81950, 83553, 85156, 86759, 88362, 89965, 91567, 93170, 94772,
        96374, 97975, 99576, 101178, 102778, 104379, 105979, 107580, 109179, 110779, 112378, 113978,
        115576, 117175, 118773, 120371, 121969, 123566, 125163, 126760, 128357, 129953, 131549, 133145,
        134740, 136335, 137930, 139524, 141118, 142712, 144305, 145898, 147491, 149083, 150675, 152267,
        153858, 155449, 157039, 158630, 160219, 161809, 163398, 164987, 166575, 168163, 169750, 171337,
        172924, 174510, 176096, 177682, 179267, 180851, 182435, 184019, 185602, 187185, 188768, 190350,
        191931, 193512, 195093, 196673, 198253, 199832, 201411, 202989, 204567, 206144, 207721, 209298,
        210873, 212449, 214024, 215598, 217172, 218745, 220318, 221891, 223462, 225034, 226604, 228175,
        229744, 231313, 232882, 234450, 236018, 237585, 239151, 240717, 242282, 243847, 245411, 246974,
        248537, 250100, 251661, 253223, 254783, 256343, 257903, 259461, 261020, 262577, 264134, 265690,
        267246, 268801, 270356, 271909, 273462, 275015, 276567, 278118, 279669, 281218, 282768, 284316,
        285864, 287411, 288958, 290504, 292049, 293594, 295137, 296680, 298223, 299765, 301306, 302846,
        304386, 305924, 307463, 309000, 310537, 312073, 313608, 315142, 316676, 318209, 319741, 321273,
        322804, 324334, 325863, 327391, 328919, 330446, 331972, 333498, 335022, 336546, 338069, 339591,
        341113, 342633, 344153, 345672, 347190, 348707, 350224, 351740, 353255, 354769, 356282, 357794,
        359306, 360816, 362326, 363835, 365343, 366851, 368357, 369863, 371367, 372871, 374374, 375876,
        377377, 378878, 380377, 381875, 383373, 384870, 386365, 387860, 389354, 390847, 392339, 393831,
        395321, 396810, 398299, 399786, 401273, 402758, 404243, 405727, 407209, 408691, 410172, 411652,
        413131, 414609, 416085, 417561, 419036, 420510, 421983, 423455, 424926, 426396, 427865, 429333,
        430800, 432266, 433731, 435195, 436658, 438120, 439581, 441041, 442499, 443957, 445414, 446869,
        448324, 449778, 451230, 452681, 454132, 455581, 457029, 458476, 459922, 461367, 462811, 464254,
        465696, 467136, 468576, 470014, 471452, 472888, 474323, 475757, 477190, 478621, 480052, 481482,
        482910, 484337, 485763, 487188, 488612, 490034, 491456, 492876, 494295, 495713, 497130, 498546,
        499960, 501374, 502786, 504197, 505606, 507015, 508422, 509828, 511233, 512637, 514040, 515441,
        516841, 518240, 519638, 521034, 522430, 523824, 525216, 526608, 527998, 529387, 530775, 532162,
        533547, 534931, 536314, 537696, 539076, 540455, 541833, 543209, 544584, 545958, 547331, 548702,
        550072, 551441, 552808, 554175, 555539, 556903, 558265, 559626, 560986, 562344, 563701, 565057,
        566411, 567764, 569115, 570466, 571815, 573162, 574509, 575853, 577197, 578539, 579880, 581220,
        582558, 583894, 585230, 586564, 587896, 589227, 590557, 591886, 593213, 594538, 595863, 597186,
        598507, 599827, 601146, 602463, 603779, 605093, 606406, 607717, 609028, 610336, 611643, 612949,
        614254, 615556, 616858, 618158, 619456, 620754, 622049, 623343, 624636, 625927, 627217, 628505,
        629792, 631077, 632361, 633643, 634924, 636204, 637482, 638758, 640033, 641306, 642578, 643848,
        645117, 646384, 647650, 648914, 650177, 651438, 652698, 653956, 655213, 656468, 657721, 658973,
        660224, 661472, 662720, 663965, 665210, 666452, 667693, 668933, 670171, 671407, 672642, 673875,
        675106, 676336, 677565, 678791, 680017, 681240, 682462, 683683, 684901, 686119, 687334, 688548,
        689760, 690971, 692180, 693387, 694593, 695797, 697000, 698201, 699400, 700598, 701794, 702988,
        704181, 705372, 706561, 707749, 708935, 710119, 711302, 712483, 713662, 714840, 716015, 717190,
        718362, 719533, 720702, 721870, 723036, 724200, 725362, 726523, 727682, 728839, 729995, 731148,
        732301, 733451, 734600, 735747, 736892, 738035, 739177, 740317, 741455, 742592, 743726, 744859,
        745991, 747120, 748248, 749374, 750498, 751621, 752741, 753860, 754977, 756093, 757206, 758318,
        759428, 760536, 761643, 762747, 763850, 764951, 766051, 767148, 768244, 769338, 770430, 771520,
        772608, 773695, 774780, 775862, 776944, 778023, 779100, 780176, 781250, 782322, 783392, 784460,
        785526, 786591, 787654, 788715, 789774, 790831, 791886, 792939, 793991, 795041, 796089, 797134,
        798179, 799221, 800261, 801299, 802336, 803371, 804403, 805434, 806463, 807490, 808516, 809539,
        810560, 811580, 812597, 813613, 814627, 815638, 816648, 817656, 818662, 819666, 820669, 821669,
        822667, 823664, 824658, 825651, 826641, 827630, 828616, 829601, 830584, 831565, 832544, 833521,
        834495, 835468, 836439, 837409, 838376, 839341, 840304, 841265, 842224, 843181, 844137, 845090,
        846041, 846990, 847937, 848883, 849826, 850767, 851706, 852644, 853579, 854512, 855443, 856373,
        857300, 858225, 859148, 860069, 860988, 861905, 862821, 863734, 864645, 865554, 866460, 867365,
        868268, 869169, 870068, 870964, 871859, 872752, 873642, 874531, 875417, 876302, 877184, 878064,
        878942, 879818, 880692, 881564, 882434, 883302, 884168, 885032, 885893, 886753, 887610, 888465,
        889319, 890170, 891019, 891866, 892711, 893553, 894394, 895233, 896069, 896903, 897736, 898566,
        899394, 900220, 901043, 901865, 902684, 903502, 904317, 905130, 905941, 906750, 907557, 908361,
        909164, 909964, 910762, 911558, 912352, 913144, 913934, 914721, 915506, 916290, 917071, 917849,
        918626, 919401, 920173, 920943, 921711, 922477, 923241, 924002, 924761, 925519, 926274, 927026,
        927777, 928525, 929272, 930016, 930758, 931497, 932235, 932970, 933703, 934434, 935163, 935889,
        936614, 937336, 938056, 938773, 939489, 940202, 940913, 941622, 942328, 943033, 943735, 944435,
        945133, 945828, 946522, 947213, 947901, 948588, 949272, 949955, 950634, 951312, 951988, 952661,
        953332, 954000, 954667, 955331, 955993, 956653, 957310, 957965, 958618, 959269, 959918, 960564,
        961208, 961849, 962489, 963126, 963761, 964393, 965024, 965652, 966278, 966901, 967522, 968141,
        968758, 969372, 969984, 970594, 971202, 971807, 972410, 973011, 973609, 974205, 974799, 975391,
        975980, 976567, 977151, 977734, 978314, 978892, 979467, 980040, 980611, 981180, 981746, 982310,
        982871, 983430, 983987, 984542, 985094, 985644, 986192, 986737, 987281, 987821, 988360, 988896,
        989429, 989961, 990490, 991017, 991541, 992063, 992583, 993100, 993616, 994128, 994639, 995147,
        995652, 996156, 996657, 997156, 997652, 998146, 998638, 999127, 999614, 1000098, 1000581, 1001061,
        1001538, 1002013, 1002486, 1002957, 1003425, 1003890, 1004354, 1004815, 1005273, 1005730, 1006184, 1006635,
        1007084, 1007531, 1007976, 1008418, 1008857, 1009295, 1009730, 1010162, 1010592, 1011020, 1011446, 1011869,
        1012289, 1012708, 1013124, 1013537, 1013948, 1014357, 1014763, 1015167, 1015569, 1015968, 1016365, 1016759,
        1017151, 1017541, 1017928, 1018313, 1018696, 1019076, 1019453, 1019829, 1020201, 1020572, 1020940, 1021306,
        1021669, 1022030, 1022388, 1022744, 1023098, 1023449, 1023798, 1024144, 1024488, 1024830, 1025169, 1025506,
        1025840, 1026172, 1026502, 1026829, 1027153, 1027476, 1027795, 1028113, 1028428, 1028740, 1029051, 1029358,
        1029664, 1029967, 1030267, 1030565, 1030861, 1031154, 1031445, 1031733, 1032019, 1032303, 1032584, 1032862,
        1033138, 1033412, 1033684, 1033953, 1034219, 1034483, 1034745, 1035004, 1035261, 1035515, 1035767, 1036016,
        1036263, 1036508, 1036750, 1036990, 1037227, 1037462, 1037694, 1037924, 1038151, 1038376, 1038599, 1038819,
        1039037, 1039252, 1039465, 1039675, 1039883, 1040089, 1040292, 1040492, 1040690, 1040886, 1041079, 1041270,
        1041458, 1041644, 1041828, 1042008, 1042187, 1042363, 1042537, 1042708, 1042877, 1043043, 1043207, 1043368,
        1043527, 1043683, 1043837, 1043989, 1044138, 1044284, 1044429, 1044570, 1044709, 1044846, 1044981, 1045112,
        1045242, 1045369, 1045493, 1045615, 1045735, 1045852, 1045967, 1046079, 1046188, 1046296, 1046401, 1046503,
        1046603, 1046700, 1046795, 1046888, 1046978, 1047065, 1047150, 1047233, 1047313, 1047391, 1047466, 1047539,
        1047609, 1047677, 1047742, 1047805, 1047865, 1047923, 1047979, 1048032, 1048083, 1048131, 1048176, 1048219,
        1048260, 1048298, 1048334, 1048368, 1048398, 1048427, 1048453, 1048476, 1048497, 1048516, 1048532, 1048545,
        1048556, 1048565, 1048571, 1048575, 1048576
    };

    private final Reader reader = new Reader();
    private final Doer doer = new Doer();
    private final Arm[] arms = doer.arms;
    private final Points points = doer.points;
    private final Floor floor = doer.floor;
    private final Core core = doer.core;
    private final Shapes shapes = new Shapes();
    private final Planner planner = new Planner();
    private final int[] aims = new int[MOST_JOINTS];
    private final int[] book = new int[MOST_ROWS * ROW_WIDTH];
    private final int[] never = new int[4];
    private int armCount;
    private int rows;
    private boolean isOpen;
    // Off while the book is carried out again: what it does was counted when it was done first.
    private boolean counting = true;

    public RobotCellHouse() {
        clear();
    }

    public int feed(int a, int b, int c, int d, int e) {
        if (reader.length > MOST_BYTES - 20) return FULL;
        reader.append(a);
        reader.append(b);
        reader.append(c);
        reader.append(d);
        reader.append(e);
        return reader.length;
    }

    public int cut(int n) {
        if (!within(n, 0, reader.length)) return BAD;
        reader.length -= n;
        return reader.length;
    }

    public int build() {
        int ticks = core.time;
        clear();
        return ticks;
    }

    public int arm(int x, int y, int direction, int reach) {
        if (!within(x, -8000, 8000) || !within(y, -8000, 8000)) return BAD;
        if (!within(direction, 0, 4095) || !within(reach, 0, 800)) return BAD;
        if (isOpen) return NO;
        if (armCount >= MOST_ARMS) return FULL;
        arms[armCount].make(x, y, direction, reach);
        armCount++;
        return armCount - 1;
    }

    public int joint(int arm, int kind, int low, int high, int length) {
        if (!isArm(arm) || !within(kind, TURN, SLIDE)) return BAD;
        int widest = kind == TURN ? 100000 : 8000;
        if (!within(low, -widest, 0) || !within(high, 0, widest)) return BAD;
        if (!within(length, 0, 8000)) return BAD;
        if (kind == SLIDE && length + low < 0) return BAD;
        int more = kind == SLIDE ? length + high : length;
        if (arms[arm].longest() + more > 8000) return BAD;
        if (isOpen) return NO;
        if (arms[arm].joints >= MOST_JOINTS) return FULL;
        return arms[arm].addJoint(kind, low, high, length);
    }

    public int pace(int arm, int joint, int speed, int gain) {
        if (!isJoint(arm, joint)) return BAD;
        if (!within(speed, 1, 2000) || !within(gain, 1, 2000)) return BAD;
        if (isOpen) return NO;
        arms[arm].joint[joint].speed = speed;
        arms[arm].joint[joint].gain = gain;
        return 0;
    }

    public int radius(int arm, int joint, int r) {
        if (!isJoint(arm, joint) || !within(r, 0, 800)) return BAD;
        if (isOpen) return NO;
        int old = arms[arm].joint[joint].radius;
        arms[arm].joint[joint].radius = r;
        return old;
    }

    public int ball(int x, int y, int r) {
        if (!isPlace(x, y) || !within(r, 0, 8000)) return BAD;
        if (isOpen) return NO;
        return shapes.addSolid(x, y, 0, 0, r);
    }

    public int box(int x, int y, int w, int h) {
        if (!isBox(x, y, w, h)) return BAD;
        if (isOpen) return NO;
        return shapes.addSolid(x, y, w, h, Shapes.BOX);
    }

    public int spare(int arm, int j, int solid) {
        if (!isArm(arm) || !within(j, 0, MOST_JOINTS)) return BAD;
        if (!within(solid, 0, shapes.solids - 1)) return BAD;
        if (isOpen) return NO;
        if (arms[arm].spares(j, solid)) return 0;
        arms[arm].spared[j] |= 1 << solid;
        return 1;
    }

    public int belt(int x, int y, int quarter, int length, int width) {
        if (!isPlace(x, y) || !within(quarter, 0, 3)) return BAD;
        if (!within(length, 0, 16000) || !within(width, 0, 2000)) return BAD;
        if (!isPlace(x + length * Floor.along(quarter), y + length * Floor.up(quarter))) return BAD;
        if (isOpen) return NO;
        if (floor.belts >= MOST_BELTS) return FULL;
        return floor.addBelt(x, y, quarter, length, width);
    }

    public int drive(int belt, int speed) {
        if (!isBelt(belt) || !within(speed, 0, 100)) return BAD;
        if (isOpen) return NO;
        int old = floor.speed[belt];
        floor.speed[belt] = speed;
        return old;
    }

    public int sensor(int belt, int point, int from, int to) {
        if (!isBelt(belt) || !isPoint(point) || from < 0 || to < from) return BAD;
        if (isOpen) return NO;
        floor.point[belt] = point;
        floor.from[belt] = from;
        floor.to[belt] = to;
        return 0;
    }

    public int part(int belt, int s, int r) {
        if (!isBelt(belt) || !within(s, 0, floor.length[belt]) || !within(r, 0, 800)) return BAD;
        if (isOpen) return NO;
        return floor.addPart(belt, s, 0, 0, r);
    }

    public int lay(int x, int y, int r) {
        if (!isPlace(x, y) || !within(r, 0, 800)) return BAD;
        if (isOpen) return NO;
        return floor.addPart(LIES, 0, x, y, r);
    }

    public int zone(int arm, int x, int y, int w, int h) {
        if (!isArm(arm) || !isBox(x, y, w, h)) return BAD;
        if (isOpen) return NO;
        return shapes.addZone(arm, x, y, w, h);
    }

    public int most(int zone, int most) {
        if (!within(zone, 0, shapes.zones - 1) || !within(most, -1, 32000)) return BAD;
        if (isOpen) return NO;
        int old = shapes.most[zone];
        shapes.most[zone] = most;
        return old;
    }

    public int input(int differ) {
        if (!within(differ, 0, 1000)) return BAD;
        if (isOpen) return NO;
        if (core.inputs >= MOST_INPUTS) return FULL;
        core.differ[core.inputs] = differ;
        core.inputs++;
        return core.inputs - 1;
    }

    public int person(int p, boolean may) {
        if (!within(p, 0, PERSONS - 1)) return BAD;
        if (isOpen) return NO;
        core.may[p] = may;
        return 0;
    }

    public int wire(int from, int to, boolean turned) {
        if (!isPoint(from) || !isPoint(to)) return BAD;
        if (isOpen || !points.canWire(from, to)) return NO;
        points.connect(from, to, turned);
        return 0;
    }

    public int program(int arm) {
        if (!isArm(arm)) return BAD;
        if (isOpen) return NO;
        reader.readText();
        reader.length = 0;
        if (reader.fault != 0) return -10 - reader.place;
        reader.code = arms[arm].exchange(reader.code);
        return arms[arm].code.routines;
    }

    public int fault(int what) {
        if (!within(what, 0, 1) || reader.fault < 0) return BAD;
        if (isOpen) return NO;
        return what == 0 ? reader.fault : reader.place;
    }

    public int open() {
        if (isOpen) return NO;
        isOpen = true;
        rows = 0;
        rewind();
        return armCount;
    }

    public int start(int arm, int routine) {
        if (!isArm(arm) || !within(routine, 0, arms[arm].code.routines - 1)) return BAD;
        if (!isOpen) return NO;
        if (doer.unusedTask() < 0) return FULL;
        return enter(ROW_START, arm, routine, 0);
    }

    public int run(int n) {
        if (!within(n, 1, 1000)) return BAD;
        if (!isOpen) return NO;
        int ticks = Math.min(n, MOST_TICKS - core.time);
        if (ticks <= 0 || !isBookOpen()) return FULL;
        write(ROW_RUN, ticks, 0, 0);
        for (int i = 0; i < ticks; i++) tick();
        return ticks;
    }

    public int set(int point, int v) {
        if (!isPoint(point)) return BAD;
        if (!isOpen) return NO;
        return enter(ROW_SET, point, v, 0);
    }

    public int force(int point, int v, boolean on) {
        if (!isPoint(point)) return BAD;
        if (!isOpen) return NO;
        return enter(ROW_FORCE, point, v, on ? 1 : 0);
    }

    public int channel(int input, boolean one, boolean other) {
        if (!within(input, 0, core.inputs - 1)) return BAD;
        if (!isOpen) return NO;
        return enter(ROW_CHANNEL, input, one ? 1 : 0, other ? 1 : 0);
    }

    public int reset(int person) {
        if (!within(person, 0, PERSONS - 1)) return BAD;
        if (!isOpen || !core.may[person] || core.power || !core.allConnected()) return NO;
        return enter(ROW_RESET, person, 0, 0);
    }

    public int stop(int arm) {
        if (arm != -1 && !isArm(arm)) return BAD;
        if (!isOpen || arm == -1 && !core.power) return NO;
        return enter(ROW_STOP, arm, 0, 0);
    }

    public int acknowledge(int arm) {
        if (!isArm(arm)) return BAD;
        if (!isOpen || arms[arm].faulted < 0) return NO;
        return enter(ROW_ACKNOWLEDGE, arm, 0, 0);
    }

    public int hand(int arm, int joint, int v) {
        if (!isJoint(arm, joint) || !arms[arm].joint[joint].reaches(v)) return BAD;
        if (!isOpen || core.power) return NO;
        return enter(ROW_HAND, arm, joint, v);
    }

    public int aim(int j, int v) {
        if (!within(j, 0, MOST_JOINTS - 1)) return BAD;
        if (!isOpen) return NO;
        return enter(ROW_AIM, j, v, 0);
    }

    public int plan(int arm, int wide, int margin) {
        if (!isArm(arm) || !within(wide, 1, 16) || !within(margin, 0, 2000)) return BAD;
        if (!isOpen || arms[arm].state != STANDS) return NO;
        if (!planner.layOut(arms[arm], wide, margin) || planner.plans >= MOST_PLANS) return FULL;
        int number = planner.plans;
        planner.plans++;
        int goal = planner.nodeOf(arms[arm], aims);
        if (goal < 0 || !planner.search(arms, armCount, shapes, arm, goal)) return NO;
        planner.keep(number, goal);
        return enter(ROW_PLAN, arm, number, 0);
    }

    public int travel(int arm) {
        if (!isArm(arm)) return BAD;
        if (!isOpen || !arms[arm].isFresh() || arms[arm].state != STANDS) return NO;
        if (arms[arm].faulted >= 0 || !core.power) return NO;
        return enter(ROW_TRAVEL, arm, 0, 0);
    }

    public int back(int n) {
        if (!within(n, 0, rows)) return BAD;
        if (!isOpen) return NO;
        if (n == rows) return core.time;
        rows = n;
        counting = false;
        rewind();
        for (int i = 0; i < n; i++) {
            int at = i * ROW_WIDTH;
            if (book[at] != ROW_RUN) carryOut(book[at], book[at + 1], book[at + 2], book[at + 3]);
            else for (int k = 0; k < book[at + 1]; k++) tick();
        }
        counting = true;
        return core.time;
    }

    public int time() {
        return core.time;
    }

    public int state(int arm, int what) {
        if (!isArm(arm)) return BAD;
        Arm one = arms[arm];
        switch (what) {
            case 0: return one.state;
            case 1: return one.joints;
            case 2: return one.held;
            case 3: return one.faulted;
            case 4: return one.code.routines;
            case 5: return one.way < 0 ? -1 : planner.stepsOf(one.way);
            case 6: return one.isFresh() ? 1 : 0;
            case 7: return one.at >= 0 ? 1 : 0;
            default: return BAD;
        }
    }

    public int value(int arm, int joint) {
        return isJoint(arm, joint) ? arms[arm].joint[joint].value : BAD;
    }

    public int point(int arm, int k, int axis) {
        if (!isArm(arm) || !within(k, 0, arms[arm].joints) || !within(axis, 0, 1)) return BAD;
        return axis == 0 ? arms[arm].x[k] : arms[arm].y[k];
    }

    public int step(int arm, int k) {
        if (!isArm(arm) || arms[arm].way < 0) return BAD;
        return planner.stepAt(arms[arm].way, k);
    }

    public int task(int t, int what) {
        if (!within(t, 0, TASKS - 1)) return BAD;
        Task one = doer.tasks[t];
        switch (what) {
            case 0: return one.state;
            case 1: return one.arm;
            case 2: return one.error;
            case 3: return one.frames;
            default: return BAD;
        }
    }

    public int variable(int arm, int k) {
        if (!isArm(arm) || !within(k, 0, arms[arm].code.variables - 1)) return BAD;
        return arms[arm].variable[k];
    }

    public int signal(int point, int what) {
        if (!isPoint(point)) return BAD;
        switch (what) {
            case 0: return points.value[point];
            case 1: return points.own[point];
            case 2: return points.rises[point];
            default: return BAD;
        }
    }

    public int lock(int l) {
        return within(l, 0, LOCKS - 1) ? doer.locks[l] : BAD;
    }

    public int about(int part, int what) {
        if (!within(part, 0, floor.parts - 1)) return BAD;
        int where = floor.where[part];
        Arm holder = within(where, IN_HAND, IN_HAND + MOST_ARMS - 1) ? arms[where - IN_HAND] : null;
        switch (what) {
            case 0: return where;
            case 1: return holder != null ? holder.x[holder.joints] : floor.xOf(part);
            case 2: return holder != null ? holder.y[holder.joints] : floor.yOf(part);
            case 3: return where < MOST_BELTS ? floor.way[part] : 0;
            default: return BAD;
        }
    }

    public int safety(int what) {
        switch (what) {
            case 0: return core.power ? 1 : 0;
            case 1: return core.causeKind;
            case 2: return core.causeNumber;
            case 3: return core.causeTick;
            default: return within(what, 4, 3 + core.inputs) ? core.health(what - 4) : BAD;
        }
    }

    public int events() {
        return core.events;
    }

    public int event(int i, int what) {
        if (!within(i, 0, Math.min(core.events, MOST_EVENTS) - 1) || !within(what, 0, 3)) return BAD;
        return core.log[i * Core.EVENT_WIDTH + what];
    }

    public int touches(int arm, int margin) {
        if (!isArm(arm) || !within(margin, 0, 2000)) return BAD;
        return shapes.touching(arms, armCount, arm, 0, margin) ? 1 : 0;
    }

    public int count(int what) {
        switch (what) {
            case 0: return armCount;
            case 1: return shapes.solids;
            case 2: return floor.belts;
            case 3: return floor.parts;
            case 4: return shapes.zones;
            case 5: return core.inputs;
            case 6: return rows;
            case 7: return reader.length;
            case 8: return isOpen ? 1 : 0;
            default: return BAD;
        }
    }

    public int never(int what) {
        return within(what, 0, 3) ? never[what] : BAD;
    }

    private static boolean within(int v, int low, int high) {
        return low <= v && v <= high;
    }

    private static boolean isPlace(int x, int y) {
        return within(x, -FARTHEST, FARTHEST) && within(y, -FARTHEST, FARTHEST);
    }

    // The sides are compared with what is left up to the edge: x + w could wrap around.
    private static boolean isBox(int x, int y, int w, int h) {
        return isPlace(x, y) && within(w, 0, FARTHEST - x) && within(h, 0, FARTHEST - y);
    }

    private static boolean isPoint(int point) {
        return within(point, 0, POINTS - 1);
    }

    private boolean isArm(int arm) {
        return within(arm, 0, armCount - 1);
    }

    private boolean isJoint(int arm, int joint) {
        return isArm(arm) && within(joint, 0, arms[arm].joints - 1);
    }

    private boolean isBelt(int belt) {
        return within(belt, 0, floor.belts - 1);
    }

    private static int sine(int angle) {
        int a = angle & 4095;
        if (a < 1024) return SINES[a];
        if (a < 2048) return SINES[2048 - a];
        if (a < 3072) return -SINES[a - 2048];
        return -SINES[4096 - a];
    }

    private static int cosine(int angle) {
        return sine(angle + 1024);
    }

    private void clear() {
        armCount = 0;
        rows = 0;
        isOpen = false;
        for (int a = 0; a < MOST_ARMS; a++) arms[a].make(0, 0, 0, 0);
        shapes.solids = 0;
        shapes.zones = 0;
        points.clear();
        floor.belts = 0;
        floor.parts = 0;
        core.clear();
        planner.plans = 0;
        Arrays.fill(never, 0);
        rewind();
    }

    /** All is as at open(): what was built stays, what came behind it is gone. */
    private void rewind() {
        for (int a = 0; a < MOST_ARMS; a++) arms[a].rewind();
        points.rewind();
        floor.rewind();
        core.rewind();
        doer.rewind();
        Arrays.fill(aims, 0);
    }

    private boolean isBookOpen() {
        return rows < MOST_ROWS;
    }

    private void write(int kind, int a, int b, int c) {
        int at = rows * ROW_WIDTH;
        book[at] = kind;
        book[at + 1] = a;
        book[at + 2] = b;
        book[at + 3] = c;
        rows++;
    }

    private int enter(int kind, int a, int b, int c) {
        if (!isBookOpen()) return FULL;
        write(kind, a, b, c);
        return carryOut(kind, a, b, c);
    }

    private int carryOut(int kind, int a, int b, int c) {
        switch (kind) {
            case ROW_START: return doer.begin(a, b);
            case ROW_SET: return points.give(a, b);
            case ROW_FORCE: return points.press(a, b, c != 0);
            case ROW_CHANNEL: return core.switchChannels(a, b != 0, c != 0);
            case ROW_RESET: return core.powerOn(a);
            case ROW_STOP: return halt(a);
            case ROW_ACKNOWLEDGE: return doer.excuse(a);
            case ROW_HAND: return lead(a, b, c);
            case ROW_AIM: aims[a] = b; return 0;
            case ROW_PLAN: return planner.give(arms[a], b);
            case ROW_TRAVEL: return planner.depart(arms[a]);
            default: return 0;
        }
    }

    private int halt(int arm) {
        if (arm < 0) {
            trip(TRIP_STOP, 0);
            return 0;
        }
        int old = arms[arm].state;
        doer.brake(arm);
        return old;
    }

    private int lead(int arm, int joint, int v) {
        int old = arms[arm].joint[joint].value;
        if (v != old) {
            arms[arm].joint[joint].value = v;
            arms[arm].place();
            doer.stale(arm);
        }
        return old;
    }

    private void tick() {
        core.time++;
        int ill = core.lookAtInputs();
        if (core.power && ill >= 0) trip(TRIP_INPUT, ill);
        for (int t = 0; t < TASKS; t++) {
            if (doer.hasTurn(t)) doer.turn(doer.tasks[t]);
        }
        for (int a = 0; a < armCount; a++) goOn(a);
        if (core.power) guard();
        for (int b = 0; b < floor.belts; b++) {
            floor.goOn(b);
            if (floor.point[b] >= 0) points.give(floor.point[b], floor.senses(b) ? 1 : 0);
        }
        for (int a = 0; a < armCount; a++) arms[a].keepPoints();
        if (counting) never[3] += floor.strays(arms, armCount);
    }

    private void goOn(int a) {
        Arm arm = arms[a];
        arm.keepSteps();
        if (core.power && arm.state != STANDS) {
            if (arm.goOn()) doer.stale(a);
            if (arm.state == BRAKES && arm.isStill()) arm.stand();
            else if (arm.state == GOES && arm.isThere()) endMove(a);
        }
        if (counting) never[0] += arm.breaches(core.power);
    }

    private void endMove(int a) {
        Arm arm = arms[a];
        core.add(MOVE_ENDED, a, arm.ticks);
        if (counting && arm.ticks != arm.fewestTicks() + 1) never[1]++;
        if (!planner.goFurther(arm)) arm.stand();
    }

    private void guard() {
        int first = core.apart ? -1 : firstTouching();
        if (first >= 0) {
            if (counting) countTravellers();
            trip(TRIP_TOUCH, first);
            return;
        }
        core.apart = true;
        int zone = shapes.brokenZone(arms);
        if (zone >= 0) trip(TRIP_ZONE, zone);
    }

    private int firstTouching() {
        for (int a = 0; a < armCount; a++) {
            if (shapes.touching(arms, armCount, a, a + 1, 0)) return a;
        }
        return -1;
    }

    private void countTravellers() {
        for (int a = 0; a < armCount; a++) {
            boolean safe = arms[a].at >= 0 && (arms[a].moved & OTHER_MOVED) == 0;
            if (safe && shapes.touching(arms, armCount, a, 0, 0)) never[2]++;
        }
    }

    private void trip(int kind, int number) {
        core.trip(kind, number);
        for (int a = 0; a < armCount; a++) {
            if (arms[a].state == GOES) doer.breakMove(a);
            arms[a].stand();
        }
    }

    /** A joint of an arm, with what it is doing. */
    private static final class Joint {
        int kind, low, high, length, radius, speed, gain;
        int value, step, goal;
        // Where the move began, and the step ahead of phase 4: never() looks back at these.
        int begun, before;

        boolean reaches(int v) {
            return within(v, low, high);
        }

        /** The greatest step towards the goal from which the joint can still come to rest there. */
        int goingStep() {
            int sign = goal < value ? -1 : 1;
            int distance = (goal - value) * sign;
            int least = 0;
            int greatest = Math.max(0, Math.min(speed, step * sign + gain));
            for (int i = 0; i < 12 && least < greatest; i++) {
                int middle = (least + greatest + 1) / 2;
                if (wayToRest(middle) <= distance) least = middle;
                else greatest = middle - 1;
            }
            return least * sign;
        }

        int brakingStep() {
            if (step > 0) return Math.max(0, step - gain);
            return Math.min(0, step + gain);
        }

        /** first, first - gain, first - 2 gain, .. as far as above 0, together. */
        private int wayToRest(int first) {
            if (gain < 1) return first;
            int steps = (first + gain - 1) / gain;
            return steps * first - gain * (steps * (steps - 1) / 2);
        }

        /**
         * In how few steps the goal can be reached. The fullest row of n steps rises and falls by
         * the gain: it is that of n - 1 with one more in its middle.
         */
        int fewestSteps() {
            int distance = Math.abs(goal - begun);
            int reached = 0;
            int steps = 0;
            while (reached < distance && steps < MOST_TICKS) {
                steps++;
                reached += Math.min(speed, gain * ((steps + 1) / 2));
            }
            return steps;
        }

        boolean breaks(boolean power) {
            if (!reaches(value)) return true;
            return power && (Math.abs(step) > speed || Math.abs(step - before) > gain);
        }
    }

    /** An arm: its joints and points, its move, its program and what it holds. */
    private static final class Arm {
        final Joint[] joint = new Joint[MOST_JOINTS];
        // One point more than there can be: the body of a held part ends where it begins.
        final int[] x = new int[MOST_JOINTS + 2], y = new int[MOST_JOINTS + 2];
        final int[] oldX = new int[MOST_JOINTS + 1], oldY = new int[MOST_JOINTS + 1];
        final int[] spared = new int[MOST_JOINTS + 1];
        final int[] variable = new int[MOST_NAMES];
        Code code = new Code();
        int joints, direction, reach;
        int state, ticks, owner;
        int held, heldRadius, faulted;
        // The number of the plan that made its way; the first step not yet begun (-1: no travel).
        int way, at, moved;

        Arm() {
            for (int j = 0; j < MOST_JOINTS; j++) joint[j] = new Joint();
        }

        void make(int baseX, int baseY, int towards, int grip) {
            joints = 0;
            x[0] = baseX;
            y[0] = baseY;
            direction = towards;
            reach = grip;
            Arrays.fill(spared, 0);
            code.clear();
            rewind();
        }

        int addJoint(int kind, int low, int high, int length) {
            Joint one = joint[joints];
            one.kind = kind;
            one.low = low;
            one.high = high;
            one.length = length;
            one.radius = 0;
            one.speed = 100;
            one.gain = 10;
            joints++;
            place();
            return joints - 1;
        }

        void rewind() {
            for (int j = 0; j < MOST_JOINTS; j++) {
                joint[j].value = 0;
                joint[j].goal = 0;
            }
            Arrays.fill(variable, 0);
            stand();
            held = -1;
            heldRadius = 0;
            faulted = -1;
            way = -1;
            moved = 0;
            place();
            keepPoints();
        }

        Code exchange(Code fresh) {
            Code old = code;
            code = fresh;
            return old;
        }

        int longest() {
            int sum = 0;
            for (int j = 0; j < joints; j++) {
                sum += joint[j].length + (joint[j].kind == SLIDE ? joint[j].high : 0);
            }
            return sum;
        }

        boolean spares(int body, int solid) {
            return (spared[body] >> solid & 1) != 0;
        }

        int bodies() {
            return held < 0 ? joints : joints + 1;
        }

        int bodyRadius(int body) {
            return body < joints ? joint[body].radius : heldRadius;
        }

        boolean isFresh() {
            return way >= 0 && moved == 0;
        }

        /** The points anew: summed up exactly, each rounded on its own. */
        void place() {
            long sumX = (long) x[0] << 20;
            long sumY = (long) y[0] << 20;
            int angle = direction;
            for (int j = 0; j < joints; j++) {
                int length = joint[j].length;
                if (joint[j].kind == TURN) angle += joint[j].value;
                else length += joint[j].value;
                sumX += (long) length * cosine(angle);
                sumY += (long) length * sine(angle);
                x[j + 1] = (int) (sumX + 524288 >> 20);
                y[j + 1] = (int) (sumY + 524288 >> 20);
            }
            x[joints + 1] = x[joints];
            y[joints + 1] = y[joints];
        }

        void keepPoints() {
            for (int k = 0; k <= joints; k++) {
                oldX[k] = x[k];
                oldY[k] = y[k];
            }
        }

        void keepSteps() {
            for (int j = 0; j < joints; j++) joint[j].before = joint[j].step;
        }

        void beginMove(int task) {
            state = GOES;
            ticks = 0;
            owner = task;
            for (int j = 0; j < joints; j++) joint[j].begun = joint[j].value;
        }

        /** One tick further: whether a joint got another value. */
        boolean goOn() {
            boolean changed = false;
            ticks++;
            for (int j = 0; j < joints; j++) {
                Joint one = joint[j];
                one.step = state == BRAKES ? one.brakingStep() : one.goingStep();
                one.value += one.step;
                changed = changed || one.step != 0;
            }
            if (changed) place();
            return changed;
        }

        boolean isStill() {
            for (int j = 0; j < joints; j++) {
                if (joint[j].step != 0) return false;
            }
            return true;
        }

        boolean isThere() {
            for (int j = 0; j < joints; j++) {
                if (joint[j].value != joint[j].goal) return false;
            }
            return isStill();
        }

        void stand() {
            state = STANDS;
            owner = -1;
            at = -1;
            for (int j = 0; j < MOST_JOINTS; j++) joint[j].step = 0;
        }

        int fewestTicks() {
            int most = 0;
            for (int j = 0; j < joints; j++) most = Math.max(most, joint[j].fewestSteps());
            return most;
        }

        int breaches(boolean power) {
            int sum = 0;
            for (int j = 0; j < joints; j++) {
                if (joint[j].breaks(power)) sum++;
            }
            return sum;
        }
    }

    /** Solids and zones, and what touches what. */
    private static final class Shapes {
        // In place of a ball's radius.
        static final int BOX = -1;

        int solids, zones;
        final int[] x = new int[MOST_SOLIDS], y = new int[MOST_SOLIDS];
        final int[] w = new int[MOST_SOLIDS], h = new int[MOST_SOLIDS], r = new int[MOST_SOLIDS];
        final int[] zoneArm = new int[MOST_ZONES], most = new int[MOST_ZONES];
        final int[] left = new int[MOST_ZONES], low = new int[MOST_ZONES];
        final int[] right = new int[MOST_ZONES], high = new int[MOST_ZONES];
        // The line of the body that is looked at, from a to b.
        private int ax, ay, bx, by;

        int addSolid(int atX, int atY, int wide, int tall, int radius) {
            if (solids >= MOST_SOLIDS) return FULL;
            x[solids] = atX;
            y[solids] = atY;
            w[solids] = wide;
            h[solids] = tall;
            r[solids] = radius;
            solids++;
            return solids - 1;
        }

        int addZone(int arm, int atX, int atY, int wide, int tall) {
            if (zones >= MOST_ZONES) return FULL;
            zoneArm[zones] = arm;
            left[zones] = atX;
            low[zones] = atY;
            right[zones] = atX + wide;
            high[zones] = atY + tall;
            most[zones] = -1;
            zones++;
            return zones - 1;
        }

        int brokenZone(Arm[] arms) {
            for (int z = 0; z < zones; z++) {
                Arm arm = arms[zoneArm[z]];
                for (int k = 1; k <= arm.joints; k++) {
                    if (breaksZone(z, arm, k)) return z;
                }
            }
            return -1;
        }

        private boolean breaksZone(int z, Arm arm, int k) {
            if (!within(arm.x[k], left[z], right[z]) || !within(arm.y[k], low[z], high[z])) return false;
            if (most[z] < 0) return true;
            long far = square(arm.x[k] - arm.oldX[k], arm.y[k] - arm.oldY[k]);
            return far > (long) most[z] * most[z];
        }

        /** Whether a pair touches of a body of an arm with one of it, a solid, an arm from `others` on. */
        boolean touching(Arm[] arms, int count, int a, int others, int margin) {
            Arm arm = arms[a];
            int bodies = arm.bodies();
            for (int i = 0; i < bodies; i++) {
                ax = arm.x[i];
                ay = arm.y[i];
                bx = arm.x[i + 1];
                by = arm.y[i + 1];
                int reach = arm.bodyRadius(i) + margin;
                if (nearBodies(arm, i + 2, reach)) return true;
                for (int s = 0; s < solids; s++) {
                    if (!arm.spares(i, s) && nearSolid(s, reach)) return true;
                }
                for (int b = others; b < count; b++) {
                    if (b != a && nearBodies(arms[b], 0, reach)) return true;
                }
            }
            return false;
        }

        private boolean nearBodies(Arm arm, int from, int reach) {
            for (int k = from; k < arm.bodies(); k++) {
                int far = reach + arm.bodyRadius(k);
                if (nearLine(arm.x[k], arm.y[k], arm.x[k + 1], arm.y[k + 1], far)) return true;
            }
            return false;
        }

        private boolean nearSolid(int s, int reach) {
            int x1 = x[s];
            int y1 = y[s];
            if (r[s] != BOX) return nearLine(x1, y1, x1, y1, reach + r[s]);
            int x2 = x1 + w[s];
            int y2 = y1 + h[s];
            if (isBeyond(x1, y1, x2, y2, reach)) return false;
            // A line with no end in the box that comes into it crosses an edge.
            if (within(ax, x1, x2) && within(ay, y1, y2)) return true;
            return nearLine(x1, y1, x2, y1, reach) || nearLine(x1, y2, x2, y2, reach)
                    || nearLine(x1, y1, x1, y2, reach) || nearLine(x2, y1, x2, y2, reach);
        }

        /** Whether the upright boxes around the two lines are already too far from one another. */
        private boolean isBeyond(int cx, int cy, int dx, int dy, int reach) {
            return Math.max(ax, bx) + reach < Math.min(cx, dx)
                    || Math.max(cx, dx) + reach < Math.min(ax, bx)
                    || Math.max(ay, by) + reach < Math.min(cy, dy)
                    || Math.max(cy, dy) + reach < Math.min(ay, by);
        }

        /** Lines that do not cross are nearest to one another at an end of one of them. */
        private boolean nearLine(int cx, int cy, int dx, int dy, int reach) {
            if (isBeyond(cx, cy, dx, dy, reach)) return false;
            long c = side(bx - ax, by - ay, cx - ax, cy - ay);
            long d = side(bx - ax, by - ay, dx - ax, dy - ay);
            long a = side(dx - cx, dy - cy, ax - cx, ay - cy);
            long b = side(dx - cx, dy - cy, bx - cx, by - cy);
            if ((c < 0 && d > 0 || c > 0 && d < 0) && (a < 0 && b > 0 || a > 0 && b < 0)) return true;
            return nearPlace(bx - ax, by - ay, cx - ax, cy - ay, reach)
                    || nearPlace(bx - ax, by - ay, dx - ax, dy - ay, reach)
                    || nearPlace(dx - cx, dy - cy, ax - cx, ay - cy, reach)
                    || nearPlace(dx - cx, dy - cy, bx - cx, by - cy, reach);
        }

        /** Whether the place p is no farther than reach from the line that goes from 0 to d. */
        private static boolean nearPlace(int dx, int dy, int px, int py, int reach) {
            long limit = (long) reach * reach;
            long far = (long) px * px + (long) py * py;
            long along = (long) dx * px + (long) dy * py;
            if (along <= 0) return far <= limit;
            long length = (long) dx * dx + (long) dy * dy;
            if (along >= length) return far - 2 * along + length <= limit;
            long across = (long) dx * py - (long) dy * px;
            return across * across <= limit * length;
        }

        private static long side(int dx, int dy, int px, int py) {
            return (long) dx * py - (long) dy * px;
        }

        static long square(int dx, int dy) {
            return (long) dx * dx + (long) dy * dy;
        }
    }

    /** The points of signals, with their wires. */
    private static final class Points {
        final int[] own = new int[POINTS], value = new int[POINTS], rises = new int[POINTS];
        private final int[] forcedTo = new int[POINTS], source = new int[POINTS];
        private final boolean[] forced = new boolean[POINTS], turned = new boolean[POINTS];
        // Each point behind the one that its wire comes from: one pass carries a change to all.
        private final int[] order = new int[POINTS];

        void clear() {
            Arrays.fill(source, -1);
            arrange();
        }

        void rewind() {
            Arrays.fill(own, 0);
            for (int p = 0; p < POINTS; p++) forced[p] = false;
            settle();
            Arrays.fill(rises, 0);
        }

        boolean canWire(int from, int to) {
            if (source[to] >= 0) return false;
            int p = from;
            for (int i = 0; i < POINTS && p >= 0; i++) {
                if (p == to) return false;
                p = source[p];
            }
            return true;
        }

        void connect(int from, int to, boolean isTurned) {
            source[to] = from;
            turned[to] = isTurned;
            arrange();
            rewind();
        }

        int give(int p, int v) {
            int old = own[p];
            own[p] = v;
            if (reckon(p) != value[p]) settle();
            return old;
        }

        int press(int p, int v, boolean on) {
            int old = forced[p] ? 1 : 0;
            forced[p] = on;
            forcedTo[p] = v;
            if (reckon(p) != value[p]) settle();
            return old;
        }

        private void arrange() {
            int placed = 0;
            for (int p = 0; p < POINTS; p++) {
                if (source[p] < 0) {
                    order[placed] = p;
                    placed++;
                }
            }
            for (int i = 0; i < placed && placed < POINTS; i++) {
                for (int p = 0; p < POINTS; p++) {
                    if (source[p] == order[i] && placed < POINTS) {
                        order[placed] = p;
                        placed++;
                    }
                }
            }
        }

        private void settle() {
            for (int i = 0; i < POINTS; i++) {
                int p = order[i];
                int now = reckon(p);
                if (value[p] == 0 && now != 0) rises[p]++;
                value[p] = now;
            }
        }

        private int reckon(int p) {
            if (forced[p]) return forcedTo[p];
            if (source[p] < 0) return own[p];
            int v = value[source[p]];
            if (!turned[p]) return v;
            return v == 0 ? 1 : 0;
        }
    }

    /** Belts and parts. */
    private static final class Floor {
        int belts, parts;
        final int[] length = new int[MOST_BELTS], speed = new int[MOST_BELTS];
        final int[] point = new int[MOST_BELTS], from = new int[MOST_BELTS], to = new int[MOST_BELTS];
        private final int[] x = new int[MOST_BELTS], y = new int[MOST_BELTS];
        private final int[] stepX = new int[MOST_BELTS], stepY = new int[MOST_BELTS];
        private final int[] width = new int[MOST_BELTS];
        private final int[][] order = new int[MOST_BELTS][MOST_PARTS];
        private final int[] ordered = new int[MOST_BELTS];
        // A part's belt, IN_HAND and its arm, or LIES; its way on the belt; its place where it lies.
        final int[] where = new int[MOST_PARTS], way = new int[MOST_PARTS];
        final int[] radius = new int[MOST_PARTS];
        private final int[] placeX = new int[MOST_PARTS], placeY = new int[MOST_PARTS];
        // where, way and place as they were told: the book begins there.
        private final int[][] first = new int[MOST_PARTS][4];

        static int along(int quarter) {
            return quarter == 0 ? 1 : quarter == 2 ? -1 : 0;
        }

        static int up(int quarter) {
            return quarter == 1 ? 1 : quarter == 3 ? -1 : 0;
        }

        int addBelt(int atX, int atY, int towards, int longest, int wide) {
            int b = belts;
            x[b] = atX;
            y[b] = atY;
            stepX[b] = along(towards);
            stepY[b] = up(towards);
            length[b] = longest;
            width[b] = wide;
            speed[b] = 0;
            point[b] = -1;
            ordered[b] = 0;
            belts++;
            return b;
        }

        int addPart(int at, int s, int atX, int atY, int r) {
            if (parts >= MOST_PARTS) return FULL;
            int p = parts;
            first[p][0] = at;
            first[p][1] = s;
            first[p][2] = atX;
            first[p][3] = atY;
            radius[p] = r;
            parts++;
            putBack(p);
            return p;
        }

        void rewind() {
            for (int b = 0; b < belts; b++) ordered[b] = 0;
            for (int p = 0; p < parts; p++) putBack(p);
        }

        private void putBack(int p) {
            if (first[p][0] < MOST_BELTS) comeTo(first[p][0], p, first[p][1]);
            else lieAt(p, first[p][2], first[p][3]);
        }

        private void lieAt(int p, int atX, int atY) {
            where[p] = LIES;
            placeX[p] = atX;
            placeY[p] = atY;
        }

        private void comeTo(int b, int p, int s) {
            if (ordered[b] >= MOST_PARTS) return;
            int i = ordered[b];
            while (i > 0 && way[order[b][i - 1]] < s) {
                order[b][i] = order[b][i - 1];
                i--;
            }
            order[b][i] = p;
            ordered[b]++;
            where[p] = b;
            way[p] = s;
        }

        int xOf(int p) {
            int b = where[p];
            return b < MOST_BELTS ? x[b] + way[p] * stepX[b] : placeX[p];
        }

        int yOf(int p) {
            int b = where[p];
            return b < MOST_BELTS ? y[b] + way[p] * stepY[b] : placeY[p];
        }

        /** The nearest part that no arm holds, within reach of a place; -1 for none. */
        int nearest(int atX, int atY, int reach) {
            int best = -1;
            long least = (long) reach * reach;
            for (int p = 0; p < parts; p++) {
                if (where[p] >= MOST_BELTS && where[p] != LIES) continue;
                long far = Shapes.square(xOf(p) - atX, yOf(p) - atY);
                if (far < least || far == least && best < 0) {
                    best = p;
                    least = far;
                }
            }
            return best;
        }

        void gripBy(int arm, int p) {
            int b = where[p];
            where[p] = IN_HAND + arm;
            if (b >= MOST_BELTS) return;
            int kept = 0;
            for (int i = 0; i < ordered[b]; i++) {
                if (order[b][i] != p) {
                    order[b][kept] = order[b][i];
                    kept++;
                }
            }
            ordered[b] = kept;
        }

        void dropAt(int p, int atX, int atY) {
            for (int b = 0; b < belts; b++) {
                int dx = atX - x[b];
                int dy = atY - y[b];
                int s = dx * stepX[b] + dy * stepY[b];
                int across = Math.abs(dx * stepY[b] - dy * stepX[b]);
                if (within(s, 0, length[b]) && across <= width[b]) {
                    comeTo(b, p, s);
                    return;
                }
            }
            lieAt(p, atX, atY);
        }

        void goOn(int b) {
            for (int i = 0; i < ordered[b]; i++) {
                int p = order[b][i];
                int s = Math.min(way[p] + speed[b], length[b]);
                if (i > 0) {
                    int ahead = order[b][i - 1];
                    s = Math.min(s, way[ahead] - radius[ahead] - radius[p]);
                }
                way[p] = Math.max(way[p], s);
            }
        }

        boolean senses(int b) {
            for (int i = 0; i < ordered[b]; i++) {
                if (within(way[order[b][i]], from[b], to[b])) return true;
            }
            return false;
        }

        /** How many parts are in none, or more than one, of orders, hands and places. */
        int strays(Arm[] arms, int armCount) {
            int once = 0;
            int again = 0;
            for (int b = 0; b < belts; b++) {
                for (int i = 0; i < ordered[b]; i++) {
                    again |= once & 1 << order[b][i];
                    once |= 1 << order[b][i];
                }
            }
            for (int a = 0; a < armCount; a++) {
                int hand = arms[a].held < 0 ? 0 : 1 << arms[a].held;
                again |= once & hand;
                once |= hand;
            }
            int sum = 0;
            for (int p = 0; p < parts; p++) {
                int homes = (once >> p & 1) + (again >> p & 1) + (where[p] == LIES ? 1 : 0);
                if (homes != 1) sum++;
            }
            return sum;
        }
    }

    /** The safety core: it alone gives power. It has the clock, and writes down what happens. */
    private static final class Core {
        static final int EVENT_WIDTH = 4;

        int time, events, inputs;
        boolean power;
        int causeKind, causeNumber, causeTick;
        // No pair touched when pairs were looked at last, and none has moved or changed since.
        boolean apart;
        final int[] log = new int[MOST_EVENTS * EVENT_WIDTH];
        final int[] differ = new int[MOST_INPUTS];
        final boolean[] may = new boolean[PERSONS];
        private final boolean[] one = new boolean[MOST_INPUTS], other = new boolean[MOST_INPUTS];
        private final boolean[] faulty = new boolean[MOST_INPUTS];
        private final int[] differed = new int[MOST_INPUTS];

        void clear() {
            inputs = 0;
            for (int p = 0; p < PERSONS; p++) may[p] = false;
        }

        void rewind() {
            time = 0;
            events = 0;
            power = false;
            causeKind = 0;
            causeNumber = 0;
            causeTick = 0;
            apart = false;
            for (int i = 0; i < MOST_INPUTS; i++) {
                one[i] = true;
                other[i] = true;
                faulty[i] = false;
                differed[i] = 0;
            }
        }

        void add(int kind, int a, int b) {
            if (events < MOST_EVENTS) {
                int at = events * EVENT_WIDTH;
                log[at] = time;
                log[at + 1] = kind;
                log[at + 2] = a;
                log[at + 3] = b;
            }
            events++;
        }

        int switchChannels(int i, boolean first, boolean second) {
            one[i] = first;
            other[i] = second;
            return 0;
        }

        private boolean isWell(int i) {
            return one[i] && other[i] && !faulty[i];
        }

        int health(int i) {
            if (faulty[i]) return 2;
            return isWell(i) ? 1 : 0;
        }

        boolean allConnected() {
            for (int i = 0; i < inputs; i++) {
                if (!one[i] || !other[i]) return false;
            }
            return true;
        }

        /** The least input that is not well, -1 for none. */
        int lookAtInputs() {
            int ill = -1;
            for (int i = inputs - 1; i >= 0; i--) {
                differed[i] = one[i] == other[i] ? 0 : differed[i] + 1;
                if (differed[i] > differ[i]) faulty[i] = true;
                if (!isWell(i)) ill = i;
            }
            return ill;
        }

        int powerOn(int person) {
            for (int i = 0; i < inputs; i++) faulty[i] = false;
            power = true;
            add(SWITCHED_ON, person, 0);
            return 1;
        }

        void trip(int kind, int number) {
            power = false;
            causeKind = kind;
            causeNumber = number;
            causeTick = time;
            add(TRIPPED, kind, number);
        }
    }

    /** A program as instructions. Each byte of a text makes one at the most. */
    private static final class Code {
        int length, routines, variables;
        final int[] entry = new int[MOST_NAMES];
        private final int[] rows = new int[MOST_BYTES];

        void clear() {
            length = 0;
            routines = 0;
            variables = 0;
        }

        int emit(int op, int operand) {
            if (length >= MOST_BYTES) return length - 1;
            rows[length] = operand << OP_BITS | op;
            length++;
            return length - 1;
        }

        void patch(int at, int operand) {
            if (at >= 0 && at < length) rows[at] = operand << OP_BITS | rows[at] & OP_MASK;
        }

        int op(int at) {
            return at >= 0 && at < length ? rows[at] & OP_MASK : OP_LAST;
        }

        int operand(int at) {
            return at >= 0 && at < length ? rows[at] >> OP_BITS : 0;
        }
    }

    /** A task: where it is in its program, and what it waits for. */
    private static final class Task {
        static final int MOST_FRAMES = 20, MOST_TRIES = 600;
        // The parts of a try, and how its first two can be left before their end.
        static final int FIRST = 0, CATCH = 1, FINAL = 2, PART_BITS = 2, PART_MASK = 3;
        static final int BY_END = 0, BY_ERROR = 1, BY_RETURN = 2, BY_BREAK = 3;

        final int number;
        int state, arm, pc, frames, error, caught, born;
        // For how many ticks, or for which lock, it waits; since which tick, or as which one.
        int awaited, since;
        boolean broken;
        int watched, watcher, kept, watchFrame;
        private int tries;
        private final int[] returnTo = new int[MOST_FRAMES], triesBelow = new int[MOST_FRAMES];
        private final int[] tryAt = new int[MOST_TRIES], tryPart = new int[MOST_TRIES];
        private final int[] tryValue = new int[MOST_TRIES];

        Task(int number) {
            this.number = number;
        }

        void vanish() {
            begin(-1, 0, 0);
            state = NONE;
            frames = 0;
        }

        void begin(int ofArm, int at, int tick) {
            state = READY;
            arm = ofArm;
            born = tick;
            error = 0;
            caught = 0;
            broken = false;
            watched = -1;
            watchFrame = 0;
            frames = 0;
            tries = 0;
            enter(at);
        }

        void finish(int how) {
            state = how;
            frames = 0;
            tries = 0;
        }

        boolean enter(int at) {
            if (frames >= MOST_FRAMES) return false;
            returnTo[frames] = pc;
            triesBelow[frames] = tries;
            frames++;
            pc = at;
            return true;
        }

        void leaveRoutine() {
            if (frames < 1) return;
            frames--;
            tries = triesBelow[frames];
            pc = returnTo[frames];
        }

        void openTry(int at) {
            if (tries >= MOST_TRIES) return;
            tryAt[tries] = at;
            tryPart[tries] = FIRST;
            tries++;
        }

        /** The first part, or the catch, of the innermost try came to its end. */
        void endPart(Code code) {
            if (tries < 1) return;
            int head = tryAt[tries - 1];
            int last = code.operand(head + 2);
            if (last == 0) {
                tries--;
                pc = code.operand(head + 3);
            } else {
                tryPart[tries - 1] = FINAL | BY_END << PART_BITS;
                pc = last;
            }
        }

        /** The finally of the innermost try came to its end: how the parts before it were left. */
        int closeTry() {
            if (tries < 1) return BY_END;
            tries--;
            return tryPart[tries] >> PART_BITS;
        }

        /** The error, or the loop, by which the parts of the try that was closed last were left. */
        int leftBy() {
            return tries < MOST_TRIES ? tryValue[tries] : 0;
        }

        /**
         * Leaves by an error (its number), a return, or a break (the place of its loop), up to the
         * first catch or finally that is in the way; false if an error goes to no try.
         */
        boolean leave(Code code, int how, int value) {
            int outermost = how == BY_ERROR || frames < 1 ? 0 : triesBelow[frames - 1];
            if (how == BY_BREAK) outermost += code.operand(value);
            while (tries > outermost) {
                int head = tryAt[tries - 1];
                int part = tryPart[tries - 1] & PART_MASK;
                if (how == BY_ERROR && part == FIRST && code.operand(head + 1) != 0) {
                    caught = value;
                    goToPart(CATCH, code.operand(head + 1));
                    return true;
                }
                if (part != FINAL && code.operand(head + 2) != 0) {
                    tryValue[tries - 1] = value;
                    goToPart(FINAL | how << PART_BITS, code.operand(head + 2));
                    return true;
                }
                tries--;
            }
            if (how == BY_RETURN) leaveRoutine();
            if (how == BY_BREAK) pc = code.operand(value + 1);
            return how != BY_ERROR;
        }

        private void goToPart(int part, int at) {
            tryPart[tries - 1] = part;
            while (frames > 1 && triesBelow[frames - 1] >= tries) frames--;
            pc = at;
        }
    }

    /** What acts in a cell, and how tasks do their programs on it. */
    private static final class Doer {
        static final int MOST_BEGUN = 20, MOST_INSTRUCTIONS = 1000000;

        final Arm[] arms = new Arm[MOST_ARMS];
        final Points points = new Points();
        final Floor floor = new Floor();
        final Core core = new Core();
        final Task[] tasks = new Task[TASKS];
        final int[] locks = new int[LOCKS];
        // An expression has three numbers in hand at the most for each thing that is open in it.
        private final int[] stack = new int[128];
        private final int[] goals = new int[MOST_JOINTS];
        private int top, waits, raisedError;
        private boolean raised;

        Doer() {
            for (int a = 0; a < MOST_ARMS; a++) arms[a] = new Arm();
            for (int t = 0; t < TASKS; t++) tasks[t] = new Task(t);
        }

        void rewind() {
            for (int t = 0; t < TASKS; t++) tasks[t].vanish();
            Arrays.fill(locks, -1);
            waits = 0;
        }

        int unusedTask() {
            for (int t = 0; t < TASKS; t++) {
                if (tasks[t].state == NONE || tasks[t].state == ENDED) return t;
            }
            return -1;
        }

        /** A new task of an arm: its number, or -1 if there is none left. */
        int begin(int arm, int routine) {
            int t = unusedTask();
            if (t >= 0) tasks[t].begin(arm, arms[arm].code.entry[routine], core.time);
            return t;
        }

        int excuse(int arm) {
            int t = arms[arm].faulted;
            if (t < 0) return NO;
            tasks[t].state = ENDED;
            arms[arm].faulted = -1;
            return t;
        }

        /** Ways that were planned while an arm (-1: no arm, but a part) was elsewhere are stale. */
        void stale(int arm) {
            for (int a = 0; a < MOST_ARMS; a++) arms[a].moved |= a == arm ? OWN_MOVED : OTHER_MOVED;
            core.apart = false;
        }

        void brake(int arm) {
            if (arms[arm].state != GOES) return;
            breakMove(arm);
            arms[arm].state = BRAKES;
        }

        void breakMove(int arm) {
            core.add(MOVE_BROKEN, arm, 0);
            if (arms[arm].owner >= 0) tasks[arms[arm].owner].broken = true;
            arms[arm].owner = -1;
            arms[arm].at = -1;
        }

        boolean hasTurn(int t) {
            if (!within(tasks[t].state, READY, LOCKED)) return false;
            return tasks[t].born != core.time && arms[tasks[t].arm].faulted < 0;
        }

        void turn(Task t) {
            Code code = arms[t.arm].code;
            raised = false;
            top = 0;
            goOn(t);
            int begun = 0;
            for (int i = 0; i < MOST_INSTRUCTIONS && t.state == READY; i++) {
                int op = code.op(t.pc);
                int n = code.operand(t.pc);
                if (raised) {
                    leaveByError(t, code);
                } else if (op == OP_BEGIN) {
                    if (begun == MOST_BEGUN) return;
                    if (watchCalls(t, code)) continue;
                    begun++;
                    t.pc++;
                } else {
                    t.pc++;
                    if (op <= OP_HOLDING) look(t, op, n);
                    else if (op <= OP_AND) changeTop(t, op, n);
                    else if (op <= OP_AT_LEAST) combine(op, pop(), pop());
                    else if (op <= OP_WATCH) act(t, code, op, n);
                    else lead(t, code, op, n);
                }
            }
        }

        private void leaveByError(Task t, Code code) {
            raised = false;
            top = 0;
            if (!t.leave(code, Task.BY_ERROR, raisedError)) failBy(t, raisedError);
        }

        /** Looks whether a task that waits goes on. */
        private void goOn(Task t) {
            boolean goes = true;
            switch (t.state) {
                case MOVING: goes = arms[t.arm].state == STANDS; break;
                case WAITING: goes = core.time - t.since >= t.awaited; break;
                case LOCKED: goes = locks[t.awaited] == t.number; break;
                default: break;
            }
            if (!goes) return;
            t.state = READY;
            if (t.broken) raise(6);
            t.broken = false;
        }

        private void raise(int error) {
            raised = true;
            raisedError = error;
        }

        private boolean watchCalls(Task t, Code code) {
            if (t.watchFrame > t.frames) t.watchFrame = 0;
            if (t.watched < 0 || t.watchFrame > 0) return false;
            if (points.rises[t.watched] == t.kept) return false;
            t.kept = points.rises[t.watched];
            if (t.enter(code.entry[t.watcher])) t.watchFrame = t.frames;
            else raise(8);
            return true;
        }

        private void failBy(Task t, int error) {
            t.finish(FAULTED);
            t.error = error;
            core.add(TASK_FAULTED, t.number, error);
            releaseAll(t);
            brake(t.arm);
            arms[t.arm].faulted = t.number;
        }

        private void endIfLeft(Task t) {
            if (t.frames > 0) return;
            t.finish(ENDED);
            core.add(TASK_ENDED, t.number, 0);
            releaseAll(t);
        }

        private void releaseAll(Task t) {
            for (int l = 0; l < LOCKS; l++) {
                if (locks[l] == t.number) release(l);
            }
        }

        private void release(int l) {
            int next = -1;
            for (int t = 0; t < TASKS; t++) {
                if (tasks[t].state != LOCKED || tasks[t].awaited != l) continue;
                if (next < 0 || tasks[t].since < tasks[next].since) next = t;
            }
            locks[l] = next;
        }

        private void push(int v) {
            if (top >= stack.length) return;
            stack[top] = v;
            top++;
        }

        private int pop() {
            if (top < 1) return 0;
            top--;
            return stack[top];
        }

        private void look(Task t, int op, int n) {
            Arm arm = arms[t.arm];
            switch (op) {
                case OP_PUSH: push(n); break;
                case OP_LOW: push(pop() << 16 | n); break;
                case OP_READ: push(arm.variable[n]); break;
                case OP_SIGNAL: pushSignal(pop()); break;
                case OP_JOINT: pushJoint(arm, pop()); break;
                case OP_TIME: push(core.time); break;
                case OP_CAUGHT: push(t.caught); break;
                case OP_POWER: push(core.power ? 1 : 0); break;
                default: push(arm.held >= 0 ? 1 : 0); break;
            }
        }

        private void pushSignal(int p) {
            if (isPoint(p)) push(points.value[p]);
            else raise(2);
        }

        private void pushJoint(Arm arm, int j) {
            if (within(j, 0, arm.joints - 1)) push(arm.joint[j].value);
            else raise(2);
        }

        private void changeTop(Task t, int op, int n) {
            int v = pop();
            switch (op) {
                case OP_NEGATE: push(-v); break;
                case OP_NOT: push(v == 0 ? 1 : 0); break;
                case OP_TRUTH: push(v == 0 ? 0 : 1); break;
                case OP_OR:
                    if (v == 0) break;
                    push(1);
                    t.pc = n;
                    break;
                default:
                    if (v != 0) break;
                    push(0);
                    t.pc = n;
                    break;
            }
        }

        private void combine(int op, int b, int a) {
            if ((op == OP_DIVIDE || op == OP_REST) && b == 0) {
                raise(1);
                return;
            }
            switch (op) {
                case OP_ADD: push(a + b); break;
                case OP_SUBTRACT: push(a - b); break;
                case OP_MULTIPLY: push(a * b); break;
                case OP_DIVIDE: push(b == 0 ? 0 : a / b); break;
                case OP_REST: push(b == 0 ? 0 : a % b); break;
                case OP_EQUAL: push(a == b ? 1 : 0); break;
                case OP_UNEQUAL: push(a != b ? 1 : 0); break;
                case OP_LESS: push(a < b ? 1 : 0); break;
                case OP_AT_MOST: push(a <= b ? 1 : 0); break;
                case OP_MORE: push(a > b ? 1 : 0); break;
                default: push(a >= b ? 1 : 0); break;
            }
        }

        private void act(Task t, Code code, int op, int n) {
            switch (op) {
                case OP_STORE: arms[t.arm].variable[n] = pop(); break;
                case OP_COLLECT: collect(n, pop()); break;
                case OP_MOVE: moveBy(t, n); break;
                case OP_WAIT: waitFor(t, pop()); break;
                case OP_UNTIL: waitUntil(t, pop(), n); break;
                case OP_SET: setPoint(pop(), pop()); break;
                case OP_TAKE: takeLock(t, pop()); break;
                case OP_FREE: freeLock(t, pop()); break;
                case OP_CALL: if (!t.enter(code.entry[n])) raise(8); break;
                case OP_RUN: if (begin(t.arm, n) < 0) raise(10); break;
                case OP_RAISE: raise(pop()); break;
                case OP_NOTE: core.add(NOTED, t.number, pop()); break;
                case OP_GRIP: grip(t.arm); break;
                case OP_DROP: drop(t.arm); break;
                default: watch(t, pop(), n); break;
            }
        }

        private void collect(int i, int v) {
            if (i < MOST_JOINTS) goals[i] = v;
        }

        private void moveBy(Task t, int numbers) {
            Arm arm = arms[t.arm];
            if (numbers != arm.joints || !reachesGoals(arm)) {
                raise(3);
            } else if (arm.state != STANDS) {
                raise(4);
            } else if (!core.power) {
                raise(5);
            } else {
                for (int j = 0; j < arm.joints; j++) arm.joint[j].goal = goals[j];
                arm.beginMove(t.number);
                t.state = MOVING;
            }
        }

        private boolean reachesGoals(Arm arm) {
            for (int j = 0; j < arm.joints; j++) {
                if (!arm.joint[j].reaches(goals[j])) return false;
            }
            return true;
        }

        private void waitFor(Task t, int ticks) {
            if (ticks <= 0) return;
            t.state = WAITING;
            t.awaited = ticks;
            t.since = core.time;
        }

        private void waitUntil(Task t, int v, int expression) {
            if (v != 0) return;
            t.state = UNTIL;
            t.pc = expression;
        }

        private void setPoint(int v, int p) {
            if (isPoint(p)) points.give(p, v);
            else raise(2);
        }

        private void takeLock(Task t, int l) {
            if (!within(l, 0, LOCKS - 1)) {
                raise(2);
            } else if (locks[l] == t.number) {
                raise(9);
            } else if (locks[l] < 0) {
                locks[l] = t.number;
            } else {
                t.state = LOCKED;
                t.awaited = l;
                t.since = waits;
                waits++;
            }
        }

        private void freeLock(Task t, int l) {
            if (within(l, 0, LOCKS - 1) && locks[l] == t.number) release(l);
            else raise(9);
        }

        private void grip(int a) {
            Arm arm = arms[a];
            int part = -1;
            if (arm.held < 0) part = floor.nearest(arm.x[arm.joints], arm.y[arm.joints], arm.reach);
            if (part < 0) {
                raise(7);
                return;
            }
            floor.gripBy(a, part);
            arm.held = part;
            arm.heldRadius = floor.radius[part];
            core.add(GRIPPED, a, part);
            stale(-1);
        }

        private void drop(int a) {
            Arm arm = arms[a];
            int part = arm.held;
            if (part < 0) {
                raise(7);
                return;
            }
            floor.dropAt(part, arm.x[arm.joints], arm.y[arm.joints]);
            arm.held = -1;
            core.add(DROPPED, a, part);
            stale(-1);
        }

        private void watch(Task t, int p, int routine) {
            if (!within(p, -1, POINTS - 1)) {
                raise(2);
                return;
            }
            t.watched = p;
            t.watcher = routine;
            if (p >= 0) t.kept = points.rises[p];
        }

        private void lead(Task t, Code code, int op, int n) {
            switch (op) {
                case OP_JUMP: t.pc = n; break;
                case OP_UNLESS: if (pop() == 0) t.pc = n; break;
                case OP_RETURN: t.leave(code, Task.BY_RETURN, 0); break;
                case OP_LAST: t.leaveRoutine(); break;
                case OP_BREAK: t.leave(code, Task.BY_BREAK, n); break;
                case OP_TRY: t.openTry(t.pc - 1); break;
                case OP_PART_END: t.endPart(code); break;
                case OP_FINAL_END: leaveFurther(t, code, t.closeTry()); break;
                default: break;
            }
            endIfLeft(t);
        }

        private void leaveFurther(Task t, Code code, int how) {
            if (how == Task.BY_ERROR) raise(t.leftBy());
            else if (how != Task.BY_END) t.leave(code, how, t.leftBy());
        }
    }

    /** Looks for ways, and keeps the steps of each that was found. */
    private static final class Planner {
        static final int BLOCKED = -1, START = 100;

        int plans;
        private int wide, margin, origin;
        private final int[] values = new int[MOST_JOINTS], down = new int[MOST_JOINTS];
        private final int[] size = new int[MOST_JOINTS], stride = new int[MOST_JOINTS];
        private final int[] queue = new int[MOST_NODES];
        // How a node was come to first: 0 not yet, BLOCKED, START, or one more than the step.
        private final int[] came = new int[MOST_NODES];
        private final byte[] steps = new byte[MOST_PLANS * MOST_NODES];
        private final int[] lengths = new int[MOST_PLANS], widths = new int[MOST_PLANS];

        int stepsOf(int way) {
            return within(way, 0, MOST_PLANS - 1) ? lengths[way] : 0;
        }

        int stepAt(int way, int k) {
            return within(k, 0, stepsOf(way) - 1) ? steps[way * MOST_NODES + k] : BAD;
        }

        int give(Arm arm, int way) {
            arm.way = way;
            arm.moved = 0;
            return stepsOf(way);
        }

        /** Numbers the nodes of a plan: false if there are too many. */
        boolean layOut(Arm arm, int n, int room) {
            if (n < 1) return false;
            wide = n;
            margin = room;
            origin = 0;
            int nodes = 1;
            for (int j = 0; j < arm.joints; j++) {
                Joint joint = arm.joint[j];
                values[j] = joint.value;
                down[j] = (joint.value - joint.low) / n;
                size[j] = down[j] + (joint.high - joint.value) / n + 1;
                stride[j] = nodes;
                origin += down[j] * nodes;
                nodes *= size[j];
                if (nodes > MOST_NODES) return false;
            }
            return true;
        }

        /** The node that has the aims as its values, -1 for none. */
        int nodeOf(Arm arm, int[] aims) {
            int node = 0;
            for (int j = 0; j < arm.joints; j++) {
                if (!arm.joint[j].reaches(aims[j]) || wide < 1) return -1;
                int far = aims[j] - values[j];
                if (far % wide != 0) return -1;
                node += (down[j] + far / wide) * stride[j];
            }
            return node;
        }

        /**
         * Goes through the nodes by how many steps they are away and, of those, in the order of
         * their ways: so the way by which the goal is come to first is the one that is asked for.
         */
        boolean search(Arm[] arms, int count, Shapes shapes, int a, int goal) {
            Arm arm = arms[a];
            Arrays.fill(came, 0);
            if (shapes.touching(arms, count, a, 0, margin)) return false;
            came[origin] = START;
            queue[0] = origin;
            int tail = 1;
            for (int head = 0; head < tail && came[goal] == 0; head++) {
                takeValues(arm, queue[head]);
                for (int step = 0; step < 2 * arm.joints; step++) {
                    int next = neighbour(queue[head], step);
                    if (next < 0 || came[next] != 0 || tail >= MOST_NODES) continue;
                    if (!passes(arms, count, shapes, a, step, next)) continue;
                    came[next] = step + 1;
                    queue[tail] = next;
                    tail++;
                }
            }
            takeValues(arm, origin);
            arm.place();
            return came[goal] > 0;
        }

        private int digit(int node, int j) {
            if (stride[j] < 1 || size[j] < 1) return 0;
            return node / stride[j] % size[j];
        }

        private void takeValues(Arm arm, int node) {
            for (int j = 0; j < arm.joints; j++) {
                arm.joint[j].value = values[j] + (digit(node, j) - down[j]) * wide;
            }
        }

        private int neighbour(int node, int step) {
            int j = step / 2;
            int there = digit(node, j) + (step % 2 == 0 ? 1 : -1);
            if (!within(there, 0, size[j] - 1)) return -1;
            return step % 2 == 0 ? node + stride[j] : node - stride[j];
        }

        /** Whether all values of a step are free: its end first, which other steps may lead to. */
        private boolean passes(Arm[] arms, int count, Shapes shapes, int a, int step, int next) {
            Joint joint = arms[a].joint[step / 2];
            int from = joint.value;
            boolean free = true;
            for (int i = wide; i > 0 && free; i--) {
                joint.value = step % 2 == 0 ? from + i : from - i;
                arms[a].place();
                free = !shapes.touching(arms, count, a, 0, margin);
                if (!free && i == wide) came[next] = BLOCKED;
            }
            joint.value = from;
            return free;
        }

        void keep(int way, int goal) {
            int length = 0;
            for (int node = goal; came[node] != START && length < MOST_NODES; node = before(node)) {
                length++;
            }
            int node = goal;
            for (int k = length - 1; k >= 0; k--) {
                steps[way * MOST_NODES + k] = (byte) (came[node] - 1);
                node = before(node);
            }
            lengths[way] = length;
            widths[way] = wide;
        }

        private int before(int node) {
            int step = came[node] - 1;
            if (!within(step, 0, 2 * MOST_JOINTS - 1)) return node;
            return step % 2 == 0 ? node - stride[step / 2] : node + stride[step / 2];
        }

        /** An arm begins to travel its way: in how many moves. */
        int depart(Arm arm) {
            int length = stepsOf(arm.way);
            if (length == 0) return 0;
            int moves = 1;
            for (int k = 1; k < length; k++) {
                if (stepAt(arm.way, k) != stepAt(arm.way, k - 1)) moves++;
            }
            arm.at = 0;
            goFurther(arm);
            return moves;
        }

        /** The next move of a travel begins: false if the arm does not travel, or is there. */
        boolean goFurther(Arm arm) {
            if (arm.at < 0 || arm.at >= stepsOf(arm.way)) return false;
            int step = stepAt(arm.way, arm.at);
            int alike = 0;
            while (stepAt(arm.way, arm.at) == step && alike < MOST_NODES) {
                alike++;
                arm.at++;
            }
            for (int j = 0; j < arm.joints; j++) arm.joint[j].goal = arm.joint[j].value;
            int far = alike * widths[arm.way];
            arm.joint[step / 2].goal += step % 2 == 0 ? far : -far;
            arm.beginMove(-1);
            return true;
        }
    }

    /** The tape, and how the text on it becomes a program. */
    private static final class Reader {
        static final int MOST_OPEN = 30, LONGEST_WORD = 24, MOST_ROUTINES = MOST_BYTES / 8;
        static final int TEXT_END = 0, WORD = 1, NUMBER = 2, NO_TOKEN = 3, STUCK = 4;
        static final int UNEQUAL = 5, AT_MOST = 6, AT_LEAST = 7, PLUS = 8, MINUS = 9, TIMES = 10;
        static final int OVER = 11, REST = 12, EQUAL = 13, LESS = 14, MORE = 15, LEFT = 16;
        static final int RIGHT = 17, COMMA = 18, SEMICOLON = 19, COLON = 20;
        static final int VAR = 21, TO = 22, END = 23, MOVE = 24, WAIT = 25, HOLD_ON = 26, SET = 27;
        static final int TAKE = 28, FREE = 29, CALL = 30, RUN = 31, RAISE = 32, NOTE = 33, GRIP = 34;
        static final int DROP = 35, WATCH = 36, RETURN = 37, BREAK = 38, IF = 39, ELSE = 40;
        static final int WHILE = 41, TRY = 42, CATCH = 43, FINALLY = 44, OR = 45, AND = 46, NOT = 47;
        static final int SIGNAL = 48, JOINT = 49, TIME = 50, HOLDING = 53;
        // In the order of their kinds above: the first sign is PLUS, the first keyword VAR.
        static final String SIGNS = "+-*/%=<>(),;:";
        static final String KEYWORDS = "var to end move wait until set take free call run raise note grip drop watch return break if else while try catch finally or and not signal joint time error power holding ";

        int length;
        // The fault of the text that was read last, and its place; -1 before there was a text.
        int fault = -1, place = -1;
        Code code = new Code();
        private final byte[] text = new byte[MOST_BYTES];
        private int kind, at, next, number;
        // The first of the faults 4 .. 7: they count only if the text has none of the others.
        private int sense, sensePlace;
        private int open, tries, loop, routines;
        private final int[] variableAt = new int[MOST_NAMES];
        private final int[] routineAt = new int[MOST_ROUTINES];

        void append(int bytes) {
            for (int shift = 24; shift >= 0 && length < MOST_BYTES; shift -= 8) {
                text[length] = (byte) (bytes >> shift);
                length++;
            }
        }

        void readText() {
            fault = 0;
            place = -1;
            sense = 0;
            open = 0;
            routines = 0;
            next = 0;
            code.clear();
            advance();
            for (int i = 0; i < MOST_BYTES && kind == VAR; i++) declarations();
            for (int i = 0; i < MOST_BYTES && kind == TO; i++) routine();
            if (kind != TEXT_END) refuse();
            if (fault != 0) return;
            findRoutines();
            fault = sense;
            if (sense != 0) place = sensePlace;
        }

        // ---- tokens

        private int byteAt(int i) {
            return i >= 0 && i < length ? text[i] & 255 : 0;
        }

        private static boolean isDigit(int c) {
            return c >= '0' && c <= '9';
        }

        private static boolean isOfName(int c) {
            return c >= 'a' && c <= 'z' || c >= 'A' && c <= 'Z' || c >= '0' && c <= '9';
        }

        private void advance() {
            skipBlanks();
            at = next;
            int c = byteAt(next);
            if (next >= length) kind = TEXT_END;
            else if (isDigit(c)) readNumber();
            else if (isOfName(c)) readWord();
            else readSign(c);
        }

        private void skipBlanks() {
            boolean comment = false;
            for (; next < length; next++) {
                int c = byteAt(next);
                if (c == '#') comment = true;
                else if (c == 10) comment = false;
                else if (c > 32 && !comment) return;
            }
        }

        private void readWord() {
            while (next < length && isOfName(byteAt(next))) next++;
            kind = next - at > LONGEST_WORD ? NO_TOKEN : wordKind();
        }

        private int wordKind() {
            int keyword = VAR;
            int same = at;
            boolean alike = true;
            for (int i = 0; i < KEYWORDS.length(); i++) {
                char c = KEYWORDS.charAt(i);
                if (c != ' ') {
                    alike = alike && same < next && text[same] == c;
                    same++;
                } else if (alike && same == next) {
                    return keyword;
                } else {
                    keyword++;
                    same = at;
                    alike = true;
                }
            }
            return WORD;
        }

        private void readNumber() {
            long value = 0;
            for (; next < length && isDigit(byteAt(next)); next++) {
                value = Math.min(value * 10 + byteAt(next) - '0', 1L << 32);
            }
            kind = value > Integer.MAX_VALUE ? NO_TOKEN : NUMBER;
            number = (int) value;
        }

        private void readSign(int c) {
            next++;
            int sign = SIGNS.indexOf((char) c);
            kind = sign < 0 ? NO_TOKEN : PLUS + sign;
            if (byteAt(next) != '=') return;
            if (c == '!') kind = UNEQUAL;
            else if (c == '<') kind = AT_MOST;
            else if (c == '>') kind = AT_LEAST;
            else return;
            next++;
        }

        // ---- faults

        private void accept(int wanted) {
            if (kind == wanted) advance();
            else refuse();
        }

        private void refuse() {
            stick(kind == NO_TOKEN ? 1 : 2);
        }

        /** No token is STUCK: with it, all that is under way comes to its end. */
        private void stick(int number) {
            if (fault == 0) {
                fault = number;
                place = at;
            }
            kind = STUCK;
        }

        private boolean opens() {
            if (open >= MOST_OPEN) {
                stick(3);
                return false;
            }
            open++;
            return true;
        }

        private void complain(int number, int where) {
            boolean first = sense == 0 || where < sensePlace;
            if (!first && (where > sensePlace || number > sense)) return;
            sense = number;
            sensePlace = where;
        }

        // ---- names

        private boolean isSameName(int p, int q) {
            int i = 0;
            while (i < LONGEST_WORD && isOfName(byteAt(p + i)) && byteAt(p + i) == byteAt(q + i)) i++;
            return !isOfName(byteAt(p + i)) && !isOfName(byteAt(q + i));
        }

        private int findVariable(int name) {
            for (int v = 0; v < code.variables; v++) {
                if (isSameName(variableAt[v], name)) return v;
            }
            return -1;
        }

        private int findRoutine(int name) {
            for (int r = 0; r < routines; r++) {
                if (isSameName(routineAt[r], name)) return r;
            }
            return -1;
        }

        /** The number of the variable that is named here. */
        private int variableHere() {
            int v = findVariable(at);
            if (v < 0) complain(5, at);
            return Math.max(v, 0);
        }

        /** Routines may be told behind their names: till here these were known by their places. */
        private void findRoutines() {
            code.routines = Math.min(routines, MOST_NAMES);
            for (int i = 0; i < code.length; i++) {
                int op = code.op(i);
                if (op != OP_CALL && op != OP_RUN && op != OP_WATCH) continue;
                int r = findRoutine(code.operand(i));
                if (r < 0) complain(5, code.operand(i));
                else code.patch(i, Math.min(r, MOST_NAMES - 1));
            }
        }

        private void checkNewName() {
            if (findVariable(at) >= 0 || findRoutine(at) >= 0) complain(4, at);
        }

        private void declarations() {
            advance();
            declareVariable();
            for (int i = 0; i < MOST_BYTES && kind == COMMA; i++) {
                advance();
                declareVariable();
            }
            accept(SEMICOLON);
        }

        private void declareVariable() {
            if (kind == WORD) {
                checkNewName();
                if (code.variables < MOST_NAMES) {
                    variableAt[code.variables] = at;
                    code.variables++;
                } else {
                    complain(7, at);
                }
            }
            accept(WORD);
        }

        private void routine() {
            advance();
            if (kind == WORD) {
                checkNewName();
                if (routines < MOST_NAMES) code.entry[routines] = code.length;
                else complain(7, at);
                if (routines < MOST_ROUTINES) {
                    routineAt[routines] = at;
                    routines++;
                }
            }
            accept(WORD);
            accept(COLON);
            tries = 0;
            loop = -1;
            block();
            accept(END);
            code.emit(OP_LAST, 0);
        }

        // ---- statements

        private boolean isStatement() {
            return kind == WORD || within(kind, MOVE, IF) || kind == WHILE || kind == TRY;
        }

        private void block() {
            for (int i = 0; i < MOST_BYTES && isStatement(); i++) statement();
        }

        private void statement() {
            // A while begins with its test, each time anew.
            if (kind != WHILE) code.emit(OP_BEGIN, 0);
            switch (kind) {
                case WORD: assignment(); break;
                case MOVE: movement(); break;
                case WAIT: withNumber(OP_WAIT); break;
                case HOLD_ON: withNumber(OP_UNTIL); break;
                case SET: setting(); break;
                case TAKE: withNumber(OP_TAKE); break;
                case FREE: withNumber(OP_FREE); break;
                case CALL: withRoutine(OP_CALL); break;
                case RUN: withRoutine(OP_RUN); break;
                case RAISE: withNumber(OP_RAISE); break;
                case NOTE: withNumber(OP_NOTE); break;
                case GRIP: bare(OP_GRIP); break;
                case DROP: bare(OP_DROP); break;
                case WATCH: watching(); break;
                case RETURN: bare(OP_RETURN); break;
                case BREAK: breaking(); break;
                case IF: choice(); break;
                case WHILE: repetition(); break;
                default: attempt(); break;
            }
        }

        private void bare(int op) {
            advance();
            accept(SEMICOLON);
            code.emit(op, 0);
        }

        private void withNumber(int op) {
            advance();
            int expression = code.length;
            exp();
            accept(SEMICOLON);
            code.emit(op, expression);
        }

        private void withRoutine(int op) {
            advance();
            int name = at;
            accept(WORD);
            accept(SEMICOLON);
            code.emit(op, name);
        }

        private void assignment() {
            int v = variableHere();
            advance();
            accept(EQUAL);
            exp();
            accept(SEMICOLON);
            code.emit(OP_STORE, v);
        }

        private void movement() {
            advance();
            exp();
            code.emit(OP_COLLECT, 0);
            int numbers = 1;
            for (; numbers < MOST_BYTES && kind == COMMA; numbers++) {
                advance();
                exp();
                code.emit(OP_COLLECT, numbers);
            }
            accept(SEMICOLON);
            code.emit(OP_MOVE, numbers);
        }

        private void setting() {
            advance();
            exp();
            accept(COMMA);
            exp();
            accept(SEMICOLON);
            code.emit(OP_SET, 0);
        }

        private void watching() {
            advance();
            exp();
            accept(COMMA);
            int name = at;
            accept(WORD);
            accept(SEMICOLON);
            code.emit(OP_WATCH, name);
        }

        private void breaking() {
            if (loop < 0) complain(6, at);
            advance();
            accept(SEMICOLON);
            code.emit(OP_BREAK, Math.max(loop, 0));
        }

        private void choice() {
            if (!opens()) return;
            advance();
            exp();
            accept(COLON);
            int over = code.emit(OP_UNLESS, 0);
            block();
            if (kind == ELSE) {
                advance();
                accept(COLON);
                int out = code.emit(OP_JUMP, 0);
                code.patch(over, code.length);
                over = out;
                block();
            }
            code.patch(over, code.length);
            accept(END);
            open--;
        }

        private void repetition() {
            if (!opens()) return;
            int outer = loop;
            loop = code.emit(OP_LOOP, tries);
            int head = loop;
            code.emit(OP_DATA, 0);
            int test = code.emit(OP_BEGIN, 0);
            advance();
            exp();
            accept(COLON);
            int over = code.emit(OP_UNLESS, 0);
            block();
            accept(END);
            code.emit(OP_JUMP, test);
            code.patch(over, code.length);
            code.patch(head + 1, code.length);
            loop = outer;
            open--;
        }

        private void attempt() {
            if (!opens()) return;
            advance();
            accept(COLON);
            // Behind it stand the places of its catch, its finally (0: none), and its end.
            int head = code.emit(OP_TRY, 0);
            code.emit(OP_DATA, 0);
            code.emit(OP_DATA, 0);
            code.emit(OP_DATA, 0);
            tries++;
            block();
            code.emit(OP_PART_END, 0);
            if (kind == CATCH) {
                code.patch(head + 1, code.length);
                laterPart(OP_PART_END);
            }
            if (kind == FINALLY) {
                code.patch(head + 2, code.length);
                laterPart(OP_FINAL_END);
            }
            tries--;
            code.patch(head + 3, code.length);
            accept(END);
            open--;
        }

        private void laterPart(int last) {
            advance();
            accept(COLON);
            block();
            code.emit(last, 0);
        }

        // ---- expressions

        private void exp() {
            all();
            for (int i = 0; i < MOST_BYTES && kind == OR; i++) {
                int over = code.emit(OP_OR, 0);
                advance();
                all();
                code.emit(OP_TRUTH, 0);
                code.patch(over, code.length);
            }
        }

        private void all() {
            fact();
            for (int i = 0; i < MOST_BYTES && kind == AND; i++) {
                int over = code.emit(OP_AND, 0);
                advance();
                fact();
                code.emit(OP_TRUTH, 0);
                code.patch(over, code.length);
            }
        }

        private void fact() {
            if (kind == NOT) {
                if (!opens()) return;
                advance();
                fact();
                open--;
                code.emit(OP_NOT, 0);
                return;
            }
            sum();
            int op = comparison();
            if (op == OP_DATA) return;
            advance();
            sum();
            code.emit(op, 0);
        }

        private int comparison() {
            switch (kind) {
                case EQUAL: return OP_EQUAL;
                case UNEQUAL: return OP_UNEQUAL;
                case LESS: return OP_LESS;
                case AT_MOST: return OP_AT_MOST;
                case MORE: return OP_MORE;
                case AT_LEAST: return OP_AT_LEAST;
                default: return OP_DATA;
            }
        }

        private void sum() {
            product();
            for (int i = 0; i < MOST_BYTES && within(kind, PLUS, MINUS); i++) {
                int op = kind == PLUS ? OP_ADD : OP_SUBTRACT;
                advance();
                product();
                code.emit(op, 0);
            }
        }

        private void product() {
            one();
            for (int i = 0; i < MOST_BYTES && within(kind, TIMES, REST); i++) {
                int op = OP_MULTIPLY + kind - TIMES;
                advance();
                one();
                code.emit(op, 0);
            }
        }

        private void one() {
            if (kind == MINUS) {
                if (!opens()) return;
                advance();
                one();
                open--;
                code.emit(OP_NEGATE, 0);
            } else if (kind == NUMBER) {
                emitNumber();
                advance();
            } else if (kind == WORD) {
                code.emit(OP_READ, variableHere());
                advance();
            } else if (kind == SIGNAL || kind == JOINT) {
                int op = kind == SIGNAL ? OP_SIGNAL : OP_JOINT;
                advance();
                inParentheses();
                code.emit(op, 0);
            } else if (within(kind, TIME, HOLDING)) {
                code.emit(OP_TIME + kind - TIME, 0);
                advance();
            } else {
                inParentheses();
            }
        }

        private void inParentheses() {
            if (kind != LEFT) {
                refuse();
                return;
            }
            if (!opens()) return;
            advance();
            exp();
            accept(RIGHT);
            open--;
        }

        /** An operand has no room for a great number: its upper half comes first then. */
        private void emitNumber() {
            int upper = number >> 16;
            if (upper == 0) {
                code.emit(OP_PUSH, number);
            } else {
                code.emit(OP_PUSH, upper);
                code.emit(OP_LOW, number & 65535);
            }
        }
    }
}
