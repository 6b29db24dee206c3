/**
 * Ways that are equally short, or one a bit shorter than the other: what a stream that is made is due to choose.
 * The numbers were searched for by a program of its own; how long each way is stands beside them.
 */
public final class EquallyShortTest {
    public static void main(String[] args) {
        equallyShortTypes();
        firstTypeIsShorter();
        laterTypeIsShorter();
        equallyShortOrders();
        shorterOrders();
        partsJustLongerThanTheFirstOnes();
        partsAsLongAsTheFirstOnes();
        noFifthOrder();
        equallyShortKeys();
        noKeyAbove14();
        equallyShortAssignments();
        shorterAssignments();
        Check.end();
    }

    private static int[] own(int... coefficients) {
        return coefficients;
    }

    /** Makes the stream of one channel's numbers: the type and the bits of its subframe, and each byte. */
    private static SoundPacker told(String name, int bits, int[] own, int shift, int type, int size, int... numbers) {
        SoundPacker x = Making.packer(1, bits, 64, numbers);
        x.predict(shift);
        for (int c : own) {
            x.coefficient(c);
        }
        Making.same(name, x, Bits.of(Model.make(new int[] {1, bits, 64, 8000}, numbers, own, shift).bits()));
        Check.due(name + ": type", x.way(0, 0, 0), type);
        Check.due(name + ": bits", x.way(0, 0, 3), size);
        return x;
    }

    private static void parted(String name, int bits, int[] own, int shift, int type, int order, int size, int... numbers) {
        Check.due(name + ": order", told(name, bits, own, shift, type, size, numbers).way(0, 0, 2), order);
    }

    /** Two channels, of each moment both: the assignment and the bits of both subframes. */
    private static void assigned(String name, int bits, int assignment, int size, int... samples) {
        SoundPacker x = Making.packer(2, bits, 16, samples);
        Making.same(name, x, Bits.of(Model.make(new int[] {2, bits, 16, 8000}, samples, own(), 0).bits()));
        Check.due(name + ": assignment", x.way(0, 0, 4), assignment);
        Check.due(name + ": assignment", x.way(0, 1, 4), assignment);
        Check.due(name + ": bits", x.way(0, 0, 3) + x.way(0, 1, 3), size);
    }

    /** "if some are equally short, the first in this order": 0, 8 .. 12, 31 + o, 1. */
    private static void equallyShortTypes() {
        told("0: 20 bits, 8: 20 bits", 12, own(), 0, 0, 20, 0, 0);
        told("0: 12 bits, 1: 12 bits", 4, own(-1, 1), 0, 0, 12, 1);
        told("8: 33 bits, 9: 33 bits", 13, own(), 0, 8, 33, -32, -33);
        told("8: 35 bits, 10: 35 bits", 7, own(), 0, 8, 35, -2, 1, 4, 6);
        told("8: 42 bits, 11: 42 bits", 7, own(), 0, 8, 42, -2, -1, 2, 7, 13);
        told("8: 41 bits, 12: 41 bits", 5, own(), 0, 8, 41, -1, -1, -2, -3, -3, -1, 4);
        told("8: 64 bits, 32: 64 bits", 19, own(-3), 1, 8, 64, -4541, 6811, -10218);
        told("8: 22 bits, 1: 22 bits", 7, own(), 0, 8, 22, 0, 1);
        told("9: 35 bits, 10: 35 bits", 7, own(), 0, 9, 35, -16, -14, -13, -12);
        told("9: 42 bits, 11: 42 bits", 7, own(), 0, 9, 42, 22, 22, 24, 28, 33);
        told("9: 48 bits, 12: 48 bits", 7, own(), 0, 9, 48, -18, -25, -25, -23, -24, -33);
        told("9: 59 bits, 32: 59 bits", 13, own(3), 1, 9, 59, -148, -223, -335, -503);
        told("9: 32 bits, 1: 32 bits", 12, own(), 0, 9, 32, 332, 331);
        told("10: 41 bits, 11: 41 bits", 7, own(), 0, 10, 41, 35, 34, 31, 26, 19);
        told("10: 49 bits, 12: 49 bits", 7, own(), 0, 10, 49, -35, -18, -9, -5, -3, -1);
        told("10: 56 bits, 32: 56 bits", 10, own(3), 1, 10, 56, -31, -47, -71, -107, -161);
        told("10: 41 bits, 1: 41 bits", 11, own(), 0, 10, 41, -265, -164, -63);
        told("11: 48 bits, 12: 48 bits", 7, own(), 0, 11, 48, -41, -40, -37, -31, -21, -6);
        told("11: 55 bits, 32: 55 bits", 8, own(1), 1, 11, 55, 70, 35, 17, 8, 4, 2);
        told("11: 52 bits, 1: 52 bits", 11, own(), 0, 11, 52, 983, -507, -694, 422);
        told("12: 56 bits, 32: 56 bits", 7, own(1), 1, 12, 56, -63, -32, -16, -9, -5, -3, -2);
        told("12: 63 bits, 1: 63 bits", 11, own(), 0, 12, 63, 148, 447, 361, -90, -886);
        told("32: 62 bits, 1: 62 bits", 18, own(1), 1, 32, 62, 10710, 5355, 2677);
    }

    private static void firstTypeIsShorter() {
        told("0: 19 bits, 8: 20 bits", 11, own(), 0, 0, 19, 0, 0);
        told("0: 12 bits, 1: 13 bits", 4, own(), 0, 0, 12, -8, -8);
        told("8: 31 bits, 9: 32 bits", 12, own(), 0, 8, 31, -16, -17);
        told("8: 35 bits, 10: 36 bits", 7, own(), 0, 8, 35, 7, 3, -1, -4);
        told("8: 37 bits, 11: 38 bits", 6, own(), 0, 8, 37, -4, -4, -3, -1, 2);
        told("8: 62 bits, 12: 63 bits", 11, own(), 0, 8, 62, -129, 43, 0, -43, 129);
        told("8: 61 bits, 32: 62 bits", 18, own(0), 1, 8, 61, -10115, 0, 0);
        told("8: 19 bits, 1: 20 bits", 12, own(-3, -1), 1, 8, 19, 0);
        told("9: 42 bits, 10: 43 bits", 12, own(), 0, 9, 42, -1642, -1651, -1660);
        told("9: 42 bits, 11: 43 bits", 7, own(), 0, 9, 42, 20, 22, 22, 19, 12);
        told("9: 43 bits, 12: 44 bits", 6, own(), 0, 9, 43, -32, -32, -32, -31, -28, -22);
        told("9: 57 bits, 32: 58 bits", 13, own(3), 1, 9, 57, -104, -156, -234, -351);
        told("9: 33 bits, 1: 34 bits", 13, own(), 0, 9, 33, -2701, -2702);
        told("10: 42 bits, 11: 43 bits", 7, own(), 0, 10, 42, -55, -53, -50, -46, -40);
        told("10: 47 bits, 12: 48 bits", 7, own(), 0, 10, 47, -20, -10, -5, -3, -2, 0);
        told("10: 57 bits, 32: 58 bits", 10, own(3), 1, 10, 57, -43, -65, -98, -147, -220);
        told("10: 43 bits, 1: 44 bits", 12, own(), 0, 10, 43, 39, 155, 271);
        told("11: 49 bits, 12: 50 bits", 7, own(), 0, 11, 49, -31, -28, -23, -15, -3, 15);
        told("11: 54 bits, 32: 55 bits", 8, own(3), 1, 11, 54, 15, 22, 33, 49, 73, 109);
        told("11: 55 bits, 1: 56 bits", 12, own(), 0, 11, 55, -1198, 1084, 1157, -979);
        told("12: 54 bits, 32: 55 bits", 7, own(1), 1, 12, 54, -51, -26, -13, -7, -4, -2, -1);
        told("12: 72 bits, 1: 73 bits", 13, own(), 0, 12, 72, 2578, -887, -3940, -3772, 2425);
        told("32: 64 bits, 1: 65 bits", 19, own(2), 0, 32, 64, -59920, -119840, -239681);
    }

    private static void laterTypeIsShorter() {
        told("0: 20 bits, 8: 19 bits", 12, own(-3, -1), 1, 8, 19, 0);
        told("8: 33 bits, 9: 32 bits", 12, own(), 0, 9, 32, 32, 31);
        told("8: 33 bits, 10: 32 bits", 6, own(), 0, 10, 32, -5, -3, -1, 1);
        told("8: 39 bits, 11: 38 bits", 6, own(), 0, 11, 38, -4, -5, -4, -1, 4);
        told("8: 45 bits, 12: 44 bits", 6, own(), 0, 12, 44, -1, -2, -2, 0, 5, 14);
        told("8: 63 bits, 32: 62 bits", 18, own(1), 1, 32, 62, 10710, 5355, 2677);
        told("8: 21 bits, 1: 20 bits", 6, own(), 0, 1, 20, -1, 0);
        told("9: 33 bits, 10: 32 bits", 6, own(), 0, 10, 32, 1, 2, 3, 4);
        told("9: 39 bits, 11: 38 bits", 6, own(), 0, 11, 38, 23, 27, 29, 29, 27);
        told("9: 45 bits, 12: 44 bits", 6, own(), 0, 12, 44, 14, 12, 11, 12, 16, 24);
        told("9: 65 bits, 32: 64 bits", 20, own(3), 1, 32, 64, -15344, -23016, -34524);
        told("9: 31 bits, 1: 30 bits", 11, own(), 0, 1, 30, 386, 385);
        told("10: 39 bits, 11: 38 bits", 6, own(), 0, 11, 38, 23, 27, 29, 29, 27);
        told("10: 45 bits, 12: 44 bits", 6, own(), 0, 12, 44, 19, 9, 4, 2, 1, -1);
        told("10: 61 bits, 32: 60 bits", 13, own(3), 1, 32, 60, -240, -360, -539, -809);
        told("10: 39 bits, 1: 38 bits", 10, own(), 0, 1, 38, 245, 109, -27);
        told("11: 45 bits, 12: 44 bits", 6, own(), 0, 12, 44, -32, -28, -22, -13, 0, 18);
        told("11: 59 bits, 32: 58 bits", 10, own(3), 1, 32, 58, -68, -102, -153, -229, -344);
        told("11: 49 bits, 1: 48 bits", 10, own(), 0, 1, 48, 181, -434, -404, 271);
        told("12: 58 bits, 32: 57 bits", 9, own(3), 1, 32, 57, 18, 27, 40, 60, 90, 134);
        told("12: 59 bits, 1: 58 bits", 10, own(), 0, 1, 58, 465, 315, 39, -30, 441);
        told("32: 63 bits, 1: 62 bits", 18, own(3), 0, 1, 62, 10392, 31175, 93525);
    }

    /** "the shortest q from 0 to 3 ..; the least if some are equally short." */
    private static void equallyShortOrders() {
        parted("order 0: 22 bits, order 1: 22 bits", 11, own(), 0, 8, 0, 30, 0, 19);
        parted("order 0: 44 bits, order 2: 44 bits", 11, own(), 0, 8, 0, 52, -2, -98, 0, 107);
        parted("order 0: 71 bits, order 3: 71 bits", 9, own(), 0, 8, 0, 79, 0, -128, -1, 60, 1, 0, 0, 48);
        parted("order 1: 38 bits, order 2: 38 bits", 10, own(), 0, 8, 1, 46, 1, 0, 0, 376);
        parted("order 1: 77 bits, order 3: 77 bits", 11, own(), 0, 8, 1, 85, -302, 0, 0, -448, 24, -1, -2, 1);
        parted("order 2: 71 bits, order 3: 71 bits", 9, own(), 0, 8, 2, 79, 0, -1, 1, -140, 0, -106, 15, 0);
    }

    private static void shorterOrders() {
        parted("order 0: 20 bits, order 1: 21 bits", 10, own(), 0, 8, 0, 28, -9, 0);
        parted("order 0: 40 bits, order 2: 41 bits", 10, own(), 0, 8, 0, 48, 52, -1, 63, 0);
        parted("order 0: 72 bits, order 3: 73 bits", 9, own(), 0, 8, 0, 80, 110, 0, -1, 0, 1, 58, -1, -95);
        parted("order 1: 22 bits, order 0: 23 bits", 11, own(), 0, 8, 1, 30, 0, 27);
        parted("order 1: 36 bits, order 2: 37 bits", 9, own(), 0, 8, 1, 44, -1, -1, 0, -160);
        parted("order 1: 69 bits, order 3: 70 bits", 10, own(), 0, 8, 1, 77, -103, 0, 102, -1, 0, 21, -1, 0);
        parted("order 2: 41 bits, order 0: 42 bits", 11, own(), 0, 8, 2, 49, 0, -137, 17, 0);
        parted("order 2: 39 bits, order 1: 40 bits", 11, own(), 0, 8, 2, 47, -313, 0, 2, 0);
        parted("order 2: 64 bits, order 3: 65 bits", 8, own(), 0, 8, 2, 72, 0, -2, 103, 0, 0, -50, 0, -2);
        parted("order 3: 72 bits, order 0: 73 bits", 9, own(), 0, 8, 3, 80, 0, -150, 0, -12, 1, 1, 0, -128);
        parted("order 3: 72 bits, order 1: 73 bits", 9, own(), 0, 8, 3, 80, 0, -1, 0, 29, -73, 1, 221, 0);
        parted("order 3: 72 bits, order 2: 73 bits", 9, own(), 0, 8, 3, 80, 0, -1, 0, 29, -73, 1, 221, 0);
    }

    /** "n through 2^q being above o, if q is above 0": just above, and these parts are the shortest. */
    private static void partsJustLongerThanTheFirstOnes() {
        parted("4 numbers in 2 parts, and 1 first ones", 8, own(), 0, 9, 1, 40, -69, -104, -104, -104);
        parted("8 numbers in 4 parts, and 1 first ones", 8, own(), 0, 9, 2, 62, 26, 26, 26, 26, 25, 24, 121, 98);
        parted("16 numbers in 8 parts, and 1 first ones", 8, own(), 0, 9, 3, 114, 38, -8, -9, -10, 12, -27, -29, -28,
                -72, -38, -39, -39, -39, -39, -38, -37);
        parted("6 numbers in 2 parts, and 2 first ones", 8, own(), 0, 10, 1, 51, 44, 35, 54, 72, 89, 105);
        parted("12 numbers in 4 parts, and 2 first ones", 8, own(), 0, 10, 2, 93, -87, -78, -70, -64, -60, -58, 97, 100,
                104, 108, 111, 116);
        parted("24 numbers in 8 parts, and 2 first ones", 8, own(), 0, 10, 3, 135, 52, 47, 41, 48, 52, 62, 84, 101, 102,
                103, 105, 107, 110, 113, 115, 116, 116, 115, 114, 112, 110, 96, 88, 95);
        parted("8 numbers in 2 parts, and 3 first ones", 8, own(), 0, 11, 1, 58, 10, 5, -2, -2, 5, 19, 40, 69);
        parted("16 numbers in 4 parts, and 3 first ones", 8, own(), 0, 11, 2, 106, -31, -22, -13, -4, 6, 17, 30, 44, 60,
                78, 98, 119, 72, 7, 46, 121);
        parted("32 numbers in 8 parts, and 3 first ones", 8, own(), 0, 11, 3, 200, 65, 69, 75, 82, 81, 56, 37, 27, 26,
                34, 50, 75, 100, 99, 102, 101, 97, 89, 76, 57, 49, 30, -5, -28, -40, -41, -32, -12, -9, -12, 2, 48);
        parted("10 numbers in 2 parts, and 4 first ones", 8, own(), 0, 12, 1, 68, 81, 89, 94, 91, 84, 77, 74, 78, 93,
                123);
        parted("20 numbers in 4 parts, and 4 first ones", 9, own(), 0, 12, 2, 130, 62, 57, 48, 36, 23, 8, -11, -34, -60,
                -87, -113, -137, -157, -172, -184, -195, -205, -213, -185, -57);
        parted("40 numbers in 8 parts, and 4 first ones", 12, own(), 0, 12, 3, 209, -147, -150, -152, -149, -137, -113,
                -74, -18, 56, 151, 268, 406, 563, 738, 929, 1119, 1320, 1515, 1674, 1798, 1890, 1952, 1986, 1993, 1974,
                1932, 1872, 1799, 1717, 1628, 1534, 1439, 1347, 1264, 1196, 1151, 1136, 1156, 1218, 1331);
        parted("4 numbers in 2 parts, and 1 first ones", 17, own(1), 1, 32, 1, 76, -63063, -31609, -15806, -7904);
        parted("8 numbers in 4 parts, and 1 first ones", 12, own(1), 1, 32, 2, 100, -1418, -588, -293, -147, -73, -38,
                58, 30);
        parted("16 numbers in 8 parts, and 1 first ones", 9, own(1), 1, 32, 3, 143, 38, -84, -41, -21, -11, -7, -208,
                -237, -120, -59, -70, -24, -11, -7, -4, -1);
        parted("6 numbers in 2 parts, and 2 first ones", 18, own(1, -1), 0, 33, 1, 110, 55565, 55559, 6, -55552, -55558,
                -5);
        parted("12 numbers in 4 parts, and 2 first ones", 10, own(1, -1), 1, 33, 2, 128, 489, 496, 4, -245, -124, 59,
                90, 16, -106, -61, 21, 42);
        parted("24 numbers in 8 parts, and 2 first ones", 8, own(1, -1), 1, 33, 3, 186, 94, 89, -3, -47, -22, 13, 17, 4,
                -5, -5, -1, 4, -52, 2, 88, 44, -22, -35, -7, 15, 11, -42, -11, 89);
        parted("8 numbers in 2 parts, and 3 first ones", 17, own(1, -1, -1), 1, 34, 1, 144, -41120, -41122, -41129,
                20541, 51398, 35993, -17975, -52684);
        parted("16 numbers in 4 parts, and 3 first ones", 9, own(1, -1, 0), 0, 34, 2, 145, -108, -98, -105, 42, 148,
                105, -41, -146, -106, 41, 146, 104, -41, -145, -104, 41);
        parted("32 numbers in 8 parts, and 3 first ones", 8, own(1, -1, 0), 1, 34, 3, 233, -120, -114, -115, 1, 58, 29,
                -14, -22, -2, 10, 7, -2, -23, 16, 72, 81, 4, -39, -23, 10, 17, 3, -5, -2, -10, -20, -22, -2, 9, 6, 0,
                -3);
        parted("10 numbers in 2 parts, and 4 first ones", 20, own(1, -1, 0, 0), 1, 35, 1, 190, 399780, 399781, 399782,
                399785, 28, -199879, -99955, 49963, 74960, 12499);
        parted("20 numbers in 4 parts, and 4 first ones", 9, own(1, -1, 0, 0), 0, 35, 2, 179, -225, -228, -234, -237,
                -72, 166, 239, 72, -166, -238, -71, 168, 240, 72, -167, -240, -73, 166, 238, 73);
        parted("40 numbers in 8 parts, and 4 first ones", 10, own(1, -1, 0, 0), 0, 35, 3, 269, -27, -30, -23, -16, 7,
                24, 16, -8, -25, -17, 8, 26, 18, -9, -28, 2, 12, 22, 29, 6, -23, -28, -4, 25, 28, 4, -23, -27, -5, 21,
                27, 6, -21, -28, -6, 45, 62, 36, -25, -58);
    }

    /** Just not above: so many parts would be shorter, but are not made. */
    private static void partsAsLongAsTheFirstOnes() {
        parted("4 numbers in 4 parts, and 1 first ones", 12, own(), 0, 9, 1, 56, -692, -692, -692, -213);
        parted("8 numbers in 8 parts, and 1 first ones", 10, own(), 0, 9, 2, 87, 218, 219, 219, 425, 425, 427, 427,
                201);
        parted("8 numbers in 4 parts, and 2 first ones", 8, own(), 0, 10, 1, 71, 19, 25, 32, 39, 45, 51, -25, -102);
        parted("16 numbers in 8 parts, and 2 first ones", 8, own(), 0, 10, 0, 129, 32, 42, 53, 64, 75, 85, 49, 69, 62,
                28, -5, -37, -69, -102, -65, -43);
        parted("12 numbers in 4 parts, and 3 first ones", 8, own(), 0, 11, 1, 92, 77, 86, 88, 82, 68, 47, 18, -18, -62,
                -77, -14, 126);
        parted("24 numbers in 8 parts, and 3 first ones", 8, own(), 0, 11, 2, 150, 83, 90, 88, 76, 55, 26, 23, 21, 17,
                10, -1, -17, -27, -2, 19, 37, 51, 61, 66, 65, 57, 42, 21, -5);
        parted("16 numbers in 4 parts, and 4 first ones", 10, own(), 0, 12, 1, 124, -509, -507, -512, -511, -491, -439,
                -342, -186, -47, 62, 136, 175, 180, 151, 89, -4);
        parted("32 numbers in 8 parts, and 4 first ones", 12, own(), 0, 12, 2, 244, -390, -382, -384, -383, -365, -317,
                -228, -86, -3, 140, 242, 306, 334, 329, 295, 238, 162, 71, -30, -134, -235, -329, -412, -481, -535,
                -574, -599, -610, -475, -128, 508, 1553);
        parted("4 numbers in 4 parts, and 1 first ones", 22, own(1), 1, 32, 1, 92, 2044525, 1022263, 511131, 255962);
        parted("8 numbers in 4 parts, and 2 first ones", 15, own(1, -1), 1, 33, 1, 124, 6560, 6562, 1, -3280, -1737,
                770, 1253, 241);
        parted("16 numbers in 8 parts, and 2 first ones", 11, own(1, -1), 1, 33, 2, 165, -749, -740, 35, 364, 163, -101,
                -132, -16, 58, 36, 11, 11, -40, -105, -33, 35);
        parted("12 numbers in 4 parts, and 3 first ones", 15, own(2, 0, -1), 1, 34, 1, 165, -14411, -14414, -14420,
                -7214, -6, 7203, 10809, 10812, 7209, 1769, -3659, -7264);
        parted("24 numbers in 8 parts, and 3 first ones", 9, own(1, -1, -1), 1, 34, 2, 218, 173, 174, 182, -67, -232,
                -140, 78, 226, 145, -106, -209, -94, 110, 206, 96, -110, -205, -97, 68, 177, 107, -69, -178, -108);
        parted("16 numbers in 4 parts, and 4 first ones", 14, own(1, 1, -1, -1), 1, 35, 1, 205, 4548, 4546, 4554, 4554,
                7, -2271, -5685, -6259, -4839, -1571, 2765, 6142, 7608, 6237, 2469, -2523);
        parted("32 numbers in 8 parts, and 4 first ones", 8, own(1, -1, 0, 1), 1, 35, 2, 248, -27, -25, -33, -27, -12,
                -4, -12, -17, -8, 2, -2, -10, 108, -70, 111, -106, -55, -9, 77, -11, -73, -36, 56, 39, -44, -59, 21, 60,
                -3, -62, -19, 52);
        parted("32 numbers in 4 parts, and 8 first ones", 13, own(1, -1, 0, -1, 1, -1, 0, 0), 0, 39, 1, 357, -619, -618,
                -609, -603, -596, -587, -597, -601, 596, 1791, 1800, 599, -1799, -2992, -1800, 604, 3001, 2992, 600,
                -1805, -3003, -1791, 602, 1805, 1815, 623, -557, -601, -654, -667, -650, -562);
    }

    /** "q from 0 to 3": numbers that sixteen parts would suit best. */
    private static void noFifthOrder() {
        int[] numbers = new int[64];
        for (int i = 0; i < 64; i++) {
            numbers[i] = i / 4 % 2 == 0 ? i % 2 : i % 2 * 6001 - 3000;
        }
        // In each part of eight numbers K is 11: four have u of 0 or 2, two 6000 less 1, two 6002.
        int part = 4 + 4 * 12 + 2 * (2 + 12) + 2 * (2 + 12);
        parted("parts of four", 20, own(), 0, 8, 0, 8 + 6 + 4 + 8 * (part - 4), numbers);
    }

    /** "in each part the shortest K from 0 to 14; the least if some are equally short." */
    private static void equallyShortKeys() {
        for (int k = 0; k <= 13; k++) {
            // u is 2 * 2^k: 3 + k bits with K = k, and as many with k + 1; so it is with one more, or for K = 0 one less.
            int[] numbers = new int[16];
            for (int i = 0; i < 16; i++) {
                numbers[i] = i % 2 == 0 ? 1 << k : k == 0 ? -1 : -(1 << k) - 1;
            }
            int others = k == 0 ? 7 * 3 + 8 * 2 : 15 * (3 + k);
            key("K " + k + " is as short as the next", k, others + 3 + k, numbers);
            // u is 4 * 2^k: 5 + k bits with K = k, 4 + k with the next.
            numbers[4] = 2 << k;
            key("K " + k + " is longer than the next", k + 1, others + 4 + k, numbers);
            // u is 0: 1 + k bits with K = k, 2 + k with the next.
            numbers[4] = 0;
            key("K " + k + " is shorter than the next", k, others + 1 + k, numbers);
        }
    }

    /** One part of 16 numbers told by fixed predictor 0. */
    private static void key(String name, int k, int size, int... numbers) {
        SoundPacker x = told(name, 24, own(), 0, 8, 8 + 10 + size, numbers);
        int at = 42 + 7 + 1;
        Check.due(name + ": K", (x.octet(at) << 8 | x.octet(at + 1)) >> 6 & 15, k);
    }

    /** u is 8 * 2^14 or so: 23 bits each with K = 14, where K = 15 would have 20. */
    private static void noKeyAbove14() {
        int[] numbers = new int[16];
        for (int i = 0; i < 16; i++) {
            numbers[i] = i % 2 == 0 ? 4 << 14 : -(4 << 14) - 1;
        }
        key("no K above 14", 14, 16 * 23, numbers);
    }

    /** "Of the assignments that with the fewest bits in its subframes, the least if some are equally short." */
    private static void equallyShortAssignments() {
        assigned("1: 40, 8: 41, 9: 41, 10: 40 bits", 12, 1, 40, -189, 190);
        assigned("1: 28, 8: 28, 9: 32, 10: 32 bits", 4, 1, 28, 1, 1, 1, 5);
        assigned("1: 39, 8: 40, 9: 39, 10: 40 bits", 12, 1, 39, -1, 0);
        assigned("1: 31, 8: 28, 9: 29, 10: 28 bits", 4, 8, 28, 2, -1, 0, -3);
        assigned("1: 30, 8: 28, 9: 28, 10: 29 bits", 4, 8, 28, 0, -2, 2, 0);
        assigned("1: 31, 8: 29, 9: 28, 10: 28 bits", 4, 9, 28, 1, 0, -1, -2);
        assigned("1: 38, 8: 38, 9: 38, 10: 38 bits", 11, 1, 38, 4, 4);
        assigned("1: 40, 8: 39, 9: 39, 10: 39 bits", 12, 8, 39, -40, -40);
    }

    private static void shorterAssignments() {
        assigned("1: 24, 8: 25, 9: 25, 10: 25 bits", 4, 1, 24, 1, 0);
        assigned("1: 31, 8: 34, 9: 33, 10: 30 bits", 4, 10, 30, -1, 4, 0, 2);
        assigned("1: 32, 8: 29, 9: 29, 10: 28 bits", 4, 10, 28, 1, -1, 3, 1);
        assigned("1: 28, 8: 27, 9: 31, 10: 31 bits", 4, 8, 27, -3, 5, -3, -3);
        assigned("1: 31, 8: 28, 9: 29, 10: 29 bits", 4, 8, 28, -2, 1, -4, -1);
        assigned("1: 28, 8: 31, 9: 27, 10: 31 bits", 4, 9, 27, -7, 1, 1, 1);
        assigned("1: 31, 8: 29, 9: 28, 10: 29 bits", 4, 9, 28, -1, 0, 1, 2);
    }
}
