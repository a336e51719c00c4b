/** Promises 1 to 14: a new object, tape and days, persons and THE DESK, facts. */
public final class PromisesOfTheDesk {
    static final int NONE = -1, UNKNOWN = -2, OUTSIDE = -3, STATE = -4, ROOM = -5;
    static final int MIN = Integer.MIN_VALUE, MAX = Integer.MAX_VALUE;

    static void due(String call, long got, long want) {
        Desk.due(call, got, want);
    }

    public static void main(String[] args) {
        newObject();
        feed();
        cut();
        clock();
        person();
        desk();
        write();
        seat();
        read();
        fact();
        namesOfFacts();
        annul();
        known();
        Desk.end();
    }

    static void newObject() {
        PensionHouse x = new PensionHouse();
        for (int what = 0; what <= 6; what++) {
            due("1 count " + what, x.count(what), 0);
        }
        due("1 sort", x.sort(), 0);
        due("1 length", x.length(), 0);
        due("1 read", x.read(NONE), 0);
        due("1 fault", x.fault(), 0);
        due("1 told 0", x.told(0), NONE);
        for (int what = 1; what <= 4; what++) {
            due("1 told " + what, x.told(what), 0);
        }
        due("1 step", x.step(0), UNKNOWN);
        due("1 inForce", x.inForce(0, 389), NONE);
        due("1 payment", x.payment(0, 4), 0);
        due("1 taken", x.taken(0, 0), UNKNOWN);
        due("1 balance", x.balance(0, 0), 0);
        due("1 advance", x.advance(1), STATE);
        due("1 share", x.share(50), 50);
        due("1 another object is its own", new PensionHouse().share(7) + x.share(1), 100);
    }

    static void feed() {
        PensionHouse x = new PensionHouse();
        due("2 n 0", x.feed(65, 0), OUTSIDE);
        due("2 n 9", x.feed(65, 9), OUTSIDE);
        due("2 n min", x.feed(65, MIN), OUTSIDE);
        due("2 n 3", x.feed(0x1122707179L, 3), 3);
        due("2 n 1", x.feed(-1L << 8 | 'z', 1), 4);
        due("2 known takes it", x.known(0, 0, 0), NONE);
        due("2 used up", x.count(5), 0);
        Desk y = new Desk();
        y.whole(5);
        due("2 highest first", y.house.feed(('p' << 16 | 'a' << 8 | 'y') | 0xAB000000L, 3), 3);
        due("2 fact", y.house.fact(0, 0, 389), 0);
        y.feed("pay");
        due("2 the same name", y.house.known(0, 0, 0), 0);
        for (int i = 1; i <= 199; i++) {
            due("2 full " + i, x.feed(0, 8), 8 * i);
        }
        due("2 room 1", x.feed(0, 1), 1593);
        due("2 no room for 8", x.feed(0, 8), ROOM);
        due("2 stays", x.count(5), 1593);
        due("2 outside ahead of room", x.feed(0, 9), OUTSIDE);
        due("2 up to the end", x.feed(0, 7), 1600);
        due("2 room", x.feed(0, 1), ROOM);
    }

    static void cut() {
        Desk y = new Desk();
        y.whole(1);
        y.fact("abc");
        y.feed("abcdef");
        due("3 below 0", y.house.cut(-1), OUTSIDE);
        due("3 more", y.house.cut(7), OUTSIDE);
        due("3 all stay", y.house.cut(6), 0);
        due("3 cut", y.house.cut(3), 3);
        due("3 count", y.house.count(5), 3);
        due("3 the first stay", y.house.known(0, 0, 0), 0);
        due("3 empty", y.house.cut(0), 0);
        due("3 empty 1", y.house.cut(1), OUTSIDE);
    }

    static void clock() {
        PensionHouse x = new PensionHouse();
        due("4 now", x.clock(0), 1);
        due("4 below", x.clock(-1), OUTSIDE);
        due("4 above", x.clock(390), OUTSIDE);
        due("4 on", x.clock(100), 1);
        due("4 count", x.count(6), 100);
        due("4 before now", x.clock(99), OUTSIDE);
        due("4 stays", x.count(6), 100);
        due("4 last", x.clock(389), 1);
        due("4 min", x.clock(MIN), OUTSIDE);
        due("4 count last", x.count(6), 389);
    }

    static void person() {
        PensionHouse x = new PensionHouse();
        due("5 early", x.person(true, -40001), OUTSIDE);
        due("5 late", x.person(true, 390), OUTSIDE);
        due("5 first", x.person(true, -40000), 0);
        for (int i = 1; i < 16; i++) {
            due("5 person " + i, x.person(i % 2 == 0, 389), i);
        }
        due("5 room", x.person(false, 0), ROOM);
        due("5 outside ahead of room", x.person(false, 400), OUTSIDE);
        due("5 count", x.count(0), 16);
    }

    static void desk() {
        PensionHouse x = new PensionHouse();
        due("6 sort -1", x.desk(-1, 0), OUTSIDE);
        due("6 sort 8", x.desk(8, 0), OUTSIDE);
        due("6 whole 1", x.desk(0, 1), OUTSIDE);
        due("6 real 1", x.desk(1, 1), OUTSIDE);
        due("6 row -1", x.desk(2, -1), OUTSIDE);
        due("6 row 13", x.desk(7, 13), OUTSIDE);
        due("6 stays", x.sort(), 0);
        for (int sort = 2; sort <= 7; sort++) {
            due("6 row " + sort, x.desk(sort, 12), 12);
            due("9 sort " + sort, x.sort(), sort);
            due("10 length " + sort, x.length(), 12);
            due("11 item " + sort, x.read(11), sort >= 5 ? -1 : 0);
            due("11 behind " + sort, x.read(12), 0);
            due("11 no number " + sort, x.read(NONE), 0);
        }
        x.desk(2, 3);
        x.write(1, 9);
        due("6 anew", x.desk(2, 3), 3);
        due("6 anew 0", x.read(1), 0);
        due("6 empty", x.desk(4, 0), 0);
        due("6 empty length", x.length(), 0);
        due("6 real", x.desk(1, 0), 0);
        due("6 real sort", x.sort(), 1);
        due("6 real 0.0", x.read(NONE), 0);
        due("10 of no row", x.length(), 0);
    }

    static void write() {
        PensionHouse x = new PensionHouse();
        due("7 whole", x.write(NONE, Long.MIN_VALUE), 1);
        due("7 read", x.read(NONE), Long.MIN_VALUE);
        due("7 item of no row", x.write(0, 5), STATE);
        due("7 any other i", x.write(-2, 5), STATE);
        x.desk(1, 0);
        due("7 real", x.write(NONE, Desk.bits(-0.0)), 1);
        due("7 real read", x.read(NONE), Desk.bits(-0.0));
        due("7 not a number", x.write(NONE, 0xFFF0000000000001L), 1);
        due("7 all are one", x.read(NONE), 0x7FF8000000000000L);
        due("7 infinity", x.write(NONE, 0xFFF0000000000000L), 1);
        due("7 infinity stays", x.read(NONE), 0xFFF0000000000000L);
        x.desk(2, 2);
        due("7 ints", x.write(1, 0x7_8000_0001L), 1);
        due("7 lowest 32", x.read(1), 0xFFFFFFFF80000001L);
        due("7 row as number", x.write(NONE, 5), STATE);
        due("7 behind", x.write(2, 5), OUTSIDE);
        due("7 below", x.write(-2, 5), OUTSIDE);
        x.desk(3, 1);
        due("7 longs", x.write(0, Long.MAX_VALUE), 1);
        due("7 longs read", x.read(0), Long.MAX_VALUE);
        x.desk(4, 1);
        due("7 reals", x.write(0, 0x7FF0000000000001L), 1);
        due("7 reals read", x.read(0), 0x7FF8000000000000L);
        x.desk(5, 1);
        due("7 kin", x.write(0, 0), STATE);
        due("7 kin as number", x.write(NONE, 0), STATE);
        due("7 kin behind", x.write(7, 0), STATE);
    }

    static void seat() {
        PensionHouse x = new PensionHouse();
        x.person(true, 0);
        x.person(false, 0);
        due("8 unknown ahead of state", x.seat(0, 2), UNKNOWN);
        due("8 no kin", x.seat(0, 0), STATE);
        due("8 none of no kin", x.seat(9, NONE), STATE);
        x.desk(4, 2);
        due("8 reals are no kin", x.seat(0, 0), STATE);
        x.desk(5, 2);
        due("8 kin child", x.seat(0, 0), 1);
        due("8 kin spouse", x.seat(1, 1), 1);
        due("8 read", x.read(1), 1);
        due("8 unknown", x.seat(5, -2), UNKNOWN);
        due("8 behind", x.seat(2, 0), OUTSIDE);
        due("8 below", x.seat(-1, 0), OUTSIDE);
        due("8 none", x.seat(1, NONE), 1);
        due("8 none read", x.read(1), -1);
        x.desk(6, 1);
        due("8 child", x.seat(0, 0), 1);
        due("8 no spouse there", x.seat(0, 1), STATE);
        due("8 outside ahead of belonging", x.seat(1, 1), OUTSIDE);
        due("8 stays", x.read(0), 0);
        x.desk(7, 1);
        due("8 spouse", x.seat(0, 1), 1);
        due("8 no child there", x.seat(0, 0), STATE);
        due("8 none there", x.seat(0, NONE), 1);
    }

    static void read() {
        Desk y = new Desk();
        y.house.person(false, -9);
        y.house.person(true, -7);
        y.row(5, 1);
        y.fact("kin");
        due("11 edition", y.edition(0, 0, "rule a = kin[0];"), 1);
        due("11 figure", y.figure("a"), 0);
        due("9 a person", y.house.sort(), 8);
        due("10 a person", y.house.length(), 0);
        due("11 a person's number", y.house.read(NONE), 1);
        due("11 no item", y.house.read(0), 0);
        due("7 a person is no number", y.house.write(NONE, 5), STATE);
        due("8 a person is no kin", y.house.seat(0, 0), STATE);
        y.feed("p");
        due("12 a person is no fact", y.house.fact(0, 0, 389), STATE);
        y.feed("p");
        due("12 outside ahead of it", y.house.fact(0, 5, 4), OUTSIDE);
    }

    static void fact() {
        Desk y = new Desk();
        y.whole(7);
        y.feed("a");
        due("12 member", y.house.fact(10, 9, 3), UNKNOWN);
        due("12 used up where refused", y.house.count(5), 0);
        y.feed("a");
        due("12 member -1", y.house.fact(-1, 0, 3), UNKNOWN);
        y.feed("a");
        due("12 to before from", y.house.fact(0, 9, 8), OUTSIDE);
        y.feed("");
        due("12 outside ahead of no name", y.house.fact(0, 0, 390), OUTSIDE);
        y.feed("a");
        due("12 from", y.house.fact(0, -1, 3), OUTSIDE);
        due("12 no name", y.house.fact(0, 0, 0), STATE);
        for (int i = 0; i < 200; i++) {
            y.whole(i);
            due("12 fact " + i, y.fact(i % 10, "f", i, i), i);
        }
        due("12 room", y.fact(0, "f", 0, 389), ROOM);
        due("12 state ahead of room", y.fact(0, "9", 0, 389), STATE);
        due("12 count", y.house.count(1), 200);
        y.feed("f");
        due("12 its value", y.house.known(7, 37, 0), 37);
        due("12 its value on the desk", y.house.read(NONE), 37);
        Desk z = new Desk();
        z.row(2, 1, 2, 3);
        z.fact("r");
        due("12 the desk stays", z.house.length(), 3);
        z.house.write(0, 50);
        z.feed("r");
        z.house.known(0, 0, 0);
        due("12 a fact is no longer the desk", z.house.read(0), 1);
    }

    static void namesOfFacts() {
        String[] names = {"a", "abcdefgh", "a1234567", " a", "a\n", "\n  zz9 \n ", "dayx", "rules", "i", "sums"};
        String[] none = {"", " ", "9a", "abcdefghi", "day", "rule", "zeros", "A", "a b", "a,", "a;", "a\t", "a\u00e9", "a-b", "1", "a 1"};
        Desk y = new Desk();
        for (int i = 0; i < names.length; i++) {
            due("12 name " + names[i], y.fact(names[i]), i);
        }
        for (String text : none) {
            due("12 no name " + text, y.fact(text), STATE);
        }
    }

    static void annul() {
        Desk y = new Desk();
        due("13 unknown", y.house.annul(0), UNKNOWN);
        y.fact("a");
        due("13 unknown -1", y.house.annul(-1), UNKNOWN);
        due("13 unknown 1", y.house.annul(1), UNKNOWN);
        y.house.clock(10);
        y.fact("b");
        y.house.clock(20);
        due("13 annul", y.house.annul(0), 1);
        due("13 again", y.house.annul(0), STATE);
        y.house.clock(30);
        due("13 again later", y.house.annul(0), STATE);
        due("13 is still a fact", y.house.count(1), 2);
        y.feed("a");
        due("13 known before", y.house.known(0, 0, 19), 0);
        y.feed("a");
        due("13 void from then on", y.house.known(0, 0, 20), NONE);
        y.feed("a");
        due("13 void later", y.house.known(0, 0, 30), NONE);
        y.fact("c");
        due("13 on the same day", y.house.annul(2), 1);
        y.feed("c");
        due("13 never known", y.house.known(0, 0, 30), NONE);
    }

    static void known() {
        Desk y = new Desk();
        y.house.clock(5);
        y.whole(1);
        y.fact(3, "a", 10, 20);
        y.house.clock(8);
        y.real(2.5);
        y.fact(3, "a", 15, 30);
        y.whole(9);
        String[] days = {"9", "10", "14", "15", "20", "21", "30", "31"};
        int[] asOf8 = {NONE, 0, 0, 1, 1, 1, 1, NONE};
        int[] asOf7 = {NONE, 0, 0, 0, 0, NONE, NONE, NONE};
        for (int i = 0; i < days.length; i++) {
            y.feed("a");
            due("14 as of 8, day " + days[i], y.house.known(3, Integer.parseInt(days[i]), 8), asOf8[i]);
            y.feed("a");
            due("14 as of 7, day " + days[i], y.house.known(3, Integer.parseInt(days[i]), 7), asOf7[i]);
        }
        y.feed("a");
        due("14 ahead of all", y.house.known(3, 15, 4), NONE);
        y.feed("a");
        due("14 the value", y.house.known(3, 16, 8), 1);
        due("14 its sort", y.house.sort(), 1);
        due("14 its bits", y.house.read(NONE), Desk.bits(2.5));
        y.feed("a");
        due("14 another member", y.house.known(2, 16, 8), NONE);
        due("14 the desk stays", y.house.read(NONE), Desk.bits(2.5));
        y.feed("b");
        due("14 another name", y.house.known(3, 16, 8), NONE);
        y.feed("a b");
        due("14 member ahead", y.house.known(10, 400, 8), UNKNOWN);
        due("14 used up", y.house.count(5), 0);
        y.feed("9");
        due("14 day ahead", y.house.known(3, 390, 8), OUTSIDE);
        y.feed("a");
        due("14 above now", y.house.known(3, 16, 9), OUTSIDE);
        y.feed("a");
        due("14 as of -1", y.house.known(3, 16, -1), OUTSIDE);
        due("14 no name", y.house.known(3, 16, 8), STATE);
        y.feed("sum");
        due("14 a word", y.house.known(3, 16, 8), STATE);
        due("14 max", y.house.known(MAX, MAX, MAX), UNKNOWN);
    }
}
