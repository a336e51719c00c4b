/** A test of its own for each sentence of "Terms" 1 and of promises 1 to 14 that names a bound or a refusal. */
public final class SentencesOfTheDesk {
    static final int NONE = -1, UNKNOWN = -2, OUTSIDE = -3, STATE = -4, ROOM = -5;
    static final int MIN = Integer.MIN_VALUE, MAX = Integer.MAX_VALUE;
    static final int[] NO_DAYS = {-1, 390, MIN, MAX};
    static final int[] NO_MEMBERS = {-1, 10, MIN, MAX};
    static final int[] NO_SCHEMES = {-1, 4, MIN, MAX};
    static final long NOT_A_NUMBER = 0x7FF8000000000000L, MINUS_NOUGHT = 1L << 63;
    static final String[] WORDS = ("best born ceil day else floor from if join last len max min near of real root rule sum then to try"
            + " whole with zeros").split(" ");

    public static void main(String[] args) throws Exception {
        Sentences.run(SentencesOfTheDesk.class);
    }

    static void due(String call, long got, long want) {
        Desk.due(call, got, want);
    }

    /** A house with something of all, NOW 75, a RUN that goes on, and "f" on THE TAPE. */
    static Desk lived() {
        Desk x = new Desk();
        x.house.person(true, -500);
        x.house.person(false, -9000);
        x.whole(7);
        x.fact(0, "f", 0, 389);
        x.real(1.5);
        x.fact(3, "g", 5, 20);
        x.whole(9);
        x.fact(0, "f", 0, 20);
        x.edition(0, 0, "rule due=f*100;");
        x.edition(0, 70, "rule a=f;rule b=1/0;rule due=try b else a+1;");
        x.edition(0, 80, "rule due=");
        x.house.award(0, 0, 0);
        x.house.award(3, 1, 0);
        x.house.award(6, 0, 1);
        x.house.deduct(0, 300, 4);
        x.house.share(20);
        x.house.clock(30);
        x.house.annul(2);
        x.house.run(0);
        x.house.advance(6);
        x.house.clock(75);
        x.house.run(1);
        x.house.advance(1);
        x.figure(0, 0, "due", 75, 75);
        x.row(4, Desk.bits(2.5), Desk.bits(-1));
        x.feed("f");
        return x;
    }

    /** As the text that was read latest has a FAULT of kind 1, a call that reads one with it changes nothing. */
    static Desk livedFaulty() {
        Desk x = lived();
        x.house.cut(0);
        x.edition(0, 80, "?");
        x.feed("f");
        return x;
    }

    static Desk livedWithKin() {
        Desk x = lived();
        x.row(6, 0, -1);
        return x;
    }

    static Desk livedWithWhole() {
        Desk x = lived();
        x.whole(4);
        return x;
    }

    // ---- Terms 1

    static void terms1_daysAre0To389() {
        Desk x = new Desk();
        for (int day : NO_DAYS) {
            due("clock " + day, x.house.clock(day), OUTSIDE);
            x.feed("a");
            due("fact from " + day, x.house.fact(0, day, 389), OUTSIDE);
            x.feed("a");
            due("fact to " + day, x.house.fact(0, 0, day), OUTSIDE);
            due("known " + day, x.known(0, "a", day, 0), OUTSIDE);
            due("known as of " + day, x.known(0, "a", 0, day), OUTSIDE);
            due("edition " + day, x.edition(0, day, "rule a=1;"), OUTSIDE);
            due("inForce " + day, x.house.inForce(0, day), OUTSIDE);
            due("figure " + day, x.figure(0, 0, "a", day, 0), OUTSIDE);
            due("figure as of " + day, x.figure(0, 0, "a", 0, day), OUTSIDE);
            due("trial " + day, x.trial(0, day, 0, "rule a=1;"), OUTSIDE);
            due("trial as of " + day, x.trial(0, 0, day, "rule a=1;"), OUTSIDE);
        }
        due("edition 389", x.edition(0, 389, "rule a=day;"), 1);
        due("edition 0", x.edition(0, 0, "rule a=day+0;"), 1);
        due("clock 389", x.house.clock(389), 1);
        x.feed("a");
        due("fact 0 .. 389", x.house.fact(0, 0, 389), 0);
        for (int day = 0; day <= 389; day += 389) {
            due("known " + day, x.known(0, "a", day, 389), 0);
            due("inForce " + day, x.house.inForce(0, day), day);
            due("figure " + day, x.figure(0, 0, "a", day, day), 0);
            due("figure's day", x.house.read(NONE), day);
            due("trial " + day, x.trial(0, day, day, "rule due=day;"), 1023);
        }
    }

    static void terms1_thirtyDaysAMonth0To12() {
        Desk x = new Desk();
        x.edition(0, 0, "rule due=day;");
        x.house.clock(389);
        for (int month : new int[] {-1, 13, MIN, MAX}) {
            due("award " + month, x.house.award(0, 0, month), OUTSIDE);
            due("run " + month, x.house.run(month), OUTSIDE);
        }
        due("award 12", x.house.award(0, 0, 12), 0);
        due("award 0", x.house.award(1, 0, 0), 1);
        for (int month : new int[] {-1, 13, MIN, MAX}) {
            due("due " + month, x.house.due(0, month, 0), OUTSIDE);
            due("balance " + month, x.house.balance(0, month), 0);
        }
        for (int month = 0; month <= 12; month++) {
            due("due " + month, x.house.due(0, month, 0), 30 * month);
        }
        due("run 0", x.house.run(0), 1);
        due("advance", x.house.advance(1), 1);
        due("run 12", x.house.run(12), 2);
    }

    static void terms1_nowIsADay0AtFirst() {
        Desk x = new Desk();
        due("count 6", x.house.count(6), 0);
        due("a day before all", x.house.clock(0), 1);
        due("as of 1", x.known(0, "a", 0, 1), OUTSIDE);
        due("as of 0", x.known(0, "a", 0, 0), NONE);
    }

    static void terms1_wholeHas64Bits() {
        Desk x = new Desk();
        for (long bits : new long[] {Long.MIN_VALUE, Long.MAX_VALUE, -1, 1L << 32, 0x7FF0000000000001L, -1L << 31}) {
            x.whole(bits);
            due("whole " + bits, x.house.read(NONE), bits);
            x.row(3, 0, bits);
            due("longs " + bits, x.house.read(1), bits);
        }
    }

    static void terms1_allNotANumbersAreOne() {
        Desk x = new Desk();
        for (long bits : new long[] {NOT_A_NUMBER, 0x7FF0000000000001L, 0xFFF0000000000001L, 0x7FFFFFFFFFFFFFFFL, -1L, 0xFFF8000000000000L}) {
            x.house.desk(1, 0);
            x.house.write(NONE, bits);
            due("real " + bits, x.house.read(NONE), NOT_A_NUMBER);
            x.row(4, 0, bits);
            due("reals " + bits, x.house.read(1), NOT_A_NUMBER);
        }
        for (long bits : new long[] {0x7FF0000000000000L, 0xFFF0000000000000L, MINUS_NOUGHT, 1, 0x7FEFFFFFFFFFFFFFL}) {
            x.house.desk(1, 0);
            x.house.write(NONE, bits);
            due("a number " + bits, x.house.read(NONE), bits);
            x.row(4, 0, bits);
            due("an item " + bits, x.house.read(1), bits);
        }
    }

    static void terms1_rowsHave0To12Items() {
        PensionHouse x = new PensionHouse();
        for (int sort = 2; sort <= 7; sort++) {
            due("row of 0 " + sort, x.desk(sort, 0), 0);
            due("length 0 " + sort, x.length(), 0);
            due("no item 0 " + sort, sort >= 5 ? x.seat(0, NONE) : x.write(0, 1), OUTSIDE);
            due("row of 12 " + sort, x.desk(sort, 12), 12);
            due("length 12 " + sort, x.length(), 12);
            due("item 11 " + sort, sort >= 5 ? x.seat(11, NONE) : x.write(11, 1), 1);
            due("no item 12 " + sort, sort >= 5 ? x.seat(12, NONE) : x.write(12, 1), OUTSIDE);
            due("row of 13 " + sort, x.desk(sort, 13), OUTSIDE);
            due("row of -1 " + sort, x.desk(sort, -1), OUTSIDE);
            due("length stays " + sort, x.length(), 12);
        }
    }

    static void terms1_rowsOf0AndOf12ItemsAreFactsToo() {
        Desk x = new Desk();
        x.row(3);
        x.fact("none");
        x.row(3, 1, 2, 3, 4, 5, 6, 7, 8, 9, 10, 11, 12);
        x.fact("all");
        x.whole(1);
        due("of 0", x.known(0, "none", 0, 0), 0);
        due("length 0", x.house.length(), 0);
        due("of 12", x.known(0, "all", 0, 0), 1);
        due("length 12", x.house.length(), 12);
        for (int i = 0; i < 12; i++) {
            due("item " + i, x.house.read(i), i + 1);
        }
    }

    static void terms1_intsHave32Bits() {
        Desk x = new Desk();
        long[] bits = {1L << 31, -(1L << 31) - 1, 1L << 32, (1L << 32) - 1, Long.MAX_VALUE, Long.MIN_VALUE, Integer.MAX_VALUE};
        x.row(2, bits);
        for (int i = 0; i < bits.length; i++) {
            due("item " + i, x.house.read(i), (int) bits[i]);
        }
    }

    static void terms1_childrenAreOnlyChildrenSpousesOnlySpousesKinBoth() {
        PensionHouse x = new PensionHouse();
        x.person(true, 0);
        x.person(false, 0);
        int[][] due = {{1, 1}, {1, STATE}, {STATE, 1}};
        for (int sort = 5; sort <= 7; sort++) {
            x.desk(sort, 1);
            due("child in " + sort, x.seat(0, 0), due[sort - 5][0]);
            x.desk(sort, 1);
            due("spouse in " + sort, x.seat(0, 1), due[sort - 5][1]);
            due("none in " + sort, x.seat(0, NONE), 1);
        }
    }

    static void terms1_personsAre16AtMost() {
        PensionHouse x = new PensionHouse();
        x.desk(5, 1);
        for (int i = 0; i < 16; i++) {
            due("not there yet " + i, x.seat(0, i), UNKNOWN);
            due("person " + i, x.person(i % 3 == 0, -i), i);
            due("there " + i, x.seat(0, i), 1);
        }
        due("a seventeenth", x.person(true, 0), ROOM);
        due("is not there", x.seat(0, 16), UNKNOWN);
        due("count", x.count(0), 16);
    }

    static void terms1_birthIsFromMinus40000To389() {
        Desk x = new Desk();
        for (int birth : new int[] {-40001, 390, MIN, MAX}) {
            due("birth " + birth, x.house.person(true, birth), OUTSIDE);
        }
        due("birth -40000", x.house.person(true, -40000), 0);
        due("birth 389", x.house.person(true, 389), 1);
        x.row(6, 0, 1);
        x.fact("kids");
        x.edition(0, 0, "rule a=born(kids[0]);rule b=born(kids[1]);");
        due("a", x.figure("a"), 0);
        due("-40000", x.house.read(NONE), -40000);
        due("b", x.figure("b"), 0);
        due("389", x.house.read(NONE), 389);
    }

    /** member's VALUE of v and w, compared by a trial on day 0. */
    private static void alike(String what, int sort, long[] v, int otherSort, long[] w, boolean want) {
        Desk x = new Desk();
        for (int i = 0; i < 4; i++) {
            x.house.person(i % 2 == 0, 0);
        }
        put(x, sort, v);
        x.fact(4, "v", 0, 389);
        put(x, otherSort, w);
        x.fact(4, "w", 0, 389);
        x.edition(0, 0, "rule due=v;");
        due(what, x.trial(0, 0, 0, "rule due=w;"), want ? 0 : 16);
    }

    private static void put(Desk x, int sort, long... bits) {
        if (sort >= 2) {
            x.row(sort, bits);
        } else {
            x.house.desk(sort, 0);
            x.house.write(NONE, bits[0]);
        }
    }

    static void terms1_alikeAreValuesOfOneSort() {
        alike("whole 0 and real 0.0", 0, new long[] {0}, 1, new long[] {0}, false);
        alike("whole and a row of it", 0, new long[] {5}, 3, new long[] {5}, false);
        for (int sort = 2; sort <= 7; sort++) {
            for (int other = 2; other <= 7; other++) {
                alike("empty " + sort + " and " + other, sort, new long[0], other, new long[0], sort == other);
            }
        }
        alike("ints and longs", 2, new long[] {1, 2}, 3, new long[] {1, 2}, false);
        alike("longs and reals", 3, new long[] {1, 2}, 4, new long[] {1, 2}, false);
        alike("kin and children", 5, new long[] {0, 2}, 6, new long[] {0, 2}, false);
        alike("children and spouses, none", 6, new long[] {-1}, 7, new long[] {-1}, false);
    }

    static void terms1_alikeAreValuesWithLikeBits() {
        alike("whole", 0, new long[] {-5}, 0, new long[] {-5}, true);
        alike("another whole", 0, new long[] {5}, 0, new long[] {5 + (1L << 32)}, false);
        alike("not-a-numbers", 1, new long[] {0x7FF0000000000001L}, 1, new long[] {-1}, true);
        alike("0 and -0", 1, new long[] {0}, 1, new long[] {MINUS_NOUGHT}, false);
        alike("one bit", 1, new long[] {Desk.bits(1)}, 1, new long[] {Desk.bits(1) + 1}, false);
    }

    static void terms1_alikeAreValuesWithLikeItems() {
        alike("longs", 3, new long[] {1, 2, 3}, 3, new long[] {1, 2, 3}, true);
        alike("another order", 3, new long[] {1, 2}, 3, new long[] {2, 1}, false);
        alike("one more", 3, new long[] {1, 0}, 3, new long[] {1}, false);
        alike("the first", 3, new long[] {1, 2}, 3, new long[] {0, 2}, false);
        alike("ints of like low bits", 2, new long[] {1L << 32}, 2, new long[] {0}, true);
        alike("reals 0 and -0", 4, new long[] {0}, 4, new long[] {MINUS_NOUGHT}, false);
        alike("reals, not-a-numbers", 4, new long[] {-1}, 4, new long[] {NOT_A_NUMBER}, true);
        alike("children", 6, new long[] {0, -1, 2}, 6, new long[] {0, -1, 2}, true);
        alike("none and one", 6, new long[] {0, -1}, 6, new long[] {0, 0}, false);
        alike("the last of twelve", 3, new long[] {0, 0, 0, 0, 0, 0, 0, 0, 0, 0, 0, 1}, 3, new long[12], false);
    }

    static void terms1_alikeIsTheSamePerson() {
        Desk x = new Desk();
        x.house.person(true, 5);
        x.house.person(true, 5);
        x.row(6, 0, 1, 0);
        x.fact(4, "k", 0, 389);
        x.edition(0, 0, "rule due=k[0];");
        due("the same", x.trial(0, 0, 0, "rule due=k[2];"), 0);
        due("one of the same birth", x.trial(0, 0, 0, "rule due=k[1];"), 16);
        due("a person and his number", x.trial(0, 0, 0, "rule due=0;"), 1023);
    }

    static void terms1_theDeskIsWhole0AtFirst() {
        PensionHouse x = new PensionHouse();
        due("sort", x.sort(), 0);
        due("length", x.length(), 0);
        due("read", x.read(NONE), 0);
        due("a number it is", x.write(NONE, 4), 1);
    }

    static void terms1_namesAre1To8LettersAndDigitsALetterFirst() {
        Desk x = new Desk();
        int facts = 0;
        for (String name : new String[] {"a", "z", "a0", "z9", "abcdefgh", "a1234567", "zzzzzzzz", "q0q0q0q0"}) {
            due(name, x.fact(name), facts++);
        }
        for (String name : new String[] {"", "abcdefghi", "a12345678", "0a", "9", "A", "aB", "a`", "a{", "a/", "a:", "`a", "{a", "\u00e1", "a_b",
            "zzzzzzzzzzzzzzzz", "abcdefghabcdefgh"}) {
            due("no name " + name, x.fact(name), STATE);
        }
    }

    static void terms1_noNameIsAWord() {
        Desk x = new Desk();
        due("words", WORDS.length, 25);
        for (String word : WORDS) {
            due(word, x.fact(word), STATE);
            due(word, x.edition(0, 0, "rule " + word + "=1;"), -15);
            due(word + " is a token that can not stand there", x.house.fault(), 2);
        }
        int facts = 0;
        for (String word : WORDS) {
            due(word + "x", x.fact(word + "x"), facts++);
            due("x" + word, x.fact("x" + word), facts++);
            due("a letter less of " + word, x.fact(word.substring(0, word.length() - 1)), facts++);
        }
    }

    static void terms1_factsAre200() {
        PensionHouse x = new PensionHouse();
        for (int i = 0; i < 200; i++) {
            x.feed('f', 1);
            due("fact " + i, x.fact(i % 10, i, i), i);
        }
        x.feed('f', 1);
        due("the 201st", x.fact(0, 0, 389), ROOM);
        due("count", x.count(1), 200);
        x.feed('f', 1);
        due("the 200th", x.known(9, 199, 0), 199);
        due("annul it", x.annul(199), 1);
        due("annul the 201st", x.annul(200), UNKNOWN);
        x.feed('f', 1);
        due("a VOID one makes no room", x.fact(0, 0, 389), ROOM);
    }

    static void terms1_membersAre0To9() {
        Desk x = new Desk();
        x.edition(0, 0, "rule a=1;");
        for (int member : NO_MEMBERS) {
            due("fact " + member, x.fact(member, "a", 0, 389), UNKNOWN);
            due("known " + member, x.known(member, "a", 0, 0), UNKNOWN);
            due("figure " + member, x.figure(member, 0, "a", 0, 0), UNKNOWN);
            due("award " + member, x.house.award(member, 0, 0), UNKNOWN);
        }
        int made = 0;
        for (int member = 0; member <= 9; member += 9) {
            due("fact " + member, x.fact(member, "a", 0, 389), made);
            due("known " + member, x.known(member, "a", 0, 0), made);
            due("figure " + member, x.figure(member, 0, "a", 0, 0), 0);
            due("award " + member, x.house.award(member, 0, 0), made++);
        }
    }

    static void terms1_fromAndToBothCount() {
        Desk x = new Desk();
        x.fact(0, "a", 100, 102);
        x.fact(0, "b", 7, 7);
        int[] want = {NONE, 0, 0, 0, NONE};
        for (int day = 99; day <= 103; day++) {
            due("day " + day, x.known(0, "a", day, 0), want[day - 99]);
        }
        due("before one day", x.known(0, "b", 6, 0), NONE);
        due("one day", x.known(0, "b", 7, 0), 1);
        due("behind one day", x.known(0, "b", 8, 0), NONE);
    }

    static void terms1_voidFromALaterNowOnOrTheSame() {
        Desk x = new Desk();
        x.house.clock(10);
        x.fact(0, "a", 0, 389);
        x.fact(0, "b", 0, 389);
        x.house.annul(1);
        x.house.clock(12);
        x.house.annul(0);
        x.house.clock(14);
        due("as of before it was told", x.known(0, "a", 0, 9), NONE);
        due("as of when it was told", x.known(0, "a", 0, 10), 0);
        due("as of before it is void", x.known(0, "a", 0, 11), 0);
        due("as of when it is void", x.known(0, "a", 0, 12), NONE);
        due("as of later", x.known(0, "a", 0, 14), NONE);
        due("void on the same day", x.known(0, "b", 0, 10), NONE);
        due("void on the same day, later", x.known(0, "b", 0, 14), NONE);
    }

    static void terms1_knownIsTheFactWithTheGreatestNumber() {
        Desk x = new Desk();
        x.fact(0, "a", 0, 389);
        x.fact(0, "a", 0, 389);
        x.fact(1, "a", 0, 389);
        x.fact(0, "b", 0, 389);
        x.fact(0, "a", 50, 60);
        due("told latest", x.known(0, "a", 10, 0), 1);
        due("told latest, those days", x.known(0, "a", 55, 0), 4);
        x.house.clock(5);
        x.house.annul(4);
        x.house.annul(1);
        due("the one before, once it is VOID", x.known(0, "a", 55, 5), 0);
        due("as of before that", x.known(0, "a", 55, 4), 4);
        due("another name", x.known(0, "b", 55, 5), 3);
        due("another member", x.known(1, "a", 55, 5), 2);
        due("a name that goes on", x.known(0, "aa", 55, 5), NONE);
    }

    // ---- Promises 1 to 14

    static void promise1_nothingIsThereAndShareIs50() {
        Desk x = new Desk();
        for (int what = 0; what <= 6; what++) {
            due("count " + what, x.house.count(what), 0);
        }
        due("fault", x.house.fault(), 0);
        due("line", x.house.told(0), NONE);
        for (int what = 1; what <= 4; what++) {
            due("told " + what, x.house.told(what), 0);
        }
        due("step", x.house.step(0), UNKNOWN);
        for (int scheme = 0; scheme <= 3; scheme++) {
            due("edition " + scheme, x.house.inForce(scheme, 389), NONE);
        }
        for (int what = 0; what <= 7; what++) {
            due("payment " + what, x.house.payment(0, what), 0);
        }
        due("fact", x.house.annul(0), UNKNOWN);
        due("award", x.house.due(0, 0, 0), UNKNOWN);
        due("no run goes on", x.house.advance(1), STATE);
        due("share", x.house.share(0), 50);
    }

    static void promise2_theLowestBytesTheHighestFirst() {
        Desk x = new Desk();
        x.fact("abcdefgh");
        x.fact("gh");
        due("8 bytes", x.house.feed(0x6162636465666768L, 8), 8);
        due("abcdefgh", x.house.known(0, 0, 0), 0);
        due("2 bytes", x.house.feed(0x6162636465666768L, 2), 2);
        due("gh", x.house.known(0, 0, 0), 1);
        for (int n = 1; n <= 8; n++) {
            due("n " + n, x.house.feed(0x6162636465666768L, n), n);
            due("cut " + n, x.house.cut(0), n);
        }
        x.house.feed(-1, 1);
        due("a byte 255", x.house.edition(0, 0), -10);
        due("is no token", x.house.fault(), 1);
    }

    static void promise2_outsideNIsNot1To8() {
        for (int n : new int[] {0, 9, -1, MIN, MAX}) {
            Sentences.refuses(SentencesOfTheDesk::lived, "n " + n, OUTSIDE, x -> x.feed(0x6161, n));
        }
    }

    static void promise2_roomTheTapeHas1600BytesAtMost() {
        for (int n = 1; n <= 8; n++) {
            PensionHouse x = new PensionHouse();
            for (int i = 0; i < 200; i++) {
                x.feed(0x2020202020202020L, 8);
            }
            due("full", x.count(5), 1600);
            due("full " + n, x.feed(0, n), ROOM);
            x.cut(1600 - n);
            due("one too many for " + n, n == 8 ? ROOM : x.feed(0, n + 1), ROOM);
            due("up to the end " + n, x.feed(0x6161616161616161L, n), 1600);
            due("full again " + n, x.feed(0, 1), ROOM);
            due("nothing was cut off " + n, x.count(5), 1600);
            due("a name at its end is read " + n, x.known(0, 0, 0), NONE);
            due("used up " + n, x.count(5), 0);
            due("room again " + n, x.feed(0, 8), 8);
        }
    }

    static void promise2_roomChangesNothing() {
        Desk x = new Desk();
        x.fact("f");
        for (int i = 0; i < 199; i++) {
            x.house.feed(0x2020202020202020L, 8);
        }
        x.house.feed(0x2020202020202066L, 8);
        due("full", x.house.feed(0x61, 1), ROOM);
        due("what was there stays", x.house.known(0, 0, 0), 0);
    }

    static void promise2_outsideAheadOfRoom() {
        PensionHouse x = new PensionHouse();
        for (int i = 0; i < 200; i++) {
            x.feed(0, 8);
        }
        due("n 9", x.feed(0, 9), OUTSIDE);
        due("n 0", x.feed(0, 0), OUTSIDE);
    }

    static void promise3_theFirstNBytesStay() {
        Desk x = new Desk();
        x.fact("abc");
        x.feed("abcdef");
        due("none goes", x.house.cut(6), 0);
        due("three go", x.house.cut(3), 3);
        due("count", x.house.count(5), 3);
        due("the first", x.house.known(0, 0, 0), 0);
        x.feed("ab");
        due("all go", x.house.cut(0), 2);
        due("of none", x.house.cut(0), 0);
        for (int i = 0; i < 200; i++) {
            x.house.feed(0, 8);
        }
        due("none of 1600", x.house.cut(1600), 0);
        due("1600", x.house.cut(0), 1600);
    }

    static void promise3_outsideBelow0OrMoreThanItHas() {
        for (int n : new int[] {-1, 2, MIN, MAX}) {
            Sentences.refuses(SentencesOfTheDesk::lived, "n " + n, OUTSIDE, x -> x.cut(n));
        }
        due("of an empty one", new PensionHouse().cut(1), OUTSIDE);
    }

    static void promise4_nowBecomesADay() {
        PensionHouse x = new PensionHouse();
        for (int day : new int[] {0, 1, 1, 388, 389, 389}) {
            due("clock " + day, x.clock(day), 1);
            due("count 6", x.count(6), day);
        }
    }

    static void promise4_outsideAlsoBeforeNow() {
        for (int day : new int[] {-1, 0, 74, 390, MIN, MAX}) {
            Sentences.refuses(SentencesOfTheDesk::lived, "day " + day, OUTSIDE, x -> x.clock(day));
        }
        due("NOW itself", lived().house.clock(75), 1);
    }

    static void promise5_outsideTheDay() {
        for (int birth : new int[] {-40001, 390, MIN, MAX}) {
            Sentences.refuses(SentencesOfTheDesk::lived, "birth " + birth, OUTSIDE, x -> x.person(true, birth));
        }
    }

    static Desk livedWithAllPersons() {
        Desk x = lived();
        for (int i = 2; i < 16; i++) {
            x.house.person(true, 0);
        }
        return x;
    }

    static void promise5_room() {
        Sentences.refuses(SentencesOfTheDesk::livedWithAllPersons, "a child", ROOM, x -> x.person(true, 0));
        Sentences.refuses(SentencesOfTheDesk::livedWithAllPersons, "a spouse", ROOM, x -> x.person(false, -40000));
    }

    static void promise5_outsideAheadOfRoom() {
        Sentences.refuses(SentencesOfTheDesk::livedWithAllPersons, "birth 390", OUTSIDE, x -> x.person(true, 390));
    }

    static void promise6_aRowOfItems0OrNone() {
        PensionHouse x = new PensionHouse();
        x.person(true, 0);
        for (int sort = 2; sort <= 7; sort++) {
            x.desk(sort, 12);
            for (int i = 0; i < 12; i++) {
                due("fill", sort == 7 ? 1 : sort >= 5 ? x.seat(i, 0) : x.write(i, -1), 1);
            }
            due("row " + sort, x.desk(sort, 12), 12);
            for (int i = 0; i < 12; i++) {
                due("row " + sort + " item " + i, x.read(i), sort >= 5 ? NONE : 0);
            }
        }
    }

    static void promise6_whole0OrReal0() {
        PensionHouse x = new PensionHouse();
        x.write(NONE, 5);
        due("real", x.desk(1, 0), 0);
        due("real sort", x.sort(), 1);
        due("real 0.0", x.read(NONE), 0);
        x.write(NONE, -1);
        due("whole", x.desk(0, 0), 0);
        due("whole sort", x.sort(), 0);
        due("whole 0", x.read(NONE), 0);
        x.write(NONE, 6);
        due("whole again", x.desk(0, 0), 0);
        due("whole 0 again", x.read(NONE), 0);
    }

    static void promise6_outsideTheSort() {
        for (int sort : new int[] {-1, 8, 9, MIN, MAX}) {
            Sentences.refuses(SentencesOfTheDesk::lived, "sort " + sort, OUTSIDE, x -> x.desk(sort, 0));
        }
    }

    static void promise6_outsideN() {
        for (int sort = 0; sort <= 7; sort++) {
            int at = sort;
            for (int n : new int[] {-1, sort < 2 ? 1 : 13, MIN, MAX}) {
                Sentences.refuses(SentencesOfTheDesk::lived, "sort " + sort + " n " + n, OUTSIDE, x -> x.desk(at, n));
            }
        }
    }

    static void promise7_ofARealTheBitsOfADouble() {
        PensionHouse x = new PensionHouse();
        x.desk(1, 0);
        due("write", x.write(NONE, Desk.bits(-2.5)), 1);
        due("read", x.read(NONE), Desk.bits(-2.5));
        due("sort", x.sort(), 1);
        due("not-a-number", x.write(NONE, 0xFFFFFFFFFFFFFFFFL), 1);
        due("told as one", x.read(NONE), NOT_A_NUMBER);
    }

    static void promise7_ofIntsTheLowest32Bits() {
        PensionHouse x = new PensionHouse();
        x.desk(2, 3);
        due("write", x.write(2, 0x123456789ABCDEF0L), 1);
        due("read", x.read(2), (int) 0x9ABCDEF0L);
        due("write", x.write(0, -1L << 32), 1);
        due("read", x.read(0), 0);
        due("the other", x.read(1), 0);
    }

    static void promise7_stateNotANumberWithNone() {
        for (int sort = 2; sort <= 7; sort++) {
            PensionHouse x = new PensionHouse();
            x.desk(sort, 1);
            due("row " + sort, x.write(NONE, 5), STATE);
            due("item stays " + sort, x.read(0), sort >= 5 ? NONE : 0);
        }
        Sentences.refuses(SentencesOfTheDesk::lived, "reals", STATE, x -> x.write(NONE, 5));
        Sentences.refuses(SentencesOfTheDesk::livedWithKin, "children", STATE, x -> x.write(NONE, 0));
    }

    static void promise7_stateNoRowOfNumbersWithAnotherI() {
        for (int i : new int[] {0, 1, -2, 12, MIN, MAX}) {
            Sentences.refuses(SentencesOfTheDesk::livedWithWhole, "whole " + i, STATE, x -> x.write(i, 5));
            Sentences.refuses(SentencesOfTheDesk::livedWithKin, "children " + i, STATE, x -> x.write(i, 0));
        }
    }

    static void promise7_outsideIAskedBehindState() {
        for (int i : new int[] {2, -2, 12, MIN, MAX}) {
            Sentences.refuses(SentencesOfTheDesk::lived, "reals " + i, OUTSIDE, x -> x.write(i, 5));
        }
        PensionHouse x = new PensionHouse();
        for (int sort = 2; sort <= 4; sort++) {
            x.desk(sort, 3);
            due("the last " + sort, x.write(2, 1), 1);
            due("behind " + sort, x.write(3, 1), OUTSIDE);
        }
    }

    static void promise8_anItemIsAPersonOrNone() {
        PensionHouse x = new PensionHouse();
        x.person(true, 0);
        x.desk(6, 2);
        due("seat", x.seat(1, 0), 1);
        due("read", x.read(1), 0);
        due("the other", x.read(0), NONE);
        due("none", x.seat(1, NONE), 1);
        due("read none", x.read(1), NONE);
    }

    static void promise8_unknown() {
        for (int person : new int[] {2, -2, 16, MIN, MAX}) {
            Sentences.refuses(SentencesOfTheDesk::livedWithKin, "person " + person, UNKNOWN, x -> x.seat(0, person));
        }
    }

    static void promise8_unknownAheadOfStateAndOutside() {
        Sentences.refuses(SentencesOfTheDesk::lived, "no kin", UNKNOWN, x -> x.seat(0, 2));
        Sentences.refuses(SentencesOfTheDesk::livedWithKin, "behind", UNKNOWN, x -> x.seat(2, 2));
    }

    static void promise8_stateTheDeskIsNoKin() {
        Sentences.refuses(SentencesOfTheDesk::lived, "reals", STATE, x -> x.seat(0, 0));
        Sentences.refuses(SentencesOfTheDesk::lived, "reals, none", STATE, x -> x.seat(0, NONE));
        Sentences.refuses(SentencesOfTheDesk::lived, "reals, behind", STATE, x -> x.seat(9, 0));
        Sentences.refuses(SentencesOfTheDesk::livedWithWhole, "whole", STATE, x -> x.seat(0, 0));
    }

    static void promise8_stateThePersonDoesNotBelong() {
        Sentences.refuses(SentencesOfTheDesk::livedWithKin, "a spouse of children", STATE, x -> x.seat(0, 1));
    }

    static void promise8_outsideIAheadOfThatHeDoesNotBelong() {
        for (int i : new int[] {2, -1, -2, MIN, MAX}) {
            Sentences.refuses(SentencesOfTheDesk::livedWithKin, "a spouse at " + i, OUTSIDE, x -> x.seat(i, 1));
            Sentences.refuses(SentencesOfTheDesk::livedWithKin, "a child at " + i, OUTSIDE, x -> x.seat(i, 0));
            Sentences.refuses(SentencesOfTheDesk::livedWithKin, "none at " + i, OUTSIDE, x -> x.seat(i, NONE));
        }
    }

    /** A house whose DESK is PERSON 1. */
    static Desk livedWithPerson() {
        Desk x = lived();
        x.house.cut(0);
        x.row(7, -1, 1);
        x.fact(9, "f", 0, 389);
        x.edition(3, 0, "rule a=f[1];");
        x.figure(9, 3, "a", 0, 75);
        x.feed("f");
        return x;
    }

    static void promise9_theSortOfAPersonIs8() {
        due("sort", livedWithPerson().house.sort(), 8);
        due("no write", livedWithPerson().house.write(NONE, 0), STATE);
        due("no item", livedWithPerson().house.write(0, 0), STATE);
        due("no seat", livedWithPerson().house.seat(0, 1), STATE);
    }

    static void promise10_0ItemsOfNoRow() {
        PensionHouse x = new PensionHouse();
        x.desk(4, 12);
        due("a row", x.length(), 12);
        x.desk(0, 0);
        due("whole", x.length(), 0);
        x.desk(4, 12);
        x.desk(1, 0);
        due("real", x.length(), 0);
        due("a person", livedWithPerson().house.length(), 0);
    }

    static void promise11_bitsOfANumberOrAPersonWithNone() {
        PensionHouse x = new PensionHouse();
        x.write(NONE, -7);
        due("whole", x.read(NONE), -7);
        x.desk(1, 0);
        x.write(NONE, Desk.bits(0.1));
        due("real", x.read(NONE), Desk.bits(0.1));
        due("a person", livedWithPerson().house.read(NONE), 1);
    }

    static void promise11_0WhereThereIsNoneSuch() {
        PensionHouse x = new PensionHouse();
        x.person(true, 0);
        x.write(NONE, 9);
        for (int i : new int[] {0, 1, -2, 12, MIN, MAX}) {
            due("whole " + i, x.read(i), 0);
            due("a person " + i, livedWithPerson().house.read(i), 0);
        }
        for (int sort = 2; sort <= 6; sort++) {
            x.desk(sort, 2);
            for (int i = 0; i < 2; i++) {
                due("fill", sort >= 5 ? x.seat(i, NONE) : x.write(i, 9), 1);
            }
            for (int i : new int[] {NONE, 2, -2, 12, MIN, MAX}) {
                due("row " + sort + " item " + i, x.read(i), 0);
            }
            due("an item", x.read(1), sort >= 5 ? NONE : 9);
        }
    }

    static void promise12_blanksAroundTheNameAsMayBe() {
        Desk x = new Desk();
        due("plain", x.fact("a"), 0);
        due("blanks", x.fact(" \n a\n \n"), 1);
        due("the same", x.known(0, "\n\na", 0, 0), 1);
        for (String text : new String[] {"a\t", "\ra", "a b", "a a", "a;", "\u0000a", "a\u0000", "a\u00a0", "a 1", "1 a", " ", "\n"}) {
            due("alone " + text, x.fact(text), STATE);
        }
    }

    static void promise12_itsValueAndWhenItWasTold() {
        Desk x = new Desk();
        x.house.clock(9);
        x.row(2, 4, 5);
        due("fact", x.fact("a"), 0);
        due("the desk stays", x.house.length(), 2);
        x.house.write(0, 99);
        due("known", x.known(0, "a", 0, 9), 0);
        due("as it was then", x.house.read(0), 4);
        x.house.clock(10);
        due("not before it was told", x.known(0, "a", 0, 8), NONE);
    }

    static void promise12_unknown() {
        for (int member : NO_MEMBERS) {
            Sentences.refusesAndReads(SentencesOfTheDesk::lived, "f", "member " + member, UNKNOWN, x -> x.fact(member, 0, 389));
        }
    }

    static void promise12_outsideDaysToBeforeFrom() {
        int[][] days = {{-1, 5}, {0, 390}, {390, 390}, {5, 4}, {389, 0}, {0, -1}, {MIN, MAX}};
        for (int[] pair : days) {
            Sentences.refusesAndReads(SentencesOfTheDesk::lived, "f", pair[0] + " .. " + pair[1], OUTSIDE, x -> x.fact(0, pair[0], pair[1]));
        }
        Desk x = new Desk();
        due("one day", x.fact(0, "a", 389, 389), 0);
    }

    static void promise12_stateItIsNoName() {
        for (String text : new String[] {"", "9", "day", "abcdefghi", "f f", "f;"}) {
            Sentences.refusesAndReads(SentencesOfTheDesk::lived, text, "tape " + text, STATE, x -> x.fact(0, 0, 389));
        }
    }

    static void promise12_stateTheDeskIsAPerson() {
        Sentences.refusesAndReads(SentencesOfTheDesk::livedWithPerson, "f", "a person", STATE, x -> x.fact(0, 0, 389));
        Desk x = livedWithPerson();
        x.row(5, 1);
        due("a row of one is none", x.house.fact(0, 0, 389), 4);
    }

    static Desk full() {
        Desk x = new Desk();
        for (int i = 0; i < 200; i++) {
            x.house.feed('f', 1);
            x.house.fact(0, 0, 389);
        }
        return x;
    }

    static void promise12_room() {
        Desk x = full();
        due("room", x.fact(0, "f", 0, 389), ROOM);
        due("used up", x.house.count(5), 0);
        due("count", x.house.count(1), 200);
        due("nothing changed", x.known(0, "f", 0, 0), 199);
    }

    static void promise12_unknownOutsideStateRoomInThatOrder() {
        Desk x = full();
        due("unknown", x.fact(10, "9", 5, 4), UNKNOWN);
        due("outside", x.fact(0, "9", 5, 4), OUTSIDE);
        due("state", x.fact(0, "9", 5, 5), STATE);
        due("room", x.fact(0, "f", 5, 5), ROOM);
        x.edition(0, 0, "rule a=kin[0];");
        due("used up by each", x.house.count(5), 0);
    }

    static void promise13_unknown() {
        for (int fact : new int[] {3, -1, 200, MIN, MAX}) {
            Sentences.refuses(SentencesOfTheDesk::lived, "fact " + fact, UNKNOWN, x -> x.annul(fact));
        }
    }

    static void promise13_stateItIsVoid() {
        Sentences.refuses(SentencesOfTheDesk::lived, "fact 2", STATE, x -> x.annul(2));
        Desk x = new Desk();
        x.fact("a");
        due("void", x.house.annul(0), 1);
        due("void on the same day", x.house.annul(0), STATE);
        x.house.clock(3);
        due("void later", x.house.annul(0), STATE);
        due("void from the first time on", x.known(0, "a", 0, 0), NONE);
    }

    static void promise14_theDeskIsItsValue() {
        Desk x = new Desk();
        x.house.person(false, 0);
        for (int sort = 0; sort <= 7; sort++) {
            x.house.desk(sort, sort < 2 ? 0 : 3);
            due("put", sort == 6 ? 1 : sort >= 5 ? x.house.seat(2, 0) : x.house.write(sort < 2 ? NONE : 2, 50 + sort), 1);
            x.fact("s" + sort);
        }
        for (int sort = 7; sort >= 0; sort--) {
            due("known " + sort, x.known(0, "s" + sort, 0, 0), sort);
            due("sort " + sort, x.house.sort(), sort);
            due("length " + sort, x.house.length(), sort < 2 ? 0 : 3);
            due("value " + sort, x.house.read(sort < 2 ? NONE : 2), sort == 6 ? NONE : sort >= 5 ? 0 : 50 + sort);
        }
        x.house.desk(0, 0);
        x.known(0, "s2", 0, 0);
        x.house.write(2, 8);
        x.known(0, "s2", 0, 0);
        due("the FACT stays as it was told", x.house.read(2), 52);
    }

    static void promise14_unknown() {
        for (int member : NO_MEMBERS) {
            Sentences.refusesAndReads(SentencesOfTheDesk::lived, "f", "member " + member, UNKNOWN, x -> x.known(member, 10, 75));
        }
    }

    static void promise14_outsideDaysAsOfNotAboveNow() {
        for (int day : NO_DAYS) {
            Sentences.refusesAndReads(SentencesOfTheDesk::lived, "f", "day " + day, OUTSIDE, x -> x.known(0, day, 75));
            Sentences.refusesAndReads(SentencesOfTheDesk::lived, "f", "as of " + day, OUTSIDE, x -> x.known(0, 10, day));
        }
        Sentences.refusesAndReads(SentencesOfTheDesk::lived, "f", "as of 76", OUTSIDE, x -> x.known(0, 10, 76));
        due("as of NOW", lived().house.known(0, 10, 75), 0);
        due("a day above NOW", lived().house.known(0, 76, 75), 0);
    }

    static void promise14_stateItIsNoName() {
        for (String text : new String[] {"", "9", "day", "abcdefghi", "f f", "f;"}) {
            Sentences.refusesAndReads(SentencesOfTheDesk::lived, text, "tape " + text, STATE, x -> x.known(0, 10, 75));
        }
    }

    static void promise14_noneNothingIsKnown() {
        Sentences.refusesAndReads(SentencesOfTheDesk::lived, "g", "another member's", NONE, x -> x.known(0, 10, 75));
        Sentences.refusesAndReads(SentencesOfTheDesk::lived, "ff", "another name", NONE, x -> x.known(0, 10, 75));
        Sentences.refusesAndReads(SentencesOfTheDesk::lived, "g", "another day", NONE, x -> x.known(3, 21, 75));
    }

    static void promise14_unknownOutsideStateInThatOrder() {
        Desk x = new Desk();
        due("unknown", x.known(10, "9", 390, 1), UNKNOWN);
        due("outside", x.known(0, "9", 390, 0), OUTSIDE);
        due("outside", x.known(0, "9", 0, 1), OUTSIDE);
        due("state", x.known(0, "9", 0, 0), STATE);
        due("none", x.known(0, "f", 0, 0), NONE);
    }
}
