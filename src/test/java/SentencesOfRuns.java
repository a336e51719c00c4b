/** A test of its own for each sentence of "Terms" 4 and of promises 22 to 32 that names a bound or a refusal. */
public final class SentencesOfRuns {
    static final int NONE = -1, UNKNOWN = -2, OUTSIDE = -3, STATE = -4, ROOM = -5;
    static final int MIN = Integer.MIN_VALUE, MAX = Integer.MAX_VALUE;
    static final int AWARD = 0, MONTH = 1, DUE = 2, BEHIND = 3, GROSS = 4, NET = 5, BACK = 6, UNCLEAR = 7;
    static final int[] NO_DAYS = {-1, 390, MIN, MAX};
    static final int[] NO_MONTHS = {-1, 13, MIN, MAX};
    static final int[] NO_MEMBERS = {-1, 10, MIN, MAX};
    static final int[] NO_SCHEMES = {-1, 4, MIN, MAX};

    public static void main(String[] args) throws Exception {
        Sentences.run(SentencesOfRuns.class);
    }

    static void due(String call, long got, long want) {
        Desk.due(call, got, want);
    }

    /** Every MEMBER's DUE is the FACT p, 1000 on all days; NOW is a day. */
    static Desk house(int now) {
        Desk x = new Desk();
        for (int member = 0; member <= 9; member++) {
            pay(x, member, 1000, 0, 12);
        }
        x.edition(0, 0, "rule due=p;");
        x.house.clock(now);
        return x;
    }

    /** The FACT p of a MEMBER for the days of some MONTHS. */
    static void pay(Desk x, int member, long cents, int from, int to) {
        x.whole(cents);
        x.fact(member, "p", 30 * from, Math.min(389, 30 * to + 29));
    }

    /** One AWARD of MEMBER 0 from MONTH 0 on. */
    static Desk one(int now) {
        Desk x = house(now);
        x.house.award(0, 0, 0);
        return x;
    }

    static void pays(Desk x, int month) {
        due("run " + month, x.house.run(month) >= 0 ? 1 : 0, 1);
        while (x.house.count(4) > 0) {
            x.house.advance(6);
        }
    }

    /** DUE, BEHIND, GROSS and NET of a payment. */
    static void paid(Desk x, int k, long... want) {
        for (int what = DUE; what <= NET && what - DUE < want.length; what++) {
            due("payment " + k + ", " + what, x.house.payment(k, what), want[what - DUE]);
        }
    }

    static void taken(Desk x, int k, int... want) {
        for (int i = 0; i < 6; i++) {
            due("taken " + k + ", " + i, x.house.taken(k, i), i < want.length ? want[i] : 0);
        }
    }

    // ---- Terms 4, AWARDS and DUES

    static void terms4_theMonthsDueIsOfTheEditionInForceOnDay30K() {
        Desk x = new Desk();
        x.house.award(0, 2, 0);
        x.edition(2, 30, "rule due=day*10+1;");
        x.edition(2, 61, "rule due=day*10+2;");
        x.edition(2, 89, "rule due=day*10+3;");
        x.edition(2, 360, "rule due=day*10+4;");
        int[] want = {NONE, 301, 601, 903, 1203, 1503, 1803, 2103, 2403, 2703, 3003, 3303, 3604};
        for (int month = 0; month <= 12; month++) {
            due("due " + month, x.house.due(0, month, 0), want[month]);
        }
    }

    static void terms4_workedForDay30KAndTheMemberAsOfTheDay() {
        Desk x = new Desk();
        x.edition(0, 0, "rule due=f;");
        x.house.award(7, 0, 0);
        x.whole(5);
        x.fact(7, "f", 60, 60);
        x.whole(6);
        x.fact(8, "f", 0, 389);
        due("the month before", x.house.due(0, 1, 0), NONE);
        due("that one day", x.house.due(0, 2, 0), 5);
        due("the month behind", x.house.due(0, 3, 0), NONE);
        x.house.clock(10);
        x.whole(7);
        x.fact(7, "f", 61, 119);
        due("days of the month that are not its first", x.house.due(0, 2, 10), 5);
        due("told since", x.house.due(0, 3, 10), 7);
        due("not told then", x.house.due(0, 3, 9), NONE);
        x.house.clock(20);
        x.house.annul(0);
        due("VOID", x.house.due(0, 2, 20), NONE);
        due("not VOID then", x.house.due(0, 2, 19), 5);
    }

    static void terms4_theDueIs0IfBelow1000000000IfAbove() {
        long[][] rows = {{0, 0}, {-1, 0}, {Long.MIN_VALUE, 0}, {MIN, 0}, {1, 1}, {999999999, 999999999}, {1000000000, 1000000000},
            {1000000001, 1000000000}, {MAX, 1000000000}, {1L << 31, 1000000000}, {1L << 32, 1000000000}, {-1L << 32, 0},
            {Long.MAX_VALUE, 1000000000}};
        for (long[] row : rows) {
            Desk x = new Desk();
            x.edition(0, 0, "rule due=p;");
            x.house.award(0, 0, 0);
            x.whole(row[0]);
            x.fact("p");
            due("due of " + row[0], x.house.due(0, 0, 0), row[1]);
            pays(x, 0);
            paid(x, 0, row[1], 0, row[1], row[1]);
            due("is not UNCLEAR", x.house.payment(0, UNCLEAR), 0);
        }
    }

    static void terms4_whereTheMonthIsUnclear() {
        String[] texts = {"", "rule dues=1;", "rule due=nobody;", "rule due=1+zeros(0);", "rule due=zeros(0)[0];", "rule due=zeros(13);",
            "rule due=join(ints,last(reals,0));", "rule due=1/0;", "rule due=sum n from 1 to 999 of n;", "rule due=1.0;", "rule due=ints;",
            "rule due=longs;", "rule due=reals;", "rule due=kin;", "rule due=kids;", "rule due=wives;", "rule due=kin[0];", null};
        for (String text : texts) {
            Desk x = PromisesOfCases.house();
            if (text != null) {
                x.edition(0, 0, text);
            }
            x.house.award(0, 0, 0);
            due("due by " + text, x.house.due(0, 0, 0), NONE);
            due("its balance", x.house.balance(0, 12), 0);
            pays(x, 0);
            paid(x, 0, 0, 0, 0, 0);
            due("UNCLEAR by " + text, x.house.payment(0, UNCLEAR), 1);
        }
    }

    static void terms4_theEditionOfItsOwnScheme() {
        Desk x = new Desk();
        for (int scheme = 0; scheme <= 3; scheme++) {
            x.edition(scheme, 0, "rule due=" + (scheme + 1) + ";");
            due("award", x.house.award(scheme + 3, 3 - scheme, 0), scheme);
        }
        for (int award = 0; award < 4; award++) {
            due("due " + award, x.house.due(award, 0, 0), 4 - award);
        }
    }

    // ---- Terms 4, RUNS

    static void terms4_aRunGoesByTheAwardsThatAreThereAsItBegins() {
        Desk x = house(60);
        x.house.award(5, 0, 0);
        x.house.award(2, 0, 0);
        due("begins", x.house.run(1), 2);
        x.house.award(1, 0, 0);
        due("to come", x.house.count(4), 2);
        due("advance", x.house.advance(6), 2);
        due("AWARD by AWARD", x.house.payment(0, AWARD), 0);
        due("AWARD by AWARD", x.house.payment(1, AWARD), 1);
        due("the next RUN has it", x.house.run(2), 3);
    }

    static void terms4_thatAreFromThatMonthOrBefore() {
        Desk x = house(389);
        for (int i = 0; i < 6; i++) {
            x.house.award(i, 0, 2 * (5 - i));
        }
        int k = 0;
        for (int month = 0; month <= 12; month++) {
            int many = Math.min(6, month / 2 + 1);
            due("run " + month, x.house.run(month), many);
            due("advance", x.house.advance(6), many);
            for (int i = 6 - many; i < 6; i++) {
                due("AWARD", x.house.payment(k, AWARD), i);
                due("MONTH", x.house.payment(k, MONTH), month);
                k++;
            }
        }
        due("payments", x.house.count(3), k);
    }

    static void terms4_theDueAsKnownNowAsItIsPaid() {
        Desk x = house(40);
        x.house.award(0, 0, 1);
        x.house.award(1, 0, 1);
        x.house.run(1);
        x.house.advance(1);
        pay(x, 0, 7, 0, 12);
        pay(x, 1, 8, 0, 12);
        x.house.advance(1);
        paid(x, 0, 1000, 0, 1000, 1000);
        paid(x, 1, 8, 0, 8, 8);
        x.edition(0, 0, "rule due=p+1;");
        paid(x, 1, 8, 0, 8, 8);
        due("a payment stays", x.house.payment(0, DUE), 1000);
    }

    static void terms4_behindAllDuesFromItsFirstMonthToTheOneBefore() {
        for (int first = 0; first <= 12; first++) {
            for (int month = first; month <= 12; month++) {
                Desk x = new Desk();
                x.edition(0, 0, "rule due=day/30*day/30+1;");
                x.house.award(0, 0, first);
                x.house.clock(389);
                pays(x, month);
                long behind = 0;
                for (int k = first; k < month; k++) {
                    behind += k * k + 1;
                }
                long now = month * month + 1;
                paid(x, 0, now, behind, behind + now, behind + now);
            }
        }
    }

    static void terms4_lessAllGrossPaidThatDidNotComeBack() {
        Desk x = one(389);
        pays(x, 2);
        paid(x, 0, 1000, 2000, 3000, 3000);
        pays(x, 3);
        paid(x, 1, 1000, 0, 1000, 1000);
        x.house.returned(0);
        pays(x, 4);
        paid(x, 2, 1000, 3000, 4000, 4000);
        x.house.returned(1);
        x.house.returned(2);
        pays(x, 8);
        paid(x, 3, 1000, 8000, 9000, 9000);
        // of another AWARD nothing counts
        x.house.award(1, 0, 8);
        pays(x, 9);
        paid(x, 5, 1000, 1000, 2000, 2000);
    }

    static void terms4_behindAsKnownNow() {
        Desk x = one(89);
        pays(x, 1);
        x.house.clock(120);
        pay(x, 0, 1300, 0, 0);
        x.edition(0, 30, "rule due=p+5;");
        x.edition(0, 60, "rule due=p;");
        pays(x, 4);
        // 1300 + 1005 + 1000 + 1000 less 2000
        paid(x, 1, 1000, 2305, 3305, 3305);
        x.house.annul(10);
        x.house.clock(150);
        pays(x, 5);
        paid(x, 2, 1000, 1000 + 1005 + 3000 - 5305, 1000 - 300, 700);
    }

    static void terms4_unclearMonthsBehindCount0() {
        Desk x = one(389);
        x.edition(0, 30, "");
        x.edition(0, 60, "rule due=p;");
        pays(x, 3);
        paid(x, 0, 1000, 2000, 3000, 3000);
        due("the MONTH itself is clear", x.house.payment(0, UNCLEAR), 0);
        x.edition(0, 120, "rule due=1/0;");
        x.house.returned(0);
        pays(x, 4);
        paid(x, 1, 0, 3000, 3000, 3000);
        due("the MONTH is UNCLEAR", x.house.payment(1, UNCLEAR), 1);
        pays(x, 5);
        paid(x, 2, 0, 0, 0, 0);
    }

    static void terms4_duesBehindAreCappedEach() {
        Desk x = new Desk();
        x.edition(0, 0, "rule due=999999999999;");
        x.edition(0, 150, "rule due=-999999999999;");
        x.house.award(0, 0, 0);
        x.house.clock(389);
        pays(x, 12);
        paid(x, 0, 0, 5000000000L, 5000000000L, 5000000000L);
        x = new Desk();
        x.edition(0, 0, "rule due=999999999999;");
        x.house.award(0, 0, 0);
        x.house.clock(389);
        pays(x, 12);
        paid(x, 0, 1000000000L, 12000000000L, 13000000000L, 13000000000L);
        due("balance", x.house.balance(0, 12), 0);
        x.edition(0, 0, "rule due=0;");
        due("balance below 0", x.house.balance(0, 12), -13000000000L);
    }

    // ---- Terms 4, GROSS, SHARE

    /** A house where the AWARD lacks some cents, and MONTH 1 has some DUE. */
    static Desk lacking(long lacks, long due, int share) {
        Desk x = one(389);
        pays(x, 0);
        pay(x, 0, 1000 - lacks, 0, 0);
        pay(x, 0, due, 1, 12);
        x.house.share(share);
        pays(x, 1);
        return x;
    }

    static void terms4_grossIsDueAndBehindIfBehindIs0OrMore() {
        paid(lacking(0, 700, 50), 1, 700, 0, 700, 700);
        paid(lacking(-1, 700, 50), 1, 700, 1, 701, 701);
        paid(lacking(-500, 700, 0), 1, 700, 500, 1200, 1200);
        paid(lacking(-500, 0, 100), 1, 0, 500, 500, 500);
        paid(lacking(-500, -9, 100), 1, 0, 500, 500, 500);
    }

    static void terms4_elseDueLessTheLesserOfWhatLacksAndTheShare() {
        paid(lacking(1, 700, 50), 1, 700, -1, 699, 699);
        paid(lacking(349, 700, 50), 1, 700, -349, 351, 351);
        paid(lacking(350, 700, 50), 1, 700, -350, 350, 350);
        paid(lacking(351, 700, 50), 1, 700, -351, 350, 350);
        paid(lacking(1000, 700, 50), 1, 700, -1000, 350, 350);
        paid(lacking(1000, 700, 100), 1, 700, -1000, 0, 0);
        paid(lacking(699, 700, 100), 1, 700, -699, 1, 1);
        paid(lacking(1000, 700, 0), 1, 700, -1000, 700, 700);
        paid(lacking(1000, 0, 100), 1, 0, -1000, 0, 0);
    }

    static void terms4_theShareIsCut() {
        paid(lacking(1000, 1, 50), 1, 1, -1000, 1, 1);
        paid(lacking(1000, 1, 99), 1, 1, -1000, 1, 1);
        paid(lacking(1000, 1, 100), 1, 1, -1000, 0, 0);
        paid(lacking(1000, 99, 1), 1, 99, -1000, 99, 99);
        paid(lacking(1000, 100, 1), 1, 100, -1000, 99, 99);
        paid(lacking(1000, 199, 1), 1, 199, -1000, 198, 198);
        paid(lacking(1000, 333, 33), 1, 333, -1000, 333 - 109, 224);
        paid(lacking(1000, 7, 29), 1, 7, -1000, 5, 5);
    }

    static void terms4_theShareOfGreatDues() {
        Desk x = one(389);
        pay(x, 0, 1000000000, 0, 12);
        pays(x, 11);
        pay(x, 0, 0, 0, 11);
        x.house.share(99);
        pays(x, 12);
        paid(x, 1, 1000000000L, -12000000000L, 10000000L, 10000000L);
    }

    static void terms4_theShareAsItIsPaid() {
        Desk x = house(389);
        x.house.award(0, 0, 0);
        x.house.award(1, 0, 0);
        pays(x, 0);
        pay(x, 0, 0, 0, 0);
        pay(x, 1, 0, 0, 0);
        x.house.run(1);
        x.house.advance(1);
        x.house.share(10);
        x.house.advance(1);
        paid(x, 2, 1000, -1000, 500, 500);
        paid(x, 3, 1000, -1000, 900, 900);
        x.house.share(30);
        pays(x, 2);
        paid(x, 4, 1000, -500, 700, 700);
        paid(x, 5, 1000, -900, 700, 700);
        x.house.share(100);
        pays(x, 3);
        paid(x, 6, 1000, -200, 800, 800);
        paid(x, 7, 1000, -600, 400, 400);
        pays(x, 4);
        paid(x, 8, 1000, 0, 1000, 1000);
        paid(x, 9, 1000, 0, 1000, 1000);
    }

    // ---- Terms 4, DEDUCTIONS

    static void terms4_deductionsByRankOfLikeOnesAsTold() {
        Desk x = one(389);
        int[][] rows = {{10, 9}, {20, 0}, {30, 5}, {40, 0}, {50, 5}, {60, 1}};
        for (int[] row : rows) {
            x.house.deduct(0, row[0], row[1]);
        }
        // in the order 1, 3, 5, 2, 4, 0: 20, 40, 60, 30, 50, 10
        int[][] want = {{0, 0, 0, 0, 0, 0, 0}, {0, 1, 0, 0, 0, 0, 0}, {0, 20, 0, 0, 0, 0, 0}, {0, 20, 0, 1, 0, 0, 0}, {0, 20, 0, 40, 0, 0, 0},
            {0, 20, 0, 40, 0, 59, 0}, {0, 20, 0, 40, 0, 60, 0}, {0, 20, 29, 40, 0, 60, 0}, {0, 20, 30, 40, 49, 60, 0},
            {0, 20, 30, 40, 50, 60, 0}, {9, 20, 30, 40, 50, 60, 0}, {10, 20, 30, 40, 50, 60, 0}, {10, 20, 30, 40, 50, 60, 1}};
        int[] gross = {0, 1, 20, 21, 60, 119, 120, 149, 199, 200, 209, 210, 211};
        for (int month = 0; month <= 12; month++) {
            pay(x, 0, gross[month], month, month);
            pays(x, month);
            taken(x, month, want[month]);
            due("NET", x.house.payment(month, NET), want[month][6]);
            due("GROSS", x.house.payment(month, GROSS), gross[month]);
        }
    }

    static void terms4_eachTakesWhatItIsOrWhatIsLeft() {
        Desk x = one(0);
        x.house.deduct(0, 999, 3);
        x.house.deduct(0, 1000000, 3);
        x.house.deduct(0, 1, 3);
        pays(x, 0);
        paid(x, 0, 1000, 0, 1000, 0);
        taken(x, 0, 999, 1, 0);
        x = one(0);
        x.house.deduct(0, 1000, 0);
        pays(x, 0);
        paid(x, 0, 1000, 0, 1000, 0);
        taken(x, 0, 1000);
        x = one(0);
        x.house.deduct(0, 1001, 0);
        pays(x, 0);
        taken(x, 0, 1000);
    }

    static void terms4_ofTheGrossOfTheAwardAlone() {
        Desk x = house(60);
        x.house.award(0, 0, 0);
        x.house.award(1, 0, 0);
        x.house.deduct(1, 100, 0);
        pays(x, 2);
        paid(x, 0, 1000, 2000, 3000, 3000);
        taken(x, 0);
        paid(x, 1, 1000, 2000, 3000, 2900);
        taken(x, 1, 100);
        // what was taken is paid: it is not owed any more
        due("balance", x.house.balance(1, 2), 0);
    }

    static void terms4_deductionsOfARunThatGoesOn() {
        Desk x = house(0);
        x.house.award(0, 0, 0);
        x.house.award(1, 0, 0);
        x.house.deduct(0, 10, 0);
        x.house.run(0);
        x.house.advance(1);
        x.house.deduct(0, 20, 0);
        x.house.deduct(1, 30, 0);
        x.house.advance(1);
        taken(x, 0, 10);
        taken(x, 1, 30);
    }

    // ---- Promise 22

    static void promise22_unknown() {
        for (int member : NO_MEMBERS) {
            Sentences.refuses(SentencesOfTheDesk::lived, "member " + member, UNKNOWN, x -> x.award(member, 0, 0));
        }
        for (int scheme : NO_SCHEMES) {
            Sentences.refuses(SentencesOfTheDesk::lived, "scheme " + scheme, UNKNOWN, x -> x.award(0, scheme, 0));
        }
    }

    static void promise22_outside() {
        for (int month : NO_MONTHS) {
            Sentences.refuses(SentencesOfTheDesk::lived, "month " + month, OUTSIDE, x -> x.award(9, 3, month));
        }
    }

    static void promise22_stateTheMemberHasOneByThisScheme() {
        Sentences.refuses(SentencesOfTheDesk::lived, "has one", STATE, x -> x.award(0, 0, 0));
        Sentences.refuses(SentencesOfTheDesk::lived, "has one from another MONTH", STATE, x -> x.award(3, 1, 12));
        Sentences.refuses(SentencesOfTheDesk::lived, "has one from later on", STATE, x -> x.award(6, 0, 0));
        due("by another scheme", SentencesOfTheDesk.lived().house.award(0, 1, 0), 3);
        due("another member", SentencesOfTheDesk.lived().house.award(1, 0, 0), 3);
    }

    static Desk livedWith6Awards() {
        Desk x = SentencesOfTheDesk.lived();
        for (int member = 7; member <= 9; member++) {
            x.house.award(member, 3, 0);
        }
        return x;
    }

    static void promise22_roomAwardsAre6() {
        due("6", livedWith6Awards().house.count(2), 6);
        Sentences.refuses(SentencesOfRuns::livedWith6Awards, "a 7th", ROOM, x -> x.award(9, 2, 0));
    }

    static void promise22_unknownOutsideStateRoomInThatOrder() {
        PensionHouse x = livedWith6Awards().house;
        due("unknown member", x.award(10, 0, 13), UNKNOWN);
        due("unknown scheme", x.award(0, 4, 13), UNKNOWN);
        due("outside", x.award(0, 0, 13), OUTSIDE);
        due("state", x.award(0, 0, 12), STATE);
        due("room", x.award(0, 1, 12), ROOM);
    }

    static void promise22_anAwardFromEachMonthOn() {
        for (int month = 0; month <= 12; month++) {
            Desk x = house(389);
            due("award", x.house.award(0, 0, month), 0);
            due("one month more", x.house.balance(0, month), 1000);
            due("none yet", month == 0 ? 0 : x.house.balance(0, month - 1), 0);
            due("the run before", month == 0 ? 0 : x.house.run(month - 1), 0);
            due("the run", x.house.run(month), 1);
        }
    }

    // ---- Promise 23

    static void promise23_unknown() {
        for (int award : new int[] {-1, 3, 6, MIN, MAX}) {
            Sentences.refuses(SentencesOfTheDesk::lived, "award " + award, UNKNOWN, x -> x.due(award, 0, 0));
        }
        due("with none", new PensionHouse().due(0, 0, 0), UNKNOWN);
    }

    static void promise23_outsideAsOfAlsoAboveNow() {
        for (int month : NO_MONTHS) {
            Sentences.refuses(SentencesOfTheDesk::lived, "month " + month, OUTSIDE, x -> x.due(0, month, 0));
        }
        for (int asOf : NO_DAYS) {
            Sentences.refuses(SentencesOfTheDesk::lived, "as of " + asOf, OUTSIDE, x -> x.due(0, 0, asOf));
        }
        Sentences.refuses(SentencesOfTheDesk::lived, "as of NOW + 1", OUTSIDE, x -> x.due(0, 0, 76));
        due("as of NOW", SentencesOfTheDesk.lived().house.due(0, 0, 75), 700);
        due("as of 0", SentencesOfTheDesk.lived().house.due(0, 0, 0), 900);
    }

    static void promise23_unknownOutsideInThatOrder() {
        PensionHouse x = SentencesOfTheDesk.lived().house;
        due("unknown", x.due(3, 13, 76), UNKNOWN);
        due("outside", x.due(1, 13, 0), OUTSIDE);
        due("unclear is none", x.due(1, 12, 75), NONE);
    }

    static void promise23_changesNothing() {
        Sentences.refuses(SentencesOfTheDesk::lived, "due", 700, x -> x.due(0, 0, 75));
        Sentences.refuses(SentencesOfTheDesk::lived, "unclear", NONE, x -> x.due(1, 0, 75));
    }

    // ---- Promises 24 and 25

    static void promise24_unknown() {
        for (int award : new int[] {-1, 3, 6, MIN, MAX}) {
            Sentences.refuses(SentencesOfTheDesk::lived, "award " + award, UNKNOWN, x -> x.deduct(award, 1, 0));
        }
    }

    static void promise24_outsideCentsNot1To1000000RankNot0To9() {
        for (int cents : new int[] {0, -1, 1000001, MIN, MAX}) {
            Sentences.refuses(SentencesOfTheDesk::lived, "cents " + cents, OUTSIDE, x -> x.deduct(0, cents, 0));
        }
        for (int rank : new int[] {-1, 10, MIN, MAX}) {
            Sentences.refuses(SentencesOfTheDesk::lived, "rank " + rank, OUTSIDE, x -> x.deduct(0, 1, rank));
        }
        PensionHouse x = SentencesOfTheDesk.lived().house;
        due("1 cent, rank 0", x.deduct(1, 1, 0), 1);
        due("1000000 cents, rank 9", x.deduct(1, 1000000, 9), 2);
    }

    static Desk livedWith6Deductions() {
        Desk x = SentencesOfTheDesk.lived();
        for (int i = 2; i <= 6; i++) {
            due("how many", x.house.deduct(0, i, i), i);
        }
        return x;
    }

    static void promise24_room6Each() {
        Sentences.refuses(SentencesOfRuns::livedWith6Deductions, "a 7th", ROOM, x -> x.deduct(0, 1, 0));
        due("of another AWARD", livedWith6Deductions().house.deduct(1, 1, 0), 1);
    }

    static void promise24_unknownOutsideRoomInThatOrder() {
        PensionHouse x = livedWith6Deductions().house;
        due("unknown", x.deduct(3, 0, 10), UNKNOWN);
        due("outside cents", x.deduct(0, 0, 0), OUTSIDE);
        due("outside rank", x.deduct(0, 1, 10), OUTSIDE);
        due("room", x.deduct(0, 1, 9), ROOM);
    }

    static void promise25_whatItWas() {
        PensionHouse x = new PensionHouse();
        due("50 at first", x.share(0), 50);
        due("0", x.share(100), 0);
        due("100", x.share(1), 100);
        due("1", x.share(1), 1);
    }

    static void promise25_outside() {
        for (int percent : new int[] {-1, 101, MIN, MAX}) {
            Sentences.refuses(SentencesOfTheDesk::lived, "share " + percent, OUTSIDE, x -> x.share(percent));
        }
    }

    // ---- Promise 26

    static void promise26_outside() {
        for (int month : NO_MONTHS) {
            Sentences.refuses(SentencesOfTheDesk::lived, "month " + month, OUTSIDE, x -> x.run(month));
            Sentences.refuses(SentencesOfRuns::livedRunOver, "month " + month, OUTSIDE, x -> x.run(month));
        }
    }

    static Desk livedRunOver() {
        Desk x = SentencesOfTheDesk.lived();
        x.house.advance(6);
        return x;
    }

    static void promise26_stateOneGoesOn() {
        Sentences.refuses(SentencesOfTheDesk::lived, "one goes on", STATE, x -> x.run(2));
        due("it is over", livedRunOver().house.run(2), 3);
        Desk x = house(389);
        x.house.award(0, 0, 0);
        x.house.award(1, 0, 0);
        x.house.run(0);
        due("none paid", x.house.run(1), STATE);
        x.house.advance(1);
        due("one paid", x.house.run(1), STATE);
        x.house.advance(1);
        due("both paid", x.house.run(1), 2);
    }

    static void promise26_stateTheMonthIsNotAboveThatOfTheRunBefore() {
        Sentences.refuses(SentencesOfRuns::livedRunOver, "the same", STATE, x -> x.run(1));
        Sentences.refuses(SentencesOfRuns::livedRunOver, "before", STATE, x -> x.run(0));
        Desk x = one(389);
        pays(x, 0);
        pays(x, 7);
        for (int month = 0; month <= 7; month++) {
            due("not above " + month, x.house.run(month), STATE);
        }
        due("above", x.house.run(8), 1);
        // the MONTH of a refused one is none before
        x.house.advance(1);
        x.house.run(13);
        due("12", x.house.run(12), 1);
    }

    static void promise26_state30TimesItIsAboveNow() {
        for (int month = 1; month <= 12; month++) {
            Desk x = one(30 * month - 1);
            due("the day before", x.house.run(month), STATE);
            x.house.clock(30 * month);
            due("the day", x.house.run(month), 1);
        }
        due("day 0", one(0).house.run(0), 1);
        Sentences.refuses(SentencesOfRuns::livedRunOver, "above NOW", STATE, x -> x.run(3));
    }

    static void promise26_withNoneItIsOverAtOnce() {
        Desk x = house(389);
        due("none", x.house.run(3), 0);
        due("none yet to come", x.house.count(4), 0);
        due("none goes on", x.house.advance(1), STATE);
        due("is the RUN before", x.house.run(3), STATE);
        due("and before it", x.house.run(2), STATE);
        x.house.award(0, 0, 5);
        due("none of that MONTH", x.house.run(4), 0);
        due("one", x.house.run(5), 1);
        due("goes on", x.house.count(4), 1);
    }

    static void promise26_outsideAheadOfState() {
        PensionHouse x = SentencesOfTheDesk.lived().house;
        due("outside", x.run(13), OUTSIDE);
        due("state", x.run(12), STATE);
    }

    static void promise26_allPaymentsThereCanBeHaveRoom() {
        Desk x = house(389);
        for (int i = 0; i < 6; i++) {
            x.house.award(i, 0, 0);
        }
        for (int month = 0; month <= 12; month++) {
            due("run", x.house.run(month), 6);
            due("advance", x.house.advance(6), 6);
        }
        due("payments", x.house.count(3), 78);
        due("the last", x.house.payment(77, MONTH), 12);
    }

    // ---- Promise 27

    static void promise27_outside() {
        for (int n : new int[] {0, -1, 7, MIN, MAX}) {
            Sentences.refuses(SentencesOfTheDesk::lived, "advance " + n, OUTSIDE, x -> x.advance(n));
            Sentences.refuses(SentencesOfRuns::livedRunOver, "advance " + n, OUTSIDE, x -> x.advance(n));
        }
    }

    static void promise27_stateNoneGoesOn() {
        for (int n = 1; n <= 6; n++) {
            int many = n;
            Sentences.refuses(SentencesOfRuns::livedRunOver, "advance " + n, STATE, x -> x.advance(many));
        }
        due("before any", new PensionHouse().advance(1), STATE);
    }

    static void promise27_byNOrAsManyAsThereAre() {
        for (int n = 1; n <= 6; n++) {
            Desk x = house(0);
            for (int i = 0; i < 6; i++) {
                x.house.award(i, 0, 0);
            }
            x.house.run(0);
            int left = 6;
            while (left > 0) {
                int want = Math.min(n, left);
                due("advance " + n, x.house.advance(n), want);
                left -= want;
                due("yet to come", x.house.count(4), left);
                due("paid", x.house.count(3), 6 - left);
            }
            due("over", x.house.advance(n), STATE);
        }
    }

    static void promise27_whatHappensMeanwhileCounts() {
        Desk x = house(0);
        x.house.award(0, 0, 0);
        x.house.award(1, 0, 0);
        x.house.run(0);
        x.house.advance(1);
        x.house.clock(389);
        pay(x, 1, 5, 0, 12);
        x.house.returned(0);
        x.edition(0, 0, "rule due=p*2;");
        due("goes on", x.house.advance(6), 1);
        due("its MONTH", x.house.payment(1, MONTH), 0);
        paid(x, 1, 10, 0, 10, 10);
        pays(x, 1);
        paid(x, 2, 2000, 2000, 4000, 4000);
        paid(x, 3, 10, 0, 10, 10);
    }

    // ---- Promises 28 to 30

    static void promise28_0ThereIsNoneSuch() {
        for (int k : new int[] {-1, 3, 200, MIN, MAX}) {
            for (int what = 0; what <= 7; what++) {
                int column = what;
                Sentences.refuses(SentencesOfTheDesk::lived, "payment " + k + ", " + what, 0, x -> x.payment(k, column));
            }
        }
        for (int what : new int[] {-1, 8, 9, 13, MIN, MAX}) {
            Sentences.refuses(SentencesOfTheDesk::lived, "payment 0, " + what, 0, x -> x.payment(0, what));
        }
    }

    static void promise28_eachColumn() {
        Desk x = house(389);
        x.house.award(4, 0, 1);
        x.house.award(5, 1, 1);
        x.house.deduct(0, 7, 0);
        x.house.deduct(1, 7, 0);
        pays(x, 3);
        x.house.returned(1);
        long[][] want = {{0, 3, 1000, 2000, 3000, 2993, 0, 0}, {1, 3, 0, 0, 0, 0, 1, 1}};
        for (int k = 0; k < 2; k++) {
            for (int what = 0; what <= 7; what++) {
                due("payment " + k + ", " + what, x.house.payment(k, what), want[k][what]);
            }
        }
    }

    static void promise28_numberedAsTheyAreMade() {
        Desk x = house(60);
        x.house.award(0, 0, 1);
        x.house.award(1, 0, 0);
        pays(x, 0);
        pays(x, 1);
        int[][] want = {{1, 0}, {0, 1}, {1, 1}};
        for (int k = 0; k < 3; k++) {
            due("AWARD of " + k, x.house.payment(k, AWARD), want[k][0]);
            due("MONTH of " + k, x.house.payment(k, MONTH), want[k][1]);
        }
    }

    static void promise29_unknown() {
        for (int k : new int[] {-1, 3, 200, MIN, MAX}) {
            Sentences.refuses(SentencesOfTheDesk::lived, "taken " + k, UNKNOWN, x -> x.taken(k, 0));
        }
        due("ahead of outside", SentencesOfTheDesk.lived().house.taken(3, 6), UNKNOWN);
    }

    static void promise29_outside() {
        for (int i : new int[] {-1, 6, MIN, MAX}) {
            Sentences.refuses(SentencesOfTheDesk::lived, "taken 0, " + i, OUTSIDE, x -> x.taken(0, i));
        }
    }

    static void promise29_0OfOneThatWasNotThere() {
        Desk x = one(30);
        x.house.deduct(0, 5, 0);
        pays(x, 0);
        for (int i = 1; i < 6; i++) {
            x.house.deduct(0, 10 + i, 0);
        }
        taken(x, 0, 5);
        pays(x, 1);
        taken(x, 1, 5, 11, 12, 13, 14, 15);
        taken(x, 0, 5);
        x.house.returned(1);
        taken(x, 1, 5, 11, 12, 13, 14, 15);
    }

    static void promise30_unknown() {
        for (int k : new int[] {-1, 3, 200, MIN, MAX}) {
            Sentences.refuses(SentencesOfTheDesk::lived, "returned " + k, UNKNOWN, x -> x.returned(k));
        }
    }

    static Desk livedReturned() {
        Desk x = SentencesOfTheDesk.lived();
        due("came back", x.house.returned(0), 1);
        return x;
    }

    static void promise30_stateItDid() {
        Sentences.refuses(SentencesOfRuns::livedReturned, "again", STATE, x -> x.returned(0));
        due("another one", livedReturned().house.returned(1), 1);
    }

    static void promise30_allOfItsGross() {
        Desk x = one(389);
        x.house.deduct(0, 400, 0);
        pays(x, 1);
        due("paid", x.house.balance(0, 1), 0);
        x.house.returned(0);
        due("all of its GROSS", x.house.balance(0, 1), 2000);
        paid(x, 0, 1000, 1000, 2000, 1600);
        due("came back", x.house.payment(0, BACK), 1);
        pays(x, 2);
        paid(x, 1, 1000, 2000, 3000, 2600);
        due("did not", x.house.payment(1, BACK), 0);
    }

    // ---- Promises 31 and 32

    static void promise31_0ThereIsNoSuchAwardMonth() {
        for (int award : new int[] {-1, 3, 6, MIN, MAX}) {
            Sentences.refuses(SentencesOfTheDesk::lived, "award " + award, 0, x -> x.balance(award, 2));
        }
        for (int month : NO_MONTHS) {
            Sentences.refuses(SentencesOfTheDesk::lived, "month " + month, 0, x -> x.balance(0, month));
        }
    }

    static void promise31_upToTheEndOfAMonth() {
        Desk x = house(389);
        x.house.award(0, 0, 4);
        for (int month = 0; month <= 12; month++) {
            due("owed up to " + month, x.house.balance(0, month), 1000 * Math.max(0, month - 3));
        }
        pays(x, 6);
        for (int month = 0; month <= 12; month++) {
            due("owed up to " + month, x.house.balance(0, month), 1000 * Math.max(0, month - 3) - 3000);
        }
    }

    static void promise31_belowZeroWasPaidTooMuch() {
        Desk x = one(389);
        pays(x, 12);
        pay(x, 0, 1, 0, 11);
        due("all but one", x.house.balance(0, 12), 1012 - 13000);
        due("the first", x.house.balance(0, 0), 1 - 13000);
        x.house.returned(0);
        due("came back", x.house.balance(0, 12), 1012);
    }

    static void promise31_asKnownNow() {
        Desk x = one(10);
        due("now", x.house.balance(0, 3), 4000);
        pay(x, 0, 5, 2, 3);
        due("told now", x.house.balance(0, 3), 2010);
        x.house.clock(20);
        x.house.annul(10);
        due("VOID now", x.house.balance(0, 3), 4000);
        x.edition(0, 90, "rule due=5.5;");
        due("UNCLEAR now", x.house.balance(0, 3), 3000);
    }

    static void promise31_changesNothing() {
        long balance = SentencesOfTheDesk.lived().house.balance(0, 2);
        Sentences.refuses(SentencesOfTheDesk::lived, "balance", (int) balance, x -> x.balance(0, 2));
    }

    static void promise32_outside() {
        for (int what : new int[] {-1, 7, 8, MIN, MAX}) {
            Sentences.refuses(SentencesOfTheDesk::lived, "count " + what, OUTSIDE, x -> x.count(what));
        }
    }

    static void promise32_howMany() {
        PensionHouse x = SentencesOfTheDesk.lived().house;
        int[] want = {2, 3, 3, 3, 2, 1, 75};
        for (int what = 0; what <= 6; what++) {
            due("count " + what, x.count(what), want[what]);
        }
        x.person(true, 0);
        due("PERSONS", x.count(0), 3);
        x.fact(0, 0, 0);
        due("FACTS", x.count(1), 4);
        due("the TAPE is used up", x.count(5), 0);
        x.award(9, 0, 0);
        due("AWARDS", x.count(2), 4);
        due("none more in the RUN", x.count(4), 2);
        x.advance(1);
        due("payments", x.count(3), 4);
        due("yet to come", x.count(4), 1);
        x.advance(6);
        due("0: none goes on", x.count(4), 0);
        x.clock(389);
        due("NOW", x.count(6), 389);
        x.feed(0, 8);
        due("bytes", x.count(5), 8);
    }
}
