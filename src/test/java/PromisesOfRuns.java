/** Promises 22 to 32: awards, DUES, deductions, runs, payments, balances, counts. */
public final class PromisesOfRuns {
    static final int NONE = -1, UNKNOWN = -2, OUTSIDE = -3, STATE = -4, ROOM = -5;
    static final int AWARD = 0, MONTH = 1, DUE = 2, BEHIND = 3, GROSS = 4, NET = 5, BACK = 6, UNCLEAR = 7;

    static void due(String call, long got, long want) {
        Desk.due(call, got, want);
    }

    public static void main(String[] args) {
        awards();
        dues();
        deductions();
        share();
        runs();
        runsThatGoOn();
        behind();
        tooMuch();
        unclear();
        balance();
        count();
        longRun();
        Desk.end();
    }

    /** Member 0 .. 9 have "pay" 1000 * (member + 1), told on day 0; scheme 0 pays it from day 0 on. */
    static Desk house() {
        Desk x = new Desk();
        for (int member = 0; member < 10; member++) {
            x.whole(1000 * (member + 1));
            x.fact(member, "pay", 0, 389);
        }
        x.edition(0, 0, "rule due=pay;");
        return x;
    }

    static void pay(Desk x, int member, long cents, int from, int to) {
        x.whole(cents);
        x.fact(member, "pay", from, to);
    }

    static void payment(Desk x, int k, long... want) {
        String[] names = {"award", "month", "due", "behind", "gross", "net", "back", "unclear"};
        for (int what = 0; what < 8; what++) {
            due("28 payment " + k + " " + names[what], x.house.payment(k, what), want[what]);
        }
    }

    static void awards() {
        PensionHouse x = new PensionHouse();
        due("22 member", x.award(10, 0, 99), UNKNOWN);
        due("22 member -1", x.award(-1, 0, 0), UNKNOWN);
        due("22 scheme", x.award(0, 4, 0), UNKNOWN);
        due("22 scheme -1", x.award(0, -1, 0), UNKNOWN);
        due("22 month", x.award(0, 0, 13), OUTSIDE);
        due("22 month -1", x.award(0, 0, -1), OUTSIDE);
        due("22 first", x.award(0, 0, 12), 0);
        due("22 has one", x.award(0, 0, 0), STATE);
        due("22 outside ahead of state", x.award(0, 0, 13), OUTSIDE);
        due("22 another scheme", x.award(0, 1, 0), 1);
        due("22 another member", x.award(9, 0, 0), 2);
        due("22", x.award(9, 3, 0), 3);
        due("22", x.award(8, 3, 0), 4);
        due("22", x.award(7, 3, 0), 5);
        due("22 room", x.award(6, 3, 0), ROOM);
        due("22 state ahead of room", x.award(7, 3, 1), STATE);
        due("22 count", x.count(2), 6);
    }

    static void dues() {
        Desk x = house();
        due("23 unknown", x.house.due(0, 99, 99), UNKNOWN);
        x.house.award(4, 0, 3);
        x.house.award(4, 1, 3);
        due("23 unknown -1", x.house.due(-1, 0, 0), UNKNOWN);
        due("23 month", x.house.due(0, 13, 0), OUTSIDE);
        due("23 month -1", x.house.due(0, -1, 0), OUTSIDE);
        due("23 as of", x.house.due(0, 0, 1), OUTSIDE);
        due("23 as of -1", x.house.due(0, 0, -1), OUTSIDE);
        due("23", x.house.due(0, 3, 0), 5000);
        due("23 before its first month", x.house.due(0, 0, 0), 5000);
        due("23 no edition", x.house.due(1, 12, 0), NONE);
        x.house.clock(50);
        pay(x, 4, 700, 180, 209);
        due("23 known then", x.house.due(0, 6, 49), 5000);
        due("23 known now", x.house.due(0, 6, 50), 700);
        due("23 the month before", x.house.due(0, 5, 50), 5000);
        due("23 the month behind", x.house.due(0, 7, 50), 5000);
        String[] texts = {"rule due=-5;", "rule due=0;", "rule due=1000000000;", "rule due=1000000001;", "rule due=999999999999999;",
            "rule due=day;", "rule due=5.0;", "rule due=zeros(1);", "rule due=1/0;", "rule due=nobody;", "rule a=1;", "",
            "rule due=sum n from 1 to 400 of n;"};
        int[] want = {0, 0, 1000000000, 1000000000, 1000000000, 360, NONE, NONE, NONE, NONE, NONE, NONE, NONE};
        for (int i = 0; i < texts.length; i++) {
            x.edition(0, 360, texts[i]);
            due("23 " + texts[i], x.house.due(0, 12, 50), want[i]);
            due("23 the edition in force, " + texts[i], x.house.due(0, 11, 50), 5000);
        }
        x.feed("pay");
        x.house.figure(0, 0, 0, 0);
        due("19 no figure was shown", x.house.told(1), 0);
    }

    static void deductions() {
        Desk x = house();
        due("24 unknown", x.house.deduct(0, 0, 0), UNKNOWN);
        x.house.award(0, 0, 0);
        x.house.award(1, 0, 0);
        due("24 unknown -1", x.house.deduct(-1, 5, 0), UNKNOWN);
        due("24 cents 0", x.house.deduct(0, 0, 0), OUTSIDE);
        due("24 cents above", x.house.deduct(0, 1000001, 0), OUTSIDE);
        due("24 rank", x.house.deduct(0, 5, 10), OUTSIDE);
        due("24 rank -1", x.house.deduct(0, 5, -1), OUTSIDE);
        due("24 first", x.house.deduct(0, 300, 5), 1);
        due("24 second", x.house.deduct(0, 200, 0), 2);
        due("24 third", x.house.deduct(0, 250, 5), 3);
        due("24 fourth", x.house.deduct(0, 400, 5), 4);
        due("24 fifth", x.house.deduct(0, 1000000, 9), 5);
        due("24 of another", x.house.deduct(1, 1, 9), 1);
        due("26", x.house.run(0), 2);
        due("27", x.house.advance(2), 2);
        payment(x, 0, 0, 0, 1000, 0, 1000, 0, 0, 0);
        int[] got = {300, 200, 250, 250, 0, 0};
        for (int i = 0; i < 6; i++) {
            due("29 of 0, " + i, x.house.taken(0, i), got[i]);
        }
        due("28 net of another", x.house.payment(1, NET), 1999);
        due("29 of another", x.house.taken(1, 0), 1);
        due("29 one that was not there", x.house.taken(1, 1), 0);
        due("29 unknown", x.house.taken(2, 9), UNKNOWN);
        due("29 unknown -1", x.house.taken(-1, 0), UNKNOWN);
        due("29 outside", x.house.taken(0, 6), OUTSIDE);
        due("29 outside -1", x.house.taken(0, -1), OUTSIDE);
        due("24 sixth", x.house.deduct(0, 100, 0), 6);
        due("24 room", x.house.deduct(0, 100, 0), ROOM);
        due("24 outside ahead of room", x.house.deduct(0, 0, 0), OUTSIDE);
        due("29 not there then", x.house.taken(0, 5), 0);
        x.house.clock(30);
        x.house.run(1);
        x.house.advance(1);
        int[] then = {300, 200, 250, 150, 0, 100};
        for (int i = 0; i < 6; i++) {
            due("29 of 2, " + i, x.house.taken(2, i), then[i]);
        }
    }

    static void share() {
        PensionHouse x = new PensionHouse();
        due("25 above", x.share(101), OUTSIDE);
        due("25 below", x.share(-1), OUTSIDE);
        due("25 at first", x.share(0), 50);
        due("25 then", x.share(100), 0);
        due("25 and then", x.share(100), 100);
    }

    static void runs() {
        Desk x = house();
        due("26 month", x.house.run(13), OUTSIDE);
        due("26 month -1", x.house.run(-1), OUTSIDE);
        due("26 above now", x.house.run(1), STATE);
        due("26 with none", x.house.run(0), 0);
        due("27 none goes on", x.house.advance(1), STATE);
        due("26 is the run before", x.house.run(0), STATE);
        x.house.clock(89);
        due("26 30 times it", x.house.run(3), STATE);
        x.house.award(0, 0, 2);
        x.house.award(1, 0, 3);
        x.house.award(2, 0, 0);
        due("26 from that month or before", x.house.run(2), 2);
        due("32 to come", x.house.count(4), 2);
        due("26 one goes on", x.house.run(2), STATE);
        x.house.clock(90);
        due("26 one goes on still", x.house.run(3), STATE);
        due("26 outside ahead", x.house.run(13), OUTSIDE);
        due("27 0", x.house.advance(0), OUTSIDE);
        due("27 7", x.house.advance(7), OUTSIDE);
        due("27 as many as there are", x.house.advance(6), 2);
        due("27 over", x.house.advance(6), STATE);
        due("27 outside ahead", x.house.advance(7), OUTSIDE);
        payment(x, 0, 0, 2, 1000, 0, 1000, 1000, 0, 0);
        payment(x, 1, 2, 2, 3000, 6000, 9000, 9000, 0, 0);
        due("26 not above", x.house.run(2), STATE);
        due("26 not above 1", x.house.run(1), STATE);
        due("26 above", x.house.run(3), 3);
        due("28 none such", x.house.payment(2, 0), 0);
        due("28 none such -1", x.house.payment(-1, 4), 0);
        due("28 no what", x.house.payment(1, 8), 0);
        due("28 no what -1", x.house.payment(1, -1), 0);
    }

    static void runsThatGoOn() {
        Desk x = house();
        for (int i = 0; i < 5; i++) {
            x.house.award(i, 0, 0);
        }
        x.house.clock(40);
        due("26", x.house.run(1), 5);
        due("27", x.house.advance(2), 2);
        due("32 to come", x.house.count(4), 3);
        due("22 meanwhile", x.house.award(5, 0, 0), 5);
        pay(x, 2, 10, 0, 389);
        x.house.clock(50);
        pay(x, 3, 20, 30, 59);
        due("32 still to come", x.house.count(4), 3);
        due("24 meanwhile", x.house.deduct(2, 7, 1), 1);
        due("27 goes on", x.house.advance(6), 3);
        due("32 none", x.house.count(4), 0);
        due("32 payments", x.house.count(3), 5);
        payment(x, 0, 0, 1, 1000, 1000, 2000, 2000, 0, 0);
        payment(x, 2, 2, 1, 10, 10, 20, 13, 0, 0);
        payment(x, 3, 3, 1, 20, 4000, 4020, 4020, 0, 0);
        payment(x, 4, 4, 1, 5000, 5000, 10000, 10000, 0, 0);
    }

    static void behind() {
        Desk x = house();
        x.house.award(0, 0, 1);
        x.house.clock(200);
        due("26", x.house.run(1), 1);
        x.house.advance(1);
        due("26", x.house.run(4), 1);
        x.house.advance(1);
        payment(x, 0, 0, 1, 1000, 0, 1000, 1000, 0, 0);
        payment(x, 1, 0, 4, 1000, 2000, 3000, 3000, 0, 0);
        due("30 unknown", x.house.returned(2), UNKNOWN);
        due("30 unknown -1", x.house.returned(-1), UNKNOWN);
        due("30 back", x.house.returned(1), 1);
        due("30 again", x.house.returned(1), STATE);
        due("28 back", x.house.payment(1, BACK), 1);
        due("28 net stays", x.house.payment(1, NET), 3000);
        // told since: 600 more in each of the MONTHS 2 and 3
        pay(x, 0, 1600, 60, 119);
        due("26", x.house.run(5), 1);
        x.house.advance(1);
        payment(x, 2, 0, 5, 1000, 1600 + 1600 + 1000, 5200, 5200, 0, 0);
        due("26", x.house.run(6), 1);
        x.house.advance(1);
        payment(x, 3, 0, 6, 1000, 0, 1000, 1000, 0, 0);
    }

    static void tooMuch() {
        Desk x = house();
        x.house.award(0, 0, 0);
        x.house.award(1, 0, 0);
        x.house.clock(389);
        x.house.run(0);
        x.house.advance(6);
        x.house.run(1);
        x.house.advance(6);
        // 1500 too much each MONTH, 2000 paid, for member 1; member 0 lacks 1 cent only
        pay(x, 1, 501, 0, 59);
        pay(x, 1, 333, 60, 389);
        pay(x, 0, 999, 0, 29);
        due("31 below 0", x.house.balance(1, 1), -2998);
        x.house.run(2);
        x.house.advance(6);
        payment(x, 4, 0, 2, 1000, -1, 999, 999, 0, 0);
        payment(x, 5, 1, 2, 333, -2998, 333 - 166, 167, 0, 0);
        x.house.share(0);
        x.house.run(3);
        x.house.advance(6);
        payment(x, 7, 1, 3, 333, -2998 + 166, 333, 333, 0, 0);
        x.house.share(100);
        x.house.run(4);
        x.house.advance(6);
        payment(x, 9, 1, 4, 333, -2832, 0, 0, 0, 0);
        x.house.share(10);
        x.house.run(5);
        x.house.advance(6);
        payment(x, 11, 1, 5, 333, -2832 + 333, 300, 300, 0, 0);
        pay(x, 1, 1_000_000_000_000L, 180, 209);
        x.house.run(7);
        x.house.advance(6);
        payment(x, 13, 1, 7, 333, 1_000_000_000L - 2832 + 333 + 33, 1_000_000_000L - 2832 + 333 + 33 + 333,
            1_000_000_000L - 2832 + 333 + 33 + 333, 0, 0);
        due("28 of the other", x.house.payment(12, BEHIND), 1000);
    }

    static void unclear() {
        Desk x = house();
        x.edition(0, 30, "rule due=1.5;");
        x.edition(0, 60, "rule due=pay;");
        x.house.award(0, 0, 0);
        x.house.deduct(0, 10, 0);
        x.house.clock(389);
        x.house.run(1);
        x.house.advance(1);
        payment(x, 0, 0, 1, 0, 1000, 1000, 990, 0, 1);
        x.house.run(2);
        x.house.advance(1);
        payment(x, 1, 0, 2, 1000, 0, 1000, 990, 0, 0);
        // the MONTH before is UNCLEAR, this one is not
        due("28 not unclear", x.house.payment(1, UNCLEAR), 0);
        x.edition(0, 90, "");
        x.edition(0, 0, "");
        x.house.run(3);
        x.house.advance(1);
        payment(x, 2, 0, 3, 0, -1000, 0, 0, 0, 1);
        due("29 nothing left", x.house.taken(2, 0), 0);
    }

    static void balance() {
        Desk x = house();
        due("31 no award", x.house.balance(0, 0), 0);
        x.house.award(2, 0, 2);
        due("31 no award 1", x.house.balance(1, 5), 0);
        due("31 no award -1", x.house.balance(-1, 5), 0);
        due("31 no month", x.house.balance(0, 13), 0);
        due("31 no month -1", x.house.balance(0, -1), 0);
        due("31 before", x.house.balance(0, 1), 0);
        due("31 the first", x.house.balance(0, 2), 3000);
        due("31 to the last", x.house.balance(0, 12), 33000);
        x.house.clock(100);
        x.house.run(3);
        x.house.advance(1);
        due("31 paid", x.house.balance(0, 3), 0);
        due("31 paid too much up to then", x.house.balance(0, 2), -3000);
        due("31 before its first month", x.house.balance(0, 0), -6000);
        due("31 on", x.house.balance(0, 4), 3000);
        pay(x, 2, 100, 0, 389);
        due("31 as known now", x.house.balance(0, 4), 300 - 6000);
        x.house.returned(0);
        due("31 came back", x.house.balance(0, 4), 300);
    }

    static void count() {
        Desk x = house();
        x.house.person(true, 0);
        x.house.award(0, 0, 0);
        x.house.award(1, 0, 0);
        x.house.award(2, 0, 1);
        x.house.clock(29);
        x.house.run(0);
        x.house.advance(1);
        x.feed("abc");
        int[] want = {1, 10, 3, 1, 1, 3, 29};
        for (int what = 0; what < 7; what++) {
            due("32 count " + what, x.house.count(what), want[what]);
        }
        due("32 outside", x.house.count(7), OUTSIDE);
        due("32 outside -1", x.house.count(-1), OUTSIDE);
        x.house.annul(3);
        due("32 void facts too", x.house.count(1), 10);
    }

    /** Thirteen MONTHS of six AWARDS: all the payments that there can be. */
    static void longRun() {
        Desk x = house();
        for (int i = 0; i < 6; i++) {
            x.house.award(i, 0, 0);
        }
        x.house.clock(389);
        for (int month = 0; month <= 12; month++) {
            due("26 run " + month, x.house.run(month), 6);
            for (int i = 0; i < 6; i++) {
                due("27 advance", x.house.advance(1), 1);
                due("28 gross", x.house.payment(6 * month + i, GROSS), 1000 * (i + 1));
                due("28 award", x.house.payment(6 * month + i, AWARD), i);
                due("28 month", x.house.payment(6 * month + i, MONTH), month);
                due("28 due", x.house.payment(6 * month + i, DUE), 1000 * (i + 1));
            }
        }
        due("32 payments", x.house.count(3), 78);
        due("26 no month above", x.house.run(12), STATE);
        due("31 all is paid", x.house.balance(5, 12), 0);
    }
}
