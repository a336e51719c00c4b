/** A test of its own for each sentence of "Terms" 3 and of promises 18 to 21 that names a bound or a refusal. */
public final class SentencesOfCases {
    static final int NONE = -1, UNKNOWN = -2, OUTSIDE = -3, STATE = -4;
    static final int MIN = Integer.MIN_VALUE, MAX = Integer.MAX_VALUE;
    static final long LEAST = Long.MIN_VALUE, MOST = Long.MAX_VALUE;
    static final int[] NO_DAYS = {-1, 390, MIN, MAX};
    static final int[] NO_MEMBERS = {-1, 10, MIN, MAX};
    static final int[] NO_SCHEMES = {-1, 4, MIN, MAX};
    /** An E of each SORT, for the house of PromisesOfCases; WHOLE is 1 that divides, 0 that is an index. */
    static final String[] OF_SORT = {"1", "1.5", "ints", "longs", "reals", "kin", "kids", "wives", "kin[0]"};
    static final String[] INDEX_OF_SORT = {"0", "0.0", "ints", "longs", "reals", "kin", "kids", "wives", "kin[0]"};

    public static void main(String[] args) throws Exception {
        Sentences.run(SentencesOfCases.class);
    }

    static void due(String call, long got, long want) {
        Desk.due(call, got, want);
    }

    static void fails(String e, int kind) {
        PromisesOfCases.fails(e, kind);
    }

    static void isWhole(String e, long want) {
        PromisesOfCases.isWhole(e, want);
    }

    static void isReal(String e, double want) {
        PromisesOfCases.isReal(e, want);
    }

    static void isRow(String e, int sort, long... items) {
        PromisesOfCases.isRow(e, sort, items);
    }

    /** The kind of the FAILURE of an E, or 0. */
    static int kind(String e) {
        return PromisesOfCases.work(e).figure("a");
    }

    static void isOfThatSort(String e, boolean mayBe) {
        due("a SORT that can not be there: " + e, kind(e) == 2 ? 1 : 0, mayBe ? 0 : 1);
    }

    /** The rule a of a text: the kind of its FAILURE, LINE, WORK, STEPS, FACTS asked for, F taken. */
    static Desk comes(String text, int... want) {
        Desk x = PromisesOfCases.house();
        due("read " + text, x.edition(0, 0, text) > 0 ? 1 : 0, 1);
        due("kind of " + text, x.figure("a"), want[0]);
        for (int what = 0; what < 5 && what + 1 < want.length; what++) {
            due("told " + what + " of " + text, x.house.told(what), want[what + 1]);
        }
        return x;
    }

    static void steps(Desk x, int... want) {
        due("how many STEPS", x.house.told(2), want.length);
        for (int k = 0; k < want.length; k++) {
            due("step " + k, x.house.step(k), want[k]);
        }
        due("no more STEPS", x.house.step(want.length), UNKNOWN);
    }

    /** A row of REALS as the FACT f; what an E comes to, a REAL. */
    static void isRealOf(String e, double want, double... items) {
        Desk x = PromisesOfCases.house();
        long[] bits = new long[items.length];
        for (int i = 0; i < items.length; i++) {
            bits[i] = Desk.bits(items[i]);
        }
        x.row(4, bits);
        x.fact("f");
        x.edition(0, 0, "rule a=" + e + ";");
        due(e, x.figure("a"), 0);
        due("sort of " + e, x.house.sort(), 1);
        due("bits of " + e, x.house.read(NONE), Desk.bits(want));
    }

    /** A WHOLE or a row as the FACT f; what an E comes to, a WHOLE, or the kind of its FAILURE. */
    static void of(int sort, long[] bits, String e, int kind, long want) {
        Desk x = PromisesOfCases.house();
        if (sort == 0) {
            x.whole(bits[0]);
        } else {
            x.row(sort, bits);
        }
        x.fact("f");
        x.edition(0, 0, "rule a=" + e + ";");
        due(e, x.figure("a"), kind);
        if (kind == 0) {
            due("sort of " + e, x.house.sort(), 0);
            due("bits of " + e, x.house.read(NONE), want);
        }
    }

    static long[] bits(long... bits) {
        return bits;
    }

    // ---- Terms 3, FAILURES

    static void terms3_kind1AFactThatIsNotKnown() {
        fails("nobody", 1);
        Desk x = new Desk();
        x.edition(0, 0, "rule a=f;");
        due("no FACT", x.figure(0, 0, "a", 50, 0), 1);
        x.house.clock(20);
        x.whole(1);
        x.fact(0, "f", 50, 60);
        x.house.clock(30);
        x.house.annul(0);
        due("the day before", x.figure(0, 0, "a", 49, 29), 1);
        due("FROM", x.figure(0, 0, "a", 50, 29), 0);
        due("TO", x.figure(0, 0, "a", 60, 29), 0);
        due("the day behind", x.figure(0, 0, "a", 61, 29), 1);
        due("not told then", x.figure(0, 0, "a", 50, 19), 1);
        due("told then", x.figure(0, 0, "a", 50, 20), 0);
        due("VOID then", x.figure(0, 0, "a", 50, 30), 1);
        due("another MEMBER", x.figure(1, 0, "a", 50, 29), 1);
    }

    static void terms3_kind1AnItemOfKinThatIsNone() {
        fails("kin[1]", 1);
        fails("with(kids,1,kids[0])[0]+kin[1]", 1);
        Desk x = new Desk();
        for (int sort = 5; sort <= 7; sort++) {
            x.house.desk(sort, 2);
            x.fact("f");
            x.edition(0, 0, "rule a=f[1];rule b=f[2];rule c=len(f);rule d=born(f[0]);");
            due("none " + sort, x.figure("a"), 1);
            due("no such item " + sort, x.figure("b"), 3);
            due("items that are none count " + sort, x.figure("c"), 0);
            due("born " + sort, x.figure("d"), 1);
        }
    }

    static void terms3_kind2NumbersAreOfSort0And1() {
        for (int s = 0; s <= 8; s++) {
            for (String f : "- whole real floor ceil near root".split(" ")) {
                isOfThatSort(f + "(" + OF_SORT[s] + ")", s <= 1);
            }
            for (int t = 0; t <= 8; t++) {
                boolean mayBe = s <= 1 && t <= 1;
                for (String sign : "+ - * / % < <= = !=".split(" ")) {
                    isOfThatSort(OF_SORT[s] + sign + OF_SORT[t], mayBe);
                }
                isOfThatSort("min(" + OF_SORT[s] + "," + OF_SORT[t] + ")", mayBe);
                isOfThatSort("max(" + OF_SORT[s] + "," + OF_SORT[t] + ")", mayBe);
            }
        }
    }

    static void terms3_kind2OfIfLenBornZeros() {
        for (int s = 0; s <= 8; s++) {
            isOfThatSort("if " + OF_SORT[s] + " then 1 else 1", s == 0);
            isOfThatSort("len(" + OF_SORT[s] + ")", s >= 2 && s <= 7);
            isOfThatSort("born(" + OF_SORT[s] + ")", s == 8);
            isOfThatSort("zeros(" + OF_SORT[s] + ")", s == 0);
        }
    }

    static void terms3_kind2OfTheIndexLastBestJoin() {
        for (int s = 0; s <= 8; s++) {
            for (int t = 0; t <= 8; t++) {
                boolean isRow = s >= 2 && s <= 7;
                isOfThatSort(OF_SORT[s] + "[" + INDEX_OF_SORT[t] + "]", isRow && t == 0);
                isOfThatSort("last(" + OF_SORT[s] + "," + INDEX_OF_SORT[t] + ")", isRow && t == 0);
                isOfThatSort("best(" + OF_SORT[s] + "," + INDEX_OF_SORT[t] + ")", s >= 2 && s <= 4 && t == 0);
                isOfThatSort("join(" + OF_SORT[s] + "," + OF_SORT[t] + ")", isRow && t >= 2 && t <= 7);
            }
        }
    }

    static void terms3_kind2OfWith() {
        for (int s = 0; s <= 8; s++) {
            boolean isRow = s >= 2 && s <= 7;
            for (int t = 0; t <= 8; t++) {
                String item = s >= 5 ? "kin[0]" : "1";
                isOfThatSort("with(" + OF_SORT[s] + "," + INDEX_OF_SORT[t] + "," + item + ")", isRow && t == 0);
                boolean fits = s >= 5 ? t == 8 : t == 0 || t == 1 && s == 4;
                isOfThatSort("with(" + OF_SORT[s] + ",0," + OF_SORT[t] + ")", isRow && fits);
                // 2 ahead of 3
                isOfThatSort("with(" + OF_SORT[s] + ",99," + OF_SORT[t] + ")", isRow && fits);
            }
        }
    }

    static void terms3_kind2OfASum() {
        for (int s = 0; s <= 8; s++) {
            isOfThatSort("sum n from " + OF_SORT[s] + " to 1 of 1", s == 0);
            isOfThatSort("sum n from 1 to " + OF_SORT[s] + " of 1", s == 0);
            isOfThatSort("sum n from 1 to 1 of " + OF_SORT[s], s <= 1);
            isOfThatSort("sum n from 2 to 1 of " + OF_SORT[s], true);
        }
    }

    static void terms3_kind3AnIndexThatARowHasNot() {
        for (int size = 0; size <= 12; size++) {
            String row = "zeros(" + size + ")";
            for (int i = 0; i < size; i++) {
                isWhole(row + "[" + i + "]", 0);
            }
            fails(row + "[" + size + "]", 3);
            fails(row + "[-1]", 3);
            fails("with(" + row + "," + size + ",5)", 3);
            fails("with(" + row + ",-1,5)", 3);
            fails(row + "[most]", 3);
            fails(row + "[least]", 3);
            fails(row + "[4294967296]", 3);
            fails("with(" + row + ",4294967296,5)", 3);
            fails("with(" + row + ",least,5)", 3);
        }
    }

    static void terms3_kind4ASizeBelow0OrAbove12() {
        for (String size : "-1 13 14 4294967296 4294967297 most least".split(" ")) {
            fails("zeros(" + size + ")", 4);
        }
        for (int size = 0; size <= 12; size++) {
            isRow("zeros(" + size + ")", 2, new long[size]);
            isRow("join(zeros(" + size + "),zeros(" + (12 - size) + "))", 2, new long[12]);
            if (size > 0) {
                fails("join(zeros(" + size + "),zeros(" + (13 - size) + "))", 4);
            }
        }
        fails("join(zeros(12),zeros(12))", 4);
        for (String n : "-1 -13 least -4294967295".split(" ")) {
            fails("last(ints," + n + ")", 4);
            fails("last(kin," + n + ")", 4);
            fails("best(longs," + n + ")", 4);
            fails("best(reals," + n + ")", 4);
        }
    }

    static void terms3_kind5AnItemThatDoesNotBelong() {
        fails("with(kids,0,wives[0])", 5);
        fails("with(wives,0,kids[0])", 5);
        fails("with(kids,0,kin[2])", 5);
        fails("with(wives,1,kin[0])", 5);
        fails("join(kids,wives)", 5);
        fails("join(wives,kids)", 5);
        fails("join(kids,kin)", 5);
        fails("join(wives,kin)", 5);
        isRow("with(kids,0,kin[0])", 6, 0, 0);
        isRow("with(wives,0,kin[2])", 7, 1, 3);
        isRow("with(kin,0,wives[1])", 5, 3, -1, 1);
        isRow("with(kin,2,kids[0])", 5, 0, -1, 2);
        isRow("join(kin,wives)", 5, 0, -1, 1, 1, 3);
        isRow("join(kin,kids)", 5, 0, -1, 1, 2, 0);
    }

    static void terms3_kind6WholeDivisionBy0() {
        for (String a : "0 1 -1 most least".split(" ")) {
            fails(a + "/0", 6);
            fails(a + "%0", 6);
        }
        isReal("0.0/0", Double.NaN);
        isReal("0/0.0", Double.NaN);
        isReal("1/0.0", Double.POSITIVE_INFINITY);
        isReal("-1/0.0", Double.NEGATIVE_INFINITY);
        isReal("1%0.0", Double.NaN);
        isReal("1.0%0", Double.NaN);
    }

    static void terms3_kind6ASumADifferenceAProductANegativeBeyond64Bits() {
        isWhole("most+0", MOST);
        isWhole("most-1+1", MOST);
        isWhole("least+1-1", LEAST);
        isWhole("0-most-1", LEAST);
        isWhole("-1-most", LEAST);
        fails("most+1", 6);
        fails("1+most", 6);
        fails("most+most", 6);
        fails("least+-1", 6);
        fails("least+least", 6);
        fails("least-1", 6);
        fails("0-least", 6);
        fails("most--1", 6);
        fails("-2-most", 6);
        isWhole("-1-least", MOST);
        isWhole("least-least", 0);
        isWhole("-(least+1)", MOST);
        fails("-least", 6);
    }

    static void terms3_kind6AProductBeyond64Bits() {
        of(0, bits(1L << 62), "f*-2", 0, LEAST);
        of(0, bits(1L << 62), "-2*f", 0, LEAST);
        of(0, bits(1L << 62), "f*2", 6, 0);
        of(0, bits(1L << 32), "f*f", 6, 0);
        of(0, bits(-1L << 32), "f*f", 6, 0);
        of(0, bits(1L << 31), "f*f", 0, 1L << 62);
        of(0, bits(-1L << 31), "f*f*-2", 0, LEAST);
        of(0, bits(LEAST), "f*1", 0, LEAST);
        of(0, bits(LEAST), "f*0", 0, 0);
        of(0, bits(LEAST), "0*f", 0, 0);
        of(0, bits(LEAST), "f*-1", 6, 0);
        of(0, bits(LEAST), "-1*f", 6, 0);
        of(0, bits(LEAST), "f*f", 6, 0);
        of(0, bits(LEAST), "f*2", 6, 0);
        of(0, bits(MOST), "f*-1", 0, -MOST);
        of(0, bits(MOST), "f*2", 6, 0);
        of(0, bits(MOST), "f*-2", 6, 0);
        of(0, bits(MOST), "f*f", 6, 0);
        of(0, bits(MOST / 3), "f*3", 0, MOST / 3 * 3);
        of(0, bits(MOST / 3 + 1), "f*3", 6, 0);
    }

    static void terms3_kind6OfReadingsThatComeByASumOrBest() {
        of(3, bits(MOST, 1), "sum n from 0 to 1 of f[n]", 6, 0);
        of(3, bits(MOST, 0), "sum n from 0 to 1 of f[n]", 0, MOST);
        of(3, bits(MOST, 1, -1), "sum n from 0 to 2 of f[n]", 6, 0);
        of(3, bits(MOST, -1, 1), "sum n from 0 to 2 of f[n]", 0, MOST);
        of(3, bits(LEAST, -1), "sum n from 0 to 1 of f[n]", 6, 0);
        of(3, bits(MOST, 1), "best(f,2)", 6, 0);
        of(3, bits(LEAST, -1), "best(f,2)", 6, 0);
        of(3, bits(LEAST, 0), "best(f,2)", 0, LEAST);
        of(3, bits(-1, MOST, 1), "best(f,3)", 6, 0);
        of(2, bits(Integer.MAX_VALUE, Integer.MAX_VALUE), "best(f,2)", 0, 2L * Integer.MAX_VALUE);
        of(2, bits(MIN, MIN), "best(f,2)", 0, 2L * MIN);
    }

    // ---- Terms 3, the order

    static void terms3_fromTheLeftToTheRightToTheFirstFailure() {
        for (String sign : "+ - * / % < <= = !=".split(" ")) {
            fails("nobody" + sign + "1/0", 1);
            fails("(1/0)" + sign + "nobody", 6);
        }
        fails("max(nobody,1/0)", 1);
        fails("max(1/0,nobody)", 6);
        fails("with(nobody,1/0,ints[9])", 1);
        fails("with(ints,1/0,ints[9])", 6);
        fails("with(ints,0,ints[9])", 3);
        fails("nobody[1/0]", 1);
        fails("sum n from nobody to 1/0 of ints", 1);
        fails("sum n from 1/0 to nobody of ints", 6);
        fails("if nobody then 1/0 else ints[9]", 1);
        fails("if 1 then 1/0 else nobody", 6);
        fails("if 0 then 1/0 else nobody", 1);
    }

    static void terms3_whatAnOperatorIsMadeOfIsWorkedAheadOfItsSorts() {
        for (String sign : "+ - * / % < <= = !=".split(" ")) {
            fails("ints" + sign + "nobody", 1);
            fails("ints" + sign + "(1/0)", 6);
        }
        fails("5[nobody]", 1);
        fails("5[1/0]", 6);
        fails("kin[1][1/0]", 1);
        fails("ints[9][1/0]", 3);
    }

    static void terms3_whatAFunctionIsMadeOfIsWorkedAheadOfItsSorts() {
        for (String f : "best last max min".split(" ")) {
            fails(f + "(kin,nobody)", 1);
            fails(f + "(kin[0],1/0)", 6);
        }
        fails("join(5,nobody)", 1);
        fails("with(5,5.5,nobody)", 1);
        fails("with(5,5.5,1/0)", 6);
        fails("with(ints,99,nobody)", 1);
        fails("with(kids,0,kin[1])", 1);
    }

    static void terms3_fromAndToAreWorkedAheadOfTheirSorts() {
        fails("sum n from ints to nobody of 1", 1);
        fails("sum n from 1.5 to 1/0 of 1", 6);
        fails("sum n from ints to 1 of nobody", 2);
        fails("sum n from 1 to 1.0 of nobody", 2);
    }

    static void terms3_firstTheSortsThenTheSizesThenTheItems() {
        // 2, then 3 (last, best: 4 or 3), then 5
        fails("with(kids,9,5)", 2);
        fails("with(kids,9,wives[0])", 3);
        fails("with(kids,1,wives[0])", 5);
        fails("last(5,-1)", 2);
        fails("last(ints,-1.0)", 2);
        fails("best(kin,-1)", 2);
        fails("best(kin,99)", 2);
        fails("join(zeros(12),5)", 2);
        fails("join(5,zeros(12))", 2);
        fails("join(zeros(12),kids)", 4);
        fails("join(zeros(11),kids)", 4);
        fails("join(zeros(10),kids)", 5);
        fails("join(join(join(join(join(kids,kids),kids),kids),kids),kin)", 4);
        fails("5[99]", 2);
        fails("ints[99.0]", 2);
        fails("kin[9]", 3);
    }

    // ---- Terms 3, VALUES

    static void terms3_numbersWithAPointAreTheNearest() {
        for (String number : ("0.1 0.3 1.1 0.000001 999999999.999999 123456789.123456 4.35 0.7 000000001.100000 1.0 0.0 2.675"
                + " 16777217.000001 100000000.000005").split(" ")) {
            isReal(number, Double.parseDouble(number));
        }
        isWhole("10", 10);
    }

    static void terms3_bothRealIfOneIs() {
        isReal("odd+0.0", 9007199254740992.0);
        isReal("0.0+odd", 9007199254740992.0);
        isReal("most*1.0", 9223372036854775807.0);
        isReal("1.0*least", -9223372036854775808.0);
        isReal("most+1.0", 9223372036854775808.0);
        isReal("7/2.0", 3.5);
        isReal("7.0/2", 3.5);
        isReal("7%2.5", 2.0);
        isReal("5.5%2", 1.5);
        isReal("1-0.5", 0.5);
        isWhole("most=most+0.0", 1);
        isWhole("most-1=most+0.0", 1);
        isWhole("most<9223373.0*1000000*1000000", 1);
        isWhole("most<9223372.0*1000000*1000000", 0);
        isReal("min(2,3.0)", 2.0);
        isReal("max(3,2.0)", 3.0);
        isReal("max(odd,0.0)", 9007199254740992.0);
        isReal("min(0.5,2)", 0.5);
        isReal("max(0.5,2)", 2.0);
        isReal("min(2,0.5)", 0.5);
        isReal("max(2,0.5)", 2.0);
        isReal("min(-0.5,-2)", -2.0);
        isReal("max(0.0,odd)", 9007199254740992.0);
        isReal("min(inf,most)", 9223372036854775807.0);
    }

    static void terms3_wholeDivisionIsCutOffTowardZero() {
        isWhole("7/2", 3);
        isWhole("-7/2", -3);
        isWhole("7/-2", -3);
        isWhole("-7/-2", 3);
        isWhole("7%2", 1);
        isWhole("-7%2", -1);
        isWhole("7%-2", 1);
        isWhole("-7%-2", -1);
        isWhole("1/most", 0);
        isWhole("most/least", 0);
        isWhole("least/most", -1);
        isWhole("least%most", -1);
        isReal("-7.5%2", -1.5);
        isReal("7.5%-2", 1.5);
        isReal("-6.0%3", -0.0);
        isReal("6.0%-3", 0.0);
    }

    static void terms3_theLeastOneByMinus1IsItself0Left() {
        isWhole("least/-1", LEAST);
        isWhole("least%-1", 0);
        isWhole("most/-1", -MOST);
        isWhole("most%-1", 0);
        isReal("least/-1.0", 9223372036854775808.0);
        isReal("least%-1.0", -0.0);
    }

    static void terms3_comparesTellWhole1Or0() {
        String[] signs = {"<", "<=", "=", "!="};
        int[][] want = {{1, 1, 0, 1}, {0, 1, 1, 0}, {0, 0, 0, 1}};
        String[][] pairs = {{"1", "2"}, {"2", "2"}, {"2", "1"}, {"1.5", "2"}, {"2", "2.0"}, {"2", "1.5"}, {"least", "most"},
            {"most", "most"}, {"most", "least"}, {"-inf", "inf"}, {"inf", "inf"}, {"inf", "-inf"}, {"-1", "-0.5"}, {"nought", "0"},
            {"0.000001", "nought"}};
        for (int i = 0; i < pairs.length; i++) {
            for (int k = 0; k < signs.length; k++) {
                isWhole(pairs[i][0] + signs[k] + pairs[i][1], want[i % 3][k]);
            }
        }
        isWhole("0.0=nought", 1);
        isWhole("nought<0.0", 0);
        isWhole("0.0<=nought", 1);
        isWhole("0!=nought", 0);
    }

    static void terms3_withANotANumberOnlyUnequalTells1() {
        for (String other : "nan 0 1 1.5 inf -inf nought most".split(" ")) {
            for (int turn = 0; turn <= 1; turn++) {
                String left = turn == 0 ? "nan" : other;
                String right = turn == 0 ? other : "nan";
                isWhole(left + "<" + right, 0);
                isWhole(left + "<=" + right, 0);
                isWhole(left + "=" + right, 0);
                isWhole(left + "!=" + right, 1);
            }
        }
    }

    static void terms3_minusTurnsTheSign() {
        isWhole("-0", 0);
        isWhole("-7", -7);
        isWhole("--7", 7);
        isWhole("-most", -MOST);
        isReal("-0.0", -0.0);
        isReal("-nought", 0.0);
        isReal("-1.5", -1.5);
        isReal("-inf", Double.NEGATIVE_INFINITY);
        isReal("--inf", Double.POSITIVE_INFINITY);
        isReal("-nan", Double.NaN);
        isReal("0-0.0", 0.0);
    }

    static void terms3_allNotANumbersAreTheOne() {
        for (String e : "nan -nan nan+1 nan-nan 1*nan nan/0 nan%1 inf-inf 0*inf inf/inf inf%2 0.0/0 5%0.0".split(" ")) {
            isReal(e, Double.NaN);
        }
        for (String f : "real floor ceil near root".split(" ")) {
            isReal(f + "(nan)", Double.NaN);
            isReal(f + "(-nan)", Double.NaN);
        }
        isReal("root(-1)", Double.NaN);
        isReal("root(-0.000001)", Double.NaN);
        isReal("root(-inf)", Double.NaN);
    }

    static void terms3_if0IsNoAnotherWholeYes() {
        isWhole("if 0 then 1 else 2", 2);
        isWhole("if nought=1 then 1 else 2", 2);
        for (String yes : "1 -1 2 4294967296 most least".split(" ")) {
            isWhole("if " + yes + " then 1 else 2", 1);
        }
        fails("if 0.0 then 1 else 2", 2);
        fails("if nan then 1 else 2", 2);
        isWhole("if 0 then nobody else 2", 2);
        isWhole("if 1 then 1 else nobody", 1);
    }

    static void terms3_whatItemsAre() {
        isWhole("ints[1]", -3);
        isWhole("ints[3]", MIN);
        isWhole("longs[0]", MOST);
        isWhole("longs[2]", LEAST);
        isReal("reals[0]", Double.NaN);
        isReal("reals[2]", -0.0);
        PromisesOfCases.is("kin[2]", 8, 1);
        PromisesOfCases.is("kids[1]", 8, 0);
        PromisesOfCases.is("wives[1]", 8, 3);
    }

    static void terms3_dayIsTheDayWhole() {
        Desk x = new Desk();
        x.edition(0, 0, "rule a=day;");
        x.house.clock(200);
        for (int day : new int[] {0, 1, 199, 200, 201, 389}) {
            due("day " + day, x.figure(0, 0, "a", day, 7), 0);
            due("its sort", x.house.sort(), 0);
            due("its bits", x.house.read(NONE), day);
        }
    }

    static void terms3_lenOf0And12Items() {
        isWhole("len(empty)", 0);
        isWhole("len(zeros(12))", 12);
        isWhole("len(kin)", 3);
        isWhole("len(kids)", 2);
        isWhole("len(wives)", 2);
        isWhole("len(longs)", 3);
        isWhole("len(reals)", 4);
    }

    static void terms3_wholeCutsOffBeyondTheEndsThese() {
        isWhole("whole(0.999999)", 0);
        isWhole("whole(-0.999999)", 0);
        isWhole("whole(nought)", 0);
        isWhole("whole(1.5)", 1);
        isWhole("whole(-1.5)", -1);
        isWhole("whole(nan)", 0);
        isWhole("whole(inf)", MOST);
        isWhole("whole(-inf)", LEAST);
        isWhole("whole(real(most))", MOST);
        isWhole("whole(real(most)*2)", MOST);
        isWhole("whole(real(least))", LEAST);
        isWhole("whole(real(least)*1.5)", LEAST);
        isWhole("whole(odd)", (1L << 53) + 1);
        isWhole("whole(real(odd))", 1L << 53);
        isWhole("whole(least)", LEAST);
        isWhole("whole(most)", MOST);
        of(4, bits(0x43DFFFFFFFFFFFFFL), "whole(f[0])", 0, 0x7FFFFFFFFFFFFC00L);
        of(4, bits(0xC3DFFFFFFFFFFFFFL), "whole(f[0])", 0, -0x7FFFFFFFFFFFFC00L);
        of(4, bits(1), "whole(f[0])", 0, 0);
    }

    static void terms3_realIsTheNearest() {
        isReal("real(odd)", 9007199254740992.0);
        isReal("real(odd+2)", 9007199254740996.0);
        isReal("real(-odd)", -9007199254740992.0);
        isReal("real(most)", 9223372036854775807.0);
        isReal("real(least)", -9223372036854775808.0);
        isReal("real(0)", 0.0);
        isReal("real(nought)", -0.0);
        isReal("real(0.1)", 0.1);
    }

    static void terms3_whatComesTo0HasTheSignOfItsNumber() {
        isReal("floor(nought)", -0.0);
        isReal("floor(0.5)", 0.0);
        isReal("floor(0)", 0.0);
        isReal("ceil(-0.5)", -0.0);
        isReal("ceil(-0.999999)", -0.0);
        isReal("ceil(nought)", -0.0);
        isReal("ceil(0.0)", 0.0);
        isReal("near(-0.5)", -0.0);
        isReal("near(-0.25)", -0.0);
        isReal("near(0.5)", 0.0);
        isReal("near(nought)", -0.0);
        isReal("near(0)", 0.0);
        isReal("root(nought)", -0.0);
        isReal("root(0.0)", 0.0);
        isReal("root(0)", 0.0);
    }

    static void terms3_floorCeilNearRoot() {
        double[] numbers = {0.3, 0.5, 0.7, 1, 1.5, 2.5, 3.5, 4.499999, 4.5, 999999999.5, 123456789.999999};
        for (double number : numbers) {
            String s = new java.math.BigDecimal(Double.toString(number)).toPlainString();
            isReal("floor(" + s + ")", Math.floor(number));
            isReal("ceil(" + s + ")", Math.ceil(number));
            isReal("near(" + s + ")", Math.rint(number));
            isReal("root(" + s + ")", Math.sqrt(number));
            isReal("floor(-" + s + ")", Math.floor(-number));
            isReal("ceil(-" + s + ")", Math.ceil(-number));
            isReal("near(-" + s + ")", Math.rint(-number));
        }
        for (String f : "floor ceil near".split(" ")) {
            isReal(f + "(inf)", Double.POSITIVE_INFINITY);
            isReal(f + "(-inf)", Double.NEGATIVE_INFINITY);
            isReal(f + "(odd)", 9007199254740992.0);
            isReal(f + "(-7)", -7);
        }
        isReal("root(inf)", Double.POSITIVE_INFINITY);
        isReal("root(most)", Math.sqrt(9223372036854775807.0));
    }

    static void terms3_minMaxNotANumberIfOneIs() {
        for (String f : "min max".split(" ")) {
            for (String other : "0 1.5 inf -inf nought most nan".split(" ")) {
                isReal(f + "(nan," + other + ")", Double.NaN);
                isReal(f + "(" + other + ",nan)", Double.NaN);
            }
        }
    }

    static void terms3_minMaxMinus0Below0() {
        isReal("min(nought,0.0)", -0.0);
        isReal("min(0.0,nought)", -0.0);
        isReal("max(nought,0.0)", 0.0);
        isReal("max(0.0,nought)", 0.0);
        isReal("min(nought,0)", -0.0);
        isReal("max(0,nought)", 0.0);
        isReal("min(nought,nought)", -0.0);
        isReal("max(nought,nought)", -0.0);
        isReal("max(nought,-inf)", -0.0);
        isReal("min(0.0,inf)", 0.0);
        isWhole("min(least,most)", LEAST);
        isWhole("max(least,most)", MOST);
        isReal("min(-1.5,-2.5)", -2.5);
        isReal("max(-1.5,-2.5)", -1.5);
    }

    static void terms3_bornIsTheBirth() {
        Desk x = new Desk();
        x.house.person(true, -40000);
        x.house.person(false, 389);
        x.house.person(true, 0);
        x.row(5, 0, 1, 2);
        x.fact("f");
        x.edition(0, 0, "rule a=born(f[0]);rule b=born(f[1]);rule c=born(f[2]);");
        int[] want = {-40000, 389, 0};
        for (int i = 0; i < 3; i++) {
            due("born", x.figure("" + (char) ('a' + i)), 0);
            due("sort", x.house.sort(), 0);
            due("birth", x.house.read(NONE), want[i]);
        }
    }

    static void terms3_lastOf0AndOfAllItems() {
        isRow("last(ints,0)", 2);
        isRow("last(ints,4)", 2, 5, -3, 9, MIN);
        isRow("last(longs,1)", 3, LEAST);
        isRow("last(reals,2)", 4, Desk.bits(-0.0), 0);
        isRow("last(kin,2)", 5, -1, 1);
        isRow("last(kids,1)", 6, 0);
        isRow("last(wives,1)", 7, 3);
        isRow("last(empty,0)", 2);
        isRow("last(zeros(12),12)", 2, new long[12]);
        fails("last(empty,1)", 3);
        fails("last(ints,5)", 3);
        fails("last(ints,4294967296)", 3);
        fails("last(ints,most)", 3);
        fails("last(zeros(12),13)", 3);
    }

    static void terms3_joinIsOfTheFirstOnesSort() {
        isRow("join(ints,zeros(2))", 2, 5, -3, 9, MIN, 0, 0);
        isRow("join(zeros(2),ints)", 2, 0, 0, 5, -3, 9, MIN);
        isRow("join(longs,longs)", 3, MOST, 1, LEAST, MOST, 1, LEAST);
        isRow("join(last(reals,1),last(reals,2))", 4, 0, Desk.bits(-0.0), 0);
        isRow("join(empty,empty)", 2);
        isRow("join(kin,kin)", 5, 0, -1, 1, 0, -1, 1);
        isRow("join(kids,last(kin,0))", 6, 2, 0);
        isRow("join(last(kin,0),kids)", 5, 2, 0);
        isRow("join(last(kids,0),last(wives,0))", 6);
        isRow("join(wives,last(kin,2))", 7, 1, 3, -1, 1);
        // none belongs everywhere
        isRow("join(kids,last(with(kin,2,kids[0]),2))", 6, 2, 0, -1, 2);
        int[] sorts = {2, 3, 4, 5};
        String[] rows = {"last(ints,0)", "last(longs,0)", "last(reals,0)", "last(kin,0)"};
        for (int i = 0; i < 4; i++) {
            for (int k = 0; k < 4; k++) {
                if (i == k) {
                    isRow("join(" + rows[i] + "," + rows[k] + ")", sorts[i]);
                } else {
                    fails("join(" + rows[i] + "," + rows[k] + ")", 5);
                }
            }
        }
    }

    static void terms3_withTakesTheLowest32BitsForInts() {
        isRow("with(last(ints,1),0,2147483647)", 2, MAX);
        isRow("with(last(ints,1),0,2147483648)", 2, MIN);
        isRow("with(last(ints,1),0,4294967296)", 2, 0);
        isRow("with(last(ints,1),0,4294967295)", 2, -1);
        isRow("with(last(ints,1),0,most)", 2, -1);
        isRow("with(last(ints,1),0,least)", 2, 0);
        isRow("with(last(longs,1),0,4294967296)", 3, 1L << 32);
        isRow("with(last(longs,1),0,most)", 3, MOST);
        isRow("with(last(reals,1),0,most)", 4, Desk.bits(9223372036854775807.0));
        isRow("with(last(reals,1),0,nan)", 4, 0x7FF8000000000000L);
        isRow("with(last(reals,1),0,nought)", 4, 1L << 63);
        isRow("with(zeros(12),11,5)", 2, 0, 0, 0, 0, 0, 0, 0, 0, 0, 0, 0, 5);
        isRow("with(zeros(12),0,5)", 2, 5, 0, 0, 0, 0, 0, 0, 0, 0, 0, 0, 0);
        // the FACT stays as it is
        isWhole("with(ints,0,77)[0]*0+ints[0]", 5);
    }

    static void terms3_bestOfNoneOfAllAndOfMore() {
        isWhole("best(ints,0)", 0);
        isWhole("best(ints,1)", 9);
        isWhole("best(ints,2)", 14);
        isWhole("best(ints,3)", 11);
        isWhole("best(ints,4)", 11L + MIN);
        fails("best(ints,5)", 3);
        fails("best(ints,4294967296)", 3);
        fails("best(empty,1)", 3);
        isWhole("best(empty,0)", 0);
        isReal("best(reals,0)", 0.0);
        isReal("best(last(reals,0),0)", 0.0);
        isWhole("best(zeros(12),12)", 0);
    }

    static void terms3_bestTakesTheGreatestFirst() {
        isRealOf("best(f,3)", 9007199254740992.0, 1, 9007199254740992.0, 1);
        isRealOf("best(f,2)", 9007199254740992.0, 1, 1, 9007199254740992.0);
        isRealOf("best(f,2)", Double.POSITIVE_INFINITY, Double.POSITIVE_INFINITY, Double.NEGATIVE_INFINITY, 5);
        isRealOf("best(f,3)", Double.NaN, Double.POSITIVE_INFINITY, Double.NEGATIVE_INFINITY, 5);
        isRealOf("best(f,1)", Double.NaN, Double.POSITIVE_INFINITY, Double.NaN, 5);
        isRealOf("best(last(f,1),1)", 5, Double.POSITIVE_INFINITY, Double.NaN, 5);
        isRealOf("best(f,2)", 0.0, -0.0, 0.0);
        isRealOf("best(f,1)", 0.0, -0.0);
        isRealOf("best(f,1)", -1.5, -2.5, -1.5, Double.NEGATIVE_INFINITY);
        isRealOf("best(f,2)", 0.1 + 0.7, 0.1, 0.0, 0.7);
        isRealOf("best(f,3)", 0.0 + 0.7 + 0.2 + 0.1, 0.1, 0.2, 0.7);
    }

    static void terms3_aSumIsWhole0AndItsUsOneAfterTheOther() {
        isWhole("sum n from 1 to 0 of nobody", 0);
        isWhole("sum n from most to least of nobody", 0);
        isWhole("sum n from 5 to 5 of n", 5);
        isWhole("sum n from -3 to 3 of n", 0);
        isWhole("sum n from most to most of n", MOST);
        isWhole("sum n from least to least of n", LEAST);
        isWhole("sum n from least to least+2 of (n-least)", 3);
        isWhole("sum n from most-2 to most of (most-n)", 3);
        isReal("sum n from 1 to 3 of 0.1", 0.0 + 0.1 + 0.1 + 0.1);
        isReal("sum n from 1 to 1 of nought", 0.0);
        isReal("sum n from 1 to 2 of (if n=1 then 1 else 0.5)", 1.5);
        isReal("sum n from 1 to 2 of (if n=1 then 0.5 else odd)", 9007199254740992.5);
        fails("sum n from 1 to 2 of most", 6);
        fails("sum n from 0 to 2 of ints[n*2]", 3);
    }

    static void terms3_tryTakesFWhereEFailsBy1To6() {
        String[] failing = {"nobody", "1+ints", "ints[4]", "zeros(13)", "join(kids,wives)", "1/0"};
        for (int i = 0; i < 6; i++) {
            due("kind of " + failing[i], kind(failing[i]), i + 1);
            isWhole("try " + failing[i] + " else 5", 5);
            for (int k = 0; k < 6; k++) {
                fails("try " + failing[i] + " else " + failing[k], k + 1);
            }
            isWhole("try try " + failing[i] + " else " + failing[5 - i] + " else 6", 6);
        }
        isWhole("try kin[1] else 5", 5);
        isWhole("try 1 else 1/0", 1);
        // other VALUES of E are no FAILURES
        isReal("try nan else 5", Double.NaN);
        isRow("try kids else 5", 6, 2, 0);
    }

    static void terms3_tryDoesNotTakeFWhereEFailsBy7() {
        comes("rule a=try sum n from 1 to 999 of 1 else 2;", 7, 0, 400, 1, 0, 0);
        comes("rule a=try sum n from 1 to 999 of n+1 else 2;", 7, 0, 400, 1, 0, 0);
        comes("rule a=try try sum n from 1 to 999 of -1 else 2 else 3;", 7, 0, 400, 1, 0, 0);
        Desk x = comes("rule b=sum n from 1 to 999 of 1;rule a=(try b else 2)+nobody;", 7, 0, 400, 2, 0, 0);
        steps(x, 7, 107);
    }

    // ---- Terms 3, WORK

    /** An E that takes so much WORK (3 or more) and comes to a number. */
    static String filler(int work) {
        String sum = "(sum n from 1 to " + (work - 3) / 2 + " of n)";
        return (work - 3) % 2 == 0 ? sum : "-" + sum;
    }

    static void terms3_workOfEachPart() {
        Object[][] rows = {{"1", 1}, {"1.5", 1}, {"day", 1}, {"most", 1}, {"(((1)))", 1}, {"-1", 2}, {"1+1", 3}, {"1-1", 3}, {"1*1", 3},
            {"1/1", 3}, {"1%1", 3}, {"1<1", 3}, {"1<=1", 3}, {"1=1", 3}, {"1!=1", 3}, {"ints[0]", 3}, {"len(ints)", 2}, {"born(kin[0])", 4},
            {"ceil(1)", 2}, {"floor(1)", 2}, {"near(1)", 2}, {"real(1)", 2}, {"root(1)", 2}, {"whole(1)", 2}, {"zeros(1)", 26},
            {"best(ints,1)", 3}, {"join(ints,ints)", 27}, {"last(ints,1)", 27}, {"max(1,1)", 3}, {"min(1,1)", 3}, {"with(ints,0,1)", 28},
            {"if 1 then 1 else 1+1", 3}, {"if 0 then 1 else 1+1", 5}, {"try 1 else 1+1", 151}, {"try nobody else 1+1", 154},
            {"sum n from 1 to 0 of n", 3}, {"sum n from 1 to 1 of n", 5}, {"sum n from 1 to 7 of n", 17}, {"sum n from 1 to 7 of 1", 17},
            {"sum n from 1 to 2 of (n+n)", 3 + 2 * 4}, {"sum n from 1 to 2 of sum m from 1 to 2 of 1", 3 + 2 * (1 + 3 + 4)}};
        for (Object[] row : rows) {
            comes("rule a=" + row[0] + ";", 0, NONE, (Integer) row[1]);
        }
    }

    static void terms3_400InAllForEachPart() {
        Object[][] rows = {{"1", 1, 1, 0}, {"1.5", 1, 1, 0}, {"day", 1, 1, 0}, {"most*0", 1, 3, 0}, {"-1", 1, 2, 0}, {"(1+1)", 1, 3, 0},
            {"(1<1)", 1, 3, 0}, {"ints[0]", 1, 3, 0}, {"len(ints)", 1, 2, 0}, {"max(1,2)", 1, 3, 0}, {"(if 1 then 1 else 1)", 1, 3, 0},
            {"(try 1 else 1)", 150, 151, 0}, {"zeros(0)", 25, 26, 2}, {"last(ints,0)", 25, 27, 2}, {"join(ints,ints)", 25, 27, 2},
            {"with(ints,0,1)", 25, 28, 2}, {"(sum n from 2 to 1 of n)", 1, 3, 0}, {"(sum n from 1 to 1 of n)", 1, 5, 0}, {"r", 1, 2, 0}};
        for (Object[] row : rows) {
            int own = (Integer) row[1];
            int all = (Integer) row[2];
            String start = "rule r=1;rule a=";
            comes(start + filler(399 - all) + "+" + row[0] + ";", (Integer) row[3], (Integer) row[3] == 0 ? NONE : 1, 400);
            due("what does not fit", PromisesOfCases.work(filler(400 - all) + "+" + row[0]).figure("a"), row[0].equals("r") ? 1 : 7);
            // the PART itself does not fit: it is not counted
            comes(start + filler(400 - own) + "+" + row[0] + ";", 7, 1, 401 - own);
        }
    }

    static void terms3_aPartCountsAheadOfAllThatItIsMadeOf() {
        String[] signs = "+ - * / % < <= = !=".split(" ");
        for (String sign : signs) {
            comes("rule a=nobody" + sign + "1;", 1, 0, 2, 1, 1, 0);
        }
        comes("rule a=nobody+1+1+1;", 1, 0, 4);
        comes("rule a=nobody*1+1<1;", 1, 0, 4);
        comes("rule a=1+nobody*1;", 1, 0, 4);
        comes("rule a=nobody[0];", 1, 0, 2);
        comes("rule a=nobody[0][0][0];", 1, 0, 4);
        comes("rule a=-nobody;", 1, 0, 2);
        comes("rule a=--nobody;", 1, 0, 3);
        comes("rule a=if nobody then 1 else 1;", 1, 0, 2);
        comes("rule a=try nobody else nobody;", 1, 0, 152, 1, 2, 1);
        comes("rule a=sum n from nobody to 1 of 1;", 1, 0, 2);
        for (String f : "born ceil floor len near real root whole".split(" ")) {
            comes("rule a=" + f + "(nobody);", 1, 0, 2);
        }
        comes("rule a=zeros(nobody);", 1, 0, 26);
        comes("rule a=last(nobody,1);", 1, 0, 26);
        comes("rule a=join(nobody,1);", 1, 0, 26);
        comes("rule a=with(nobody,1,1);", 1, 0, 26);
        comes("rule a=best(nobody,1);", 1, 0, 2);
        comes("rule a=min(nobody,1);", 1, 0, 2);
    }

    static void terms3_aSum1MoreForEachNumberAheadOfItsU() {
        comes("rule a=sum n from 1 to 3 of nobody;", 1, 0, 5);
        comes("rule a=sum n from 1 to 3 of (try 1 else 1);", 7, 0, 3 + 2 * 152 + 1);
        comes("rule a=" + filler(243) + "+sum n from 1 to 1 of (try 1 else 1);", 0, NONE, 1 + 243 + 3 + 1 + 151);
        comes("rule a=" + filler(244) + "+sum n from 1 to 1 of (try 1 else 1);", 0, NONE, 1 + 244 + 3 + 1 + 151);
        comes("rule a=" + filler(245) + "+sum n from 1 to 1 of (try 1 else 1);", 7, 0, 400);
        comes("rule a=" + filler(246) + "+sum n from 1 to 1 of (try 1 else 1);", 7, 0, 1 + 246 + 4);
        // from and to that span all WHOLES
        comes("rule a=sum n from least to most of 1;", 7, 0, 400);
        comes("rule a=sum n from least to most of n;", 6, 0, 3 + 2 + 2);
    }

    static void terms3_whatWouldGoAbove400EndsTheCase() {
        Desk x = comes("rule b=sum n from 1 to 197 of n;rule c=1;rule a=-b+c;", 7, 2, 400, 2, 0, 0);
        steps(x, 0, 207);
        comes("rule a=" + filler(399) + ";", 0, NONE, 399);
        comes("rule a=-" + filler(399) + ";", 0, NONE, 400);
        comes("rule a=--" + filler(399) + ";", 7, 0, 400);
        // less WORK that would fit is not begun behind it
        comes("rule a=" + filler(300) + "+(try 1 else 1);", 7, 0, 301);
        comes("rule a=" + filler(300) + "+(try (try 1 else 1) else 1);", 7, 0, 301);
        comes("rule a=" + filler(100) + "+(try (try 1 else 1) else 1);", 7, 0, 251, 1, 0, 0);
    }

    // ---- Terms 3, rules

    static void terms3_aRuleIsWorkedOnce() {
        Desk x = comes("rule b=len(zeros(3))+most*0;rule a=b+b+b;", 0, NONE, 2 + 3 + 31, 2, 1, 0);
        x.house.step(1);
        due("its figure stands", x.house.read(NONE), 9);
        x = comes("rule b=1;rule c=b;rule d=b+c;rule a=d+c+b;", 0, NONE, 2 + 3 + 3 + 1 + 1, 4, 0, 0);
        steps(x, 0, 100, 200, 300);
        // one that is not wanted is not worked
        x = comes("rule b=1;rule c=1/0;rule a=if b then b else c;", 0, NONE, 4, 2, 0, 0);
        steps(x, 0, 200);
    }

    static void terms3_itsFailureStandsThen() {
        Desk x = comes("rule b=1/0+nobody;rule a=(try b else 1)+(try b else 2);", 0, NONE, 1 + 151 + 4 + 1 + 151 + 1, 2, 0, 2);
        steps(x, 6, 100);
        x.house.step(1);
        due("both F", x.house.read(NONE), 3);
        x = comes("rule b=nobody;rule c=try b else b;rule a=c;", 1, 0, 154, 3, 1, 1);
        steps(x, 1, 101, 201);
        x = comes("rule b=ints[9];rule a=(try b else 1)+b;", 3, 0, 1 + 151 + 3 + 1 + 1, 2, 1, 1);
        steps(x, 3, 103);
    }

    static void terms3_aRuleWorkedInATryOrASumStandsToo() {
        Desk x = comes("rule b=5;rule c=b+nobody;rule a=(try c else 1)+b;", 0, NONE, 1 + 151 + 3 + 1 + 1 + 1, 3, 1, 1);
        steps(x, 0, 101, 200);
        x = comes("rule b=most;rule a=sum n from 1 to 3 of (b*0+n);", 0, NONE, 3 + 3 * 6 + 1, 2, 1, 0);
        steps(x, 0, 100);
    }

    static void terms3_theLineIsTheRuleInWhichItArose() {
        comes("rule z=1;rule b=1/0;rule c=b;rule d=1+c;rule a=d*2;", 6, 1);
        comes("rule z=1;rule b=5;rule c=b;rule d=1/0+c;rule a=d*2;", 6, 3);
        comes("rule b=ints;rule a=b+1;", 2, 1);
        comes("rule b=9;rule a=ints[b];", 3, 1);
        comes("rule b=0;rule c=try 1/0 else b;rule a=1/c;", 6, 2);
        comes("rule b=1/0;rule c=try b else nobody;rule a=c;", 1, 1);
        comes("rule b=1/0;rule c=try nobody else b;rule a=c;", 6, 0);
        comes("rule a=try 1/0 else 1;", 0, NONE);
        comes("rule b=sum n from 1 to 999 of n;rule c=try b else 1;rule a=c;", 7, 0);
        // the NAME of the rule does not fit: it arose where it is wanted
        comes("rule b=1;rule a=" + filler(399) + "+b;", 7, 1);
        comes("rule b=-1;rule a=" + filler(397) + "+b;", 7, 0);
        // the 24th rule
        StringBuilder text = new StringBuilder();
        for (int i = 0; i < 23; i++) {
            text.append("rule r").append(i).append("=1;");
        }
        steps(comes(text + "rule a=1/0;", 6, 23), 2306);
        steps(comes(text + "rule a=1;", 0, NONE), 2300);
    }

    static void terms3_stepsAreInTheOrderInWhichTheyEnded() {
        Desk x = comes("rule d=1;rule c=d+1;rule b=2;rule a=b+c;", 0, NONE, 8, 4, 0, 0);
        steps(x, 200, 0, 100, 300);
        x = comes("rule d=nobody;rule c=try d else 5;rule b=1/0;rule a=c+b;", 6, 2, 1 + 1 + 150 + 1 + 1 + 1 + 1 + 3, 4, 1, 1);
        steps(x, 1, 100, 206, 306);
        // 7 ends all that are open
        x = comes("rule d=1;rule c=d+sum n from 1 to 999 of n;rule b=try c else 1;rule a=b;", 7, 1, 400, 4, 0, 0);
        steps(x, 0, 107, 207, 307);
        StringBuilder chain = new StringBuilder("rule r0=most;");
        for (int i = 1; i < 23; i++) {
            chain.append("rule r").append(i).append("=r").append(i - 1).append(';');
        }
        x = comes(chain + "rule a=r22;", 0, NONE, 24, 24, 1, 0);
        int[] all = new int[24];
        for (int i = 0; i < 24; i++) {
            all[i] = 100 * i;
        }
        steps(x, all);
        due("the value of the last", x.house.read(NONE), MOST);
    }

    // ---- Promise 18

    static void promise18_theDeskIsTheValueOfEachSort() {
        Object[][] rows = {{"most", 0, 0}, {"inf", 1, 0}, {"ints", 2, 4}, {"longs", 3, 3}, {"reals", 4, 4}, {"kin", 5, 3}, {"kids", 6, 2},
            {"wives", 7, 2}, {"kin[2]", 8, 0}, {"empty", 2, 0}, {"zeros(12)", 2, 12}};
        for (Object[] row : rows) {
            Desk x = PromisesOfCases.work((String) row[0]);
            due("figure " + row[0], x.figure("a"), 0);
            due("sort", x.house.sort(), (Integer) row[1]);
            due("length", x.house.length(), (Integer) row[2]);
        }
    }

    static void promise18_theKindOfTheFailureTheDeskStays() {
        String[] failing = {"nobody", "1+ints", "ints[4]", "zeros(13)", "join(kids,wives)", "1/0", "sum n from 1 to 999 of n"};
        for (int i = 0; i < failing.length; i++) {
            Desk x = PromisesOfCases.work(failing[i]);
            x.row(6, 2, -1, 0);
            due(failing[i], x.figure("a"), i + 1);
            due("sort", x.house.sort(), 6);
            due("length", x.house.length(), 3);
            due("item 0", x.house.read(0), 2);
            due("item 1", x.house.read(1), -1);
            due("item 2", x.house.read(2), 0);
        }
    }

    static void promise18_theRuleOfTheEditionInForceOnTheDay() {
        Desk x = new Desk();
        x.edition(1, 10, "rule a=10;");
        x.edition(1, 20, "rule a=20;rule b=1;");
        x.edition(2, 0, "rule a=2;");
        int[][] rows = {{10, 10}, {19, 10}, {20, 20}, {389, 20}};
        for (int[] row : rows) {
            due("day " + row[0], x.figure(5, 1, "a", row[0], 0), 0);
            due("its figure", x.house.read(NONE), row[1]);
        }
        due("day 9", x.figure(5, 1, "a", 9, 0), STATE);
        due("no b yet", x.figure(5, 1, "b", 19, 0), STATE);
        due("b", x.figure(5, 1, "b", 20, 0), 0);
    }

    static void promise18_unknown() {
        for (int member : NO_MEMBERS) {
            Sentences.refusesAndReads(SentencesOfTheDesk::lived, "due", "member " + member, UNKNOWN, x -> x.figure(member, 0, 75, 75));
        }
        for (int scheme : NO_SCHEMES) {
            Sentences.refusesAndReads(SentencesOfTheDesk::lived, "due", "scheme " + scheme, UNKNOWN, x -> x.figure(0, scheme, 75, 75));
        }
    }

    static void promise18_outsideDaysAsOfNotAboveNow() {
        for (int day : NO_DAYS) {
            Sentences.refusesAndReads(SentencesOfTheDesk::lived, "due", "day " + day, OUTSIDE, x -> x.figure(0, 0, day, 75));
            Sentences.refusesAndReads(SentencesOfTheDesk::lived, "due", "as of " + day, OUTSIDE, x -> x.figure(0, 0, 75, day));
        }
        Sentences.refusesAndReads(SentencesOfTheDesk::lived, "due", "as of NOW + 1", OUTSIDE, x -> x.figure(0, 0, 75, 76));
        Desk x = SentencesOfTheDesk.lived();
        x.house.cut(0);
        due("as of NOW", x.figure(0, 0, "due", 389, 75), 0);
        due("as of 0", x.figure(0, 0, "due", 0, 0), 0);
    }

    static void promise18_stateNoEditionNoSuchName() {
        Sentences.refusesAndReads(SentencesOfTheDesk::lived, "due", "no EDITION", STATE, x -> x.figure(0, 1, 75, 75));
        for (String name : new String[] {"nope", "f", "du", "duee", "Due", "day", "sum", "", " ", "due due", "due;", "5", "due ?", "abcdefghi"}) {
            Sentences.refusesAndReads(SentencesOfTheDesk::lived, name, "no such NAME: " + name, STATE, x -> x.figure(0, 0, 75, 75));
        }
        Sentences.refusesAndReads(SentencesOfTheDesk::lived, "a", "not in this EDITION", STATE, x -> x.figure(0, 0, 69, 75));
        Desk x = SentencesOfTheDesk.lived();
        x.house.cut(0);
        due("in that one", x.figure(0, 0, "\n a ", 70, 75), 0);
    }

    static void promise18_unknownOutsideStateInThatOrder() {
        Desk x = SentencesOfTheDesk.lived();
        x.house.cut(0);
        due("member", x.figure(10, 0, "?", 390, 0), UNKNOWN);
        due("scheme", x.figure(0, 4, "?", 0, 76), UNKNOWN);
        due("day", x.figure(0, 3, "?", 390, 0), OUTSIDE);
        due("as of", x.figure(0, 3, "?", 0, 76), OUTSIDE);
        due("state", x.figure(0, 3, "?", 0, 75), STATE);
    }

    // ---- Promises 19 and 20

    static void promise19_beforeAnyNone0Each() {
        Desk x = new Desk();
        due("refused", x.figure(0, 0, "a", 0, 0), STATE);
        x.edition(0, 0, "rule due=1/0;");
        x.trial(0, 0, 0, "rule due=nobody;");
        x.house.award(0, 0, 0);
        x.house.due(0, 0, 0);
        int[] want = {NONE, 0, 0, 0, 0};
        for (int what = 0; what < 5; what++) {
            due("told " + what, x.house.told(what), want[what]);
        }
        due("no STEP", x.house.step(0), UNKNOWN);
    }

    static void promise19_ofTheLatestThatWasNotRefused() {
        Desk x = comes("rule b=1/0;rule a=(try b else most)+1;rule c=nobody;", 6, 1, 1 + 150 + 1 + 3 + 1 + 1, 2, 1, 1);
        x.figure("nope");
        x.figure(10, 0, "c", 0, 0);
        x.figure(0, 0, "c", 390, 0);
        due("refused ones leave it", x.house.told(1), 157);
        due("its LINE", x.house.told(0), 1);
        due("c", x.figure("c"), 1);
        int[] want = {2, 1, 1, 1, 0};
        for (int what = 0; what < 5; what++) {
            due("told " + what, x.house.told(what), want[what]);
        }
        // the text may be gone by then
        x.edition(0, 0, "rule d=1;");
        for (int what = 0; what < 5; what++) {
            due("told still " + what, x.house.told(what), want[what]);
        }
        due("step", x.house.step(0), 201);
    }

    static void promise19_nothingIsLeftOfTheOneBefore() {
        Desk x = comes("rule b=1/0;rule a=(try b else most)+b;rule c=5;rule d=c/0;", 6, 0, 1 + 151 + 3 + 1 + 1, 2, 1, 1);
        due("c", x.figure("c"), 0);
        int[] want = {NONE, 1, 1, 0, 0};
        for (int what = 0; what < 5; what++) {
            due("told " + what, x.house.told(what), want[what]);
        }
        steps(x, 200);
        due("d", x.figure("d"), 6);
        due("d's LINE", x.house.told(0), 3);
        steps(x, 200, 306);
        due("c again", x.figure("c"), 0);
        due("no LINE", x.house.told(0), NONE);
    }

    static void promise19_outside() {
        for (int what : new int[] {-1, 5, 6, MIN, MAX}) {
            Sentences.refuses(SentencesOfTheDesk::lived, "told " + what, OUTSIDE, x -> x.told(what));
            due("before any", new PensionHouse().told(what), OUTSIDE);
        }
    }

    static void promise19_factsAskedForAgainAndAgain() {
        comes("rule a=f0+1;", 1, 0, 2, 1, 1, 0);
        comes("rule a=day+1*2;", 0, NONE, 5, 1, 0, 0);
        comes("rule a=ints[0]+ints[0]+len(ints);", 0, NONE, 10, 1, 3, 0);
        comes("rule a=sum ints from 1 to 3 of ints;", 0, NONE, 9, 1, 0, 0);
        comes("rule a=sum n from 1 to 3 of len(ints);", 0, NONE, 12, 1, 3, 0);
        comes("rule ints=1;rule a=ints+ints;", 0, NONE, 4, 2, 0, 0);
        comes("rule ints=len(ints);rule a=ints+ints;", 0, NONE, 5, 2, 1, 0);
        comes("rule a=try nobody else try nobody else nobody;", 1, 0, 303, 1, 3, 2);
        // one that does not fit is not asked for
        comes("rule a=" + filler(399) + "+ints;", 7, 0, 400, 1, 0, 0);
        comes("rule a=1+(if 0 then ints else 2);", 0, NONE, 5, 1, 0, 0);
    }

    static void promise19_howOftenATryTookItsF() {
        comes("rule a=try 1 else 2;", 0, NONE, 151, 1, 0, 0);
        comes("rule a=try 1/0 else 2;", 0, NONE, 154, 1, 0, 1);
        comes("rule a=try 1/0 else 1/0;", 6, 0, 156, 1, 0, 1);
        comes("rule a=try try 1/0 else 1/0 else 2;", 0, NONE, 307, 1, 0, 2);
        comes("rule a=sum n from 1 to 2 of (try n/0 else n);", 0, NONE, 3 + 2 * 155, 1, 0, 2);
        comes("rule a=sum n from 1 to 2 of (try 2/(n-1) else n);", 0, NONE, 3 + 2 * (1 + 150 + 5) + 1, 1, 0, 1);
    }

    static void promise20_unknown() {
        // the latest figure() of lived() has three STEPS
        due("steps", SentencesOfTheDesk.lived().house.told(2), 3);
        for (int k : new int[] {-1, 3, 4, 24, MIN, MAX}) {
            Sentences.refuses(SentencesOfTheDesk::lived, "step " + k, UNKNOWN, x -> x.step(k));
        }
        due("before any", new PensionHouse().step(0), UNKNOWN);
    }

    static void promise20_theDeskIsItsValueOrStays() {
        Desk x = comes("rule b=kids;rule c=1/0;rule d=born(b[0]);rule a=try c else d;", 0, NONE);
        x.real(2.5);
        due("a failed one", x.house.step(0), 106);
        due("the DESK stays", x.house.read(NONE), Desk.bits(2.5));
        due("sort stays", x.house.sort(), 1);
        due("a row", x.house.step(1), 0);
        due("its sort", x.house.sort(), 6);
        due("its length", x.house.length(), 2);
        due("its item", x.house.read(0), 2);
        // what is written on THE DESK then does not change the STEP
        x.house.seat(0, -1);
        due("again", x.house.step(1), 0);
        due("its item again", x.house.read(0), 2);
        due("a WHOLE", x.house.step(2), 200);
        due("its bits", x.house.read(NONE), 100);
        due("of no row", x.house.length(), 0);
    }

    // ---- Promise 21

    /** lived() whose latest text had no FAULT, so that a trial leaves all as it was. */
    static Desk livedFaultless() {
        Desk x = SentencesOfTheDesk.lived();
        x.house.cut(0);
        x.edition(3, 0, "");
        x.feed("f");
        return x;
    }

    static void promise21_changesNothingButTheTape() {
        Sentences.refusesAndReads(SentencesOfCases::livedFaultless, "rule due=1;", "a trial", 1023, x -> x.trial(0, 0, 75));
        Sentences.refusesAndReads(SentencesOfCases::livedFaultless, "rule due=f*100;", "alike", 0, x -> x.trial(0, 0, 75));
        Sentences.refusesAndReads(SentencesOfCases::livedFaultless, "rule b=1/0;rule due=try b else b;", "failing", 1023,
            x -> x.trial(0, 75, 75));
        Sentences.refusesAndReads(SentencesOfTheDesk::livedFaulty, "?", "a faulty one", -10, x -> x.trial(0, 0, 75));
        Sentences.refusesAndReads(SentencesOfTheDesk::livedFaulty, "rule due=1;?", "faulty at 11", -21, x -> x.trial(0, 0, 75));
    }

    static void promise21_unknown() {
        for (int scheme : NO_SCHEMES) {
            Sentences.refusesAndReads(SentencesOfTheDesk::lived, "rule due=1;", "scheme " + scheme, UNKNOWN, x -> x.trial(scheme, 75, 75));
        }
    }

    static void promise21_outside() {
        for (int day : NO_DAYS) {
            Sentences.refusesAndReads(SentencesOfTheDesk::lived, "rule due=1;", "day " + day, OUTSIDE, x -> x.trial(0, day, 75));
            Sentences.refusesAndReads(SentencesOfTheDesk::lived, "rule due=1;", "as of " + day, OUTSIDE, x -> x.trial(0, 75, day));
        }
        Sentences.refusesAndReads(SentencesOfTheDesk::lived, "rule due=1;", "as of NOW + 1", OUTSIDE, x -> x.trial(0, 75, 76));
    }

    static void promise21_unknownOutsideFaultInThatOrder() {
        Desk x = SentencesOfTheDesk.lived();
        x.house.cut(0);
        due("unknown", x.trial(4, 390, 390, "?"), UNKNOWN);
        due("outside", x.trial(0, 390, 0, "?"), OUTSIDE);
        due("outside as of", x.trial(0, 0, -1, "?"), OUTSIDE);
        due("fault", x.trial(0, 0, 0, "?"), -10);
        due("its kind", x.house.fault(), 1);
    }

    static void promise21_bitsByMembers() {
        for (int member = 0; member <= 9; member++) {
            Desk x = new Desk();
            x.whole(5);
            x.fact(member, "f", 0, 389);
            x.edition(0, 0, "rule due=try f else 1;");
            due("bit " + member, x.trial(0, 0, 0, "rule due=1;"), 1 << member);
            due("all but " + member, x.trial(0, 0, 0, "rule due=5;"), 1023 - (1 << member));
            due("all", x.trial(0, 0, 0, "rule due=6;"), 1023);
            due("none", x.trial(0, 0, 0, "rule due=try f else 0+1;"), 0);
        }
    }

    static void promise21_theEditionInForceTheDayAndAsOf() {
        Desk x = new Desk();
        x.edition(0, 10, "rule due=1;");
        x.edition(0, 20, "rule due=f;");
        x.house.clock(5);
        x.whole(2);
        x.fact(4, "f", 30, 389);
        due("the first", x.trial(0, 19, 5, "rule due=1;"), 0);
        due("no FACT that day", x.trial(0, 29, 5, "rule due=1/0;"), 1023);
        due("the FACT that day", x.trial(0, 30, 5, "rule due=nobody;"), 16);
        due("not told then", x.trial(0, 30, 4, "rule due=nobody;"), 0);
        due("the day of both", x.trial(0, 19, 5, "rule due=day-18;"), 0);
        due("another day", x.trial(0, 18, 5, "rule due=day-18;"), 1023);
        due("no EDITION", x.trial(0, 9, 5, "rule due=1;"), 1023);
        due("of another scheme none", x.trial(1, 30, 5, "rule due=f;"), 16);
    }

    static void promise21_failuresOfOtherKinds() {
        String[] failing = {"nobody", "1+zeros(1)", "zeros(0)[0]", "zeros(13)", "join(zeros(0),last(r,0))", "1/0", "sum n from 1 to 999 of n"};
        Desk x = new Desk();
        for (int member = 0; member <= 9; member++) {
            x.row(4, 0);
            x.fact(member, "r", 0, 389);
        }
        for (int i = 0; i < failing.length; i++) {
            x.edition(0, 0, "rule due=" + failing[i] + ";");
            for (int k = 0; k < failing.length; k++) {
                due(failing[i] + " and " + failing[k], x.trial(0, 0, 0, "rule z=1;rule due=" + failing[k] + ";"), i == k ? 0 : 1023);
            }
            due(failing[i] + " and a VALUE", x.trial(0, 0, 0, "rule due=" + i + ";"), 1023);
            due(failing[i] + " and a rule that lacks", x.trial(0, 0, 0, "rule z=1;"), i == 0 ? 0 : 1023);
        }
    }

    static void promise21_aRuleThatLacksNoEditionLikeNothing() {
        Desk x = new Desk();
        due("no EDITION, no rule", x.trial(0, 0, 0, ""), 0);
        due("no EDITION, NOTHING", x.trial(0, 0, 0, "rule due=f;"), 0);
        due("no EDITION, a VALUE", x.trial(0, 0, 0, "rule due=0;"), 1023);
        due("no EDITION, another kind", x.trial(0, 0, 0, "rule due=1%0;"), 1023);
        x.edition(0, 0, "rule dues=1;");
        due("no rule, no rule", x.trial(0, 0, 0, "rule du=1;"), 0);
        due("no rule, NOTHING", x.trial(0, 0, 0, "rule due=f;"), 0);
        due("no rule, a VALUE", x.trial(0, 0, 0, "rule due=0;"), 1023);
        x.edition(0, 0, "rule due=f;");
        due("NOTHING, no rule", x.trial(0, 0, 0, "rule du=1;"), 0);
        x.edition(0, 0, "rule due=1;");
        due("a VALUE, no rule", x.trial(0, 0, 0, ""), 1023);
    }

    static void promise21_valuesThatAreNotAlike() {
        String[] values = {"0", "1", "0.0", "-0.0", "0.0/0", "zeros(0)", "zeros(1)", "last(l,0)", "last(l,1)", "last(r,0)", "k", "last(k,0)",
            "last(c,0)", "last(s,0)", "c", "s", "k[0]", "s[0]"};
        Desk x = new Desk();
        x.house.person(true, 0);
        x.house.person(false, 0);
        x.row(3, 0);
        x.fact(0, "l", 0, 389);
        x.row(4, 0);
        x.fact(0, "r", 0, 389);
        x.row(5, 0, 1);
        x.fact(0, "k", 0, 389);
        x.row(6, 0);
        x.fact(0, "c", 0, 389);
        x.row(7, 1);
        x.fact(0, "s", 0, 389);
        for (int i = 0; i < values.length; i++) {
            x.edition(0, 0, "rule due=" + values[i] + ";");
            for (int k = 0; k < values.length; k++) {
                due(values[i] + " and " + values[k], x.trial(0, 0, 0, "rule due=" + values[k] + ";") & 1, i == k ? 0 : 1);
            }
        }
        x.edition(0, 0, "rule due=c[0];");
        due("the same PERSON", x.trial(0, 0, 0, "rule due=k[0];"), 0);
        due("another PERSON", x.trial(0, 0, 0, "rule due=k[1];"), 1);
    }

    static void promise21_eachCaseHasItsOwnWork() {
        Desk x = new Desk();
        x.edition(0, 0, "rule due=" + filler(400) + ";");
        due("400 each", x.trial(0, 0, 0, "rule due=-sum n from 1 to 198 of n;"), 0);
        due("401", x.trial(0, 0, 0, "rule due=--sum n from 1 to 198 of n;"), 1023);
    }

    static void promise21_theLatestFigureStays() {
        Desk x = comes("rule b=kids;rule c=1/0;rule a=try c else b;rule due=5;", 0, NONE, 150 + 1 + 3 + 1 + 1, 3, 1, 1);
        due("trial", x.trial(0, 0, 0, "rule due=nobody;rule b=1;"), 1023);
        due("WORK", x.house.told(1), 156);
        steps(x, 106, 0, 200);
        due("THE DESK is the STEP's", x.house.length(), 2);
    }
}
