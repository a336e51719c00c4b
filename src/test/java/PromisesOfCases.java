/** Promises 18 to 21: figures, how they came, their VALUES and FAILURES, WORK, trials. */
public final class PromisesOfCases {
    static final int NONE = -1, UNKNOWN = -2, OUTSIDE = -3, STATE = -4;
    static final long MIN = Long.MIN_VALUE, MAX = Long.MAX_VALUE;

    static void due(String call, long got, long want) {
        Desk.due(call, got, want);
    }

    public static void main(String[] args) {
        refusals();
        wholes();
        reals();
        rounded();
        compares();
        decisions();
        rows();
        rowsAnew();
        best();
        sums();
        names();
        tries();
        order();
        work();
        steps();
        factsAsOf();
        trials();
        Desk.end();
    }

    /** A house with persons 0, 2 (children), 1, 3 (spouses) and a row of each SORT for member 0. */
    static Desk house() {
        Desk x = new Desk();
        x.house.person(true, -500);
        x.house.person(false, -9000);
        x.house.person(true, 100);
        x.house.person(false, 389);
        x.row(2, 5, -3, 9, 1L << 31);
        x.fact("ints");
        x.row(3, MAX, 1, MIN);
        x.fact("longs");
        x.row(4, Desk.bits(Double.NaN), Desk.bits(1.5), Desk.bits(-0.0), Desk.bits(0));
        x.fact("reals");
        x.row(5, 0, -1, 1);
        x.fact("kin");
        x.row(6, 2, 0);
        x.fact("kids");
        x.row(7, 1, 3);
        x.fact("wives");
        x.row(2);
        x.fact("empty");
        x.whole(MIN);
        x.fact("least");
        x.whole(MAX);
        x.fact("most");
        x.real(Double.NaN);
        x.fact("nan");
        x.real(Double.POSITIVE_INFINITY);
        x.fact("inf");
        x.real(-0.0);
        x.fact("nought");
        x.whole((1L << 53) + 1);
        x.fact("odd");
        return x;
    }

    static Desk work(String e) {
        Desk x = house();
        due("15 " + e, x.edition(0, 0, "rule a=" + e + ";"), 1);
        x.whole(777);
        return x;
    }

    static void fails(String e, int kind) {
        Desk x = work(e);
        due("18 " + e, x.figure("a"), kind);
        due("18 the desk stays " + e, x.house.read(NONE), 777);
        due("19 line " + e, x.house.told(0), 0);
        due("20 step " + e, x.house.step(0), kind);
        due("20 the desk stays " + e, x.house.read(NONE), 777);
    }

    static void is(String e, int sort, long bits) {
        Desk x = work(e);
        due("18 " + e, x.figure("a"), 0);
        due("18 sort of " + e, x.house.sort(), sort);
        due("18 bits of " + e, x.house.read(NONE), bits);
        due("19 line of " + e, x.house.told(0), NONE);
        x.whole(777);
        due("20 step of " + e, x.house.step(0), 0);
        due("20 bits of " + e, x.house.read(NONE), bits);
    }

    static void isWhole(String e, long want) {
        is(e, 0, want);
    }

    static void isReal(String e, double want) {
        is(e, 1, Desk.bits(want));
    }

    static void isRow(String e, int sort, long... items) {
        Desk x = work(e);
        due("18 " + e, x.figure("a"), 0);
        due("18 sort of " + e, x.house.sort(), sort);
        due("18 length of " + e, x.house.length(), items.length);
        for (int i = 0; i < items.length; i++) {
            due("18 " + e + " [" + i + "]", x.house.read(i), items[i]);
        }
    }

    static void refusals() {
        Desk x = house();
        x.feed("a");
        due("18 no edition", x.house.figure(0, 0, 10, 0), STATE);
        due("18 used up", x.house.count(5), 0);
        x.edition(0, 10, "rule a=1;");
        x.feed("a");
        due("18 before its first day", x.house.figure(0, 0, 9, 0), STATE);
        x.feed("b");
        due("18 no such name", x.house.figure(0, 0, 10, 0), STATE);
        x.feed("day");
        due("18 a word", x.house.figure(0, 0, 10, 0), STATE);
        due("18 nothing", x.house.figure(0, 0, 10, 0), STATE);
        x.feed("a");
        due("18 member", x.house.figure(10, 0, 400, 0), UNKNOWN);
        due("18 scheme", x.house.figure(0, 4, 400, 0), UNKNOWN);
        due("18 scheme -1", x.house.figure(0, -1, 10, 0), UNKNOWN);
        due("18 day", x.house.figure(0, 0, 390, 0), OUTSIDE);
        due("18 day -1", x.house.figure(0, 0, -1, 0), OUTSIDE);
        due("18 as of now", x.house.figure(0, 0, 10, 1), OUTSIDE);
        due("18 as of -1", x.house.figure(0, 0, 10, -1), OUTSIDE);
        due("19 before any", x.house.told(0), NONE);
        due("19 before any 1", x.house.told(1), 0);
        x.feed(" a\n");
        due("18 at last", x.house.figure(0, 0, 10, 0), 0);
        due("19 work", x.house.told(1), 1);
        x.feed("b");
        x.house.figure(0, 0, 10, 0);
        due("19 of one that was not refused", x.house.told(2), 1);
        due("19 outside", x.house.told(5), OUTSIDE);
        due("19 outside -1", x.house.told(-1), OUTSIDE);
    }

    static void wholes() {
        isWhole("7/2*2+7%2", 7);
        isWhole("-7/2", -3);
        isWhole("-7%2", -1);
        isWhole("7%-2", 1);
        isWhole("10-3-2", 5);
        isWhole("2+3*4", 14);
        isWhole("-2*3", -6);
        isWhole("100/10/5", 2);
        isWhole("least/-1", MIN);
        isWhole("least%-1", 0);
        isWhole("most+least", -1);
        isWhole("least+most+1-1", -1);
        isWhole("-most", -MAX);
        isWhole("least*1", MIN);
        isWhole("1*least", MIN);
        isWhole("most*-1", -MAX);
        isWhole("3037000499*3037000499", 3037000499L * 3037000499L);
        isWhole("999999999999999", 999999999999999L);
        isWhole("day", 10);
        fails("1/0", 6);
        fails("1%0", 6);
        fails("most+1", 6);
        fails("least-1", 6);
        fails("0-least", 6);
        fails("-least", 6);
        fails("least*-1", 6);
        fails("-1*least", 6);
        fails("3037000500*3037000500", 6);
        fails("most*2", 6);
        fails("ints+1", 2);
        fails("1-kin[0]", 2);
        fails("-ints", 2);
        fails("ints*ints", 2);
        fails("ints/0", 2);
        fails("1%longs", 2);
    }

    static void reals() {
        isReal("0.1+0.2", 0.1 + 0.2);
        isReal("1.5", 1.5);
        isReal("999999999.999999", 999999999.999999);
        isReal("0.000001", 0.000001);
        isReal("1+0.5", 1.5);
        isReal("most+0.0", 9223372036854775807.0);
        isReal("odd-0.0", 9007199254740992.0);
        isReal("7.5%2", 1.5);
        isReal("-7.5%2", -1.5);
        isReal("-4.0%2", -0.0);
        isReal("5%inf", 5);
        isReal("inf%5", Double.NaN);
        isReal("5.0%0", Double.NaN);
        isReal("1.0/0", Double.POSITIVE_INFINITY);
        isReal("1/nought", Double.NEGATIVE_INFINITY);
        isReal("0.0/0", Double.NaN);
        isReal("inf-inf", Double.NaN);
        isReal("inf*0", Double.NaN);
        isReal("nan+1", Double.NaN);
        isReal("-nan", Double.NaN);
        isReal("-0.0", -0.0);
        isReal("-inf", Double.NEGATIVE_INFINITY);
        isReal("0.0-0.0", 0.0);
        isReal("nought-0", -0.0);
        isReal("nought+0", 0.0);
        isReal("2.0/3.0", 2.0 / 3.0);
        isReal("123456.789*987654.321", 123456.789 * 987654.321);
        isReal("least*1.0", -9223372036854775808.0);
    }

    static void rounded() {
        isWhole("whole(2.9)", 2);
        isWhole("whole(-2.9)", -2);
        isWhole("whole(nan)", 0);
        isWhole("whole(inf)", MAX);
        isWhole("whole(-inf)", MIN);
        isWhole("whole(most)", MAX);
        isReal("real(odd)", 9007199254740992.0);
        isReal("real(1.5)", 1.5);
        isReal("floor(-1.5)", -2);
        isReal("floor(1.5)", 1);
        isReal("floor(nought)", -0.0);
        isReal("floor(0.5)", 0.0);
        isReal("floor(7)", 7);
        isReal("ceil(-0.5)", -0.0);
        isReal("ceil(1.2)", 2);
        isReal("ceil(-inf)", Double.NEGATIVE_INFINITY);
        isReal("near(0.5)", 0.0);
        isReal("near(-0.5)", -0.0);
        isReal("near(1.5)", 2);
        isReal("near(2.5)", 2);
        isReal("near(-2.6)", -3);
        isReal("near(nan)", Double.NaN);
        isReal("root(2)", Math.sqrt(2));
        isReal("root(nought)", -0.0);
        isReal("root(-1)", Double.NaN);
        isReal("root(inf)", Double.POSITIVE_INFINITY);
        isReal("root(152415787.25)", Math.sqrt(152415787.25));
        isReal("min(1,0.5)", 0.5);
        isReal("max(1,0.5)", 1);
        isReal("min(nought,0)", -0.0);
        isReal("min(0,nought)", -0.0);
        isReal("max(nought,0.0)", 0.0);
        isReal("max(0.0,nought)", 0.0);
        isReal("min(1,nan)", Double.NaN);
        isReal("max(nan,inf)", Double.NaN);
        isWhole("min(3,-4)", -4);
        isWhole("max(3,-4)", 3);
        for (String f : "whole real floor ceil near root".split(" ")) {
            fails(f + "(ints)", 2);
            fails(f + "(kin[0])", 2);
        }
        fails("min(1,ints)", 2);
        fails("max(kin,1)", 2);
    }

    static void compares() {
        isWhole("1<2", 1);
        isWhole("2<2", 0);
        isWhole("2<=2", 1);
        isWhole("3<=2", 0);
        isWhole("2=2", 1);
        isWhole("2=3", 0);
        isWhole("2!=3", 1);
        isWhole("2!=2", 0);
        isWhole("-1<0.5", 1);
        isWhole("odd=odd-1", 0);
        isWhole("odd=real(odd-1)", 1);
        isWhole("odd!=real(odd)", 0);
        isWhole("nought=0", 1);
        isWhole("nought<0", 0);
        isWhole("nought<=0.0", 1);
        isWhole("nan=nan", 0);
        isWhole("nan!=nan", 1);
        isWhole("nan<1", 0);
        isWhole("1<nan", 0);
        isWhole("1<=nan", 0);
        isWhole("nan=inf", 0);
        isWhole("1!=nan", 1);
        isWhole("nan<=nan", 0);
        isWhole("nan!=1", 1);
        isWhole("-inf<least", 1);
        isWhole("-2.5<-1.5", 1);
        isWhole("least<most", 1);
        fails("ints=ints", 2);
        fails("kin[0]!=kin[0]", 2);
        fails("1<ints", 2);
    }

    static void decisions() {
        isWhole("if 0 then 1 else 2", 2);
        isWhole("if 5 then 1 else 2", 1);
        isWhole("if -1 then 1 else 1/0", 1);
        isWhole("if 1<0 then 1/0 else 7", 7);
        isWhole("if least then 1 else 2", 1);
        fails("if 1.0 then 1 else 2", 2);
        fails("if ints then 1 else 2", 2);
        fails("if kin[0] then 1 else 2", 2);
        fails("if 1/0 then 1 else 2", 6);
        fails("if 1 then 1/0 else 2", 6);
        isRow("if 1 then kids else 2", 6, 2, 0);
    }

    static void rows() {
        isWhole("ints[1]", -3);
        isWhole("ints[3]", -(1L << 31));
        isWhole("longs[0]", MAX);
        isReal("reals[1]", 1.5);
        isReal("reals[0]", Double.NaN);
        is("kin[2]", 8, 1);
        is("kids[0]", 8, 2);
        is("wives[1]", 8, 3);
        isWhole("born(kin[2])", -9000);
        isWhole("born(wives[1])", 389);
        isWhole("len(ints)+len(kin)*10+len(empty)*100", 34);
        fails("kin[1]", 1);
        fails("ints[4]", 3);
        fails("ints[-1]", 3);
        fails("empty[0]", 3);
        fails("ints[most]", 3);
        fails("ints[4294967296]", 3);
        fails("ints[1.0]", 2);
        fails("ints[ints]", 2);
        fails("day[0]", 2);
        fails("day[1/0]", 6);
        fails("nobody[1/0]", 1);
        fails("born(5)", 2);
        fails("born(kin)", 2);
        fails("len(5)", 2);
        fails("len(kin[0])", 2);
    }

    static void rowsAnew() {
        isRow("zeros(3)", 2, 0, 0, 0);
        isRow("zeros(0)", 2);
        isRow("zeros(12)", 2, 0, 0, 0, 0, 0, 0, 0, 0, 0, 0, 0, 0);
        fails("zeros(13)", 4);
        fails("zeros(-1)", 4);
        fails("zeros(most)", 4);
        fails("zeros(1.0)", 2);
        isRow("last(ints,2)", 2, 9, -(1L << 31));
        isRow("last(kin,2)", 5, -1, 1);
        isRow("last(reals,0)", 4);
        isRow("last(longs,3)", 3, MAX, 1, MIN);
        fails("last(ints,5)", 3);
        fails("last(ints,13)", 3);
        fails("last(ints,-1)", 4);
        fails("last(ints,1.0)", 2);
        fails("last(5,1)", 2);
        isRow("join(ints,zeros(1))", 2, 5, -3, 9, -(1L << 31), 0);
        isRow("join(kin,kids)", 5, 0, -1, 1, 2, 0);
        isRow("join(kids,last(join(kids,kids),2))", 6, 2, 0, 2, 0);
        isRow("join(kids,last(with(kin,2,kids[0]),2))", 6, 2, 0, -1, 2);
        isRow("join(zeros(6),zeros(6))", 2, 0, 0, 0, 0, 0, 0, 0, 0, 0, 0, 0, 0);
        fails("join(kids,kin)", 5);
        fails("join(wives,kids)", 5);
        fails("join(kids,last(wives,1))", 5);
        fails("join(kids,with(kin,0,wives[0]))", 5);
        fails("join(wives,last(with(kin,1,kids[0]),2))", 5);
        fails("join(ints,longs)", 5);
        fails("join(empty,last(longs,0))", 5);
        fails("join(kin,ints)", 5);
        fails("join(zeros(9),ints)", 4);
        fails("join(zeros(12),kin)", 4);
        fails("join(5,ints)", 2);
        fails("join(ints,5)", 2);
        isRow("with(ints,1,4294967297)", 2, 5, 1, 9, -(1L << 31));
        isRow("with(ints,0,2147483648)", 2, -(1L << 31), -3, 9, -(1L << 31));
        isRow("with(longs,2,4294967297)", 3, MAX, 1, 4294967297L);
        isRow("with(reals,0,odd)", 4, Desk.bits(9007199254740992.0), Desk.bits(1.5), Desk.bits(-0.0), 0);
        isRow("with(last(reals,1),0,nan)", 4, 0x7FF8000000000000L);
        isRow("with(kin,1,wives[1])", 5, 0, 3, 1);
        isRow("with(kids,1,kids[0])", 6, 2, 2);
        fails("with(kids,1,wives[1])", 5);
        fails("with(kids,1,kin[2])", 5);
        fails("with(kids,2,wives[1])", 3);
        fails("with(wives,0,kids[1])", 5);
        fails("with(kids,-1,kids[0])", 3);
        fails("with(ints,9,1.5)", 2);
        fails("with(longs,0,1.5)", 2);
        fails("with(reals,0,kin[0])", 2);
        fails("with(kin,9,5)", 2);
        fails("with(ints,1.0,5)", 2);
        fails("with(5,0,5)", 2);
    }

    static void best() {
        isWhole("best(ints,2)", 14);
        isWhole("best(ints,3)", 11);
        isWhole("best(ints,0)", 0);
        isWhole("best(longs,1)", MAX);
        isWhole("best(empty,0)", 0);
        fails("best(longs,2)", 6);
        fails("best(longs,3)", 6);
        isWhole("best(with(longs,1,0),3)", -1);
        isReal("best(reals,0)", 0.0);
        isReal("best(reals,1)", Double.NaN);
        isReal("best(last(reals,3),1)", 1.5);
        isReal("best(last(reals,2),2)", 0.0);
        isReal("best(with(last(reals,1),0,nought),1)", 0.0);
        // the greatest first: 2^53 + 1 + 1 loses both ones
        isReal("best(with(with(with(last(reals,3),0,1),1,odd-1),2,1),3)", 9007199254740992.0);
        fails("best(ints,5)", 3);
        fails("best(ints,-1)", 4);
        fails("best(ints,1.0)", 2);
        fails("best(kin,1)", 2);
        fails("best(5,1)", 2);
    }

    static void sums() {
        isWhole("sum n from 1 to 4 of n", 10);
        isWhole("sum n from 3 to 2 of (n/0)", 0);
        isWhole("sum n from 2 to 2 of n*5", 10);
        isWhole("sum n from 1 to 3 of (n*n)", 14);
        isReal("sum n from 1 to 3 of 0.5", 1.5);
        isReal("sum n from 1 to 2 of nought", 0.0);
        isWhole("sum n from most-1 to most of 1", 2);
        isWhole("sum n from most to most of (n-most+1)", 1);
        isWhole("sum n from -1 to 1 of n", 0);
        isWhole("sum n from 0 to len(ints)-2 of ints[n]", 11);
        fails("sum n from 1.0 to 2 of n", 2);
        fails("sum n from 1 to ints of n", 2);
        fails("sum n from 1.0 to nobody of n", 1);
        fails("sum n from 1 to 2 of ints", 2);
        fails("sum n from 1 to 2 of most", 6);
        fails("sum n from 0 to 5 of ints[n]", 3);
        fails("sum n from least to most of 1", 7);
    }

    static void names() {
        isWhole("sum n from 1 to 2 of sum m from 1 to n of (n*10+m)", 11 + 21 + 22);
        isWhole("sum n from 1 to 2 of (sum n from n to n+1 of n)", 1 + 2 + 2 + 3);
        isWhole("sum day1 from 1 to 1 of day1", 1);
        isRow("kids", 6, 2, 0);
        Desk x = house();
        x.edition(0, 0, "rule a=sum pay from 1 to 2 of sum n from 1 to 2 of pay;");
        x.whole(100);
        x.fact("pay");
        due("texts", x.edition(0, 0, "rule pay=pay+1;rule b=pay;rule c=d;rule d=5;rule e=sum pay from pay to pay of pay;rule f=d;"), 6);
        due("the fact", x.figure("pay"), 0);
        due("101", x.house.read(NONE), 101);
        due("the rule", x.figure("b"), 0);
        due("101 again", x.house.read(NONE), 101);
        due("no rule above", x.figure("c"), 1);
        due("the sum's", x.figure("e"), 0);
        due("from and to lie outside", x.house.read(NONE), 101);
        due("the rule above", x.figure("f"), 0);
        due("5", x.house.read(NONE), 5);
    }

    static void tries() {
        isWhole("try 1 else 1/0", 1);
        isWhole("try nobody else 2", 2);
        isWhole("try 1+ints else 3", 3);
        isWhole("try ints[9] else 4", 4);
        isWhole("try zeros(13) else 5", 5);
        isWhole("try join(ints,longs) else 6", 6);
        isWhole("try 1/0 else 7", 7);
        isWhole("1+(try 2+(try 1/0 else 3) else 4)*2", 11);
        isWhole("sum n from 0 to 1 of (1+(try ints[n*9] else 10))", 17);
        fails("try 1/0 else nobody", 1);
        fails("try sum n from 1 to 500 of 1 else 2", 7);
        Desk x = work("try 1/0 else 7");
        x.figure("a");
        due("19 took its F", x.house.told(4), 1);
        due("19 work", x.house.told(1), 154);
        x = work("try 1 else 7");
        x.figure("a");
        due("19 took its E", x.house.told(4), 0);
        x = work("sum n from 1 to 2 of (try n/0 else n)");
        due("twice", x.figure("a"), 0);
        due("19 took both", x.house.told(4), 2);
        due("19 work of both", x.house.told(1), 1 + 2 + 2 * (1 + 150 + 3 + 1));
    }

    /** All that it is made of is worked ahead of what it itself asks. */
    static void order() {
        fails("ints+1/0", 6);
        fails("ints+nobody", 1);
        fails("nobody+1/0", 1);
        fails("1/0+nobody", 6);
        fails("min(ints,nobody)", 1);
        fails("with(5,nobody,1/0)", 1);
        fails("with(5,1.5,1/0)", 6);
        fails("with(ints,9,nobody)", 1);
        fails("last(5,1/0)", 6);
        fails("ints[9][1/0]", 3);
        fails("sum n from ints to 1/0 of 1", 6);
        fails("5[kin[1]]", 1);
        fails("ints<1/0", 6);
    }

    static void works(String e, int failure, int work, int asked) {
        Desk x = work(e);
        due("18 " + e, x.figure("a"), failure);
        due("19 work of " + e, x.house.told(1), work);
        due("19 asked by " + e, x.house.told(3), asked);
    }

    static void work() {
        works("1", 0, 1, 0);
        works("1+2*3", 0, 5, 0);
        works("-(1)", 0, 2, 0);
        works("ints[0]", 0, 3, 1);
        works("ints[0]+ints[1]", 0, 7, 2);
        works("nobody+1", 1, 2, 1);
        works("if 1 then 2 else 3", 0, 3, 0);
        works("if 1.0 then 2 else 3", 2, 2, 0);
        works("try 1 else 2", 0, 151, 0);
        works("zeros(1)", 0, 26, 0);
        works("last(ints,1)", 0, 27, 1);
        works("join(ints,ints)", 0, 27, 2);
        works("with(ints,0,1)", 0, 28, 1);
        works("best(ints,0)", 0, 3, 1);
        works("min(1,2)", 0, 3, 0);
        works("len(ints)", 0, 2, 1);
        works("day", 0, 1, 0);
        works("sum n from 1 to 3 of n", 0, 9, 0);
        works("sum n from 2 to 1 of n", 0, 3, 0);
        works("sum n from 1 to 3 of ints", 2, 5, 1);
        works("sum n from 1 to 198 of n", 0, 399, 0);
        works("sum n from 1 to 199 of n", 7, 400, 0);
        works("-sum n from 1 to 198 of n", 0, 400, 0);
        works("--sum n from 1 to 198 of n", 7, 400, 0);
        works("1<sum n from 1 to 198 of n", 7, 400, 0);
        works("(try 1 else 1)+(try 2 else 2)+try1", 1, 305, 1);
        works("(try 1 else 1)+(try 2 else 2)+(try 3 else 3)", 7, 304, 0);
        works("try try try 1 else 1 else 1 else 1", 7, 300, 0);
        works("(sum n from 1 to 186 of n)+len(zeros(0))", 7, 377, 0);
        works("(sum n from 1 to 185 of n)+len(zeros(0))", 7, 400, 0);
        works("(sum n from 1 to 184 of n)+len(zeros(0))", 0, 399, 0);
        works("sum n from 1 to 500 of nobody", 1, 5, 1);
        works("sum n from 1 to 500 of day", 7, 400, 0);
        works("sum n from 1 to 500 of (-day)", 7, 400, 0);
        works("sum n from 1 to 500 of len(ints)", 7, 399 + 1, 132);
    }

    static void steps() {
        Desk x = house();
        due("text", x.edition(0, 0, "rule a=1+ints[0];rule b=a/0;rule c=try b else a;rule d=c+b;rule e=1;rule f=try d else b+1;"
                + "rule g=sum n from 1 to 500 of e;rule h=e+g;rule i=try h else 1;rule j=kids;rule k=try b else try b else 5;"), 11);
        due("20 none", x.house.step(0), UNKNOWN);
        due("d", x.figure("d"), 6);
        due("19 line", x.house.told(0), 1);
        due("19 work", x.house.told(1), 163);
        due("19 steps", x.house.told(2), 4);
        due("19 asked", x.house.told(3), 1);
        due("19 tried", x.house.told(4), 1);
        due("20 -1", x.house.step(-1), UNKNOWN);
        due("20 a", x.house.step(0), 0);
        due("20 a's value", x.house.read(NONE), 6);
        x.whole(777);
        due("20 b", x.house.step(1), 106);
        due("20 b, the desk stays", x.house.read(NONE), 777);
        due("20 c", x.house.step(2), 200);
        due("20 c's value", x.house.read(NONE), 6);
        due("20 d", x.house.step(3), 306);
        due("20 behind", x.house.step(4), UNKNOWN);
        due("f", x.figure("f"), 6);
        due("19 line of f", x.house.told(0), 1);
        due("19 steps of f", x.house.told(2), 5);
        due("20 f", x.house.step(4), 506);
        due("h", x.figure("h"), 7);
        due("19 line of h", x.house.told(0), 6);
        due("19 work of h", x.house.told(1), 400);
        due("19 steps of h", x.house.told(2), 3);
        due("20 e", x.house.step(0), 400);
        due("20 g", x.house.step(1), 607);
        due("20 h", x.house.step(2), 707);
        due("i", x.figure("i"), 7);
        due("19 i tried nothing", x.house.told(4), 0);
        due("20 i", x.house.step(3), 807);
        due("j", x.figure("j"), 0);
        due("k", x.figure("k"), 0);
        due("19 k tried", x.house.told(4), 2);
        due("19 k line", x.house.told(0), NONE);
        due("19 k asked", x.house.told(3), 1);
        // a rule that there is no WORK left for was not begun: no STEP
        due("late", x.edition(0, 0, "rule a=1;rule b=sum n from 1 to 198 of n+a;rule c=-sum n from 1 to 198 of n;rule d=--c;"), 4);
        due("b", x.figure("b"), 7);
        due("20 b", x.house.step(0), 107);
        due("20 no a", x.house.step(1), UNKNOWN);
        due("d", x.figure("d"), 7);
        due("20 no longer c", x.house.step(0), 207);
        due("20 and d", x.house.step(1), 307);
        due("late steps", x.house.told(2), 2);
    }

    static void factsAsOf() {
        Desk x = new Desk();
        x.house.clock(100);
        x.whole(1);
        x.fact(2, "pay", 50, 200);
        x.house.clock(110);
        x.whole(2);
        x.fact(2, "pay", 60, 70);
        x.house.clock(120);
        x.house.annul(1);
        x.edition(1, 0, "rule a=pay;");
        int[][] rows = {{49, 120, 1, 0}, {50, 120, 0, 1}, {60, 99, 1, 0}, {60, 100, 0, 1}, {60, 109, 0, 1}, {60, 110, 0, 2},
            {60, 119, 0, 2}, {60, 120, 0, 1}, {71, 115, 0, 1}, {200, 120, 0, 1}, {201, 120, 1, 0}};
        for (int[] row : rows) {
            x.feed("a");
            due("18 day " + row[0] + " as of " + row[1], x.house.figure(2, 1, row[0], row[1]), row[2]);
            if (row[2] == 0) {
                due("18 its figure", x.house.read(NONE), row[3]);
            }
        }
        x.feed("a");
        due("18 another member", x.house.figure(3, 1, 60, 120), 1);
    }

    static int trial(Desk x, String text, int day) {
        x.feed(text);
        return x.house.trial(0, day, 0);
    }

    static void trials() {
        Desk x = new Desk();
        x.whole(5);
        x.fact(0, "pay", 0, 389);
        x.fact(3, "pay", 0, 389);
        x.real(5);
        x.fact(9, "pay", 0, 389);
        x.feed("rule due=1;");
        due("21 scheme", x.house.trial(4, 999, 0), UNKNOWN);
        due("21 used up", x.house.count(5), 0);
        due("21 scheme -1", x.house.trial(-1, 0, 0), UNKNOWN);
        due("21 day", x.house.trial(0, 390, 0), OUTSIDE);
        due("21 day -1", x.house.trial(0, -1, 0), OUTSIDE);
        due("21 as of -1", x.house.trial(0, 0, -1), OUTSIDE);
        due("21 as of a day above now", x.house.trial(0, 0, 1), OUTSIDE);
        due("21 fault", trial(x, "rule due=", 0), -19);
        due("21 no edition, a rule that lacks", trial(x, "", 0), 0);
        due("21 no edition, nothing", trial(x, "rule due=nobody;", 0), 0);
        due("21 no edition, pay", trial(x, "rule due=pay;", 0), 1 + 8 + 512);
        due("21 no edition, 1", trial(x, "rule due=1;", 0), 1023);
        due("21 no edition, another failure", trial(x, "rule due=1/0;", 0), 1023);
        x.edition(0, 10, "rule due=pay;");
        x.edition(0, 20, "rule pay=1;");
        x.edition(0, 30, "rule due=pay/0;");
        due("21 alike", trial(x, "rule due=pay;", 10), 0);
        due("21 one with and one without", trial(x, "rule due=5;", 10), 1023 - 1 - 8);
        due("21 another sort", trial(x, "rule due=5.0;", 19), 1023 - 512);
        due("21 another way", trial(x, "rule a=1;rule due=pay*a;", 10), 0);
        due("21 another number", trial(x, "rule due=pay*2;", 10), 1 + 8 + 512);
        due("21 a rule that lacks", trial(x, "rule a=1;", 10), 1 + 8 + 512);
        due("21 the edition's rule lacks", trial(x, "rule due=1;", 20), 1023);
        due("21 both lack", trial(x, "rule a=1;", 20), 0);
        due("21 like nothing", trial(x, "rule due=nobody;", 20), 0);
        due("21 failures of two kinds", trial(x, "rule due=nobody;", 30), 1 + 8 + 512);
        due("21 and of one", trial(x, "rule due=1/0;", 30), 1023 - 1 - 8);
        x.edition(0, 40, "rule due=0.0;");
        due("21 bits", trial(x, "rule due=-0.0;", 40), 1023);
        due("21 like bits", trial(x, "rule due=0.0;", 40), 0);
        x.edition(0, 50, "rule due=zeros(2);");
        due("21 items", trial(x, "rule due=with(zeros(2),1,1);", 50), 1023);
        due("21 like items", trial(x, "rule due=last(with(zeros(3),0,1),2);", 50), 0);
        due("21 fewer items", trial(x, "rule due=zeros(1);", 50), 1023);
        due("21 work", trial(x, "rule due=sum n from 1 to 500 of n;", 50), 1023);
        x.feed("due");
        due("figure", x.house.figure(0, 0, 10, 0), 0);
        due("21 a trial", trial(x, "rule a=1;rule due=1/0+a;", 10), 1023);
        due("21 the latest figure stays", x.house.told(2), 1);
        due("21 its line", x.house.told(0), NONE);
        due("21 its step", x.house.step(0), 0);
        due("21 its value", x.house.read(NONE), 5);
        due("21 the edition stays", x.house.inForce(0, 10), 10);
        kinAlike();
    }

    static void kinAlike() {
        Desk x = house();
        x.edition(0, 0, "rule due=kids[1];");
        due("21 the same person", trial(x, "rule due=kin[0];", 0), 0);
        due("21 another person", trial(x, "rule due=kids[0];", 0), 1);
        x.edition(0, 0, "rule due=last(kids,1);");
        due("21 another sort of kin", trial(x, "rule due=last(join(last(kin,0),last(kids,1)),1);", 0), 1);
        due("21 like kin", trial(x, "rule due=last(with(kids,1,kin[0]),1);", 0), 0);
    }
}
