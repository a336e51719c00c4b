/** Promises 15 to 17 and the FAULTS: texts, their EDITIONS, the one in FORCE. */
public final class PromisesOfTexts {
    static final int NONE = -1, UNKNOWN = -2, OUTSIDE = -3, STATE = -4, ROOM = -5;

    static void due(String call, long got, long want) {
        Desk.due(call, got, want);
    }

    public static void main(String[] args) {
        editions();
        inForce();
        goodTexts();
        noToken();
        misplaced();
        toldAlready();
        rulesAndParts();
        depth();
        firstPlaceCounts();
        faultStays();
        Desk.end();
    }

    static void good(String text, int rules) {
        Desk x = new Desk();
        due("15 " + text, x.edition(3, 389, text), rules);
        due("16 " + text, x.house.fault(), 0);
    }

    static void bad(String text, int kind, int place) {
        Desk x = new Desk();
        due("15 " + text, x.edition(0, 0, text), -10 - place);
        due("16 " + text, x.house.fault(), kind);
        due("15 no edition of " + text, x.house.inForce(0, 389), NONE);
        due("15 used up " + text, x.house.count(5), 0);
        x.feed(text);
        due("21 " + text, x.house.trial(0, 0, 0), -10 - place);
    }

    static String rules(int n) {
        StringBuilder b = new StringBuilder();
        for (int i = 0; i < n; i++) {
            b.append("rule r").append(i).append("=1;");
        }
        return b.toString();
    }

    static String times(String s, int n) {
        return s.repeat(n);
    }

    static void editions() {
        Desk x = new Desk();
        due("15 scheme 4", x.edition(4, 999, "rule a=1;"), UNKNOWN);
        due("15 used up", x.house.count(5), 0);
        due("15 scheme -1", x.edition(-1, 0, "rule a=1;"), UNKNOWN);
        due("15 day 390", x.edition(0, 390, "rule a=1;"), OUTSIDE);
        due("15 day -1", x.edition(0, -1, "?"), OUTSIDE);
        due("16 not read", x.house.fault(), 0);
        for (int i = 0; i < 8; i++) {
            due("15 edition " + i, x.edition(0, 10 * i, rules(i)), i);
        }
        due("15 a ninth", x.edition(0, 80, "rule a=1;"), ROOM);
        due("15 a ninth, ahead of reading", x.edition(0, 80, "?"), ROOM);
        due("16 not read either", x.house.fault(), 0);
        due("15 in place of one", x.edition(0, 30, "rule due=5;rule b=6;rule c=1;rule d=1;"), 4);
        due("15 of another scheme", x.edition(1, 80, "rule a=1;"), 1);
        due("15 a faulty one in place", x.edition(0, 30, "rule due=6"), -20);
        x.feed("due");
        due("15 the good one stands", x.house.figure(0, 0, 35, 0), 0);
        due("15 its figure", x.house.read(NONE), 5);
    }

    static void inForce() {
        Desk x = new Desk();
        due("17 scheme", x.house.inForce(4, 400), UNKNOWN);
        due("17 scheme -1", x.house.inForce(-1, 0), UNKNOWN);
        due("17 day", x.house.inForce(0, 390), OUTSIDE);
        due("17 day -1", x.house.inForce(0, -1), OUTSIDE);
        due("17 none", x.house.inForce(0, 389), NONE);
        x.edition(0, 100, "");
        x.edition(0, 50, "");
        x.edition(0, 389, "");
        x.edition(1, 0, "");
        due("17 before", x.house.inForce(0, 49), NONE);
        due("17 its first day", x.house.inForce(0, 50), 50);
        due("17 till the next", x.house.inForce(0, 99), 50);
        due("17 the next", x.house.inForce(0, 100), 100);
        due("17 the last day but one", x.house.inForce(0, 388), 100);
        due("17 the last day", x.house.inForce(0, 389), 389);
        due("17 another scheme", x.house.inForce(1, 389), 0);
        due("17 a third scheme", x.house.inForce(2, 389), NONE);
    }

    static void goodTexts() {
        good("", 0);
        good(" \n ", 0);
        good("rule a=1;", 1);
        good("rule a=1;rule b=a;", 2);
        good("\nrule\na = 123456789012345 ; ", 1);
        good("rule a=123456789.123456;", 1);
        good("rule a=000000000000000;", 1);
        good("rule abcdefgh=a2345678[0][1][day];", 1);
        good("rule a=if 1 then 2 else if 3 then 4 else 5;", 1);
        good("rule a=try try 1 else 2 else 3;", 1);
        good("rule a=1<2;rule b=1<=2;rule c=1=2;rule d=1!=2;", 4);
        good("rule a=(1<2)<3;", 1);
        good("rule a=--1-- -1;", 1);
        good("rule a=1+2-3*4/5%6;", 1);
        good("rule a=sum n from 1 to 2 of -n*2;", 1);
        good("rule a=sum n from if 1 then 1 else 1 to try 1 else 2 of sum m from n to n of(m);", 1);
        good("rule a=born(a)+ceil(a)+floor(a)+len(a)+near(a)+real(a)+root(a)+whole(a)+zeros(a);", 1);
        good("rule a=best(a,b)+join(a,b)+last(a,b)+max(a,b)+min(a,b)+with(a,b,c);", 1);
        good("rule a=min(if 1 then 2 else 3,1<2);", 1);
        good("rule ab1=12*if2;", 1);
        good("rule a=1;\n\nrule b=a[1];", 2);
    }

    static void noToken() {
        bad("?", 1, 0);
        bad(" \n?", 1, 2);
        bad("rule a=1;?", 1, 9);
        bad("rule A=1;", 1, 5);
        bad("rule a=1\t;", 1, 8);
        bad("rule a=1;\r", 1, 9);
        bad("rule a=1>2;", 1, 8);
        bad("rule a=1!2;", 1, 8);
        bad("rule a=!=2;", 2, 7);
        bad("rule a=.5;", 1, 7);
        bad("rule a=5.;", 1, 8);
        bad("rule a=5.a;", 1, 8);
        bad("rule a=1.5.5;", 1, 10);
        bad("rule a=1234567890123456;", 1, 7);
        bad("rule a=1234567890.5;", 1, 7);
        bad("rule a=1234567890.;", 1, 17);
        bad("rule a=123456789.1234567;", 1, 7);
        bad("rule a=1.1234567;", 1, 7);
        bad("rule a=1+abcdefghi;", 1, 9);
        bad("rule abcdefghi=1;", 1, 5);
        bad("rule elsewhere=1;", 1, 5);
        bad("ruleruler a=1;", 1, 0);
        bad("rule a=\u00e9;", 1, 7);
        bad("rule a\u0000=1;", 1, 6);
        bad("rule a=1_;", 1, 8);
        bad("rule a 123456789.5555555", 1, 7);
    }

    static void misplaced() {
        bad("rule", 2, 4);
        bad("rule  ", 2, 6);
        bad("a", 2, 0);
        bad(";", 2, 0);
        bad("rules a=1;", 2, 0);
        bad("rule 1=1;", 2, 5);
        bad("rule sum=1;", 2, 5);
        bad("rule a", 2, 6);
        bad("rule a<=1;", 2, 6);
        bad("rule a==1;", 2, 7);
        bad("rule a=", 2, 7);
        bad("rule a=;", 2, 7);
        bad("rule a=1", 2, 8);
        bad("rule a=1 ", 2, 9);
        bad("rule a=1;;", 2, 9);
        bad("rule a=1 rule", 2, 9);
        bad("rule a=1 2;", 2, 9);
        bad("rule a=12ab;", 2, 9);
        bad("rule a=+1;", 2, 7);
        bad("rule a=1<2<3;", 2, 10);
        bad("rule a=1=2!=3;", 2, 10);
        bad("rule a=1<==2;", 2, 10);
        bad("rule a=1+if 1 then 1 else 1;", 2, 9);
        bad("rule a=-try 1 else 2;", 2, 8);
        bad("rule a=if 1 else 2;", 2, 12);
        bad("rule a=if 1 then 2;", 2, 18);
        bad("rule a=if 1 then 2 else;", 2, 23);
        bad("rule a=try 1;", 2, 12);
        bad("rule a=();", 2, 8);
        bad("rule a=(1;", 2, 9);
        bad("rule a=(1));", 2, 10);
        bad("rule a=b[];", 2, 9);
        bad("rule a=b[1;", 2, 10);
        bad("rule a=b[1,2];", 2, 10);
        bad("rule a=len 1;", 2, 11);
        bad("rule a=len();", 2, 11);
        bad("rule a=len(1,2);", 2, 12);
        bad("rule a=min(1);", 2, 12);
        bad("rule a=min(1,2,3);", 2, 14);
        bad("rule a=with(1,2);", 2, 15);
        bad("rule a=with(1,2,3,4);", 2, 17);
        bad("rule a=sum 1 from 1 to 2 of 3;", 2, 11);
        bad("rule a=sum day from 1 to 2 of 3;", 2, 11);
        bad("rule a=sum n to 2 of 3;", 2, 13);
        bad("rule a=sum n from 1 of 3;", 2, 20);
        bad("rule a=sum n from 1 to 2;", 2, 24);
        bad("rule a=sum n from 1 to 2 of if 1 then 2 else 3;", 2, 28);
        bad("rule a=then;", 2, 7);
        bad("rule a=rule;", 2, 7);
        bad("rule a=b(1);", 2, 8);
    }

    static void toldAlready() {
        bad("rule a=1;rule a=2;", 3, 14);
        bad("rule a=1;rule b=2;rule  a", 3, 24);
        bad(rules(24) + "rule r3=", 4, rules(24).length());
        bad("rule a=1;rule a b c", 3, 14);
    }

    static void rulesAndParts() {
        good(rules(24), 24);
        good(rules(24) + "  ", 24);
        bad(rules(25), 4, rules(24).length());
        bad(rules(24) + " rule", 4, rules(24).length() + 1);
        bad(rules(24) + ";", 2, rules(24).length());
        // 149 signs and 150 numbers, 299 PARTS; one more, and one more
        String many = "rule a=1" + times("+1", 149);
        good(many + ";", 1);
        good(many.replace("=1+", "=-1+") + ";", 1);
        bad(many + "+1;", 4, many.length() + 1);
        bad(many.replace("=1+", "=-1+") + "+1;", 4, many.length() + 1);
        bad(many + ";rule b=-1;", 4, many.length() + 9);
        bad(many + ";rule b=1;rule c=(b);", 4, many.length() + 18);
        good(many + ";rule b=1;", 2);
        good(many + ";rule b=day;", 2);
        String all = many + ";rule b=1;rule c=";
        bad(all + "1;", 4, all.length());
        bad(all + "a;", 4, all.length());
        bad(all + "x;", 4, all.length());
        bad(all + "((day));", 4, all.length() + 2);
        bad(all + "-1;", 4, all.length());
        bad(all + "if 1 then 1 else 1;", 4, all.length());
        bad(all + "try 1 else 1;", 4, all.length());
        bad(all + "sum n from 1 to 1 of 1;", 4, all.length());
        bad(all + "len(1);", 4, all.length());
        bad(all + ";", 2, all.length());
        bad(all + "?", 1, all.length());
        bad(many + ";rule b=x[1];", 4, many.length() + 9);
        bad(many + ";rule b=x<1;", 4, many.length() + 9);
        bad(many + ";rule b=x%1;", 4, many.length() + 9);
        bad(many + ";rule b=x 1;", 2, many.length() + 10);
        // the names of rules and of sums, then, else, from, to, of are no PARTS
        String few = "rule a=1" + times("+1", 145);
        String full = few + ";rule b=sum n from 1 to 2 of n;rule c=try 1 else 2;rule d=x;rule e=y;";
        good(full, 5);
        bad(full + "rule f=z;", 4, full.length() + 7);
    }

    static void depth() {
        // E 0, U 1, ( E 2, U 3 ..: nine ( stand, and the tenth has its E within 20
        good("rule a=" + times("(", 9) + "1" + times(")", 9) + ";", 1);
        bad("rule a=" + times("(", 10) + "1" + times(")", 10) + ";", 4, 17);
        bad("rule a=" + times("(", 30), 4, 17);
        bad("rule a=" + times("(", 10) + ")", 2, 17);
        bad("rule a=" + times("(", 10) + "?", 1, 17);
        bad("rule a=" + times("(", 10), 2, 17);
        bad("rule a=" + times("(", 10) + "then", 2, 17);
        bad("rule a=" + times("(", 10) + "if", 4, 17);
        // E 0, U 1, - U 2 ..: - eighteen times stands
        good("rule a=" + times("-", 18) + "1;", 1);
        bad("rule a=" + times("-", 19) + "1;", 4, 26);
        bad("rule a=" + times("-", 19) + "if 1", 2, 26);
        bad("rule a=1+" + times("-", 19) + "1;", 4, 28);
        good("rule a=1+" + times("-", 18) + "1*" + times("-", 18) + "1;", 1);
        // else E: each within the one before
        good("rule a=" + times("try 1 else ", 18) + "1;", 1);
        bad("rule a=" + times("try 1 else ", 19) + "1;", 4, 7 + 11 * 18 + 4);
        bad("rule a=" + times("if 1 then 1 else ", 19) + "1;", 4, 7 + 17 * 18 + 3);
        good("rule a=" + times("if 1 then 1 else ", 18) + "1;", 1);
        bad("rule a=" + times("if 1 then ", 19) + "1" + times(" else 1", 19) + ";", 4, 7 + 10 * 18 + 3);
        bad("rule a=" + times("-", 17) + "(if 1 then 1 else 1);", 4, 28);
        good("rule a=" + times("-", 15) + "(if 1 then 1 else 1);", 1);
        bad("rule a=" + times("-", 16) + "(if 1 then 1 else 1);", 4, 27);
        for (String inner : new String[] {"if 1 then # else 1", "if 1 then 1 else #", "if # then 1 else 1", "try # else 1", "try 1 else #",
            "1<#", "1*#", "1-#", "#+1"}) {
            // E 0, inner's E 1, its U 2
            int at = inner.startsWith("if") || inner.startsWith("try") ? 1 : 0;
            String text = "rule a=" + inner.replace("#", times("-", 18 - at) + "1") + ";";
            good(text, 1);
            String deeper = "rule a=" + inner.replace("#", times("-", 19 - at) + "1") + ";";
            bad(deeper, 4, deeper.lastIndexOf("-1") + 1);
        }
        for (String inner : new String[] {"sum n from # to 1 of 1", "sum n from 1 to # of 1", "max(#,1)", "max(1,#)", "(#)", "x[#]", "with(1,1,#)"}) {
            // U 1, E 2, U 3
            good("rule a=" + inner.replace("#", times("-", 16) + "1") + ";", 1);
            String deeper = "rule a=" + inner.replace("#", times("-", 17) + "1") + ";";
            bad(deeper, 4, deeper.lastIndexOf("-1") + 1);
        }
        // sum: its U, and its from and to, lie within its U
        good("rule a=" + times("sum n from 1 to 1 of ", 17) + "1;", 1);
        good("rule a=" + times("-", 16) + "sum n from 1 to 1 of 1;", 1);
        bad("rule a=" + times("-", 17) + "sum n from 1 to 1 of 1;", 4, 7 + 17 + 11);
        bad("rule a=" + times("sum n from 1 to 1 of ", 18) + "1;", 4, 7 + 21 * 17 + 11);
        // [ and FUNCTIONS
        good("rule a=" + times("x[", 9) + "1" + times("]", 9) + ";", 1);
        bad("rule a=" + times("x[", 10) + "1" + times("]", 10) + ";", 4, 27);
        bad("rule a=" + times("len(", 10) + "1" + times(")", 10) + ";", 4, 47);
        bad("rule a=" + times("max(1,", 10) + "1" + times(")", 10) + ";", 4, 7 + 6 * 9 + 4);
        good("rule a=x" + times("[1]", 40) + ";", 1);
        good("rule a=" + times("(", 9) + "1" + times(")", 9) + ";rule b=" + times("(", 9) + "1" + times(")", 9) + ";", 2);
    }

    static void firstPlaceCounts() {
        bad("rule a=1;rule a=?;", 3, 14);
        bad("rule a=?;rule a=1;", 1, 7);
        bad("rule a=) ?", 2, 7);
        bad("rule a=1;rule abcdefghi", 1, 14);
    }

    static void faultStays() {
        Desk x = new Desk();
        x.edition(0, 0, "rule a=1;rule a=1;");
        due("16 three", x.house.fault(), 3);
        x.fact("a?");
        x.feed("?");
        x.house.known(0, 0, 0);
        x.feed("?");
        x.house.figure(0, 0, 0, 0);
        due("16 of names none", x.house.fault(), 3);
        due("16 refused", x.edition(9, 0, "rule a=1;"), UNKNOWN);
        due("16 not read", x.house.fault(), 3);
        x.feed("rule a");
        due("16 trial refused", x.house.trial(0, 0, 1), OUTSIDE);
        due("16 not read by trial", x.house.fault(), 3);
        x.feed("rule a");
        due("16 trial", x.house.trial(0, 0, 0), -16);
        due("16 read by trial", x.house.fault(), 2);
        x.edition(0, 0, "");
        due("16 none", x.house.fault(), 0);
    }
}
