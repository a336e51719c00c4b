/** A test of its own for each sentence of "Terms" 2 and of promises 15 to 17 that names a bound or a refusal. */
public final class SentencesOfTexts {
    static final int NONE = -1, UNKNOWN = -2, OUTSIDE = -3, STATE = -4, ROOM = -5;
    static final int MIN = Integer.MIN_VALUE, MAX = Integer.MAX_VALUE;
    static final int[] NO_DAYS = {-1, 390, MIN, MAX};
    static final int[] NO_SCHEMES = {-1, 4, MIN, MAX};
    static final String[] FUNCTIONS_OF_ONE = "born ceil floor len near real root whole zeros".split(" ");
    static final String[] FUNCTIONS_OF_TWO = "best join last max min".split(" ");

    public static void main(String[] args) throws Exception {
        Sentences.run(SentencesOfTexts.class);
    }

    static void due(String call, long got, long want) {
        Desk.due(call, got, want);
    }

    static void good(String text, int rules) {
        Desk x = new Desk();
        due(text, x.edition(0, 0, text), rules);
        due("fault of " + text, x.house.fault(), 0);
    }

    /** A FAULT, told by an edition and by a trial. */
    static void bad(String text, int kind, int place) {
        Desk x = new Desk();
        due(text, x.edition(0, 0, text), -10 - place);
        due("fault of " + text, x.house.fault(), kind);
        due("no EDITION " + text, x.house.inForce(0, 389), NONE);
        x.edition(0, 0, "");
        due("trial of " + text, x.trial(0, 0, 0, text), -10 - place);
        due("fault of the trial of " + text, x.house.fault(), kind);
    }

    /** A text of one rule with this E; the place counts from the first byte of the E. */
    static void badE(String e, int kind, int place) {
        bad("rule a=" + e + ";", kind, 7 + place);
    }

    static void goodE(String e) {
        good("rule a=" + e + ";", 1);
    }

    static String times(String s, int n) {
        return s.repeat(n);
    }

    static String rules(int n) {
        StringBuilder b = new StringBuilder();
        for (int i = 0; i < n; i++) {
            b.append("rule r").append(i).append("=1;");
        }
        return b.toString();
    }

    /** What the rule a of a text comes to, a WHOLE. */
    static void comesTo(String text, long want) {
        Desk x = new Desk();
        x.whole(1000);
        x.fact("n");
        due("read " + text, x.edition(0, 0, text) > 0 ? 1 : 0, 1);
        due("work " + text, x.figure("a"), 0);
        due("sort " + text, x.house.sort(), 0);
        due("value " + text, x.house.read(NONE), want);
    }

    // ---- Terms 2

    static void terms2_theTapeHas1600BytesAtMost() {
        Desk x = new Desk();
        String text = "rule a=1;";
        x.feed(text + times(" ", 1600 - text.length()));
        due("full", x.house.feed(0, 1), ROOM);
        due("a text of 1600 bytes", x.house.edition(0, 0), 1);
        x.feed(times("\n", 1600 - text.length()) + text);
        due("a text at its end", x.house.edition(0, 0), 1);
        x.feed(times(" ", 1600));
        due("a text of blanks", x.house.edition(0, 0), 0);
        x.feed(times(" ", 1599) + "?");
        due("a FAULT at the last byte", x.house.edition(0, 0), -10 - 1599);
        x.feed(text + times(" ", 1586) + "rule ");
        due("a FAULT at the end", x.house.edition(0, 0), -10 - 1600);
        due("its kind", x.house.fault(), 2);
    }

    static void terms2_whatReadsTheTapeUsesItUpAlsoWhereItIsRefused() {
        Desk x = new Desk();
        x.edition(0, 5, "rule a=1;");
        String[] calls = {"fact", "fact member", "fact day", "fact no name", "known", "known member", "known day", "known no name", "edition",
            "edition scheme", "edition day", "edition fault", "figure", "figure member", "figure scheme", "figure day", "figure no edition",
            "figure no such name", "trial", "trial scheme", "trial day", "trial fault"};
        for (int i = 0; i < calls.length; i++) {
            String text = i == 8 || i == 18 ? "rule a=1;" : calls[i].endsWith("such name") ? "b" : calls[i].endsWith("no name") ? "9" : "a";
            x.feed(text);
            due("fed " + calls[i], x.house.count(5), text.length());
            boolean isRefused = reads(x.house, i) < 0;
            due("refused " + calls[i], isRefused ? 1 : 0, i == 0 || i == 4 || i == 8 || i == 12 || i == 18 ? 0 : 1);
            due("used up " + calls[i], x.house.count(5), 0);
        }
    }

    private static long reads(PensionHouse x, int which) {
        switch (which) {
            case 0: case 3: return x.fact(0, 0, 389);
            case 1: return x.fact(10, 0, 389);
            case 2: return x.fact(0, 9, 8);
            case 4: case 7: return x.known(0, 5, 0);
            case 5: return x.known(-1, 5, 0);
            case 6: return x.known(0, 390, 0);
            case 8: case 11: return x.edition(0, 5);
            case 9: return x.edition(4, 5);
            case 10: return x.edition(0, 390);
            case 12: case 17: return x.figure(0, 0, 5, 0);
            case 13: return x.figure(10, 0, 5, 0);
            case 14: return x.figure(0, 4, 5, 0);
            case 15: return x.figure(0, 0, 5, 1);
            case 16: return x.figure(0, 0, 4, 0);
            case 18: case 21: return x.trial(0, 5, 0);
            case 19: return x.trial(4, 5, 0);
            default: return x.trial(0, -1, 0);
        }
    }

    static void terms2_theOtherCallsLeaveTheTape() {
        Desk x = SentencesOfTheDesk.lived();
        PensionHouse h = x.house;
        h.clock(80);
        h.person(true, 0);
        h.desk(2, 1);
        h.write(0, 1);
        h.seat(0, 0);
        h.sort();
        h.length();
        h.read(0);
        h.annul(1);
        h.fault();
        h.inForce(0, 0);
        h.told(0);
        h.step(0);
        h.award(9, 3, 0);
        h.due(0, 0, 0);
        h.deduct(0, 1, 0);
        h.share(1);
        h.run(2);
        h.advance(1);
        h.payment(0, 0);
        h.taken(0, 0);
        h.returned(0);
        h.balance(0, 0);
        due("count", h.count(5), 1);
        due("its NAME", h.known(0, 10, 80), 0);
    }

    static void terms2_numbersOf1To15Digits() {
        goodE("0");
        goodE("123456789012345");
        goodE("000000000000000");
        comesTo("rule a=999999999999999;", 999999999999999L);
        comesTo("rule a=000000000000012;", 12);
        badE("1234567890123456", 1, 0);
        badE("0000000000000001", 1, 0);
        badE("1+1234567890123456", 1, 2);
        badE(times("9", 400), 1, 0);
    }

    static void terms2_numbersOf1To9DigitsAPoint1To6Digits() {
        goodE("0.0");
        goodE("123456789.123456");
        goodE("000000000.000000");
        badE("1234567890.1", 1, 0);
        badE("0000000000.1", 1, 0);
        badE("1.1234567", 1, 0);
        badE("1.0000000", 1, 0);
        badE("123456789.1234567", 1, 0);
        badE("1234567890.123456", 1, 0);
        badE("123456789012345.1", 1, 0);
        badE(".5", 1, 0);
        badE("1+1.1234567", 1, 2);
    }

    static void terms2_ofANumberAreAllDigitsAPointWithADigitBehindItAndTheDigitsThere() {
        badE("5.", 1, 1);
        badE("5.;", 1, 1);
        badE("5. 5", 1, 1);
        badE("5.a", 1, 1);
        badE("5..5", 1, 1);
        badE("5.5.", 1, 3);
        badE("5.5.5", 1, 3);
        badE("123456789012345.", 1, 15);
        badE("1234567890123456.", 1, 0);
        badE("5 .5", 1, 2);
        badE("5.5 5", 2, 4);
        badE("5.5a", 2, 3);
        bad("rule a=5.", 1, 8);
        bad("rule a=5.5", 2, 10);
    }

    static void terms2_signsAreAsLongAsCanBe() {
        comesTo("rule a=1<=1;", 1);
        comesTo("rule a=1!=1;", 0);
        comesTo("rule a=1<1;", 0);
        badE("1< =1", 2, 3);
        badE("1! =1", 1, 1);
        badE("1<==1", 2, 3);
        badE("1!==1", 2, 3);
        badE("1==1", 2, 2);
        badE("1=<1", 2, 2);
        badE("1<<1", 2, 2);
        badE("1!1", 1, 1);
        bad("rule a=1!", 1, 8);
        bad("rule a<=1;", 2, 6);
        bad("rule a!=1;", 2, 6);
    }

    static void terms2_namesAndWordsAreAsLongAsCanBe() {
        bad("rulea=1;", 2, 0);
        bad("rule1 a=1;", 2, 0);
        badE("if1 then 2 else 3", 2, 4);
        badE("day1 day", 2, 5);
        goodE("daylight");
        goodE("day2");
        goodE("if2");
        badE("12ab", 2, 2);
        badE("12then", 2, 2);
        goodE("if 1then 2else 3");
        goodE("try(1)else(2)");
    }

    static void terms2_blanksAre32And10() {
        goodE(" \n1 \n+\n \n1 ");
        good(" \n", 0);
        good("rule\na\n=\n1\n;\n", 1);
        good("rule a=1;rule b=1;", 2);
        for (char other : new char[] {0, 1, 8, 9, 11, 12, 13, 31, 33, 127, 128, 160, 133, 255}) {
            badE("1" + other, 1, 1);
        }
    }

    static void terms2_noTokenBeginsThere() {
        for (char other : "!\"#$&'.:>?@ABCXYZ\\^_`{|}~".toCharArray()) {
            badE("" + other, 1, 0);
            badE("1 " + other, 1, 2);
            bad("" + other, 1, 0);
            bad("rule " + other, 1, 5);
            bad("rule a" + other, 1, 6);
        }
    }

    static void terms2_everyTextIsRules() {
        good("", 0);
        good("rule a=1;rule b=2;", 2);
        bad(";", 2, 0);
        bad("a=1;", 2, 0);
        bad("rule a=1;;", 2, 9);
        bad("rule a=1;b=2;", 2, 9);
        bad("rule a 1;", 2, 7);
        bad("rule =1;", 2, 5);
        bad("rule a=1 rule b=2;", 2, 9);
        bad("1", 2, 0);
    }

    static void terms2_aCompareIsOfTwo() {
        goodE("1<2");
        goodE("(1<2)<3");
        for (String one : "< <= = !=".split(" ")) {
            for (String two : "< <= = !=".split(" ")) {
                badE("1 " + one + " 2 " + two + " 3", 2, 5 + one.length());
            }
        }
    }

    static void terms2_ifAndTryStandWhereAnEStands() {
        goodE("if 1 then 2 else 3");
        goodE("try 1 else 2");
        goodE("(if 1 then 2 else 3)+1");
        goodE("x[if 1 then 2 else 3]");
        goodE("max(try 1 else 2,if 1 then 2 else 3)");
        for (String sign : "+ - * / % < <= = !=".split(" ")) {
            badE("1 " + sign + " if 1 then 2 else 3", 2, 3 + sign.length());
            badE("1 " + sign + " try 1 else 2", 2, 3 + sign.length());
        }
        badE("-if 1 then 2 else 3", 2, 1);
        badE("sum n from 1 to 2 of try 1 else 2", 2, 21);
        badE("if 1 2 else 3", 2, 5);
        badE("if 1 then 2", 2, 11);
        badE("try 1", 2, 5);
        badE("try 1 then 2", 2, 6);
        badE("else", 2, 0);
    }

    static void terms2_theIndexFollowsAP() {
        goodE("x[1][2]");
        goodE("(x)[1]");
        goodE("1[1]");
        goodE("day[1]");
        goodE("zeros(1)[0]");
        goodE("-x[1]");
        goodE("sum n from 1 to 2 of x[n]");
        badE("[1]", 2, 0);
        badE("x[]", 2, 2);
        badE("x[1", 2, 3);
        badE("x]", 2, 1);
        badE("x[1,2]", 2, 3);
    }

    static void terms2_ofASumTheUIsAsLongAsCanBe() {
        comesTo("rule a=sum i from 1 to 3 of i*2;", 12);
        comesTo("rule a=sum i from 1 to 3 of i+10;", 16);
        comesTo("rule a=sum i from 1 to 3 of -i;", -6);
        comesTo("rule a=sum i from 1 to 2 of (i+10);", 23);
        Desk x = new Desk();
        x.row(3, 5, 6, 7);
        x.fact("r");
        x.edition(0, 0, "rule a=sum i from 0 to 2 of r[i];");
        due("the [ is the U's", x.figure("a"), 0);
        due("18", x.house.read(NONE), 18);
    }

    static void terms2_minusAndItsTurns() {
        comesTo("rule a=--3;", 3);
        comesTo("rule a=-2-3;", -5);
        comesTo("rule a=2--3;", 5);
        comesTo("rule a=-7/2;", -3);
        comesTo("rule a=2*-3;", -6);
        comesTo("rule a=10-4-3;", 3);
        comesTo("rule a=2+3*4%5;", 4);
        comesTo("rule a=100/7*7;", 98);
        badE("+1", 2, 0);
        badE("1+", 2, 2);
        badE("1*/2", 2, 2);
    }

    static void terms2_functionsOfOne() {
        for (String f : FUNCTIONS_OF_ONE) {
            goodE(f + "(1)");
            badE(f + "()", 2, f.length() + 1);
            badE(f + "(1,2)", 2, f.length() + 2);
            badE(f + " 1", 2, f.length() + 1);
            badE(f, 2, f.length());
            badE(f + "(1", 2, f.length() + 2);
        }
    }

    static void terms2_functionsOfTwo() {
        for (String f : FUNCTIONS_OF_TWO) {
            goodE(f + "(1,2)");
            badE(f + "()", 2, f.length() + 1);
            badE(f + "(1)", 2, f.length() + 2);
            badE(f + "(1,)", 2, f.length() + 3);
            badE(f + "(1,2,3)", 2, f.length() + 4);
            badE(f + "(1 2)", 2, f.length() + 3);
            badE(f + "(1,2", 2, f.length() + 4);
        }
    }

    static void terms2_theFunctionOfThree() {
        goodE("with(1,2,3)");
        badE("with()", 2, 5);
        badE("with(1)", 2, 6);
        badE("with(1,2)", 2, 8);
        badE("with(1,2,)", 2, 9);
        badE("with(1,2,3,4)", 2, 10);
        badE("with(1,2,3", 2, 10);
    }

    static void terms2_noOtherWordIsAP() {
        for (String word : "else from if of rule then to try".split(" ")) {
            badE("1+" + word, 2, 2);
        }
        for (String word : "else from of rule then to".split(" ")) {
            badE(word, 2, 0);
        }
        badE("n(1)", 2, 1);
        badE("day(1)", 2, 3);
    }

    static void terms2_fault1ANumberOfMoreDigitsAtItsFirstByte() {
        badE("1 + 1234567890123456 ?", 1, 4);
        badE("1 + 1234567890.5 ?", 1, 4);
        badE("1 + 5.1234567 ?", 1, 4);
        bad("1234567890123456", 1, 0);
        bad("rule 1234567890123456", 1, 5);
        bad("rule a 1234567890123456", 1, 7);
    }

    static void terms2_fault1ANameTooLongAtItsFirstByte() {
        badE("abcdefghi", 1, 0);
        badE("1+abcdefghi+?", 1, 2);
        badE("a23456789", 1, 0);
        badE(times("z", 500), 1, 0);
        bad("rule abcdefghi=1;", 1, 5);
        bad("elseelseelse", 1, 0);
        badE("sum abcdefghi from 1 to 2 of 3", 1, 4);
    }

    static void terms2_fault2TheEndIsHowManyBytesThereAre() {
        String text = "rule a=if x[1]<2 then sum n from 1 to 2 of n else with(1,2,3);";
        for (int end = 1; end < text.length(); end++) {
            char last = text.charAt(end - 1);
            boolean isCutWord = Character.isLetterOrDigit(last) && Character.isLetterOrDigit(text.charAt(end));
            if (!isCutWord) {
                bad(text.substring(0, end), 2, end);
                bad(text.substring(0, end) + " \n", 2, end + 2);
            }
        }
        good(text, 1);
    }

    static void terms2_fault3ANameOfARuleToldAlreadyAtTheName() {
        bad("rule a=1;rule a=2;", 3, 14);
        bad("rule a=1;rule b=2;rule  \na", 3, 25);
        bad("rule a=1;rule b=2;rule b", 3, 23);
        bad(rules(23) + "rule r22=1;", 3, rules(23).length() + 5);
        bad(rules(23) + "rule r0=1;", 3, rules(23).length() + 5);
        good("rule a=1;rule aa=2;rule a1=3;", 3);
        good("rule a=sum a from 1 to 2 of a;", 1);
        good("rule a=1;rule b=sum a from 1 to 2 of a;", 2);
        // of another text it is none
        Desk x = new Desk();
        x.edition(0, 0, "rule a=1;");
        due("another text", x.edition(0, 1, "rule a=2;"), 1);
    }

    static void terms2_fault4The25thRuleAtItsWord() {
        good(rules(24), 24);
        good(rules(24) + " \n", 24);
        bad(rules(24) + "rule", 4, rules(24).length());
        bad(rules(25), 4, rules(24).length());
        bad(rules(24) + " rule r0=?", 4, rules(24).length() + 1);
        bad(rules(24) + "rules", 2, rules(24).length());
        bad(rules(24) + "?", 1, rules(24).length());
    }

    static void terms2_fault4AnEThatLiesWithin20Others() {
        // E 0, U 1, then each ( makes an E and a U
        goodE(times("(", 9) + "1" + times(")", 9));
        badE(times("(", 10) + "1" + times(")", 10), 4, 10);
        badE(times("(", 10) + "if 1 then 1 else 1" + times(")", 10), 4, 10);
        badE(times("(", 10) + "try 1 else 1" + times(")", 10), 4, 10);
        // E 0, E 1 ..: the E of an else lies within those ahead of it
        goodE(times("try 1 else ", 18) + "1");
        goodE(times("if 1 then 1 else ", 18) + "1");
        badE(times("try 1 else ", 20) + "if 1 then 1 else 1", 4, 11 * 18 + 4);
        badE(times("if ", 20) + "1", 4, 60);
        badE(times("try ", 20) + "if", 4, 80);
        badE(times("if ", 21) + "1", 4, 60);
    }

    static void terms2_fault4AUThatLiesWithin20Others() {
        // the E of a rule is the first, its U lies within it, each - makes a U
        goodE(times("-", 18) + "1");
        badE(times("-", 19) + "1", 4, 19);
        badE("1+" + times("-", 19) + "1", 4, 21);
        badE("1*" + times("-", 19) + "1", 4, 21);
        badE("1<" + times("-", 19) + "1", 4, 21);
        badE(times("-", 20) + "1", 4, 19);
        goodE(times("sum n from 1 to 1 of ", 17) + "1");
        // the U of the 18th sum lies within 19 others, but its from lies within 20
        badE(times("sum n from 1 to 1 of ", 18) + "1", 4, 21 * 17 + 11);
        badE(times("try ", 19) + "1", 4, 76);
        badE(times("if ", 19) + "1", 4, 57);
    }

    static void terms2_fault4OfARuleTheEIsTheFirst() {
        String deep = times("(", 9) + "1" + times(")", 9);
        good("rule a=" + deep + ";rule b=" + deep + ";rule c=" + deep + ";", 3);
        bad("rule a=" + deep + ";rule b=(" + deep + ");", 4, 7 + 19 + 1 + 7 + 10);
    }

    static void terms2_fault4WhatStandsBesideIsNotAround() {
        goodE(times("-", 18) + "1+" + times("-", 18) + "1*" + times("-", 18) + "1");
        goodE("x" + times("[1]", 100));
        goodE("max(" + times("-", 16) + "1," + times("-", 16) + "1)");
        goodE("if " + times("-", 17) + "1 then " + times("-", 17) + "1 else " + times("-", 17) + "1");
    }

    /** 299 PARTS in a first rule. */
    static final String MANY = "rule a=1" + "+1".repeat(149);

    static void terms2_fault4The301stPart() {
        good(MANY + ";", 1);
        good(MANY + ";rule b=1;", 2);
        bad(MANY + ";rule b=1;rule c=1;", 4, MANY.length() + 17);
        bad(MANY + "+1;", 4, MANY.length() + 1);
        good("rule a=-1" + times("+1", 149) + ";", 1);
        bad("rule a=--1" + times("+1", 149) + ";", 4, 10 + 2 * 149 - 1);
    }

    static void terms2_fault4WhatIsAPart() {
        String all = MANY + ";rule b=1;rule c=";
        int at = all.length();
        for (String e : new String[] {"1", "1.5", "x", "a", "day", "-1", "if 1 then 1 else 1", "try 1 else 1", "sum n from 1 to 1 of 1", "born(1)",
            "max(1,2)", "with(1,2,3)"}) {
            bad(all + e + ";", 4, at);
        }
        String but1 = MANY + ";rule c=1";
        for (String sign : "+ - * / % < <= = != [".split(" ")) {
            bad(but1 + sign + "1", 4, but1.length());
        }
        bad(all + "((1))", 4, at + 2);
    }

    static void terms2_fault4WhatIsNoPart() {
        // ( ) , ; = of a rule, rule, then, else, from, to, of, the NAMES of rules and of sums
        String few = "rule a=" + "1+".repeat(142) + "1";
        String full = few + ";rule b=((if 1 then 2 else try 3 else sum n from 1 to 2 of max((4),5)));";
        good(full + "rule c=1;rule d=1;rule e=1;rule f=1;", 6);
        bad(full + "rule c=1;rule d=1;rule e=1;rule f=1;rule g=1;", 4, full.length() + 36 + 7);
    }

    static void terms2_theFirstPlaceCounts() {
        bad("rule a=?;rule a=1;", 1, 7);
        bad("rule a=1;rule a=?;", 3, 14);
        bad("rule a=) ?", 2, 7);
        bad("rule a=? )", 1, 7);
        bad("rule a=1;rule a abcdefghi", 3, 14);
        // the + is the 300th PART, so the ? is the first FAULT
        bad(MANY + "+?", 1, MANY.length() + 1);
        bad(rules(24) + "rule r0 ?", 4, rules(24).length());
        bad("rule a=" + times("(", 11) + "?", 4, 17);
    }

    static void terms2_ofOnePlaceTheLeast() {
        // 1 and 4, 2 and 4 at an E that lies too deep
        badE(times("(", 10) + "?", 1, 10);
        badE(times("(", 10) + "1234567890123456", 1, 10);
        badE(times("(", 10) + "abcdefghi", 1, 10);
        badE(times("(", 10) + ")", 2, 10);
        badE(times("(", 10) + "then", 2, 10);
        bad("rule a=" + times("(", 10), 2, 17);
        badE(times("-", 19) + "?", 1, 19);
        badE(times("-", 19) + "if 1 then 1 else 1", 2, 19);
        badE(times("-", 19) + "+1", 2, 19);
        bad("rule a=" + times("-", 19), 2, 26);
        badE(times("try ", 19) + ";", 2, 76);
        // 1 and 4, 2 and 4 at the 301st PART
        String all = MANY + ";rule b=1;rule c=";
        bad(all + "?", 1, all.length());
        bad(all + "abcdefghi", 1, all.length());
        bad(all + "then", 2, all.length());
        bad(all, 2, all.length());
        bad(MANY + ";rule b=1 1", 2, MANY.length() + 10);
        // 2 and 4 at the 25th rule
        bad(rules(24) + "sum", 2, rules(24).length());
    }

    static void terms2_aNameStandsForTheInnermostSumAround() {
        comesTo("rule a=sum n from 1 to 2 of sum n from 10 to 10 of n;", 20);
        comesTo("rule a=sum n from 1 to 2 of sum m from 10 to 10 of n;", 3);
        comesTo("rule a=sum n from 1 to 2 of ((sum n from 5 to 5 of n)+n);", 13);
        comesTo("rule n=7;rule a=sum n from 1 to 2 of n;", 3);
        comesTo("rule a=sum n from 1 to 2 of (n*n);", 5);
    }

    static void terms2_fromAndToOfASumLieOutsideOfIt() {
        comesTo("rule a=sum n from n to 1001 of n;", 2001);
        comesTo("rule a=sum n from 999 to n of n;", 1999);
        comesTo("rule n=2;rule a=sum n from n to n+1 of n;", 5);
        comesTo("rule a=sum n from 1 to 2 of sum n from n to n of n;", 3);
        // behind the sum the NAME is the FACT again
        comesTo("rule a=(sum n from 1 to 2 of n)+n;", 1003);
        comesTo("rule a=(sum n from 1 to 2 of n)*n;", 3000);
    }

    static void terms2_aNameStandsForTheFigureOfTheRuleToldAbove() {
        comesTo("rule n=5;rule a=n;", 5);
        comesTo("rule a=n;rule n=5;", 1000);
        comesTo("rule n=n+1;rule a=n;", 1001);
        comesTo("rule b=1;rule n=b+1;rule c=9;rule a=n+b+c;", 12);
    }

    static void terms2_aNameStandsForTheFactElse() {
        comesTo("rule a=n;", 1000);
        Desk x = new Desk();
        x.edition(0, 0, "rule a=a;rule b=c;rule c=1;");
        due("its own NAME is a FACT's", x.figure("a"), 1);
        due("one told below is a FACT's", x.figure("b"), 1);
        x.whole(3);
        x.fact("a");
        x.fact("c");
        due("a", x.figure("a"), 0);
        due("b", x.figure("b"), 0);
        due("asked", x.house.told(3), 1);
        due("steps", x.house.told(2), 1);
    }

    // ---- Promises 15 to 17

    static void promise15_howManyRules() {
        for (int n = 0; n <= 24; n++) {
            Desk x = new Desk();
            due("rules " + n, x.edition(3, 389, rules(n)), n);
            due("in FORCE " + n, x.house.inForce(3, 389), 389);
        }
    }

    static void promise15_minus10LessThePlaceOfItsFault() {
        Sentences.refusesAndReads(SentencesOfTheDesk::livedFaulty, "?", "at 0", -10, x -> x.edition(0, 0));
        Sentences.refusesAndReads(SentencesOfTheDesk::livedFaulty, "rule a=1;?", "at 9", -19, x -> x.edition(0, 40));
        Sentences.refusesAndReads(SentencesOfTheDesk::livedFaulty, "rule due=5;?", "in place of one", -21, x -> x.edition(0, 70));
    }

    static void promise15_inPlaceOfOneWithThisFirstDay() {
        Desk x = new Desk();
        for (int i = 0; i < 8; i++) {
            x.edition(0, 10 * i, "rule a=" + i + ";");
        }
        for (int i = 7; i >= 0; i--) {
            due("in place " + i, x.edition(0, 10 * i, "rule a=1" + i + ";rule b=1;"), 2);
            due("figure " + i, x.figure(0, 0, "a", 10 * i, 0), 0);
            due("value " + i, x.house.read(NONE), 10 + i);
        }
        due("the FIRST days are as they were", x.house.inForce(0, 79), 70);
        due("a faulty one", x.edition(0, 70, "rule a=99"), -19);
        due("figure", x.figure(0, 0, "a", 75, 0), 0);
        due("the good one stands", x.house.read(NONE), 17);
        due("an empty one", x.edition(0, 70, ""), 0);
        due("has no rule", x.figure(0, 0, "a", 75, 0), STATE);
        due("is in FORCE", x.house.inForce(0, 75), 70);
    }

    static void promise15_unknown() {
        for (int scheme : NO_SCHEMES) {
            Sentences.refusesAndReads(SentencesOfTheDesk::lived, "rule a=1;", "scheme " + scheme, UNKNOWN, x -> x.edition(scheme, 5));
        }
    }

    static void promise15_outside() {
        for (int day : NO_DAYS) {
            Sentences.refusesAndReads(SentencesOfTheDesk::lived, "rule a=1;", "day " + day, OUTSIDE, x -> x.edition(0, day));
        }
    }

    static Desk livedWith8Editions() {
        Desk x = SentencesOfTheDesk.lived();
        x.house.cut(0);
        for (int first = 10; first <= 60; first += 10) {
            x.edition(0, first, "rule due=" + first + ";");
        }
        x.edition(1, 0, "rule due=?");
        x.feed("f");
        return x;
    }

    static void promise15_roomItWouldBeANinth() {
        due("in FORCE", livedWith8Editions().house.inForce(0, 69), 60);
        Sentences.refusesAndReads(SentencesOfTexts::livedWith8Editions, "rule due=1;", "a ninth", ROOM, x -> x.edition(0, 80));
        Desk x = livedWith8Editions();
        x.house.cut(0);
        due("in place of one it is none", x.edition(0, 60, "rule due=1;"), 1);
        due("of another scheme it is none", x.edition(1, 80, "rule due=1;"), 1);
    }

    static void promise15_roomIsAskedAheadOfReading() {
        Sentences.refusesAndReads(SentencesOfTexts::livedWith8Editions, "", "an empty one", ROOM, x -> x.edition(0, 80));
        Sentences.refusesAndReads(SentencesOfTexts::livedWith8Editions, "rule a=1;rule a", "a faulty one", ROOM, x -> x.edition(0, 80));
        Desk x = livedWith8Editions();
        x.house.cut(0);
        due("the FAULT ahead", x.house.fault(), 1);
        due("a good text", x.edition(0, 80, "rule a=1;"), ROOM);
        due("was not read", x.house.fault(), 1);
    }

    static void promise15_unknownOutsideRoomInThatOrder() {
        Desk x = livedWith8Editions();
        due("unknown", x.edition(4, 390, "?"), UNKNOWN);
        due("outside", x.edition(0, 390, "?"), OUTSIDE);
        due("room", x.edition(0, 389, "?"), ROOM);
        due("fault", x.edition(0, 60, "?"), -10);
    }

    static void terms4_everySchemeHas8Editions() {
        Desk x = new Desk();
        for (int scheme = 0; scheme <= 3; scheme++) {
            for (int i = 0; i < 8; i++) {
                due("edition " + i, x.edition(scheme, 389 - i, ""), 0);
            }
            due("a ninth", x.edition(scheme, 0, ""), ROOM);
            due("a ninth behind", x.edition(scheme, 381, ""), ROOM);
        }
    }

    static void promise16_theFaultOfTheTextThatWasReadLatest() {
        Desk x = new Desk();
        due("no text yet", x.house.fault(), 0);
        String[] texts = {"?", ";", "rule a=1;rule a=1;", rules(25), ""};
        int[] want = {1, 2, 3, 4, 0};
        for (int i = 0; i < texts.length; i++) {
            x.edition(0, 0, texts[i]);
            due("edition " + i, x.house.fault(), want[i]);
        }
        for (int i = 0; i < texts.length; i++) {
            x.trial(0, 0, 0, texts[i]);
            due("trial " + i, x.house.fault(), want[i]);
        }
    }

    static void promise16_whatWasRefusedWasNotRead() {
        Desk x = new Desk();
        x.edition(0, 0, "rule a=1;rule a=1;");
        x.edition(4, 0, "");
        x.edition(0, 390, "");
        x.trial(4, 0, 0, "");
        x.trial(0, 390, 0, "");
        x.known(0, "?", 0, 0);
        x.fact("?");
        x.figure("?");
        due("fault", x.house.fault(), 3);
    }

    static void promise17_theOneWithTheGreatestFirstNotAboveTheDay() {
        Desk x = new Desk();
        int[] firsts = {200, 1, 389, 100};
        for (int first : firsts) {
            x.edition(2, first, "");
        }
        int[][] want = {{0, NONE}, {1, 1}, {99, 1}, {100, 100}, {199, 100}, {200, 200}, {388, 200}, {389, 389}};
        for (int[] pair : want) {
            due("day " + pair[0], x.house.inForce(2, pair[0]), pair[1]);
        }
    }

    static void promise17_unknown() {
        for (int scheme : NO_SCHEMES) {
            Sentences.refuses(SentencesOfTheDesk::lived, "scheme " + scheme, UNKNOWN, x -> x.inForce(scheme, 390));
        }
    }

    static void promise17_outside() {
        for (int day : NO_DAYS) {
            Sentences.refuses(SentencesOfTheDesk::lived, "day " + day, OUTSIDE, x -> x.inForce(0, day));
        }
    }

    static void promise17_noneThereIsNone() {
        Desk x = new Desk();
        x.edition(1, 50, "");
        due("before", x.house.inForce(1, 49), NONE);
        due("another scheme", x.house.inForce(0, 389), NONE);
        due("and another", x.house.inForce(2, 389), NONE);
    }
}
