/** What tests share: a house, a count of wrong answers, and short ways to say common calls. */
final class Desk {
    final PensionHouse house = new PensionHouse();
    static int asked = 0;
    static int wrong = 0;
    /** Put ahead of what is printed. */
    static String sentence = "";

    static void due(String call, long got, long want) {
        asked++;
        if (got != want) {
            wrong++;
            System.out.println(sentence + call + " answered " + got + ", due is " + want);
        }
    }

    static void end() {
        System.out.println(asked + " answers asked, " + wrong + " wrong");
        if (wrong != 0) {
            System.exit(1);
        }
    }

    /** Feeds a text, eight bytes a call. */
    Desk feed(String text) {
        for (int at = 0; at < text.length(); at += 8) {
            int n = Math.min(8, text.length() - at);
            long w = 0;
            for (int i = 0; i < n; i++) {
                w = w << 8 | text.charAt(at + i) & 255;
            }
            if (house.feed(w, n) < 0) {
                throw new IllegalStateException("THE TAPE is full");
            }
        }
        return this;
    }

    int edition(int scheme, int first, String text) {
        feed(text);
        return house.edition(scheme, first);
    }

    int known(int member, String name, int day, int asOf) {
        feed(name);
        return house.known(member, day, asOf);
    }

    int figure(String rule) {
        feed(rule);
        return house.figure(0, 0, 10, house.count(6));
    }

    int figure(int member, int scheme, String rule, int day, int asOf) {
        feed(rule);
        return house.figure(member, scheme, day, asOf);
    }

    int trial(int scheme, int day, int asOf, String text) {
        feed(text);
        return house.trial(scheme, day, asOf);
    }

    void whole(long bits) {
        house.desk(0, 0);
        house.write(PensionHouse.NONE, bits);
    }

    void real(double number) {
        house.desk(1, 0);
        house.write(PensionHouse.NONE, Double.doubleToRawLongBits(number));
    }

    void row(int sort, long... bits) {
        house.desk(sort, bits.length);
        for (int i = 0; i < bits.length; i++) {
            if (sort >= 5) {
                house.seat(i, (int) bits[i]);
            } else {
                house.write(i, bits[i]);
            }
        }
    }

    int fact(int member, String name, int from, int to) {
        feed(name);
        return house.fact(member, from, to);
    }

    int fact(String name) {
        return fact(0, name, 0, 389);
    }

    static long bits(double number) {
        return Double.doubleToLongBits(number);
    }
}
