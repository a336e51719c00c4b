import java.lang.reflect.Method;
import java.lang.reflect.Modifier;
import java.util.ArrayList;
import java.util.List;
import java.util.function.Supplier;
import java.util.function.ToLongFunction;

/**
 * Runs tests that are one method each, named after the promise (or the section of "Terms") whose
 * sentence it asks, and compares an object that refused a call with a twin that never had it.
 */
final class Sentences {
    static final int UNKNOWN = -2;

    private Sentences() {
    }

    /** Every method of the class named promise.. or terms.., with its name ahead of what it prints. */
    static void run(Class<?> tests) throws Exception {
        List<Method> found = new ArrayList<>();
        for (Method method : tests.getDeclaredMethods()) {
            boolean isTest = method.getName().startsWith("promise") || method.getName().startsWith("terms");
            if (isTest && Modifier.isStatic(method.getModifiers()) && method.getParameterCount() == 0) {
                found.add(method);
            }
        }
        found.sort((a, b) -> a.getName().compareTo(b.getName()));
        for (Method method : found) {
            Desk.sentence = method.getName() + ": ";
            int before = Desk.asked;
            method.invoke(null);
            Desk.due("asks something", Desk.asked > before ? 1 : 0, 1);
        }
        System.out.print(found.size() + " sentences, ");
        Desk.end();
    }

    /** A call that is refused and does not read THE TAPE: all is as it was. */
    static void refuses(Supplier<Desk> make, String what, int want, ToLongFunction<PensionHouse> call) {
        compare(make.get(), make.get(), what, want, call);
    }

    /** A call that is refused and reads THE TAPE: it is used up, all else is as it was. */
    static void refusesAndReads(Supplier<Desk> make, String tape, String what, int want, ToLongFunction<PensionHouse> call) {
        Desk x = make.get();
        x.house.cut(0);
        x.feed(tape);
        Desk twin = make.get();
        twin.house.cut(0);
        compare(x, twin, what, want, call);
    }

    private static void compare(Desk x, Desk twin, String what, int want, ToLongFunction<PensionHouse> call) {
        Desk.due(what, call.applyAsLong(x.house), want);
        String got = look(x);
        String due = look(twin);
        int at = 0;
        while (at < got.length() && at < due.length() && got.charAt(at) == due.charAt(at)) {
            at++;
        }
        if (!got.equals(due)) {
            System.out.println(got.substring(Math.max(0, at - 60), Math.min(got.length(), at + 30)));
        }
        Desk.due(what + ": all is as it was", got.equals(due) ? 1 : 0, 1);
    }

    /** All that an object tells, in some 400 calls; it changes the object. */
    static String look(Desk x) {
        PensionHouse house = x.house;
        StringBuilder b = new StringBuilder();
        for (int what = 0; what <= 6; what++) {
            tell(b, "count" + what, house.count(what));
        }
        lookAtDesk(b, house);
        // what is left of THE TAPE: of the houses here it is a NAME of a FACT, or nothing
        tell(b, "tape", house.known(0, 10, house.count(6)));
        lookAtDesk(b, house);
        tell(b, "fault", house.fault());
        for (int what = 0; what <= 4; what++) {
            tell(b, "told" + what, house.told(what));
        }
        for (int k = 0; k < house.told(2); k++) {
            tell(b, "step" + k, house.step(k));
            lookAtDesk(b, house);
        }
        for (int scheme = 0; scheme <= 3; scheme++) {
            for (int day = 0; day <= 80; day += 10) {
                tell(b, "inForce" + scheme + "," + day, house.inForce(scheme, day));
            }
        }
        lookAtFacts(b, x);
        lookAtAwards(b, house);
        return b.toString();
    }

    private static void tell(StringBuilder b, String call, long got) {
        b.append(call).append(' ').append(got).append('\n');
    }

    private static void lookAtDesk(StringBuilder b, PensionHouse house) {
        tell(b, "sort", house.sort());
        tell(b, "length", house.length());
        for (int i = -1; i < house.length(); i++) {
            tell(b, "read" + i, house.read(i));
        }
    }

    private static void lookAtFacts(StringBuilder b, Desk x) {
        int now = x.house.count(6);
        for (String name : "f g nope".split(" ")) {
            for (int member = 0; member <= 9; member += 3) {
                x.feed(name);
                tell(b, name + member, x.house.known(member, 10, now));
                tell(b, "value", x.house.read(-1));
            }
        }
        for (int scheme = 0; scheme <= 1; scheme++) {
            x.feed("due");
            tell(b, "figure" + scheme, x.house.figure(0, scheme, 75, now));
            tell(b, "figure", x.house.read(-1));
        }
    }

    private static void lookAtAwards(StringBuilder b, PensionHouse house) {
        tell(b, "share", house.share(50));
        for (int k = 0; k < 3; k++) {
            for (int what = 0; what <= 7; what++) {
                tell(b, "payment" + k + "," + what, house.payment(k, what));
            }
            for (int i = 0; i <= 5; i++) {
                tell(b, "taken" + k + "," + i, house.taken(k, i));
            }
        }
        tell(b, "advance", house.advance(6));
        for (int award = 0; award <= 5; award++) {
            tell(b, "due" + award, house.due(award, 2, house.count(6)));
            tell(b, "balance" + award, house.balance(award, 12));
        }
        tell(b, "run", house.run(house.count(6) / 30));
        tell(b, "advance", house.advance(6));
        for (int k = house.count(3) - 2; k < house.count(3); k++) {
            for (int what = 0; what <= 7; what++) {
                tell(b, "payment" + k + "," + what, house.payment(k, what));
            }
            for (int i = 0; i <= 5; i++) {
                tell(b, "taken" + k + "," + i, house.taken(k, i));
            }
        }
        tell(b, "deductions", house.count(2) > 0 ? house.deduct(0, 1, 0) : UNKNOWN);
        tell(b, "person", house.person(true, 0));
    }
}
