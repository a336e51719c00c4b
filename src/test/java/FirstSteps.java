/** A walk through the whole face. */
public final class FirstSteps {
    public static void main(String[] args) {
        Desk x = new Desk();
        Desk.due("share", x.house.share(40), 50);
        x.whole(700);
        Desk.due("fact", x.fact("pay"), 0);
        Desk.due("edition", x.edition(0, 0, "rule base = pay * 2; rule due = base + 1;"), 2);
        Desk.due("figure", x.figure("due"), 0);
        Desk.due("read", x.house.read(-1), 1401);
        Desk.due("award", x.house.award(0, 0, 0), 0);
        Desk.due("deduct", x.house.deduct(0, 500, 3), 1);
        Desk.due("run", x.house.run(0), 1);
        Desk.due("advance", x.house.advance(6), 1);
        Desk.due("net", x.house.payment(0, 5), 901);
        Desk.due("taken", x.house.taken(0, 0), 500);
        Desk.end();
    }
}
