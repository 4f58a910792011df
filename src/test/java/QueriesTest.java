/** Promises 17 to 21: about, vector, value, locked, total. */
public final class QueriesTest {
    private QueriesTest() {
    }

    public static void main(String[] args) {
        promise17About();
        promise17Wrong();
        promise18Vector();
        promise19Value();
        promise20Locked();
        promise21Total();
        Due.end("QueriesTest");
    }

    private static SnapSites some() {
        SnapSites x = Due.opened(3);
        Due.committer(x, 0, 0);
        Due.committer(x, 1, 1, 2);
        x.deliver(0);
        return x;
    }

    private static void promise17About() {
        SnapSites x = Due.opened(4);
        int t = Due.writer(x, 3, 0, 1, 2, 3);
        Due.due("17: it goes on", Due.abouts(x, t), "0 3 0 0 0");
        x.commit(t);
        Due.due("17: it waits", Due.abouts(x, t), "1 3 0 0 0");
        x.deliver(0);
        x.deliver(2);
        Due.due("17: one YES", Due.abouts(x, t), "1 3 0 0 1");
        for (int i = 0; i < 4; i++) {
            x.deliver(0);
        }
        Due.due("17: committed", Due.abouts(x, t), "2 3 1 1 3");
        x.deliver(1);
        Due.due("17: applied at two", Due.abouts(x, t), "2 3 1 2 3");
        Due.deliverAll(x);
        Due.due("17: applied at all", Due.abouts(x, t), "2 3 1 4 3");
        Due.due("17: the next sequence", x.about(Due.committer(x, 3, 3), 2), 2);
        int refused = x.begin(2);
        x.abort(refused);
        Due.due("17: refused", Due.abouts(x, refused), "3 2 0 0 0");
        Due.deliverAll(x);
        int lost = Due.committer(x, 1, 2, 3);
        x.deliver(0);
        x.deliver(1);
        x.crash(1);
        Due.due("17: lost, though one has said YES", Due.abouts(x, lost), "4 1 0 0 1");
    }

    private static void promise17Wrong() {
        Due.argument("17: no transaction -1", QueriesTest::some, x -> x.about(-1, 0));
        Due.argument("17: no transaction 2", QueriesTest::some, x -> x.about(2, 0));
        Due.argument("17: what -1", QueriesTest::some, x -> x.about(0, -1));
        Due.argument("17: what 5", QueriesTest::some, x -> x.about(0, 5));
    }

    private static void promise18Vector() {
        SnapSites x = Due.opened(3);
        Due.committer(x, 0, 0);
        Due.committer(x, 0, 0);
        Due.committer(x, 2, 2);
        x.deliver(0);
        Due.due("18: at 0 of 0", x.vector(0, 0), 2);
        Due.due("18: at 0 of 2", x.vector(0, 2), 0);
        Due.due("18: at 1 of 0", x.vector(1, 0), 1);
        Due.due("18: at 2 of 2", x.vector(2, 2), 1);
        Due.due("18: at 2 of 0", x.vector(2, 0), 0);
        x.crash(0);
        Due.due("18: while it is down", x.vector(0, 0), 2);
        Due.argument("18: no site -1", QueriesTest::some, y -> y.vector(-1, 0));
        Due.argument("18: no site 3", QueriesTest::some, y -> y.vector(3, 0));
        Due.argument("18: of no site -1", QueriesTest::some, y -> y.vector(0, -1));
        Due.argument("18: of no site 3", QueriesTest::some, y -> y.vector(0, 3));
    }

    private static void promise19Value() {
        SnapSites x = new SnapSites();
        int going = Due.writer(x, 0, 0);
        Due.due("19: of one that goes on", x.value(0, 0), 0);
        x.abort(going);
        Due.due("19: of a refused one", x.value(0, 0), 0);
        Due.committer(x, 0, 0);
        Due.due("19: at its site", x.value(0, 0), 100);
        Due.due("19: at the other", x.value(1, 0), 0);
        Due.committer(x, 0, 0, 2);
        Due.due("19: the latest", x.value(0, 0), 200);
        Due.due("19: another object", x.value(0, 2), 202);
        x.deliver(0);
        Due.due("19: the first at the other", x.value(1, 0), 100);
        x.crash(1);
        Due.due("19: while it is down", x.value(1, 0), 100);
        x.crash(0);
        Due.due("19: while it is down too", x.value(0, 0), 200);
        Due.argument("19: no site -1", QueriesTest::some, y -> y.value(-1, 0));
        Due.argument("19: no site 3", QueriesTest::some, y -> y.value(3, 0));
        Due.argument("19: no object -1", QueriesTest::some, y -> y.value(0, -1));
        Due.argument("19: no object 20", QueriesTest::some, y -> y.value(0, 20));
    }

    private static void promise20Locked() {
        SnapSites x = Due.opened(3);
        x.begin(0);
        int t = Due.committer(x, 1, 1, 2);
        Due.due("20: by it", x.locked(1, 1), t);
        Due.due("20: not at another site", x.locked(0, 1), SnapSites.NONE);
        Due.due("20: not yet", x.locked(2, 2), SnapSites.NONE);
        x.deliver(0);
        Due.due("20: at the home", x.locked(2, 2), t);
        x.crash(2);
        Due.due("20: while it is down", x.locked(2, 2), t);
        Due.argument("20: no site -1", QueriesTest::some, y -> y.locked(-1, 0));
        Due.argument("20: no site 3", QueriesTest::some, y -> y.locked(3, 0));
        Due.argument("20: no object -1", QueriesTest::some, y -> y.locked(0, -1));
        Due.argument("20: no object 20", QueriesTest::some, y -> y.locked(0, 20));
    }

    private static String totals(SnapSites x) {
        StringBuilder text = new StringBuilder();
        for (int what = 0; what < 5; what++) {
            text.append(what == 0 ? "" : " ").append(x.total(what));
        }
        return text.toString();
    }

    private static void promise21Total() {
        SnapSites x = Due.opened(3);
        Due.due("21: at first", totals(x), "0 0 0 0 3");
        Due.committer(x, 0, 0);
        Due.due("21: two TELLs", totals(x), "1 2 2 0 3");
        Due.committer(x, 0, 0);
        x.begin(1);
        Due.due("21: four TELLs", totals(x), "3 4 4 0 3");
        x.deliver(3);
        x.deliver(2);
        Due.due("21: two are kept", totals(x), "3 2 4 2 3");
        x.copy(0);
        Due.due("21: a copy is not sent", totals(x), "3 3 4 2 3");
        x.deliver(0);
        Due.due("21: one is kept", totals(x), "3 2 4 1 3");
        x.drop(1);
        x.crash(1);
        Due.due("21: one is down", totals(x), "3 1 4 1 2");
        x.crash(2);
        Due.due("21: what was kept there is gone", totals(x), "3 1 4 0 1");
        x.restart(2);
        x.restart(1);
        Due.due("21: all up", totals(x), "3 1 4 0 3");
        for (int what : new int[] {-1, 5, Integer.MIN_VALUE, Integer.MAX_VALUE}) {
            Due.argument("21: total(" + what + ")", QueriesTest::some, y -> y.total(what));
        }
    }
}
