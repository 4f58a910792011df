import java.util.function.Supplier;

/**
 * The boundary cases of the promises 1 to 21, call by call, as each sentence is quoted: the least and the most that a
 * call takes, what it refuses, and that a call that throws changes nothing.
 */
public final class CallsEdgeTest {
    private static final int[] WHATS_THAT_ARE_NOT = Due.outside(5);

    // The transactions of "everything", by their states.
    private static final int GOES_ON = 0;
    private static final int WAITS = 1;
    private static final int COMMITTED = 2;
    private static final int REFUSED = 3;
    private static final int LOST = 5;

    private CallsEdgeTest() {
    }

    public static void main(String[] args) {
        throwsChangeNothing();
        theOneNamedFirstIsThrown();
        promise1TwoSites();
        promise2OpenTakes2To5();
        promise2AllElseIsAsAtFirst();
        promise3DownOr200();
        promise4Read();
        promise5HowManyObjects();
        promise5TenOthers();
        promise6ByIsOneMoreOrLess();
        promise6TwentyChanges();
        promise7Count();
        promise8StateThen();
        promise9OneThatGoesOn();
        promise10OneThatGoesOn();
        promise10HowManyWereSent();
        promise10ItsSiteIsDown();
        promise11HowManyAreApplied();
        promise11To14NoSuchLetter();
        promise12Kind();
        promise13WhetherThereWasRoom();
        promise14NoSuchLetter();
        promise15ItIsDown();
        promise15AllAreDown();
        promise16ItIsUp();
        promise17WhatEndsAt4();
        promise17SequenceAndSites();
        promise18Vector();
        promise19WhileItIsDown();
        promise20NoneIfNone();
        promise21WhatEndsAt4();
        promise21EachTotal();
        Due.end("CallsEdgeTest");
    }

    /** One of each state at a site that is up, one lost, a kept TELL, a lock, letters; site 2 is down. */
    private static SnapSites everything() {
        SnapSites x = Due.opened(3);
        Due.writer(x, 0, 0);
        Due.committer(x, 0, 3, 1);
        Due.committer(x, 0, 6);
        x.abort(Due.writer(x, 1, 4));
        Due.committer(x, 0, 6);
        Due.writer(x, 2, 2);
        x.crash(2);
        x.deliver(0);
        x.deliver(2);
        return x;
    }

    /** "A call that throws changes nothing": every call, wherever something could be changed. */
    private static void throwsChangeNothing() {
        Supplier<SnapSites> made = CallsEdgeTest::everything;
        Due.due("kept", everything().total(3), 1);
        for (int i : Due.outside(everything().total(1))) {
            Due.argument("deliver(" + i + ")", made, x -> x.deliver(i));
            Due.argument("drop(" + i + ")", made, x -> x.drop(i));
            Due.argument("copy(" + i + ")", made, x -> x.copy(i));
        }
        for (int t : Due.outside(6)) {
            Due.argument("read(" + t + ", 0)", made, x -> x.read(t, 0));
            Due.argument("write(" + t + ", 0, 1)", made, x -> x.write(t, 0, 1));
            Due.argument("change(" + t + ", 0, 0, 1)", made, x -> x.change(t, 0, 0, 1));
            Due.argument("count(" + t + ", 0, 0)", made, x -> x.count(t, 0, 0));
            Due.argument("commit(" + t + ")", made, x -> x.commit(t));
            Due.argument("abort(" + t + ")", made, x -> x.abort(t));
            Due.argument("again(" + t + ")", made, x -> x.again(t));
            Due.argument("about(" + t + ", 0)", made, x -> x.about(t, 0));
        }
        for (int t : new int[] {WAITS, COMMITTED, REFUSED, LOST}) {
            Due.state("read of " + t, made, x -> x.read(t, 0));
            Due.state("write of " + t, made, x -> x.write(t, 0, 1));
            Due.state("change of " + t, made, x -> x.change(t, 0, 0, 1));
            Due.state("count of " + t, made, x -> x.count(t, 0, 0));
            Due.state("commit of " + t, made, x -> x.commit(t));
            Due.state("abort of " + t, made, x -> x.abort(t));
        }
        refusedWritesAreNotSeenLater();
    }

    /** What a transaction has written or changed shows in its TELL alone, so that is what is looked at. */
    private static void refusedWritesAreNotSeenLater() {
        SnapSites x = new SnapSites();
        Due.writer(x, 0, 2);
        x.change(0, 1, 1, 1);
        int thrown = 0;
        for (int wrong = 0; wrong < 5; wrong++) {
            try {
                switch (wrong) {
                    case 0 -> x.write(0, 20, 1);
                    case 1 -> x.write(0, -1, 1);
                    case 2 -> x.change(0, 5, 0, 1);
                    case 3 -> x.change(0, 0, 8, 1);
                    default -> x.change(0, 0, 0, 2);
                }
            } catch (IllegalArgumentException e) {
                thrown++;
            }
        }
        Due.due("all have thrown", thrown, 5);
        x.commit(0);
        Due.due("its TELL has none of them", Due.letter(x, 0),
                Due.checked(5, 0, 1, 0, 0, 0, 0, 0, 0, 0, 1, 1, 2, 0, 0, 0, 2, 1, 9, 1));
    }

    private static SnapSites twoHundred() {
        SnapSites x = new SnapSites();
        for (int i = 0; i < 200; i++) {
            x.begin(0);
        }
        x.crash(1);
        return x;
    }

    private static SnapSites tenAndTwenty() {
        SnapSites x = new SnapSites();
        Due.writer(x, 0, 0, 1, 2, 3, 4, 5, 6, 7, 8, 9);
        for (int i = 0; i < 20; i++) {
            x.change(0, 0, 0, 1);
        }
        return x;
    }

    /** "of several exceptions that fit the one named first is thrown". */
    private static void theOneNamedFirstIsThrown() {
        Due.argument("begin: no site, and 200", CallsEdgeTest::twoHundred, x -> x.begin(2));
        Due.argument("write: no object, and 10", CallsEdgeTest::tenAndTwenty, x -> x.write(0, 20, 1));
        Due.argument("change: no set, and 20", CallsEdgeTest::tenAndTwenty, x -> x.change(0, 5, 0, 1));
        Due.argument("change: no element, and 20", CallsEdgeTest::tenAndTwenty, x -> x.change(0, 0, 8, 1));
        Due.argument("change: by 0, and 20", CallsEdgeTest::tenAndTwenty, x -> x.change(0, 0, 0, 0));
        Supplier<SnapSites> made = CallsEdgeTest::everything;
        for (int t : new int[] {WAITS, COMMITTED, REFUSED, LOST}) {
            Due.argument("read: no object, of " + t, made, x -> x.read(t, 20));
            Due.argument("write: no object, of " + t, made, x -> x.write(t, -1, 1));
            Due.argument("change: no set, of " + t, made, x -> x.change(t, -1, 0, 1));
            Due.argument("change: no element, of " + t, made, x -> x.change(t, 0, -1, 1));
            Due.argument("change: by 3, of " + t, made, x -> x.change(t, 0, 0, 3));
            Due.argument("count: no set, of " + t, made, x -> x.count(t, 5, 0));
            Due.argument("count: no element, of " + t, made, x -> x.count(t, 0, 8));
        }
    }

    /** "Two sites, both up, nothing stored." */
    private static void promise1TwoSites() {
        SnapSites x = new SnapSites();
        Due.due("1: up", x.total(4), 2);
        Due.due("1: transactions, letters, sent, kept", x.total(0) + x.total(1) + x.total(2) + x.total(3), 0);
        Due.argument("1: no site 2", SnapSites::new, y -> y.crash(2));
        Due.state("1: site 0 is up", SnapSites::new, y -> y.restart(0));
        Due.state("1: site 1 is up", SnapSites::new, y -> y.restart(1));
        Due.argument("1: no transaction", SnapSites::new, y -> y.about(0, 0));
        Due.argument("1: no letter", SnapSites::new, y -> y.drop(0));
        Due.due("1: object 1 has its home at 1", x.commit(Due.writer(x, 1, 1)), 2);
    }

    /** "IllegalArgumentException: not 2 .. 5." */
    private static void promise2OpenTakes2To5() {
        for (int sites = 2; sites <= 5; sites++) {
            SnapSites x = everything();
            x.open(sites);
            Due.due("2: so many sites, all up", x.total(4), sites);
        }
        for (int sites : new int[] {1, 6, 0, -2, -5, 7, 258, Integer.MIN_VALUE, Integer.MAX_VALUE}) {
            Due.argument("2: open(" + sites + ")", CallsEdgeTest::everything, x -> x.open(sites));
        }
    }

    /** "So many sites, all up; all else is as at first." */
    private static void promise2AllElseIsAsAtFirst() {
        for (int sites = 2; sites <= 5; sites++) {
            SnapSites x = everything();
            x.crash(0);
            x.open(sites);
            Due.due("2: among " + sites, Due.seen(x), Due.seen(Due.opened(sites)));
            Due.argument("2: no site " + sites, openedAfterUse(sites), y -> y.begin(y.total(4)));
            Due.argument("2: no transaction", openedAfterUse(sites), y -> y.about(0, 0));
            Due.argument("2: no letter", openedAfterUse(sites), y -> y.byteOf(0, 0));
        }
        SnapSites full = Due.fullRow();
        full.open(5);
        Due.committer(full, 0, 0);
        Due.due("2: a full row is empty", Due.letters(full), "5:0>1#0 5:0>2#0 5:0>3#0 5:0>4#0");
        SnapSites many = twoHundred();
        many.open(2);
        Due.due("2: room for transactions", many.begin(1), 0);
        SnapSites ten = tenAndTwenty();
        ten.open(2);
        ten.begin(0);
        Due.due("2: room for objects", ten.write(0, 19, 1), 1);
        Due.due("2: room for changes", ten.change(0, 0, 0, 1), 1);
        Due.due("2: nothing is counted", ten.count(0, 0, 0), 1);
    }

    private static Supplier<SnapSites> openedAfterUse(int sites) {
        return () -> {
            SnapSites x = everything();
            x.open(sites);
            return x;
        };
    }

    /** "IllegalStateException: the site is down, or there are 200." */
    private static void promise3DownOr200() {
        SnapSites x = new SnapSites();
        for (int i = 0; i < 199; i++) {
            x.begin(0);
        }
        Due.due("3: the 200th", x.begin(1), 199);
        Due.due("3: it goes on", x.about(199, 0) * 10 + x.about(199, 1), 1);
        Due.state("3: there are 200", CallsEdgeTest::twoHundred, y -> y.begin(0));
        Due.state("3: there are 200, and it is down", CallsEdgeTest::twoHundred, y -> y.begin(1));
        Due.state("3: it is down", CallsEdgeTest::everything, y -> y.begin(2));
        SnapSites ended = new SnapSites();
        for (int i = 0; i < 200; i++) {
            ended.abort(ended.begin(0));
        }
        try {
            ended.begin(0);
            Due.fail("3: there are 200, though all have ended");
        } catch (IllegalStateException e) {
            Due.due("3: 200", ended.total(0), 200);
        }
        SnapSites up = everything();
        up.restart(2);
        Due.due("3: up again", up.begin(2), 6);
    }

    /** "READING. .. IllegalStateException: it does not go on." */
    private static void promise4Read() {
        SnapSites x = everything();
        Due.due("4: it goes on", x.read(GOES_ON, 0), 0);
        Due.due("4: the last object", x.read(GOES_ON, 19), 0);
        for (int t : new int[] {WAITS, COMMITTED, REFUSED, LOST}) {
            Due.state("4: what it wrote, of " + t, CallsEdgeTest::everything, y -> y.read(t, t == WAITS ? 3 : 6));
        }
    }

    /** "It writes a number to an object (the last one counts): how many objects it has." */
    private static void promise5HowManyObjects() {
        SnapSites x = new SnapSites();
        int t = x.begin(0);
        int other = x.begin(0);
        Due.due("5: the first", x.write(t, 0, 5), 1);
        Due.due("5: the same", x.write(t, 0, 6), 1);
        Due.due("5: the last object", x.write(t, 19, 5), 2);
        Due.due("5: the first once more", x.write(t, 0, 0), 2);
        Due.due("5: the last one counts", x.read(t, 0), 0);
        Due.due("5: another transaction's first", x.write(other, 7, 1), 1);
    }

    /** "IllegalStateException: .. or it has 10 others." */
    private static void promise5TenOthers() {
        SnapSites x = tenAndTwenty();
        for (int object = 0; object < 10; object++) {
            Due.due("5: one of its ten", x.write(0, object, -object), 10);
        }
        for (int object : new int[] {10, 19}) {
            Due.state("5: ten others than " + object, CallsEdgeTest::tenAndTwenty, y -> y.write(0, object, 1));
        }
        SnapSites nine = new SnapSites();
        Due.writer(nine, 0, 0, 1, 2, 3, 4, 5, 6, 7, 8);
        Due.due("5: the tenth", nine.write(0, 19, 1), 10);
        Due.due("5: changes do not count", tenAndTwenty().write(0, 9, 1), 10);
    }

    /** "IllegalArgumentException: also if by is not 1 or -1". */
    private static void promise6ByIsOneMoreOrLess() {
        SnapSites x = new SnapSites();
        int t = x.begin(0);
        Due.due("6: one more", x.change(t, 0, 0, 1), 1);
        Due.due("6: one less", x.change(t, 0, 0, -1), 2);
        Due.due("6: both", x.count(t, 0, 0), 0);
        for (int by : new int[] {0, 2, -2, 3, -3, 255, 257, -255, Integer.MIN_VALUE, Integer.MAX_VALUE}) {
            Due.argument("6: by " + by, CallsEdgeTest::everything, y -> y.change(GOES_ON, 0, 0, by));
        }
    }

    /** "how many changes it has. .. IllegalStateException: .. or it has 20." */
    private static void promise6TwentyChanges() {
        SnapSites x = new SnapSites();
        int t = x.begin(0);
        for (int i = 1; i <= 20; i++) {
            Due.due("6: change " + i, x.change(t, i % 5, i % 8, i % 2 == 0 ? 1 : -1), i);
        }
        Due.state("6: more of an element it has", CallsEdgeTest::tenAndTwenty, y -> y.change(0, 0, 0, 1));
        Due.state("6: less of it", CallsEdgeTest::tenAndTwenty, y -> y.change(0, 0, 0, -1));
        Due.state("6: of another", CallsEdgeTest::tenAndTwenty, y -> y.change(0, 4, 7, 1));
        Due.due("6: another transaction", x.change(x.begin(0), 4, 7, 1), 1);
        Due.due("6: 20 are counted", tenAndTwenty().count(0, 0, 0), 20);
    }

    /** "COUNTING. .. IllegalStateException: it does not go on." */
    private static void promise7Count() {
        SnapSites x = new SnapSites();
        for (int i = 0; i < 5; i++) {
            int t = x.begin(0);
            for (int k = 0; k < 20; k++) {
                x.change(t, 4, 7, -1);
            }
            x.commit(t);
        }
        Due.due("7: below 0", x.count(x.begin(0), 4, 7), -100);
        Due.due("7: nothing at the other", x.count(x.begin(1), 4, 7), 0);
        for (int t : new int[] {WAITS, COMMITTED, REFUSED, LOST}) {
            Due.state("7: of " + t, CallsEdgeTest::everything, y -> y.count(t, 4, 7));
        }
    }

    /** "COMMITTING: its state then. .. IllegalStateException: it does not go on." */
    private static void promise8StateThen() {
        SnapSites x = new SnapSites();
        int late = Due.writer(x, 0, 0);
        Due.due("8: committed", x.commit(Due.writer(x, 0, 0)), 2);
        Due.due("8: waits", x.commit(Due.writer(x, 0, 1)), 1);
        Due.due("8: refused", x.commit(late), 3);
        for (int t : new int[] {WAITS, COMMITTED, REFUSED, LOST}) {
            Due.state("8: of " + t, CallsEdgeTest::everything, y -> y.commit(t));
        }
    }

    /** "One that goes on is REFUSED. .. IllegalStateException: it does not go on." */
    private static void promise9OneThatGoesOn() {
        SnapSites x = tenAndTwenty();
        x.abort(0);
        Due.due("9: refused", Due.abouts(x, 0), "3 0 0 0 0");
        Due.due("9: no letter", x.total(2), 0);
        for (int object = 0; object < 10; object++) {
            Due.due("9: no value, no lock", x.value(0, object) + x.locked(0, object), SnapSites.NONE);
        }
        Due.due("9: nothing counted", x.count(x.begin(0), 0, 0), 0);
        for (int t : new int[] {WAITS, COMMITTED, REFUSED, LOST}) {
            Due.state("9: of " + t, CallsEdgeTest::everything, y -> y.abort(t));
        }
    }

    /** "Its letters are sent again": one that goes on, or never waited, has none. */
    private static void promise10OneThatGoesOn() {
        SnapSites x = everything();
        int sent = x.total(2);
        Due.due("10: it goes on", x.again(GOES_ON), 0);
        Due.due("10: refused without waiting", x.again(REFUSED), 0);
        x.restart(2);
        Due.due("10: lost without waiting", x.again(LOST), 0);
        Due.due("10: none was sent", x.total(2), sent);
    }

    /** "ASKs to the homes that have not said YES; .. TELLs .. where it is not applied; .. FREEs ..: how many". */
    private static void promise10HowManyWereSent() {
        SnapSites x = Due.opened(5);
        int t = Due.committer(x, 4, 0, 1, 2, 3);
        for (int yes = 0; yes < 4; yes++) {
            Due.due("10: ASKs after " + yes + " YES", x.again(t), 4 - yes);
            deliverOne(x, 1, yes);
            x.deliver(x.total(1) - 1);
        }
        for (int applied = 1; applied < 5; applied++) {
            Due.due("10: TELLs when applied at " + applied, x.again(t), 5 - applied);
            deliverOne(x, 5, applied - 1);
        }
        Due.due("10: applied at all", x.again(t), 0);
        int lost = Due.committer(x, 4, 0, 1, 2, 3, 4);
        x.crash(4);
        x.restart(4);
        Due.due("10: FREEs", x.again(lost), 4);
        deliverOne(x, 4, 0);
        Due.due("10: FREEs to all, though one came", x.again(lost), 4);
    }

    private static void deliverOne(SnapSites x, int kind, int to) {
        for (int i = 0; i < x.total(1); i++) {
            if (x.byteOf(i, 0) == kind && x.byteOf(i, 2) == to) {
                x.deliver(i);
                return;
            }
        }
    }

    private static SnapSites allDown() {
        SnapSites x = everything();
        x.crash(0);
        x.crash(1);
        return x;
    }

    /** "IllegalStateException: its site is down." */
    private static void promise10ItsSiteIsDown() {
        for (int t = 0; t < 6; t++) {
            int number = t;
            Due.state("10: again(" + t + ")", CallsEdgeTest::allDown, x -> x.again(number));
        }
        SnapSites x = everything();
        x.crash(1);
        Due.due("10: another site is down", x.again(WAITS), 1);
    }

    /** "how many transactions are applied by that, at any site." */
    private static void promise11HowManyAreApplied() {
        SnapSites x = new SnapSites();
        for (int i = 0; i < 3; i++) {
            x.commit(x.begin(0));
        }
        int t = Due.committer(x, 1, 0);
        Due.due("11: one", x.deliver(0), 1);
        Due.due("11: none, it is kept", x.deliver(1), 0);
        Due.due("11: two", x.deliver(0), 2);
        Due.due("11: an ASK", x.deliver(0), 0);
        Due.due("11: a YES that commits", x.deliver(0), 1);
        Due.due("11: its TELL", x.deliver(0), 1);
        Due.due("11: both", x.about(t, 3), 2);
    }

    /** "IllegalArgumentException: there is no such .. letter". */
    private static void promise11To14NoSuchLetter() {
        SnapSites x = Due.fullRow();
        Due.due("11: the last of 300", x.deliver(299), 1);
        Due.due("12: the last of 299", x.drop(298), 5);
        Due.due("13: the last of 298", x.copy(297), true);
        Due.due("14: the last of 299", x.byteOf(298, 0), 5);
        for (int i : Due.outside(300)) {
            Due.argument("11: deliver(" + i + ") of 300", Due::fullRow, y -> y.deliver(i));
            Due.argument("12: drop(" + i + ") of 300", Due::fullRow, y -> y.drop(i));
            Due.argument("13: copy(" + i + ") of 300", Due::fullRow, y -> y.copy(i));
            Due.argument("14: byteOf(" + i + ", 0) of 300", Due::fullRow, y -> y.byteOf(i, 0));
        }
        for (int i : Due.outside(0)) {
            Due.argument("11: deliver(" + i + ") of none", SnapSites::new, y -> y.deliver(i));
            Due.argument("12: drop(" + i + ") of none", SnapSites::new, y -> y.drop(i));
            Due.argument("13: copy(" + i + ") of none", SnapSites::new, y -> y.copy(i));
            Due.argument("14: byteOf(" + i + ", 0) of none", SnapSites::new, y -> y.byteOf(i, 0));
        }
    }

    /** "Letter i is lost: its kind." The first, the last, and one between; the others keep their order. */
    private static void promise12Kind() {
        SnapSites x = Due.opened(5);
        Due.committer(x, 0, 0);
        Due.committer(x, 0, 1);
        Due.due("12: the last, an ASK", x.drop(4), 1);
        Due.due("12: the first, a TELL", x.drop(0), 5);
        Due.due("12: one between", x.drop(1), 5);
        Due.due("12: the others", Due.letters(x), "5:0>2#0 5:0>4#0");
        Due.due("12: what was sent", x.total(2), 5);
        Due.due("12: nothing is applied", x.about(0, 3), 1);
    }

    /** "Letter i once more, behind all others: whether there was room." */
    private static void promise13WhetherThereWasRoom() {
        SnapSites x = Due.fullRow();
        x.drop(299);
        x.drop(298);
        Due.due("13: the 299th", x.copy(297), true);
        Due.due("13: the 300th", x.copy(1), true);
        Due.due("13: behind all others", x.byteOf(299, 2), 2);
        Due.due("13: no room", x.copy(0), false);
        Due.due("13: nothing is changed", x.byteOf(299, 2) * 1000 + x.total(1), 2300);
        Due.due("13: copies are not sent", x.total(2), 300);
    }

    /** "IllegalArgumentException: there is no such letter.": k alone is never wrong. */
    private static void promise14NoSuchLetter() {
        SnapSites x = new SnapSites();
        Due.committer(x, 0, 0);
        for (int k : new int[] {-1, Integer.MIN_VALUE, Integer.MAX_VALUE}) {
            Due.due("14: byte " + k, x.byteOf(0, k), SnapSites.NONE);
            Due.argument("14: no letter, and byte " + k, SnapSites::new, y -> y.byteOf(0, k));
        }
    }

    /** "A site crashes. .. IllegalStateException: it is down." */
    private static void promise15ItIsDown() {
        Due.state("15: it is down", CallsEdgeTest::everything, x -> x.crash(2));
        for (int site = 0; site < 3; site++) {
            int number = site;
            Due.state("15: all are down", CallsEdgeTest::allDown, x -> x.crash(number));
        }
        SnapSites x = everything();
        x.restart(2);
        x.crash(2);
        Due.due("15: down again", x.total(4), 2);
    }

    /** The same till none is up: nothing goes on, what can be asked is answered. */
    private static void promise15AllAreDown() {
        SnapSites x = allDown();
        Due.due("15: none is up", x.total(4), 0);
        Due.due("15: all that went on or waited are lost", x.about(GOES_ON, 0) + x.about(WAITS, 0), 8);
        Due.due("15: no TELL is kept", x.total(3), 0);
        while (x.total(1) > 0) {
            Due.due("15: every letter is lost", x.deliver(0), 0);
        }
        for (int site = 0; site < 3; site++) {
            int number = site;
            Due.state("15: begin at a site that is down", CallsEdgeTest::allDown, y -> y.begin(number));
            x.restart(site);
        }
        Due.due("15: all are up", x.total(4), 3);
    }

    /** "It is up again. .. IllegalStateException: it is up." */
    private static void promise16ItIsUp() {
        Due.state("16: it is up", CallsEdgeTest::everything, x -> x.restart(0));
        Due.state("16: it is up too", CallsEdgeTest::everything, x -> x.restart(1));
        Due.state("16: it is up again", () -> {
            SnapSites x = everything();
            x.restart(2);
            return x;
        }, x -> x.restart(2));
    }

    /** "Of a transaction: its state (what = 0 ..) .. how many homes have said YES (4)." */
    private static void promise17WhatEndsAt4() {
        for (int what : WHATS_THAT_ARE_NOT) {
            Due.argument("17: about(0, " + what + ")", CallsEdgeTest::everything, x -> x.about(0, what));
        }
        SnapSites x = everything();
        Due.due("17: it goes on", Due.abouts(x, GOES_ON), "0 0 0 0 0");
        Due.due("17: waits", Due.abouts(x, WAITS), "1 0 0 0 0");
        Due.due("17: committed", Due.abouts(x, COMMITTED), "2 0 1 1 0");
        Due.due("17: refused", Due.abouts(x, REFUSED), "3 1 0 0 0");
        Due.due("17: lost", Due.abouts(x, LOST), "4 2 0 0 0");
    }

    /** "sequence (2; 0 before it has one), at how many sites it is applied (3)". */
    private static void promise17SequenceAndSites() {
        SnapSites x = Due.opened(5);
        int t = x.begin(3);
        Due.due("17: 0 before it has one", x.about(t, 2), 0);
        Due.due("17: applied nowhere", x.about(t, 3), 0);
        x.commit(t);
        Due.due("17: its first", x.about(t, 2), 1);
        for (int sites = 1; sites < 5; sites++) {
            Due.due("17: applied at so many", x.about(t, 3), sites);
            x.deliver(0);
        }
        Due.due("17: applied at all", x.about(t, 3), 5);
    }

    /** "A site's vector for another one.": and for itself. */
    private static void promise18Vector() {
        SnapSites x = Due.opened(5);
        for (int site = 0; site < 5; site++) {
            for (int i = 0; i <= site; i++) {
                x.commit(x.begin(site));
            }
        }
        for (int site = 0; site < 5; site++) {
            for (int of = 0; of < 5; of++) {
                Due.due("18: at " + site + " of " + of, x.vector(site, of), site == of ? of + 1 : 0);
            }
        }
        x.crash(4);
        Due.due("18: while it is down", x.vector(4, 4), 5);
    }

    /** "What one that began at a site now would read of an object (also while it is down)." */
    private static void promise19WhileItIsDown() {
        SnapSites x = new SnapSites();
        x.begin(1);
        int t = Due.committer(x, 0, 0);
        x.crash(0);
        Due.due("19: while it is down", x.value(0, 0), 100 * t);
        Due.due("19: not told yet", x.value(1, 0), 0);
        x.deliver(0);
        x.crash(1);
        Due.due("19: while both are down", x.value(1, 0), 100 * t);
        Due.due("19: nothing written", x.value(1, 19), 0);
        Due.due("19: nothing begins by that", x.total(0), 2);
    }

    /** "Which transaction has locked an object at a site; NONE if none." */
    private static void promise20NoneIfNone() {
        SnapSites x = new SnapSites();
        int t = Due.committer(x, 1, 1, 0);
        Due.due("20: transaction 0 is no NONE", x.locked(1, 1), t);
        for (int object = 0; object < 20; object++) {
            Due.due("20: at 0", x.locked(0, object), SnapSites.NONE);
            Due.due("20: at 1", x.locked(1, object), object == 1 ? 0 : SnapSites.NONE);
        }
        Due.due("20: NONE", SnapSites.NONE, -1);
    }

    /** "Transactions (what = 0) .. sites that are up (4). IllegalArgumentException." */
    private static void promise21WhatEndsAt4() {
        for (int what : WHATS_THAT_ARE_NOT) {
            Due.argument("21: total(" + what + ")", CallsEdgeTest::everything, x -> x.total(what));
        }
    }

    /** "letters sent in all, those lost for want of room too (2; copies are not sent), TELLs kept .. (3)". */
    private static void promise21EachTotal() {
        SnapSites x = Due.fullRow();
        x.again(0);
        x.copy(0);
        Due.due("21: transactions", x.total(0), 1);
        Due.due("21: letters", x.total(1), 300);
        Due.due("21: sent in all", x.total(2), 304);
        Due.due("21: kept", x.total(3), 0);
        Due.due("21: up", x.total(4), 5);
        SnapSites y = Due.opened(5);
        y.commit(y.begin(0));
        y.commit(y.begin(0));
        for (int kept = 1; kept <= 4; kept++) {
            y.deliver(4);
            Due.due("21: kept at so many sites", y.total(3), kept);
        }
        for (int kept = 3; kept >= 0; kept--) {
            Due.due("21: both are applied", y.deliver(0), 2);
            Due.due("21: kept at one less", y.total(3), kept);
        }
        SnapSites z = new SnapSites();
        int first = z.begin(0);
        z.commit(z.begin(0));
        z.commit(first);
        z.deliver(1);
        Due.due("21: transaction 0, committed as the second, is kept", z.total(3), 1);
    }
}
