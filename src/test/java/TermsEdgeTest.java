/**
 * The boundary cases of the document's "Terms", a test for each sentence, as it is quoted above it: sites, objects,
 * sets, transactions, what is seen, committing, crashes. Letters and bytes have LettersEdgeTest.
 */
public final class TermsEdgeTest {
    private TermsEdgeTest() {
    }

    public static void main(String[] args) {
        usedFor512Calls();
        sitesEndAtN();
        objectsEndAt19();
        objectsAreNumbers();
        homeIsModuloN();
        setsAndElementsEnd();
        everyElementHasACountOfItsOwn();
        transactionsAreNumberedAsTheyBegan();
        sequencesBeginAt1();
        sequencesGoTo200();
        startIsTheVectorWhenItBegan();
        seesAtMostItsStart();
        readsItsOwnFirst();
        readsTheLatestApplied();
        readsZeroWithoutOne();
        countsSeenOnesAndItsOwn();
        fitNeedsNoUnseenWriter();
        fitNeedsNoOthersLock();
        fastWithAllHomesHere();
        fastWithoutObjects();
        fastNeedsAllFit();
        slowRefusedByOneOfItsSite();
        slowAsksTheOtherHomesInOrder();
        committedTellsTheOtherSitesInOrder();
        applyingCountsAndUnlocksThere();
        refusedWhenItWaited();
        refusedWithoutWaiting();
        crashLosesWhatGoesOnOrWaits();
        crashKeepsLocksTillRestart();
        restartFreesInTheOrderOfNumbers();
        restartFreesItsOwn();
        crashLosesKeptTells();
        crashTakesNothingElse();
        Due.end("TermsEdgeTest");
    }

    /** "An object is used for at most 512 calls after it has been made". */
    private static void usedFor512Calls() {
        SnapSites x = new SnapSites();
        for (int i = 0; i < 170; i++) {
            int t = x.begin(0);
            x.write(t, 0, i);
            x.commit(t);
        }
        Due.due("call 511 applies the first", x.deliver(0), 1);
        Due.due("call 512", x.value(0, 0), 169);
    }

    /** "SITES are 0 .. n - 1, n 2 to 5". */
    private static void sitesEndAtN() {
        for (int n = 2; n <= 5; n++) {
            int sites = n;
            SnapSites x = Due.opened(sites);
            for (int site = 0; site < sites; site++) {
                Due.due("begin at each site", x.begin(site), site);
                Due.due("vector of each site", x.vector(site, sites - 1 - site), 0);
                Due.due("value at each site", x.value(site, 0), 0);
                Due.due("lock at each site", x.locked(site, 0), SnapSites.NONE);
                x.crash(site);
                x.restart(site);
            }
            Due.due("all up", x.total(4), sites);
            for (int site : Due.outside(sites)) {
                String of = " of site " + site + " of " + sites;
                Due.argument("begin" + of, () -> Due.opened(sites), y -> y.begin(site));
                Due.argument("crash" + of, () -> Due.opened(sites), y -> y.crash(site));
                Due.argument("restart" + of, () -> Due.opened(sites), y -> y.restart(site));
                Due.argument("vector" + of, () -> Due.opened(sites), y -> y.vector(site, 0));
                Due.argument("vector at 0" + of, () -> Due.opened(sites), y -> y.vector(0, site));
                Due.argument("value" + of, () -> Due.opened(sites), y -> y.value(site, 0));
                Due.argument("locked" + of, () -> Due.opened(sites), y -> y.locked(site, 0));
            }
        }
    }

    private static SnapSites oneGoesOn() {
        SnapSites x = new SnapSites();
        x.begin(0);
        return x;
    }

    /** "OBJECTS are 0 .. 19". */
    private static void objectsEndAt19() {
        SnapSites x = oneGoesOn();
        for (int object : new int[] {0, 19}) {
            Due.due("read", x.read(0, object), 0);
            Due.due("write", x.write(0, object, object + 1), object == 0 ? 1 : 2);
            Due.due("value", x.value(1, object), 0);
            Due.due("locked", x.locked(1, object), SnapSites.NONE);
        }
        for (int object : Due.outside(20)) {
            Due.argument("read of object " + object, TermsEdgeTest::oneGoesOn, y -> y.read(0, object));
            Due.argument("write of object " + object, TermsEdgeTest::oneGoesOn, y -> y.write(0, object, 1));
            Due.argument("value of object " + object, TermsEdgeTest::oneGoesOn, y -> y.value(0, object));
            Due.argument("locked of object " + object, TermsEdgeTest::oneGoesOn, y -> y.locked(0, object));
        }
    }

    /** "numbers, 0 at first": any int may be written, 0 over another one too. */
    private static void objectsAreNumbers() {
        int[] numbers = {Integer.MIN_VALUE, -1, 0, 1, 255, 256, Integer.MAX_VALUE, 0};
        SnapSites x = new SnapSites();
        for (int number : numbers) {
            int t = x.begin(1);
            x.write(t, 19, number);
            Due.due("its own", x.read(t, 19), number);
            x.commit(t);
            Due.due("at its site", x.value(1, 19), number);
            x.deliver(0);
            Due.due("told", x.value(0, 19), number);
        }
        for (int object = 0; object < 20; object++) {
            Due.due("0 at first", new SnapSites().value(0, object), 0);
        }
    }

    /** "object o has the HOME o modulo n". */
    private static void homeIsModuloN() {
        for (int n = 2; n <= 5; n++) {
            for (int object = 0; object < 20; object++) {
                for (int site = 0; site < n; site++) {
                    SnapSites x = Due.opened(n);
                    int home = object % n;
                    int t = Due.committer(x, site, object);
                    String what = "object " + object + " at site " + site + " of " + n;
                    Due.due(what, x.about(t, 0), home == site ? 2 : 1);
                    if (home != site) {
                        Due.due(what + " asks its home", Due.letters(x), "1:" + site + ">" + home + "#0");
                    }
                }
            }
        }
    }

    /** "SETS are 0 .. 4, each with a count for ELEMENTS 0 .. 7". */
    private static void setsAndElementsEnd() {
        SnapSites x = oneGoesOn();
        int changes = 0;
        for (int set : new int[] {0, 4}) {
            for (int element : new int[] {0, 7}) {
                changes++;
                Due.due("change", x.change(0, set, element, 1), changes);
                Due.due("count", x.count(0, set, element), 1);
            }
        }
        for (int set : Due.outside(5)) {
            Due.argument("change of set " + set, TermsEdgeTest::oneGoesOn, y -> y.change(0, set, 0, 1));
            Due.argument("count of set " + set, TermsEdgeTest::oneGoesOn, y -> y.count(0, set, 0));
        }
        for (int element : Due.outside(8)) {
            Due.argument("change of element " + element, TermsEdgeTest::oneGoesOn, y -> y.change(0, 0, element, 1));
            Due.argument("count of element " + element, TermsEdgeTest::oneGoesOn, y -> y.count(0, 0, element));
            Due.argument("change in set 1", TermsEdgeTest::oneGoesOn, y -> y.change(0, 1, element, 1));
            Due.argument("count in set 1", TermsEdgeTest::oneGoesOn, y -> y.count(0, 1, element));
        }
    }

    /** "each with a count for ELEMENTS 0 .. 7, 0 at first": one changed, all others stay 0. */
    private static void everyElementHasACountOfItsOwn() {
        for (int cell = 0; cell < 40; cell++) {
            SnapSites x = oneGoesOn();
            Due.due("0 at first", x.count(0, cell / 8, cell % 8), 0);
            x.change(0, cell / 8, cell % 8, -1);
            x.commit(0);
            x.deliver(0);
            int after = x.begin(1);
            for (int other = 0; other < 40; other++) {
                int want = other == cell ? -1 : 0;
                Due.due("cell " + other + " after " + cell, x.count(after, other / 8, other % 8), want);
            }
        }
    }

    /** "TRANSACTIONS have numbers 0, 1, .., in the order in which they began". */
    private static void transactionsAreNumberedAsTheyBegan() {
        SnapSites x = Due.opened(5);
        for (int i = 0; i < 10; i++) {
            Due.due("the next number", x.begin(4 - i % 5), i);
        }
        x.crash(2);
        try {
            x.begin(2);
            Due.fail("begin at a site that is down");
        } catch (IllegalStateException e) {
            Due.due("a begin that is refused takes no number", x.begin(3), 10);
        }
        for (int t : Due.outside(11)) {
            try {
                x.about(t, 0);
                Due.fail("there is no transaction " + t);
            } catch (IllegalArgumentException e) {
                Due.due("still eleven", x.total(0), 11);
            }
        }
    }

    /** "committed transactions, which have SEQUENCES 1, 2, ..". */
    private static void sequencesBeginAt1() {
        SnapSites x = new SnapSites();
        int refused = Due.writer(x, 0, 0);
        Due.due("before it has one", x.about(refused, 2), 0);
        Due.due("the first", x.about(Due.committer(x, 0, 0), 2), 1);
        x.commit(refused);
        Due.due("none for one refused", x.about(refused, 2), 0);
        int waits = Due.committer(x, 0, 1);
        Due.due("none while it waits", x.about(waits, 2), 0);
        Due.due("the second", x.about(Due.committer(x, 0, 0), 2), 2);
        Due.due("the first of another site", x.about(Due.committer(x, 1, 3), 2), 1);
        x.drop(0);
        x.deliver(0);
        Due.due("told at 1 before the first", x.about(waits, 2), 0);
        x.drop(0);
        x.drop(0);
        Due.due("the YES", x.deliver(0), 1);
        Due.due("the third, though it began before the second", x.about(waits, 2), 3);
    }

    /** The same, with as many as one site can have: 200. */
    private static void sequencesGoTo200() {
        SnapSites x = new SnapSites();
        for (int i = 0; i < 200; i++) {
            x.commit(x.begin(1));
        }
        Due.due("the last sequence", x.about(199, 2), 200);
        Due.due("all are counted", x.vector(1, 1), 200);
        Due.due("none at the other", x.vector(0, 1), 0);
        for (int i = 0; i < 100; i++) {
            Due.due("told in order", x.deliver(0), 1);
        }
        Due.due("a hundred at the other", x.vector(0, 1), 100);
    }

    /** "A transaction's START is its site's vector when it began". */
    private static void startIsTheVectorWhenItBegan() {
        SnapSites x = Due.opened(3);
        Due.committer(x, 1, 1);
        Due.committer(x, 2, 2);
        Due.committer(x, 2, 2);
        x.deliver(0);
        x.deliver(1);
        Due.due("at 0", x.vector(0, 1) * 10 + x.vector(0, 2), 11);
        int t = Due.writer(x, 0, 0);
        x.deliver(2);
        Due.due("at 0 after it began", x.vector(0, 2), 2);
        x.commit(t);
        Due.due("of 0, 1 and 2", Due.letter(x, x.total(1) - 1),
                Due.checked(5, 0, 2, 0, t, 0, 0, 0, 1, 0, 1, 0, 1, 1, 0, 0, 0, 1, 44, 0));
    }

    /** "it SEES those committed ones whose sequence is at most its START's number of their site". */
    private static void seesAtMostItsStart() {
        SnapSites x = new SnapSites();
        x.begin(1);
        int below = Due.committer(x, 0, 0);
        int same = Due.committer(x, 0, 2);
        int t = x.begin(0);
        int above = Due.committer(x, 0, 4);
        Due.due("below its START", x.read(t, 0), 100 * below);
        Due.due("just its START", x.read(t, 2), 100 * same + 2);
        Due.due("one above its START, of " + above, x.read(t, 4), 0);
        int far = Due.writer(x, 1, 2);
        x.deliver(0);
        x.deliver(0);
        int near = Due.writer(x, 1, 2);
        x.commit(far);
        x.commit(near);
        x.deliver(1);
        x.deliver(1);
        Due.due("its START is below: NO", x.byteOf(1, 0), 3);
        Due.due("its START is the same: YES", x.byteOf(2, 0), 2);
    }

    /** "READING an object: what it wrote there itself". */
    private static void readsItsOwnFirst() {
        SnapSites x = new SnapSites();
        Due.committer(x, 0, 2);
        int t = Due.writer(x, 0, 4);
        Due.due("a seen one's", x.read(t, 2), 2);
        x.write(t, 2, 0);
        Due.due("its own 0", x.read(t, 2), 0);
        Due.due("its own alone", x.value(0, 2) * 1000 + x.value(0, 4), 2000);
        Due.due("nobody else's", x.read(x.begin(0), 4), 0);
    }

    /** "otherwise what was written there by that seen one that was applied at its site latest". */
    private static void readsTheLatestApplied() {
        SnapSites x = Due.opened(3);
        int late = Due.committer(x, 2, 0);
        x.deliver(0);
        Due.committer(x, 1, 0);
        x.deliver(1);
        Due.due("the home is locked: refused", x.deliver(1), 0);
        Due.due("the YES", x.deliver(0), 1);
        Due.deliverAll(x);
        int after = Due.committer(x, 1, 0);
        Due.deliverAll(x);
        for (int site = 0; site < 3; site++) {
            Due.due("the latest at each site", x.read(x.begin(site), 0), 100 * after);
        }
        Due.due("both are committed", x.about(late, 0) + x.about(after, 0), 4);
        Due.committer(x, 0, 3);
        Due.due("another object's writer does not hide it", x.read(x.begin(0), 0), 100 * after);
    }

    /** "0 without one". */
    private static void readsZeroWithoutOne() {
        SnapSites x = new SnapSites();
        x.abort(Due.writer(x, 0, 2));
        Due.writer(x, 0, 2);
        Due.committer(x, 0, 2, 1);
        Due.due("refused, going on, waiting", x.read(x.begin(0), 2), 0);
        x.crash(0);
        x.restart(0);
        Due.due("lost", x.read(x.begin(0), 2), 0);
        int before = x.begin(0);
        Due.committer(x, 0, 2);
        Due.due("committed after it began", x.read(before, 2), 0);
        Due.due("committed elsewhere", x.read(x.begin(1), 2), 0);
    }

    private static int changer(SnapSites x, int site, int by) {
        int t = x.begin(site);
        x.change(t, 2, 7, by);
        return t;
    }

    /** "COUNTING: all changes of an element by seen ones, and its own". */
    private static void countsSeenOnesAndItsOwn() {
        SnapSites x = new SnapSites();
        x.abort(changer(x, 0, 1));
        changer(x, 0, 1);
        x.commit(changer(x, 0, -1));
        x.commit(changer(x, 0, -1));
        x.commit(changer(x, 1, -1));
        int t = changer(x, 0, 1);
        x.commit(changer(x, 0, 1));
        Due.due("two seen ones and its own", x.count(t, 2, 7), -1);
        Due.due("three of its site", x.count(x.begin(0), 2, 7), -1);
        x.deliver(2);
        Due.due("told after it began", x.count(t, 2, 7), -1);
        Due.due("told before it began", x.count(x.begin(0), 2, 7), -2);
        Due.due("one of its site", x.count(x.begin(1), 2, 7), -1);
    }

    /** "FIT .., if no transaction that it does not see and that wrote the object is applied there". */
    private static void fitNeedsNoUnseenWriter() {
        SnapSites x = new SnapSites();
        int same = Due.writer(x, 0, 0);
        int other = Due.writer(x, 0, 2);
        Due.committer(x, 0, 0);
        Due.due("an unseen one wrote it", x.commit(same), 3);
        Due.due("an unseen one wrote another", x.commit(other), 2);
        Due.due("a seen one wrote it", x.commit(Due.writer(x, 0, 0)), 2);
        int early = Due.writer(x, 0, 4);
        x.abort(Due.writer(x, 0, 4));
        Due.writer(x, 0, 4);
        Due.due("none that is applied wrote it", x.commit(early), 2);
        int reader = Due.writer(x, 0, 6);
        x.read(reader, 8);
        Due.committer(x, 0, 8);
        Due.due("what it read does not count", x.commit(reader), 2);
    }

    /** "and it is not LOCKED there by another one". */
    private static void fitNeedsNoOthersLock() {
        SnapSites x = new SnapSites();
        int holder = Due.committer(x, 1, 0, 1);
        Due.due("its own lock at its site", x.locked(1, 1), holder);
        x.copy(0);
        x.deliver(0);
        Due.due("locked", x.locked(0, 0), holder);
        Due.due("by another one", x.commit(Due.writer(x, 0, 0)), 3);
        Due.due("another object", x.commit(Due.writer(x, 0, 2)), 2);
        x.deliver(0);
        Due.due("its own lock: a YES once more", Due.letters(x), "2:0>1#0 5:0>1#2 2:0>1#0");
    }

    /** "FAST, if its site is the home of all its objects". */
    private static void fastWithAllHomesHere() {
        SnapSites x = new SnapSites();
        int t = Due.writer(x, 1, 1, 3, 5, 7, 9, 11, 13, 15, 17, 19);
        Due.due("ten of its site", x.commit(t), 2);
        int slow = Due.writer(x, 1, 1, 3, 5, 7, 9, 11, 13, 15, 17, 0);
        Due.due("one of another", x.commit(slow), 1);
    }

    /** "(or it has none)". */
    private static void fastWithoutObjects() {
        SnapSites x = Due.opened(5);
        Due.committer(x, 3, 3, 4);
        Due.due("nothing at all", x.commit(x.begin(3)), 2);
        int t = x.begin(3);
        for (int i = 0; i < 20; i++) {
            x.change(t, i % 5, i % 8, 1);
        }
        Due.due("changes alone", x.commit(t), 2);
        Due.due("both have a sequence", x.about(1, 2) * 10 + x.about(t, 2), 12);
    }

    /** "committed, if all are fit there, else REFUSED". */
    private static void fastNeedsAllFit() {
        for (int unfit = 0; unfit < 20; unfit += 2) {
            SnapSites x = new SnapSites();
            int t = Due.writer(x, 0, 0, 2, 4, 6, 8, 10, 12, 14, 16, 18);
            Due.committer(x, 0, unfit);
            Due.due("object " + unfit + " of ten is not fit", x.commit(t), 3);
            Due.due("it is applied nowhere", Due.abouts(x, t), "3 0 0 0 0");
        }
    }

    /** "SLOW otherwise: REFUSED, if one whose home is its site is not fit there". */
    private static void slowRefusedByOneOfItsSite() {
        for (int unfit = 0; unfit < 20; unfit += 2) {
            SnapSites x = new SnapSites();
            int t = Due.writer(x, 0, 1, 0, 2, 4, 6, 8, 10, 12, 14, 16);
            Due.committer(x, 0, unfit);
            int want = unfit == 18 ? 1 : 3;
            Due.due("object " + unfit + " is not fit", x.commit(t), want);
            Due.due("object 0 is locked", x.locked(0, 0), want == 1 ? t : SnapSites.NONE);
        }
    }

    /** "else these are LOCKED there by it, it WAITS, and an ASK goes to each other home .., in order". */
    private static void slowAsksTheOtherHomesInOrder() {
        SnapSites x = Due.opened(5);
        int t = Due.committer(x, 2, 19, 8, 5, 13, 16, 2, 3, 10, 15, 7);
        Due.due("it waits", x.about(t, 0), 1);
        Due.due("ASKs", Due.letters(x), "1:2>0#0 1:2>1#0 1:2>3#0 1:2>4#0");
        for (int object = 0; object < 20; object++) {
            boolean locked = object == 2 || object == 7;
            Due.due("object " + object, x.locked(2, object), locked ? t : SnapSites.NONE);
        }
        SnapSites y = new SnapSites();
        Due.due("none of its own site", y.commit(Due.writer(y, 0, 19)), 1);
        Due.due("nothing is locked", y.locked(0, 19), SnapSites.NONE);
    }

    /** "COMMITTED .. a TELL goes to each other site, in order". */
    private static void committedTellsTheOtherSitesInOrder() {
        String[] tells = {"5:0>1#0 5:0>2#0 5:0>3#0 5:0>4#0", "5:1>0#0 5:1>2#0 5:1>3#0 5:1>4#0",
            "5:2>0#0 5:2>1#0 5:2>3#0 5:2>4#0", "5:3>0#0 5:3>1#0 5:3>2#0 5:3>4#0",
            "5:4>0#0 5:4>1#0 5:4>2#0 5:4>3#0"};
        for (int site = 0; site < 5; site++) {
            SnapSites x = Due.opened(5);
            x.crash((site + 1) % 5);
            x.commit(x.begin(site));
            Due.due("to sites that are down too", Due.letters(x), tells[site]);
        }
        SnapSites two = new SnapSites();
        two.commit(two.begin(1));
        Due.due("one other site", Due.letters(two), "5:1>0#0");
    }

    /** "APPLYING one at a site: that site's vector counts it; its LOCKS there are off". */
    private static void applyingCountsAndUnlocksThere() {
        SnapSites x = Due.opened(3);
        int t = Due.committer(x, 0, 0, 1, 4, 2);
        int other = Due.committer(x, 0, 7);
        Due.due("ASKs", x.deliver(0) + x.deliver(0) + x.deliver(0), 0);
        Due.due("YESes", x.deliver(0) + x.deliver(0), 1);
        Due.due("counted at 0 alone", x.vector(0, 0) * 100 + x.vector(1, 0) * 10 + x.vector(2, 0), 100);
        Due.due("unlocked at 0", x.locked(0, 0), SnapSites.NONE);
        Due.due("locked at 1 and 2", x.locked(1, 1) + x.locked(1, 4) + x.locked(2, 2), 3 * t);
        Due.due("applied at 1", x.deliver(1), 1);
        Due.due("counted at 1 too", x.vector(1, 0) * 10 + x.vector(2, 0), 10);
        Due.due("unlocked at 1", x.locked(1, 1) + x.locked(1, 4), 2 * SnapSites.NONE);
        Due.due("another one's lock stays", x.locked(1, 7), other);
        Due.due("locked at 2", x.locked(2, 2), t);
    }

    /** "REFUSED .. when it WAITED: its locks at its site are off, and a FREE goes to each home that was asked". */
    private static void refusedWhenItWaited() {
        SnapSites x = Due.opened(5);
        int t = Due.writer(x, 1, 4, 0, 1, 6, 3);
        Due.committer(x, 3, 3);
        for (int i = 0; i < 4; i++) {
            x.drop(0);
        }
        int other = Due.waiter(x, 1, 11, 12);
        x.commit(t);
        Due.due("ASKs", Due.letters(x), "1:1>0#0 1:1>3#0 1:1>4#0");
        x.deliver(1);
        Due.due("a NO, before two homes have heard of it", Due.letters(x), "1:1>0#0 1:1>4#0 3:3>1#0");
        x.deliver(2);
        Due.due("FREEs to all three", Due.letters(x), "1:1>0#0 1:1>4#0 4:1>0#0 4:1>3#0 4:1>4#0");
        Due.due("unlocked", x.locked(1, 1) + x.locked(1, 6), 2 * SnapSites.NONE);
        Due.due("another one's lock stays", x.locked(1, 11), other);
    }

    /** The same of one that had not WAITED: there is nothing to free. */
    private static void refusedWithoutWaiting() {
        SnapSites x = new SnapSites();
        int slow = Due.writer(x, 0, 0, 1);
        int fast = Due.writer(x, 0, 0);
        int gone = Due.writer(x, 0, 0, 1);
        int lost = Due.writer(x, 0, 0, 1);
        Due.committer(x, 0, 0);
        x.commit(slow);
        x.commit(fast);
        x.abort(gone);
        x.crash(0);
        x.restart(0);
        Due.due("all ended", x.about(slow, 0) + x.about(fast, 0) + x.about(gone, 0) + x.about(lost, 0), 13);
        Due.due("no FREE", Due.letters(x), "5:0>1#4");
        Due.due("none again", x.again(slow) + x.again(fast) + x.again(gone) + x.again(lost), 0);
    }

    /** "CRASH of a site: it is down; its transactions that go on or wait are LOST". */
    private static void crashLosesWhatGoesOnOrWaits() {
        SnapSites x = Due.opened(3);
        for (int site = 0; site < 3; site++) {
            Due.writer(x, site, 8);
            Due.waiter(x, site, (site + 1) % 3);
            x.commit(x.begin(site));
            x.abort(x.begin(site));
        }
        x.crash(1);
        int[] states = {0, 1, 2, 3, 4, 4, 2, 3, 0, 1, 2, 3};
        for (int t = 0; t < 12; t++) {
            Due.due("transaction " + t, x.about(t, 0), states[t]);
        }
        x.restart(1);
        Due.due("they stay lost", x.about(4, 0) + x.about(5, 0), 8);
        SnapSites y = Due.opened(3);
        Due.writer(y, 0, 0);
        y.crash(2);
        Due.due("a crash of a site without transactions", y.about(0, 0), 0);
    }

    /** "(those that waited: at RESTART their locks there are off". */
    private static void crashKeepsLocksTillRestart() {
        SnapSites x = new SnapSites();
        int t = Due.committer(x, 0, 0, 18, 1);
        x.deliver(0);
        x.crash(0);
        Due.due("locked while it is down", x.locked(0, 0) + x.locked(0, 18), 2 * t);
        x.restart(0);
        Due.due("unlocked there", x.locked(0, 0) + x.locked(0, 18), 2 * SnapSites.NONE);
        Due.due("locked at the home till the FREE comes", x.locked(1, 1), t);
        Due.due("letters", Due.letters(x), "2:1>0#0 4:0>1#0");
        x.deliver(1);
        Due.due("unlocked at the home", x.locked(1, 1), SnapSites.NONE);
    }

    /** "and a FREE goes to each home that was asked, in the order of their numbers)". */
    private static void restartFreesInTheOrderOfNumbers() {
        SnapSites x = Due.opened(5);
        int first = Due.writer(x, 2, 0, 4);
        int second = Due.waiter(x, 2, 3, 1);
        x.commit(first);
        Due.due("the first waits last", x.about(first, 0) + x.about(second, 0), 2);
        while (x.total(1) > 0) {
            x.drop(0);
        }
        x.crash(2);
        x.restart(2);
        Due.due("FREEs", Due.letters(x), "4:2>0#0 4:2>4#0 4:2>1#1 4:2>3#1");
        x.crash(2);
        x.restart(2);
        Due.due("none of those that an earlier crash lost", x.total(1), 4);
    }

    /** The same at two sites: each frees its own, when it is up again itself. */
    private static void restartFreesItsOwn() {
        SnapSites x = Due.opened(4);
        for (int site = 0; site < 3; site++) {
            Due.waiter(x, site, site, 3);
        }
        x.crash(0);
        x.crash(1);
        x.crash(2);
        x.restart(1);
        Due.due("of site 1", Due.letters(x), "4:1>3#1");
        Due.due("unlocked at 1 alone", x.locked(0, 0) + x.locked(1, 1) + x.locked(2, 2), 0 - 1 + 2);
        x.restart(2);
        x.restart(0);
        Due.due("of all", Due.letters(x), "4:1>3#1 4:2>3#2 4:0>3#0");
    }

    /** "TELLS that are kept there and not applied are gone". */
    private static void crashLosesKeptTells() {
        SnapSites x = Due.opened(3);
        for (int i = 0; i < 3; i++) {
            x.commit(x.begin(0));
        }
        Due.due("the third to both", x.deliver(5) + x.deliver(4), 0);
        Due.due("the second to 1", x.deliver(2), 0);
        Due.due("kept", x.total(3), 3);
        x.crash(1);
        Due.due("kept at 2", x.total(3), 1);
        x.restart(1);
        Due.due("the first alone", x.deliver(0), 1);
        Due.due("the first alone at 2, the third waits for the second", x.deliver(0), 1);
        Due.due("the second and the third at 2", x.deliver(0), 2);
        Due.due("the third is not at 1", x.about(2, 3), 2);
    }

    /** "Nothing else is: vectors, locks, FREEs that came". */
    private static void crashTakesNothingElse() {
        SnapSites x = Due.opened(3);
        Due.committer(x, 0, 0);
        x.deliver(0);
        int freed = Due.committer(x, 2, 1);
        x.crash(2);
        x.restart(2);
        x.deliver(x.total(1) - 1);
        int holder = Due.committer(x, 0, 4);
        x.deliver(2);
        String before = Due.letters(x);
        x.crash(1);
        x.restart(1);
        Due.due("letters", Due.letters(x), before);
        Due.due("the vector", x.vector(1, 0), 1);
        Due.due("the lock", x.locked(1, 4), holder);
        Due.due("what is read", x.read(x.begin(1), 0), x.value(0, 0));
        x.deliver(1);
        Due.due("the FREE of " + freed + " that came: a NO", x.byteOf(x.total(1) - 1, 0), 3);
        Due.due("the YES of before the crash", x.deliver(1), 1);
    }
}
