/** Promises 15 and 16: crash and restart. */
public final class CrashTest {
    private CrashTest() {
    }

    public static void main(String[] args) {
        promise15States();
        promise15WhatStays();
        promise15KeptTellsAreGone();
        promise15Wrong();
        promise16Frees();
        promise16OnlyThoseOfThisCrash();
        promise16OnlyThoseOfThisSite();
        promise16LocksOfOthersStay();
        promise16FreesIntoAFullRow();
        promise16Wrong();
        Due.end("CrashTest");
    }

    private static SnapSites busy() {
        SnapSites x = Due.opened(3);
        Due.committer(x, 0, 12);
        x.abort(x.begin(0));
        Due.writer(x, 0, 6);
        Due.committer(x, 0, 3, 1, 2);
        Due.writer(x, 1, 1);
        Due.committer(x, 1, 4, 9);
        return x;
    }

    private static void promise15States() {
        SnapSites x = busy();
        int letters = x.total(1);
        x.crash(0);
        Due.due("15: one is down", x.total(4), 2);
        Due.due("15: committed stays so", Due.abouts(x, 0), "2 0 1 1 0");
        Due.due("15: refused stays so", x.about(1, 0), 3);
        Due.due("15: one that went on", x.about(2, 0), 4);
        Due.due("15: one that waited", x.about(3, 0), 4);
        Due.due("15: another site's", x.about(4, 0), 0);
        Due.due("15: another site's that waits", x.about(5, 0), 1);
        Due.due("15: no letter is sent or gone", x.total(1), letters);
        Due.due("15: none is sent", x.total(2), letters);
        Due.due("15: the others go on", x.commit(4), 2);
        Due.due("15: a crash of another site", crashed(x, 1), 1);
    }

    private static int crashed(SnapSites x, int site) {
        x.crash(site);
        return x.total(4);
    }

    private static void promise15WhatStays() {
        SnapSites x = busy();
        for (int i = x.total(1) - 1; i >= 0; i--) {
            x.deliver(i);
        }
        int locked = x.locked(1, 1);
        Due.due("15: 3 has locked at 0 and 1", x.locked(0, 3) * 10 + locked, 33);
        x.crash(0);
        x.crash(1);
        Due.due("15: locks stay at its site", x.locked(0, 3), 3);
        Due.due("15: locks stay at a home", x.locked(1, 1), 3);
        Due.due("15: vectors stay", x.vector(0, 0) * 10 + x.vector(1, 0), 11);
        Due.due("15: values stay", x.value(0, 12) + x.value(1, 12), 24);
        x.restart(1);
        Due.due("15: locks stay at a home after its restart", x.locked(1, 1), 3);
        Due.due("15: a transaction there reads what was applied", x.read(x.begin(1), 12), 12);
        SnapSites y = new SnapSites();
        Due.committer(y, 0, 1);
        y.crash(0);
        y.restart(0);
        y.deliver(1);
        y.crash(1);
        y.restart(1);
        y.deliver(0);
        Due.due("15: FREEs that came stay", Due.letters(y), "3:1>0#0");
    }

    private static void promise15KeptTellsAreGone() {
        SnapSites x = Due.opened(3);
        Due.committer(x, 0, 0);
        int second = Due.committer(x, 0, 3);
        x.deliver(2);
        x.deliver(2);
        Due.due("15: kept at two sites", x.total(3), 2);
        x.crash(1);
        Due.due("15: kept at one", x.total(3), 1);
        x.restart(1);
        Due.due("15: still at one", x.total(3), 1);
        Due.due("15: the first alone at 1", x.deliver(0), 1);
        Due.due("15: both at 2", x.deliver(0), 2);
        Due.due("15: not applied at 1", x.about(second, 3), 2);
        Due.due("15: told again", x.again(second), 1);
        Due.due("15: applied at 1", x.deliver(0), 1);
        Due.due("15: its value", x.value(1, 3), 103);
    }

    private static SnapSites down() {
        SnapSites x = busy();
        x.crash(0);
        return x;
    }

    private static void promise15Wrong() {
        Due.argument("15: crash(-1)", CrashTest::busy, x -> x.crash(-1));
        Due.argument("15: crash(3)", CrashTest::busy, x -> x.crash(3));
        Due.state("15: it is down", CrashTest::down, x -> x.crash(0));
    }

    private static void promise16Frees() {
        SnapSites x = Due.opened(4);
        int a = Due.committer(x, 0, 3, 0, 1);
        int b = Due.committer(x, 0, 4, 2);
        int c = Due.committer(x, 0, 8, 5, 7);
        x.begin(0);
        x.crash(0);
        while (x.total(1) > 0) {
            x.drop(0);
        }
        Due.due("16: locked till the restart", x.locked(0, 0) + x.locked(0, 4) + x.locked(0, 8), a + b + c);
        x.restart(0);
        Due.due("16: FREEs in order", Due.letters(x), "4:0>1#0 4:0>3#0 4:0>2#1 4:0>1#2 4:0>3#2");
        Due.due("16: unlocked", x.locked(0, 0) + x.locked(0, 4) + x.locked(0, 8), 3 * SnapSites.NONE);
        Due.due("16: all are up", x.total(4), 4);
        Due.due("16: they stay lost", x.about(a, 0) * 100 + x.about(b, 0) * 10 + x.about(c, 0), 444);
        Due.due("16: the next one", x.begin(0), 4);
        Due.due("16: may commit", x.commit(Due.writer(x, 0, 0, 4, 8)), 2);
    }

    private static void promise16OnlyThoseOfThisCrash() {
        SnapSites x = new SnapSites();
        Due.committer(x, 0, 1);
        x.crash(0);
        x.restart(0);
        int sent = x.total(2);
        x.crash(0);
        x.restart(0);
        Due.due("16: no FREE for those of an earlier crash", x.total(2), sent);
        int refused = Due.writer(x, 0, 3);
        Due.committer(x, 1, 3);
        x.drop(2);
        x.commit(refused);
        x.deliver(2);
        x.deliver(2);
        Due.due("16: refused when it waited", x.about(refused, 0), 3);
        sent = x.total(2);
        x.crash(0);
        x.restart(0);
        Due.due("16: no FREE for one that was refused", x.total(2), sent);
    }

    private static void promise16OnlyThoseOfThisSite() {
        SnapSites x = Due.opened(3);
        int a = Due.committer(x, 0, 0, 1);
        int b = Due.committer(x, 2, 2, 1);
        x.crash(0);
        x.crash(2);
        x.restart(2);
        Due.due("16: a FREE of site 2's", Due.letters(x), "1:0>1#0 1:2>1#1 4:2>1#1");
        Due.due("16: unlocked at 2", x.locked(2, 2), SnapSites.NONE);
        Due.due("16: locked at 0", x.locked(0, 0), a);
        x.restart(0);
        Due.due("16: a FREE of site 0's", Due.letters(x), "1:0>1#0 1:2>1#1 4:2>1#1 4:0>1#0");
        Due.due("16: unlocked at 0", x.locked(0, 0), SnapSites.NONE);
        Due.due("16: both lost", x.about(a, 0) + x.about(b, 0), 8);
    }

    private static void promise16LocksOfOthersStay() {
        SnapSites x = new SnapSites();
        int t = Due.committer(x, 1, 0, 1);
        x.deliver(0);
        x.crash(0);
        x.restart(0);
        Due.due("16: another site's lock stays", x.locked(0, 0), t);
        Due.due("16: and at that site", x.locked(1, 1), t);
        Due.due("16: the YES comes", x.deliver(0), 1);
        Due.due("16: it is told", x.deliver(0), 1);
        Due.due("16: the lock is off", x.locked(0, 0), SnapSites.NONE);
    }

    private static void promise16FreesIntoAFullRow() {
        SnapSites x = new SnapSites();
        Due.committer(x, 0, 1, 0);
        for (int i = 0; i < 299; i++) {
            x.copy(0);
        }
        x.crash(0);
        x.restart(0);
        Due.due("16: the FREE is lost", x.total(1), 300);
        Due.due("16: it was sent", x.total(2), 2);
        Due.due("16: unlocked all the same", x.locked(0, 0), SnapSites.NONE);
    }

    private static void promise16Wrong() {
        Due.argument("16: restart(-1)", CrashTest::down, x -> x.restart(-1));
        Due.argument("16: restart(3)", CrashTest::down, x -> x.restart(3));
        Due.state("16: it is up", CrashTest::down, x -> x.restart(1));
    }
}
