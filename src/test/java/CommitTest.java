/** Promises 8 to 10: commit, abort, again. */
public final class CommitTest {
    private CommitTest() {
    }

    public static void main(String[] args) {
        promise8Fast();
        promise8FastRefused();
        promise8FastUnfitByLock();
        promise8Slow();
        promise8SlowRefusedAtOnce();
        promise8SlowAlone();
        promise8SetsNeverClash();
        promise8Wrong();
        promise9Abort();
        promise10AgainAsks();
        promise10AgainTells();
        promise10AgainFrees();
        promise10Wrong();
        Due.end("CommitTest");
    }

    private static void promise8Fast() {
        SnapSites x = Due.opened(4);
        int t = Due.writer(x, 1, 5, 1, 17);
        Due.due("8: fast", x.commit(t), 2);
        Due.due("8: sequence 1, applied at one site", Due.abouts(x, t), "2 1 1 1 0");
        Due.due("8: TELLs in order", Due.letters(x), "5:1>0#0 5:1>2#0 5:1>3#0");
        Due.due("8: counted at its site", x.vector(1, 1), 1);
        Due.due("8: not counted elsewhere", x.vector(0, 1), 0);
        int empty = x.begin(1);
        Due.due("8: without objects", x.commit(empty), 2);
        Due.due("8: the next sequence", x.about(empty, 2), 2);
        int other = x.begin(3);
        Due.due("8: another site", x.commit(other), 2);
        Due.due("8: has sequences of its own", x.about(other, 2), 1);
        Due.due("8: no locks", x.locked(1, 1), SnapSites.NONE);
    }

    private static void promise8FastRefused() {
        SnapSites x = new SnapSites();
        int loser = Due.writer(x, 0, 2, 0);
        int winner = Due.writer(x, 0, 0, 4);
        int apart = Due.writer(x, 0, 6);
        Due.due("8: the first to commit", x.commit(winner), 2);
        Due.due("8: an unseen one wrote its object", x.commit(loser), 3);
        Due.due("8: it is refused", Due.abouts(x, loser), "3 0 0 0 0");
        Due.due("8: no letter of it", Due.letters(x), "5:0>1#1");
        Due.due("8: other objects", x.commit(apart), 2);
        Due.due("8: the refused has no sequence", x.about(apart, 2), 2);
        int far = Due.writer(x, 1, 1);
        Due.committer(x, 1, 1);
        Due.due("8: at another site", x.commit(far), 3);
        int next = Due.writer(x, 0, 0, 2);
        Due.due("8: it sees them", x.commit(next), 2);
        Due.due("8: what it wrote is refused too", x.value(0, 2), 502);
    }

    private static void promise8FastUnfitByLock() {
        SnapSites x = new SnapSites();
        int slow = Due.committer(x, 0, 0, 1);
        int fast = Due.writer(x, 0, 0);
        int other = Due.writer(x, 0, 2);
        Due.due("8: locked by another one", x.commit(fast), 3);
        Due.due("8: still locked", x.locked(0, 0), slow);
        Due.due("8: not locked", x.commit(other), 2);
    }

    private static void promise8Slow() {
        SnapSites x = Due.opened(4);
        int t = Due.writer(x, 2, 7, 2, 0, 6, 4);
        Due.due("8: slow", x.commit(t), 1);
        Due.due("8: waits", Due.abouts(x, t), "1 2 0 0 0");
        Due.due("8: ASKs in order, one to a home", Due.letters(x), "1:2>0#0 1:2>3#0");
        Due.due("8: locked at its site", x.locked(2, 2), t);
        Due.due("8: locked at its site too", x.locked(2, 6), t);
        Due.due("8: not its site's", x.locked(2, 7), SnapSites.NONE);
        Due.due("8: not locked there yet", x.locked(3, 7), SnapSites.NONE);
        Due.due("8: nothing written yet", x.value(2, 2), 0);
        Due.due("8: nothing counted yet", x.vector(2, 2), 0);
        Due.deliverAll(x);
        Due.due("8: committed, applied everywhere", Due.abouts(x, t), "2 2 1 4 2");
        for (int site = 0; site < 4; site++) {
            Due.due("8: its value", x.value(site, 7), 7);
            Due.due("8: its lock is off", x.locked(site, 7), SnapSites.NONE);
            Due.due("8: its lock is off too", x.locked(site, 2), SnapSites.NONE);
        }
    }

    private static void promise8SlowRefusedAtOnce() {
        SnapSites x = new SnapSites();
        int t = Due.writer(x, 0, 1, 0, 2);
        Due.committer(x, 0, 0);
        Due.due("8: its home's object is not fit", x.commit(t), 3);
        Due.due("8: nothing was asked", Due.letters(x), "5:0>1#1");
        Due.due("8: nothing is locked", x.locked(0, 2), SnapSites.NONE);
        Due.due("8: nothing to free", x.again(t), 0);
        int holder = Due.committer(x, 0, 4, 5);
        int late = Due.writer(x, 0, 7, 4, 6);
        Due.due("8: locked by another one", x.commit(late), 3);
        Due.due("8: the lock stays", x.locked(0, 4), holder);
        Due.due("8: nothing is locked by it", x.locked(0, 6), SnapSites.NONE);
    }

    private static void promise8SlowAlone() {
        SnapSites x = new SnapSites();
        int winner = Due.committer(x, 1, 1);
        int t = Due.writer(x, 0, 1);
        Due.due("8: another home's object is not looked at", x.commit(t), 1);
        x.deliver(0);
        Due.due("8: the unseen one is applied", x.about(winner, 3), 2);
        Due.due("8: it waits on", x.about(t, 0), 1);
        Due.deliverAll(x);
        Due.due("8: the home refuses", x.about(t, 0), 3);
    }

    private static void promise8SetsNeverClash() {
        SnapSites x = new SnapSites();
        int a = x.begin(0);
        int b = x.begin(1);
        int c = x.begin(1);
        x.change(a, 0, 0, 1);
        x.change(b, 0, 0, 1);
        x.change(c, 0, 0, -1);
        Due.due("8: a set at 0", x.commit(a), 2);
        Due.due("8: the same set at 1", x.commit(b), 2);
        Due.due("8: and once more", x.commit(c), 2);
        Due.deliverAll(x);
        Due.due("8: all are counted", x.count(x.begin(0), 0, 0), 1);
    }

    private static SnapSites everyState() {
        SnapSites x = new SnapSites();
        Due.writer(x, 0, 0);
        Due.committer(x, 0, 2, 1);
        Due.committer(x, 0, 4);
        x.abort(Due.writer(x, 0, 6));
        Due.committer(x, 1, 2, 3);
        x.begin(1);
        x.crash(1);
        return x;
    }

    private static void promise8Wrong() {
        Due.argument("8: no transaction -1", CommitTest::everyState, x -> x.commit(-1));
        Due.argument("8: no transaction 6", CommitTest::everyState, x -> x.commit(6));
        for (int t = 1; t < 6; t++) {
            int number = t;
            Due.state("8: commit(" + t + ")", CommitTest::everyState, x -> x.commit(number));
        }
        Due.due("8: the one that goes on", everyState().commit(0), 2);
    }

    private static void promise9Abort() {
        SnapSites x = everyState();
        x.abort(0);
        Due.due("9: refused", Due.abouts(x, 0), "3 0 0 0 0");
        Due.due("9: nothing written", x.value(0, 0), 0);
        Due.due("9: it had not waited", x.again(0), 0);
        Due.argument("9: no transaction -1", CommitTest::everyState, y -> y.abort(-1));
        Due.argument("9: no transaction 6", CommitTest::everyState, y -> y.abort(6));
        for (int t = 1; t < 6; t++) {
            int number = t;
            Due.state("9: abort(" + t + ")", CommitTest::everyState, y -> y.abort(number));
        }
    }

    private static void promise10AgainAsks() {
        SnapSites x = Due.opened(4);
        int t = Due.writer(x, 1, 3, 0, 2);
        Due.due("10: one that goes on", x.again(t), 0);
        x.commit(t);
        x.drop(0);
        x.drop(1);
        x.deliver(0);
        Due.due("10: nobody's YES is here", x.again(t), 3);
        Due.due("10: ASKs in order", Due.letters(x), "2:2>1#0 1:1>0#0 1:1>2#0 1:1>3#0");
        x.deliver(0);
        Due.due("10: one has said YES", x.again(t), 2);
        Due.due("10: not to that one", Due.letters(x), "1:1>0#0 1:1>2#0 1:1>3#0 1:1>0#0 1:1>3#0");
        Due.due("10: all are sent", x.total(2), 3 + 1 + 3 + 2);
        Due.deliverAll(x);
        Due.due("10: it is committed after all", Due.abouts(x, t), "2 1 1 4 3");
    }

    private static void promise10AgainTells() {
        SnapSites x = Due.opened(4);
        int first = Due.committer(x, 2, 2);
        int second = Due.committer(x, 2, 2);
        Due.due("10: one applied", x.deliver(0), 1);
        Due.due("10: one only kept", x.deliver(4), 0);
        Due.due("10: not where it is applied", x.again(first), 2);
        Due.due("10: also where it is kept", x.again(second), 3);
        Due.due("10: TELLs in order", Due.letters(x),
                "5:2>1#0 5:2>3#0 5:2>0#1 5:2>1#1 5:2>1#0 5:2>3#0 5:2>0#1 5:2>1#1 5:2>3#1");
        Due.deliverAll(x);
        Due.due("10: applied everywhere", x.again(first) + x.again(second), 0);
    }

    private static void promise10AgainFrees() {
        SnapSites x = Due.opened(3);
        int t = Due.writer(x, 0, 1, 2);
        int winner = Due.committer(x, 1, 1);
        x.drop(0);
        x.drop(0);
        x.commit(t);
        x.deliver(0);
        x.deliver(1);
        Due.due("10: refused by " + winner, x.about(t, 0), 3);
        Due.due("10: a FREE to each that was asked", Due.letters(x), "1:0>2#0 4:0>1#0 4:0>2#0");
        Due.due("10: FREEs again", x.again(t), 2);
        Due.due("10: in order", Due.letters(x), "1:0>2#0 4:0>1#0 4:0>2#0 4:0>1#0 4:0>2#0");
        int lost = Due.committer(x, 0, 0, 2);
        int idle = x.begin(0);
        x.crash(0);
        x.restart(0);
        int lying = x.total(1);
        Due.due("10: of a lost one that had waited", x.again(lost), 1);
        Due.due("10: a FREE", x.byteOf(lying, 0), 4);
        Due.due("10: of a lost one that had not", x.again(idle), 0);
    }

    private static SnapSites filledAndWaiting() {
        SnapSites x = new SnapSites();
        Due.committer(x, 0, 1);
        for (int i = 0; i < 299; i++) {
            x.copy(0);
        }
        return x;
    }

    private static void promise10Wrong() {
        Due.argument("10: no transaction -1", CommitTest::everyState, x -> x.again(-1));
        Due.argument("10: no transaction 6", CommitTest::everyState, x -> x.again(6));
        Due.state("10: waited at a site that is down", CommitTest::everyState, x -> x.again(4));
        Due.state("10: lost at a site that is down", CommitTest::everyState, x -> x.again(5));
        Due.state("10: committed at a site that is down", () -> {
            SnapSites x = everyState();
            x.crash(0);
            return x;
        }, x -> x.again(2));
        SnapSites x = filledAndWaiting();
        Due.due("10: sent, though lost for want of room", x.again(0), 1);
        Due.due("10: the row is full", x.total(1), 300);
        Due.due("10: sent in all", x.total(2), 2);
    }
}
