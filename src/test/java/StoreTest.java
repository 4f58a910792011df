/** Promises 1 to 7: a new object, open, begin, read, write, change, count. */
public final class StoreTest {
    private StoreTest() {
    }

    public static void main(String[] args) {
        promise1NewObject();
        promise2Open();
        promise2NothingStays();
        promise3Begin();
        promise3Limit();
        promise4Read();
        promise4AtItsOwnSite();
        promise4AppliedLatest();
        promise4Wrong();
        promise5Write();
        promise5Limit();
        promise6Change();
        promise7Count();
        promise7Wrong();
        Due.end("StoreTest");
    }

    private static void promise1NewObject() {
        SnapSites x = new SnapSites();
        Due.due("1: transactions", x.total(0), 0);
        Due.due("1: letters", x.total(1), 0);
        Due.due("1: letters sent", x.total(2), 0);
        Due.due("1: TELLs kept", x.total(3), 0);
        Due.due("1: sites up", x.total(4), 2);
        for (int site = 0; site < 2; site++) {
            for (int object = 0; object < 20; object++) {
                Due.due("1: value", x.value(site, object), 0);
                Due.due("1: locked", x.locked(site, object), SnapSites.NONE);
            }
            Due.due("1: vector", x.vector(site, 0) + x.vector(site, 1), 0);
        }
        Due.argument("1: there is no third site", SnapSites::new, y -> y.begin(2));
        Due.due("1: nothing counted", x.count(x.begin(1), 4, 7), 0);
    }

    private static SnapSites used() {
        SnapSites x = Due.opened(3);
        int fast = Due.writer(x, 0, 0, 3);
        x.change(fast, 1, 2, 1);
        x.commit(fast);
        Due.committer(x, 1, 1, 2);
        x.begin(2);
        x.crash(2);
        return x;
    }

    private static void promise2Open() {
        for (int sites = 2; sites <= 5; sites++) {
            SnapSites x = used();
            x.open(sites);
            Due.due("2: as at first", Due.seen(x), Due.seen(Due.opened(sites)));
            Due.due("2: all up", x.total(4), sites);
            Due.due("2: numbers begin anew", x.begin(sites - 1), 0);
            Due.due("2: nothing written", x.read(0, 0), 0);
            Due.due("2: nothing counted", x.count(0, 1, 2), 0);
            Due.due("2: it has no changes", x.change(0, 1, 2, 1), 1);
            Due.due("2: it has no objects", x.write(0, 19, 1), 1);
        }
        SnapSites two = used();
        two.open(2);
        Due.due("2: two sites are as at first", Due.seen(two), Due.seen(new SnapSites()));
        for (int sites : new int[] {1, 6, 0, -1, Integer.MIN_VALUE, Integer.MAX_VALUE}) {
            Due.argument("2: open(" + sites + ")", StoreTest::used, x -> x.open(sites));
        }
    }

    /** One of each kind: 0 committed slowly, 1 and 2 fast (2 kept at site 1), 3 freed at home 1, 4 lost and locked. */
    private static SnapSites fullOfTraces() {
        SnapSites x = Due.opened(3);
        Due.committer(x, 0, 0, 1, 2);
        Due.deliverAll(x);
        Due.committer(x, 0, 3);
        Due.committer(x, 0, 3);
        x.deliver(2);
        Due.due("2: kept", x.total(3), 1);
        Due.committer(x, 0, 4, 6);
        x.crash(0);
        x.restart(0);
        x.deliver(x.total(1) - 1);
        Due.committer(x, 0, 5, 9);
        x.crash(0);
        return x;
    }

    private static void promise2NothingStays() {
        SnapSites x = fullOfTraces();
        x.open(3);
        for (int t = 0; t < 5; t++) {
            x.begin(2);
            Due.due("2: a new transaction", Due.abouts(x, t), "0 2 0 0 0");
            Due.due("2: no letters of it", x.again(t), 0);
        }
        Due.due("2: no TELL is kept", x.total(3), 0);
        x.write(0, 2, 8);
        Due.due("2: what goes on is not read", x.read(4, 2), 0);
        Due.due("2: what goes on has no value", x.value(2, 2), 0);
        x.abort(0);
        Due.due("2: nobody was asked", x.again(0), 0);
        x.write(1, 2, 8);
        x.commit(1);
        Due.due("2: applied nowhere else", x.again(1), 2);
        x.write(3, 1, 8);
        Due.due("2: it waits", x.commit(3), 1);
        x.deliver(4);
        Due.due("2: no FREE of it came", x.byteOf(4, 0), 2);
        x.write(4, 0, 8);
        x.commit(4);
        x.deliver(5);
        Due.due("2: committed", x.deliver(5), 1);
        int sent = x.total(2);
        x.drop(4);
        x.abort(2);
        Due.due("2: 3 waits", x.about(3, 0), 1);
        x.crash(2);
        x.restart(2);
        Due.due("2: a FREE of 3 alone", x.total(2), sent + 1);
    }

    private static void promise3Begin() {
        SnapSites x = Due.opened(3);
        Due.due("3: first", x.begin(2), 0);
        Due.due("3: second", x.begin(0), 1);
        Due.due("3: third", x.begin(2), 2);
        Due.due("3: how many", x.total(0), 3);
        Due.due("3: it goes on", Due.abouts(x, 2), "0 2 0 0 0");
        Due.argument("3: begin(-1)", StoreTest::used, y -> y.begin(-1));
        Due.argument("3: begin(3)", StoreTest::used, y -> y.begin(3));
        Due.state("3: the site is down", StoreTest::used, y -> y.begin(2));
    }

    private static SnapSites full() {
        SnapSites x = new SnapSites();
        for (int i = 0; i < 200; i++) {
            x.begin(i % 2);
        }
        return x;
    }

    private static void promise3Limit() {
        Due.due("3: the last one", full().about(199, 1), 1);
        Due.state("3: there are 200", StoreTest::full, x -> x.begin(0));
        Due.argument("3: no site before 200", StoreTest::full, x -> x.begin(2));
        SnapSites x = full();
        x.open(2);
        Due.due("3: after open", x.begin(0), 0);
    }

    private static void promise4Read() {
        SnapSites x = new SnapSites();
        int early = x.begin(1);
        int t = x.begin(0);
        Due.due("4: nothing written", x.read(t, 0), 0);
        x.write(t, 0, 7);
        Due.due("4: its own", x.read(t, 0), 7);
        x.write(t, 0, -9);
        Due.due("4: its own last", x.read(t, 0), -9);
        Due.due("4: not of one that goes on", x.read(x.begin(0), 0), 0);
        int before = x.begin(0);
        x.commit(t);
        int after = x.begin(0);
        int far = x.begin(1);
        Due.due("4: began before", x.read(before, 0), 0);
        Due.due("4: began after", x.read(after, 0), -9);
        Due.due("4: not applied at its site", x.read(far, 0), 0);
        x.deliver(0);
        Due.due("4: applied after it began", x.read(far, 0), 0);
        Due.due("4: began long before", x.read(early, 0), 0);
        Due.due("4: applied before it began", x.read(x.begin(1), 0), -9);
        int next = x.begin(0);
        x.write(next, 0, 55);
        x.commit(next);
        Due.due("4: still what it saw", x.read(after, 0), -9);
        Due.due("4: the newer one", x.read(x.begin(0), 0), 55);
        x.write(after, 0, 1);
        Due.due("4: its own before a seen one", x.read(after, 0), 1);
    }

    private static void promise4AtItsOwnSite() {
        SnapSites x = Due.opened(3);
        int t = Due.writer(x, 1, 1);
        x.change(t, 3, 4, 1);
        x.commit(t);
        int after = x.begin(1);
        Due.due("4: applied at its site alone", x.read(after, 1), 1);
        Due.due("7: applied at its site alone", x.count(after, 3, 4), 1);
        Due.due("4: not at another", x.read(x.begin(0), 1), 0);
    }

    private static void promise4AppliedLatest() {
        SnapSites x = Due.opened(3);
        int first = Due.committer(x, 0, 0);
        x.drop(0);
        x.drop(0);
        int second = Due.committer(x, 0, 0);
        x.drop(0);
        x.drop(0);
        x.again(second);
        Due.due("4: kept at 1", x.deliver(0), 0);
        Due.due("4: nothing there yet", x.value(1, 0), 0);
        x.again(first);
        Due.due("4: both at 1", x.deliver(1), 2);
        Due.due("4: the one applied latest", x.read(x.begin(1), 0), 100);
    }

    private static void promise4Wrong() {
        Due.argument("4: no transaction -1", StoreTest::used, x -> x.read(-1, 0));
        Due.argument("4: no transaction 3", StoreTest::used, x -> x.read(3, 0));
        Due.argument("4: no object -1", StoreTest::used, x -> x.read(0, -1));
        Due.argument("4: no object 20, though it is committed", StoreTest::used, x -> x.read(0, 20));
        Due.state("4: committed", StoreTest::used, x -> x.read(0, 0));
        Due.state("4: waits", StoreTest::used, x -> x.read(1, 1));
        Due.state("4: lost", StoreTest::used, x -> x.read(2, 0));
    }

    private static void promise5Write() {
        SnapSites x = new SnapSites();
        int t = x.begin(0);
        Due.due("5: first", x.write(t, 19, Integer.MIN_VALUE), 1);
        Due.due("5: second", x.write(t, 0, Integer.MAX_VALUE), 2);
        Due.due("5: the first again", x.write(t, 19, 6), 2);
        Due.due("5: the last one counts", x.read(t, 19), 6);
        Due.due("5: the largest", x.read(t, 0), Integer.MAX_VALUE);
        Due.argument("5: no transaction", StoreTest::used, y -> y.write(3, 0, 1));
        Due.argument("5: no transaction below", StoreTest::used, y -> y.write(-1, 0, 1));
        Due.argument("5: no object", StoreTest::used, y -> y.write(0, 20, 1));
        Due.argument("5: no object below", StoreTest::used, y -> y.write(0, -1, 1));
        Due.state("5: committed", StoreTest::used, y -> y.write(0, 0, 1));
        Due.state("5: waits", StoreTest::used, y -> y.write(1, 1, 1));
        Due.state("5: lost", StoreTest::used, y -> y.write(2, 1, 1));
    }

    private static SnapSites tenWritten() {
        SnapSites x = new SnapSites();
        Due.writer(x, 0, 19, 18, 17, 16, 15, 14, 13, 12, 11, 10);
        return x;
    }

    private static void promise5Limit() {
        Due.state("5: ten others", StoreTest::tenWritten, x -> x.write(0, 0, 1));
        SnapSites x = tenWritten();
        Due.due("5: one of the ten", x.write(0, 19, 1), 10);
        Due.due("5: its value", x.read(0, 19), 1);
        Due.due("5: another transaction", x.write(x.begin(0), 0, 1), 1);
    }

    private static SnapSites twentyChanges() {
        SnapSites x = new SnapSites();
        int t = x.begin(0);
        for (int i = 1; i <= 20; i++) {
            Due.due("6: how many", x.change(t, 4, 7, -1), i);
        }
        return x;
    }

    private static void promise6Change() {
        Due.due("6: twenty counted", twentyChanges().count(0, 4, 7), -20);
        Due.state("6: it has 20", StoreTest::twentyChanges, x -> x.change(0, 0, 0, 1));
        SnapSites x = twentyChanges();
        Due.due("6: another transaction", x.change(x.begin(0), 0, 0, 1), 1);
        for (int by : new int[] {0, 2, -2, 255, Integer.MIN_VALUE, Integer.MAX_VALUE}) {
            Due.argument("6: by " + by, StoreTest::twentyChanges, y -> y.change(0, 0, 0, by));
        }
        Due.argument("6: no transaction", StoreTest::used, y -> y.change(3, 0, 0, 1));
        Due.argument("6: no transaction below", StoreTest::used, y -> y.change(-1, 0, 0, 1));
        Due.argument("6: no set", StoreTest::used, y -> y.change(0, 5, 0, 1));
        Due.argument("6: no set below", StoreTest::used, y -> y.change(0, -1, 0, 1));
        Due.argument("6: no element", StoreTest::used, y -> y.change(0, 0, 8, 1));
        Due.argument("6: no element below", StoreTest::used, y -> y.change(0, 1, -1, 1));
        Due.state("6: committed", StoreTest::used, y -> y.change(0, 0, 0, 1));
        Due.state("6: waits", StoreTest::used, y -> y.change(1, 0, 0, 1));
        Due.state("6: lost", StoreTest::used, y -> y.change(2, 0, 0, 1));
    }

    private static void promise7Count() {
        SnapSites x = new SnapSites();
        int t = x.begin(0);
        x.change(t, 1, 2, 1);
        x.change(t, 1, 2, 1);
        x.change(t, 1, 3, -1);
        Due.due("7: its own", x.count(t, 1, 2), 2);
        Due.due("7: less", x.count(t, 1, 3), -1);
        Due.due("7: another element", x.count(t, 1, 4), 0);
        Due.due("7: another set", x.count(t, 2, 2), 0);
        int before = x.begin(0);
        x.commit(t);
        int far = x.begin(1);
        int after = x.begin(0);
        Due.due("7: began before", x.count(before, 1, 2), 0);
        Due.due("7: began after", x.count(after, 1, 2), 2);
        x.change(after, 1, 2, -1);
        x.change(after, 1, 2, -1);
        x.change(after, 1, 2, -1);
        Due.due("7: seen ones and its own", x.count(after, 1, 2), -1);
        x.change(far, 1, 2, 1);
        x.commit(far);
        x.commit(after);
        Due.deliverAll(x);
        Due.due("7: of all sites at 0", x.count(x.begin(0), 1, 2), 0);
        Due.due("7: of all sites at 1", x.count(x.begin(1), 1, 2), 0);
        Due.due("7: of all sites", x.count(x.begin(1), 1, 3), -1);
        Due.due("7: not those applied later", x.count(before, 1, 3), 0);
    }

    private static void promise7Wrong() {
        Due.argument("7: no transaction", StoreTest::used, x -> x.count(3, 0, 0));
        Due.argument("7: no transaction below", StoreTest::used, x -> x.count(-1, 0, 0));
        Due.argument("7: no set", StoreTest::used, x -> x.count(0, 5, 0));
        Due.argument("7: no set below", StoreTest::used, x -> x.count(0, -1, 0));
        Due.argument("7: no element", StoreTest::used, x -> x.count(0, 0, 8));
        Due.argument("7: no element below", StoreTest::used, x -> x.count(0, 1, -1));
        Due.state("7: committed", StoreTest::used, x -> x.count(0, 1, 2));
        Due.state("7: waits", StoreTest::used, x -> x.count(1, 1, 2));
        Due.state("7: lost", StoreTest::used, x -> x.count(2, 1, 2));
    }
}
