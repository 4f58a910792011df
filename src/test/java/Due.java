import java.util.function.Consumer;
import java.util.function.Supplier;

/** What the tests share: answers that are due, exceptions that are due, and all that can be seen of an object. */
final class Due {
    private static int wrong = 0;

    private Due() {
    }

    static void due(String what, long got, long want) {
        if (got != want) {
            fail(what + " answered " + got + ", due is " + want);
        }
    }

    static void due(String what, boolean got, boolean want) {
        due(what, got ? 1 : 0, want ? 1 : 0);
    }

    static void due(String what, String got, String want) {
        if (!got.equals(want)) {
            fail(what + " is\n  " + got + "\ndue is\n  " + want);
        }
    }

    static void fail(String text) {
        wrong++;
        System.out.println(text);
    }

    /** The call must throw IllegalArgumentException on what the maker makes, and change nothing there. */
    static void argument(String what, Supplier<SnapSites> maker, Consumer<SnapSites> call) {
        throwing(what, IllegalArgumentException.class, maker, call);
    }

    /** The call must throw IllegalStateException on what the maker makes, and change nothing there. */
    static void state(String what, Supplier<SnapSites> maker, Consumer<SnapSites> call) {
        throwing(what, IllegalStateException.class, maker, call);
    }

    private static void throwing(
            String what, Class<?> wanted, Supplier<SnapSites> maker, Consumer<SnapSites> call) {
        SnapSites touched = maker.get();
        Class<?> got = null;
        try {
            call.accept(touched);
        } catch (RuntimeException e) {
            got = e.getClass();
        }
        if (got != wanted) {
            fail(what + " throws " + got + ", due is " + wanted);
        }
        due(what + ": what is seen after it", seen(touched), seen(maker.get()));
    }

    /** All that the face tells of an object, in one text; the letters by their bytes. */
    static String seen(SnapSites x) {
        StringBuilder text = new StringBuilder();
        for (int what = 0; what < 5; what++) {
            text.append(x.total(what)).append(' ');
        }
        for (int site = 0; hasSite(x, site); site++) {
            text.append("| site ").append(site).append(": ");
            for (int of = 0; hasSite(x, of); of++) {
                text.append(x.vector(site, of)).append(' ');
            }
            for (int object = 0; object < 20; object++) {
                text.append(x.value(site, object)).append('/').append(x.locked(site, object)).append(' ');
            }
        }
        for (int t = 0; t < Math.min(x.total(0), 12); t++) {
            text.append("| transaction ").append(t).append(": ").append(abouts(x, t));
        }
        for (int i = 0; i < Math.min(x.total(1), 5); i++) {
            text.append("| letter ").append(i).append(": ").append(letter(x, i));
        }
        return text.toString();
    }

    private static boolean hasSite(SnapSites x, int site) {
        try {
            x.vector(site, 0);
            return true;
        } catch (IllegalArgumentException e) {
            return false;
        }
    }

    /** The five answers of about, with spaces between them. */
    static String abouts(SnapSites x, int transaction) {
        StringBuilder text = new StringBuilder();
        for (int what = 0; what < 5; what++) {
            text.append(what == 0 ? "" : " ").append(x.about(transaction, what));
        }
        return text.toString();
    }

    /** The bytes of a letter, with spaces between them. */
    static String letter(SnapSites x, int i) {
        StringBuilder text = new StringBuilder();
        int found = x.byteOf(i, 0);
        for (int k = 1; found != SnapSites.NONE; k++) {
            text.append(k == 1 ? "" : " ").append(found);
            found = x.byteOf(i, k);
        }
        return text.toString();
    }

    /** Kind, from, to and transaction of every letter that lies there: "1:0>1#7" is an ASK of 7 from 0 to 1. */
    static String letters(SnapSites x) {
        StringBuilder text = new StringBuilder();
        for (int i = 0; i < x.total(1); i++) {
            text.append(i == 0 ? "" : " ").append(x.byteOf(i, 0)).append(':').append(x.byteOf(i, 1));
            text.append('>').append(x.byteOf(i, 2)).append('#').append(x.byteOf(i, 3) * 256 + x.byteOf(i, 4));
        }
        return text.toString();
    }

    /** Numbers outside 0 .. bound - 1: just below it, just behind it, and as far away as an int can be. */
    static int[] outside(int bound) {
        return new int[] {-1, bound, Integer.MIN_VALUE, Integer.MAX_VALUE};
    }

    /** The check of these bytes, told apart from the program's way: bit by bit, with carries. */
    static String checked(int... bytes) {
        int check = 0;
        StringBuilder text = new StringBuilder();
        for (int b : bytes) {
            for (int turn = 0; turn < 3; turn++) {
                check = check >= 0x8000 ? check * 2 - 0x10000 + 1 : check * 2;
            }
            check ^= b;
            text.append(b).append(' ');
        }
        return text.append(check / 256).append(' ').append(check % 256).toString();
    }

    static SnapSites opened(int sites) {
        SnapSites x = new SnapSites();
        x.open(sites);
        return x;
    }

    /** One that began at a site and wrote the objects, each with the value 100 times its number and the object. */
    static int writer(SnapSites x, int site, int... objects) {
        int t = x.begin(site);
        for (int object : objects) {
            x.write(t, object, 100 * t + object);
        }
        return t;
    }

    /** A writer that asks for its commit at once. */
    static int committer(SnapSites x, int site, int... objects) {
        int t = writer(x, site, objects);
        x.commit(t);
        return t;
    }

    /** A transaction that waits, though no ASK of it lies there. */
    static int waiter(SnapSites x, int site, int... objects) {
        int before = x.total(1);
        int t = committer(x, site, objects);
        while (x.total(1) > before) {
            x.drop(before);
        }
        return t;
    }

    /** Five sites and 300 letters, all of them TELLs of transaction 0, which site 0 committed with object 0. */
    static SnapSites fullRow() {
        SnapSites x = opened(5);
        int t = committer(x, 0, 0);
        for (int i = 4; i < 300; i += 4) {
            x.again(t);
        }
        return x;
    }

    static void deliverAll(SnapSites x) {
        for (int i = 0; i < 1000 && x.total(1) > 0; i++) {
            x.deliver(0);
        }
    }

    static void end(String name) {
        System.out.println(wrong == 0 ? name + ": all as due" : name + ": " + wrong + " not as due");
        if (wrong != 0) {
            System.exit(1);
        }
    }
}
