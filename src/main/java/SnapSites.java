import java.util.ArrayList;

/** A store at several sites with parallel snapshots; ../shared/DOC.md says what each call promises. */
public final class SnapSites {
    public static final int NONE = -1;

    private static final int FIRST_SITES = 2;
    private static final int FEWEST_SITES = 2;
    private static final int MOST_SITES = 5;
    private static final int OBJECTS = 20;
    private static final int SETS = 5;
    private static final int ELEMENTS = 8;
    private static final int MOST_TRANSACTIONS = 200;
    private static final int MOST_WRITTEN = 10;
    private static final int MOST_CHANGES = 20;
    private static final int MOST_LETTERS = 300;

    private static final int GOES_ON = 0;
    private static final int WAITS = 1;
    private static final int COMMITTED = 2;
    private static final int REFUSED = 3;
    private static final int LOST = 4;

    private static final int ASK = 1;
    private static final int YES = 2;
    private static final int NO = 3;
    private static final int FREE = 4;
    private static final int TELL = 5;

    private final Site[] sites;
    // Rows are kept over open and used again, so that the first "begun" of them count and no more.
    private final ArrayList<Transaction> transactions;
    private final ArrayList<Letter> letters;
    private final ByteFinder finder;
    private int siteCount;
    private int begun;
    private int sent;

    public SnapSites() {
        sites = new Site[MOST_SITES];
        for (int s = 0; s < MOST_SITES; s++) {
            sites[s] = new Site();
        }
        transactions = new ArrayList<>();
        letters = new ArrayList<>();
        finder = new ByteFinder();
        startAfresh(FIRST_SITES);
    }

    public void open(int sites) throws IllegalArgumentException {
        needArgument(sites >= FEWEST_SITES && sites <= MOST_SITES);
        startAfresh(sites);
    }

    public int begin(int site) throws IllegalArgumentException, IllegalStateException {
        needSite(site);
        needState(sites[site].up && begun < MOST_TRANSACTIONS);
        if (begun == transactions.size()) {
            transactions.add(new Transaction());
        }
        transactions.get(begun).startAt(begun, site, sites[site].counts);
        begun++;
        return begun - 1;
    }

    public int read(int transaction, int object) throws IllegalArgumentException, IllegalStateException {
        needTransaction(transaction);
        needObject(object);
        Transaction t = transactions.get(transaction);
        needGoingOn(t);
        return t.wrote(object) ? t.values[object] : latestSeen(sites[t.site], t.start, object);
    }

    public int write(int transaction, int object, int value) throws IllegalArgumentException, IllegalStateException {
        needTransaction(transaction);
        needObject(object);
        Transaction t = transactions.get(transaction);
        needGoingOn(t);
        needState(t.wrote(object) || t.writtenCount() < MOST_WRITTEN);
        t.written |= 1 << object;
        t.values[object] = value;
        return t.writtenCount();
    }

    public int change(int transaction, int set, int element, int by)
            throws IllegalArgumentException, IllegalStateException {
        needTransaction(transaction);
        needElement(set, element);
        needArgument(by == 1 || by == -1);
        Transaction t = transactions.get(transaction);
        needGoingOn(t);
        needState(t.changeCount < MOST_CHANGES);
        t.changedCells[t.changeCount] = cellOf(set, element);
        t.changedBy[t.changeCount] = by;
        t.changeCount++;
        return t.changeCount;
    }

    public int count(int transaction, int set, int element) throws IllegalArgumentException, IllegalStateException {
        needTransaction(transaction);
        needElement(set, element);
        Transaction t = transactions.get(transaction);
        needGoingOn(t);
        int cell = cellOf(set, element);
        return t.changeOf(cell) + changeSeen(t, cell);
    }

    public int commit(int transaction) throws IllegalArgumentException, IllegalStateException {
        needTransaction(transaction);
        Transaction t = transactions.get(transaction);
        needGoingOn(t);
        int otherHomes = homesOf(t) & ~bit(t.site);
        if (!isFitAt(t, t.site)) {
            t.state = REFUSED;
        } else if (otherHomes == 0) {
            makeCommitted(t);
        } else {
            makeWaiting(t, otherHomes);
        }
        return t.state;
    }

    public void abort(int transaction) throws IllegalArgumentException, IllegalStateException {
        needTransaction(transaction);
        Transaction t = transactions.get(transaction);
        needGoingOn(t);
        t.state = REFUSED;
    }

    public int again(int transaction) throws IllegalArgumentException, IllegalStateException {
        needTransaction(transaction);
        Transaction t = transactions.get(transaction);
        needState(sites[t.site].up);
        switch (t.state) {
            case WAITS:
                return sendToAll(ASK, t, t.asked & ~t.saidYes);
            case COMMITTED:
                return sendToAll(TELL, t, allSites() & ~t.appliedAt);
            case REFUSED:
            case LOST:
                return sendToAll(FREE, t, t.asked);
            default:
                return 0;
        }
    }

    public int deliver(int i) throws IllegalArgumentException {
        needLetter(i);
        // Taken out first: what it sets off may need its place in a full row.
        Letter letter = letters.remove(i);
        if (!sites[letter.to()].up) {
            return 0;
        }
        return handOver(letter, transactions.get(letter.transaction()));
    }

    public int drop(int i) throws IllegalArgumentException {
        needLetter(i);
        return letters.remove(i).kind();
    }

    public boolean copy(int i) throws IllegalArgumentException {
        needLetter(i);
        if (!hasRoom()) {
            return false;
        }
        letters.add(letters.get(i));
        return true;
    }

    public int byteOf(int i, int k) throws IllegalArgumentException {
        needLetter(i);
        Letter letter = letters.get(i);
        finder.lookFor(k);
        spell(letter, transactions.get(letter.transaction()));
        return finder.found;
    }

    public void crash(int site) throws IllegalArgumentException, IllegalStateException {
        needSite(site);
        needState(sites[site].up);
        sites[site].up = false;
        for (int i = 0; i < begun; i++) {
            Transaction t = transactions.get(i);
            t.keptAt &= ~bit(site);
            if (t.site == site) {
                loseIfOpen(t);
            }
        }
    }

    public void restart(int site) throws IllegalArgumentException, IllegalStateException {
        needSite(site);
        needState(!sites[site].up);
        sites[site].up = true;
        for (int i = 0; i < begun; i++) {
            Transaction t = transactions.get(i);
            if (t.site == site && t.owesFrees) {
                t.owesFrees = false;
                giveUpLocks(t);
            }
        }
    }

    public int about(int transaction, int what) throws IllegalArgumentException {
        needTransaction(transaction);
        Transaction t = transactions.get(transaction);
        switch (what) {
            case 0:
                return t.state;
            case 1:
                return t.site;
            case 2:
                return t.sequence;
            case 3:
                return Integer.bitCount(t.appliedAt);
            case 4:
                return Integer.bitCount(t.saidYes);
            default:
                throw new IllegalArgumentException("no such question");
        }
    }

    public int vector(int site, int of) throws IllegalArgumentException {
        needSite(site);
        needSite(of);
        return sites[site].counts[of];
    }

    public int value(int site, int object) throws IllegalArgumentException {
        needSite(site);
        needObject(object);
        return latestSeen(sites[site], sites[site].counts, object);
    }

    public int locked(int site, int object) throws IllegalArgumentException {
        needSite(site);
        needObject(object);
        return sites[site].holders[object];
    }

    public int total(int what) throws IllegalArgumentException {
        switch (what) {
            case 0:
                return begun;
            case 1:
                return letters.size();
            case 2:
                return sent;
            case 3:
                return keptTells();
            case 4:
                return sitesUp();
            default:
                throw new IllegalArgumentException("no such question");
        }
    }

    private void startAfresh(int howMany) {
        for (int s = 0; s < MOST_SITES; s++) {
            sites[s].clear();
        }
        letters.clear();
        siteCount = howMany;
        begun = 0;
        sent = 0;
    }

    private static void needArgument(boolean isAsItMayBe) {
        if (!isAsItMayBe) {
            throw new IllegalArgumentException("an argument is not as it may be");
        }
    }

    private static void needState(boolean allows) {
        if (!allows) {
            throw new IllegalStateException("not in this state");
        }
    }

    private void needSite(int site) {
        needArgument(site >= 0 && site < siteCount);
    }

    private void needTransaction(int transaction) {
        needArgument(transaction >= 0 && transaction < begun);
    }

    private static void needObject(int object) {
        needArgument(object >= 0 && object < OBJECTS);
    }

    private static void needElement(int set, int element) {
        needArgument(set >= 0 && set < SETS && element >= 0 && element < ELEMENTS);
    }

    private void needLetter(int i) {
        needArgument(i >= 0 && i < letters.size());
    }

    private static void needGoingOn(Transaction t) {
        needState(t.state == GOES_ON);
    }

    // Sets of sites and of objects are held as the bits of an int: they are small and go in order.

    private static int bit(int member) {
        return 1 << member;
    }

    private static boolean has(int members, int member) {
        return (members >> member & 1) != 0;
    }

    private int allSites() {
        return bit(siteCount) - 1;
    }

    private int homeOf(int object) {
        return object % siteCount;
    }

    private int homesOf(Transaction t) {
        int homes = 0;
        for (int o = 0; o < OBJECTS; o++) {
            if (t.wrote(o)) {
                homes |= bit(homeOf(o));
            }
        }
        return homes;
    }

    private boolean hasWithHome(Transaction t, int object, int home) {
        return t.wrote(object) && homeOf(object) == home;
    }

    private static int cellOf(int set, int element) {
        return ELEMENTS * set + element;
    }

    private int latestSeen(Site site, int[] start, int object) {
        for (int i = site.appliedCount - 1; i >= 0; i--) {
            Transaction t = transactions.get(site.applied[i]);
            if (t.wrote(object) && t.isSeenFrom(start)) {
                return t.values[object];
            }
        }
        return 0;
    }

    // All that it sees were applied at its site before it began, so that site's row has them all.
    private int changeSeen(Transaction t, int cell) {
        Site site = sites[t.site];
        int sum = 0;
        for (int i = 0; i < site.appliedCount; i++) {
            Transaction other = transactions.get(site.applied[i]);
            if (other.isSeenFrom(t.start)) {
                sum += other.changeOf(cell);
            }
        }
        return sum;
    }

    private boolean isFitAt(Transaction t, int home) {
        for (int o = 0; o < OBJECTS; o++) {
            if (hasWithHome(t, o, home) && !isObjectFit(t, o, sites[home])) {
                return false;
            }
        }
        return true;
    }

    private boolean isObjectFit(Transaction t, int object, Site site) {
        int holder = site.holders[object];
        if (holder != NONE && holder != t.number) {
            return false;
        }
        for (int i = 0; i < site.appliedCount; i++) {
            Transaction other = transactions.get(site.applied[i]);
            if (other.wrote(object) && !other.isSeenFrom(t.start)) {
                return false;
            }
        }
        return true;
    }

    private void lockAt(Transaction t, int home) {
        for (int o = 0; o < OBJECTS; o++) {
            if (hasWithHome(t, o, home)) {
                sites[home].holders[o] = t.number;
            }
        }
    }

    private void makeWaiting(Transaction t, int otherHomes) {
        lockAt(t, t.site);
        t.state = WAITS;
        t.asked = otherHomes;
        sendToAll(ASK, t, otherHomes);
    }

    private void makeCommitted(Transaction t) {
        t.state = COMMITTED;
        t.sequence = sites[t.site].counts[t.site] + 1;
        applyAt(t, t.site);
        sendToAll(TELL, t, allSites() & ~bit(t.site));
    }

    private void applyAt(Transaction t, int site) {
        sites[site].take(t);
        t.appliedAt |= bit(site);
        t.keptAt &= ~bit(site);
    }

    private void giveUpLocks(Transaction t) {
        sites[t.site].unlock(t.number);
        sendToAll(FREE, t, t.asked);
    }

    private static void loseIfOpen(Transaction t) {
        if (t.state == GOES_ON || t.state == WAITS) {
            t.owesFrees = t.state == WAITS;
            t.state = LOST;
        }
    }

    private int sendToAll(int kind, Transaction t, int receivers) {
        for (int s = 0; s < siteCount; s++) {
            if (has(receivers, s)) {
                send(kind, t.site, s, t.number);
            }
        }
        return Integer.bitCount(receivers);
    }

    private void send(int kind, int from, int to, int transaction) {
        sent++;
        if (hasRoom()) {
            letters.add(new Letter(kind, from, to, transaction));
        }
    }

    private boolean hasRoom() {
        return letters.size() < MOST_LETTERS;
    }

    private int handOver(Letter letter, Transaction t) {
        switch (letter.kind()) {
            case ASK:
                takeAsk(t, letter.to());
                return 0;
            case YES:
                return takeYes(t, letter.from());
            case NO:
                takeNo(t);
                return 0;
            case FREE:
                takeFree(t, letter.to());
                return 0;
            default:
                return takeTell(t, letter.to());
        }
    }

    private void takeAsk(Transaction t, int home) {
        if (has(t.appliedAt, home)) {
            return;
        }
        if (has(t.freedAt, home) || !isFitAt(t, home)) {
            send(NO, home, t.site, t.number);
            return;
        }
        lockAt(t, home);
        send(YES, home, t.site, t.number);
    }

    private int takeYes(Transaction t, int home) {
        if (t.state != WAITS) {
            return 0;
        }
        t.saidYes |= bit(home);
        if (t.saidYes != t.asked) {
            return 0;
        }
        makeCommitted(t);
        return 1;
    }

    private void takeNo(Transaction t) {
        if (t.state == WAITS) {
            t.state = REFUSED;
            giveUpLocks(t);
        }
    }

    private void takeFree(Transaction t, int home) {
        sites[home].unlock(t.number);
        t.freedAt |= bit(home);
    }

    private int takeTell(Transaction t, int site) {
        if (!has(t.appliedAt, site)) {
            t.keptAt |= bit(site);
        }
        for (int done = 0; done < begun; done++) {
            int next = leastReady(site);
            if (next == NONE) {
                return done;
            }
            applyAt(transactions.get(next), site);
        }
        return begun;
    }

    private int leastReady(int site) {
        for (int i = 0; i < begun; i++) {
            Transaction t = transactions.get(i);
            if (has(t.keptAt, site) && sites[site].isReadyFor(t)) {
                return i;
            }
        }
        return NONE;
    }

    private int keptTells() {
        int kept = 0;
        for (int i = 0; i < begun; i++) {
            kept += Integer.bitCount(transactions.get(i).keptAt);
        }
        return kept;
    }

    private int sitesUp() {
        int up = 0;
        for (int s = 0; s < siteCount; s++) {
            if (sites[s].up) {
                up++;
            }
        }
        return up;
    }

    // A letter's bytes are spelled anew each time: all they tell is fixed from its first sending on.
    private void spell(Letter letter, Transaction t) {
        finder.put(letter.kind());
        finder.put(letter.from());
        finder.put(letter.to());
        finder.putTwo(t.number);
        if (letter.kind() == ASK) {
            spellStart(t);
            spellAsked(t, letter.to());
        } else if (letter.kind() == TELL) {
            spellStart(t);
            finder.putTwo(t.sequence);
            spellWritten(t);
            spellChanges(t);
        }
        finder.putCheck();
    }

    private void spellStart(Transaction t) {
        for (int s = 0; s < siteCount; s++) {
            finder.putTwo(t.start[s]);
        }
    }

    private void spellAsked(Transaction t, int home) {
        int howMany = 0;
        for (int o = 0; o < OBJECTS; o++) {
            if (hasWithHome(t, o, home)) {
                howMany++;
            }
        }
        finder.put(howMany);
        for (int o = 0; o < OBJECTS; o++) {
            if (hasWithHome(t, o, home)) {
                finder.put(o);
            }
        }
    }

    private void spellWritten(Transaction t) {
        finder.put(t.writtenCount());
        for (int o = 0; o < OBJECTS; o++) {
            if (t.wrote(o)) {
                finder.put(o);
                finder.putFour(t.values[o]);
            }
        }
    }

    private void spellChanges(Transaction t) {
        finder.put(t.changeCount);
        for (int i = 0; i < t.changeCount; i++) {
            finder.put(t.changedCells[i]);
            finder.put(t.changedBy[i]);
        }
    }

    private static final class Site {
        boolean up;
        final int[] counts = new int[MOST_SITES];
        final int[] holders = new int[OBJECTS];
        // In the order in which they were applied here, which says whose value is read.
        final int[] applied = new int[MOST_TRANSACTIONS];
        int appliedCount;

        void clear() {
            up = true;
            appliedCount = 0;
            for (int s = 0; s < MOST_SITES; s++) {
                counts[s] = 0;
            }
            for (int o = 0; o < OBJECTS; o++) {
                holders[o] = NONE;
            }
        }

        void take(Transaction t) {
            applied[appliedCount] = t.number;
            appliedCount++;
            counts[t.site]++;
            unlock(t.number);
        }

        void unlock(int holder) {
            for (int o = 0; o < OBJECTS; o++) {
                if (holders[o] == holder) {
                    holders[o] = NONE;
                }
            }
        }

        boolean isReadyFor(Transaction t) {
            if (t.sequence != counts[t.site] + 1) {
                return false;
            }
            for (int s = 0; s < MOST_SITES; s++) {
                if (t.start[s] > counts[s]) {
                    return false;
                }
            }
            return true;
        }
    }

    private static final class Transaction {
        int number;
        int site;
        int state;
        int sequence;
        final int[] start = new int[MOST_SITES];
        int written;
        final int[] values = new int[OBJECTS];
        int changeCount;
        final int[] changedCells = new int[MOST_CHANGES];
        final int[] changedBy = new int[MOST_CHANGES];
        // No site is asked before it waits, so these also tell whether it ever waited.
        int asked;
        int saidYes;
        int appliedAt;
        int keptAt;
        int freedAt;
        boolean owesFrees;

        // The values and changes of an earlier use may stay: "written" and the count hide them.
        void startAt(int itsNumber, int itsSite, int[] counts) {
            number = itsNumber;
            site = itsSite;
            state = GOES_ON;
            sequence = 0;
            for (int s = 0; s < MOST_SITES; s++) {
                start[s] = counts[s];
            }
            written = 0;
            changeCount = 0;
            asked = 0;
            saidYes = 0;
            appliedAt = 0;
            keptAt = 0;
            freedAt = 0;
            owesFrees = false;
        }

        boolean wrote(int object) {
            return has(written, object);
        }

        int writtenCount() {
            return Integer.bitCount(written);
        }

        // Asked of applied ones alone: one without a sequence would look as if it were seen.
        boolean isSeenFrom(int[] otherStart) {
            return sequence <= otherStart[site];
        }

        int changeOf(int cell) {
            int sum = 0;
            for (int i = 0; i < changeCount; i++) {
                if (changedCells[i] == cell) {
                    sum += changedBy[i];
                }
            }
            return sum;
        }
    }

    private record Letter(int kind, int from, int to, int transaction) {
    }

    // Finds one byte while a letter is spelled past it, so that no row of bytes is made or kept.
    private static final class ByteFinder {
        int wanted;
        int position;
        int check;
        int found;

        void lookFor(int k) {
            wanted = k;
            position = 0;
            check = 0;
            found = NONE;
        }

        void put(int number) {
            int low = number & 0xFF;
            if (position == wanted) {
                found = low;
            }
            position++;
            check = ((check << 3 | check >> 13) & 0xFFFF) ^ low;
        }

        void putTwo(int number) {
            put(number >> 8);
            put(number);
        }

        void putFour(int number) {
            putTwo(number >> 16);
            putTwo(number);
        }

        void putCheck() {
            putTwo(check);
        }
    }
}
