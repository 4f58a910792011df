/**
 * The boundary cases of the document's "Terms" on letters, a test for each sentence, as it is quoted above it: the
 * row of letters, sites that are down, what each kind does, the BYTES and the CHECK.
 */
public final class LettersEdgeTest {
    private LettersEdgeTest() {
    }

    public static void main(String[] args) {
        rowHolds300();
        fullRowLosesEveryKind();
        fullRowTakesWhatHasRoom();
        fullRowHasTheDeliveredOnesPlace();
        downSitesLoseEveryKind();
        lettersOfADownSiteGoOn();
        askWhenApplied();
        askAfterAFree();
        askWithOneUnfit();
        askLocksAllOfThatHome();
        askOfOneThatWaitsNoMore();
        yesAndNoWhenItWaitsNoMore();
        yesOfAllHomes();
        noOfOneHome();
        freeWithoutLocks();
        freeComesTwice();
        tellWhenApplied();
        tellComesTwice();
        tellInSequence();
        tellNowhereAboveTheVector();
        tellSetsOffAllThatAreKept();
        bytesOfYesNoFree();
        bytesOfTheLastTransaction();
        bytesOfStartForEachSite();
        bytesOfTheHighestSequence();
        bytesOfAnAskWithOneAndTen();
        bytesOfATellWithNothingAndAll();
        bytesOfNumbersInFour();
        bytesOfChangesAsMade();
        bytesBehindALetter();
        checkTurnsRound();
        Due.end("LettersEdgeTest");
    }

    /** "LETTERS lie in a row, up to 300". */
    private static void rowHolds300() {
        SnapSites x = Due.fullRow();
        Due.due("300 lie there", x.total(1), 300);
        Due.due("300 were sent", x.total(2), 300);
        Due.due("the last one can be seen", x.byteOf(299, 0), 5);
        x.drop(299);
        Due.due("299", x.total(1), 299);
        Due.due("one more has room", x.copy(0), true);
        Due.due("300 again", x.total(1), 300);
        Due.due("none has room", x.copy(0), false);
        Due.due("still 300", x.total(1), 300);
    }

    /** "sent into a full one they are lost": ASKs, TELLs, FREEs; an answer has its letter's own place. */
    private static void fullRowLosesEveryKind() {
        SnapSites x = Due.fullRow();
        int slow = Due.committer(x, 1, 1, 2, 4);
        Due.due("ASKs: it waits all the same", x.about(slow, 0), 1);
        Due.due("ASKs were sent", x.total(2), 302);
        int fast = Due.committer(x, 1, 6);
        Due.due("TELLs: it is committed all the same", Due.abouts(x, fast), "2 1 1 1 0");
        Due.due("TELLs were sent", x.total(2), 306);
        Due.due("ASKs again", x.again(slow), 2);
        Due.due("TELLs again", x.again(fast), 4);
        x.crash(1);
        x.restart(1);
        Due.due("FREEs were sent", x.total(2), 314);
        Due.due("unlocked all the same", x.locked(1, 1), SnapSites.NONE);
        Due.due("FREEs again", x.again(slow), 2);
        Due.due("all are counted", x.total(2), 316);
        Due.due("300 lie there", x.total(1), 300);
        for (int i = 296; i < 300; i++) {
            Due.due("the last ones are the old ones", x.byteOf(i, 0) * 1000 + x.byteOf(i, 4), 5000);
        }
    }

    /** The same with room for two of four: those sent first lie there. */
    private static void fullRowTakesWhatHasRoom() {
        SnapSites x = Due.fullRow();
        x.drop(0);
        x.drop(0);
        int t = Due.committer(x, 3, 3);
        Due.due("300 lie there", x.total(1), 300);
        Due.due("four were sent", x.total(2), 304);
        Due.due("the first", Due.letter(x, 298).substring(0, 9), "5 3 0 0 " + t);
        Due.due("the second", Due.letter(x, 299).substring(0, 9), "5 3 1 0 " + t);
    }

    /** "Letter i is handed over, and lies there no more": what goes back has its place. */
    private static void fullRowHasTheDeliveredOnesPlace() {
        SnapSites x = Due.fullRow();
        x.drop(0);
        int asker = Due.committer(x, 2, 1, 3);
        Due.due("the first ASK lies there", Due.letter(x, 299).substring(0, 9), "1 2 1 0 " + asker);
        x.deliver(299);
        Due.due("a YES is there instead", Due.letter(x, 299).substring(0, 9), "2 1 2 0 " + asker);
        Due.due("the row is full", x.total(1), 300);
        x.drop(0);
        int other = Due.committer(x, 4, 1, 6, 3);
        x.deliver(299);
        Due.due("a NO is there instead", Due.letter(x, 299).substring(0, 9), "3 1 4 0 " + other);
        x.deliver(299);
        Due.due("the first FREE is there instead", Due.letter(x, 299).substring(0, 9), "4 4 1 0 " + other);
        Due.due("it is full", x.total(1), 300);
        x.drop(0);
        int lone = Due.committer(x, 2, 11);
        x.deliver(299);
        Due.due("its YES commits it", x.deliver(299), 1);
        Due.due("the first TELL is there instead", Due.letter(x, 299).substring(0, 9), "5 2 0 0 " + lone);
        Due.due("full again", x.total(1), 300);
    }

    /** "One that is handed over to a site that is down is lost". */
    private static void downSitesLoseEveryKind() {
        SnapSites x = new SnapSites();
        int t = Due.committer(x, 0, 1);
        x.copy(0);
        x.crash(1);
        Due.due("an ASK", x.deliver(0), 0);
        Due.due("has no answer and locks nothing", x.total(2) * 10 + x.locked(1, 1), 10 + SnapSites.NONE);
        x.restart(1);
        x.deliver(0);
        x.crash(0);
        Due.due("a YES", x.deliver(0), 0);
        Due.due("is not counted", Due.abouts(x, t), "4 0 0 0 0");
        x.restart(0);
        x.crash(1);
        Due.due("a FREE", x.deliver(0), 0);
        Due.due("unlocks nothing", x.locked(1, 1), t);
        x.restart(1);
        int fast = Due.committer(x, 0, 0);
        x.crash(1);
        Due.due("a TELL", x.deliver(0), 0);
        Due.due("is neither applied nor kept", x.vector(1, 0) + x.total(3), 0);
        x.restart(1);
        Due.due("it is not applied there", x.about(fast, 3), 1);
        Due.due("none lies there any more", x.total(1), 0);
        downSiteLosesANo();
        downSiteForgetsAFree();
    }

    private static void downSiteLosesANo() {
        SnapSites x = new SnapSites();
        int t = Due.writer(x, 0, 1);
        Due.committer(x, 1, 1);
        x.commit(t);
        x.deliver(1);
        Due.due("a NO lies there", x.byteOf(1, 0), 3);
        x.crash(0);
        int sent = x.total(2);
        Due.due("a NO", x.deliver(1), 0);
        Due.due("has no FREE, refuses nothing", x.total(2) * 10 + x.about(t, 0), sent * 10 + 4);
    }

    private static void downSiteForgetsAFree() {
        SnapSites x = new SnapSites();
        Due.committer(x, 0, 1);
        x.crash(0);
        x.restart(0);
        x.crash(1);
        x.deliver(1);
        x.restart(1);
        x.deliver(0);
        Due.due("that a FREE came is not kept: a YES", Due.letters(x), "2:1>0#0");
    }

    /** The same the other way round: a letter of a site that is down by now is handed over. */
    private static void lettersOfADownSiteGoOn() {
        SnapSites x = new SnapSites();
        int slow = Due.committer(x, 0, 1);
        Due.committer(x, 0, 0);
        x.crash(0);
        x.deliver(0);
        Due.due("its ASK locks", x.locked(1, 1), slow);
        Due.due("its TELL is applied", x.deliver(0), 1);
        Due.due("the YES goes to it", Due.letters(x), "2:1>0#0");
    }

    /** "ASK: nothing, if the transaction is applied there". */
    private static void askWhenApplied() {
        SnapSites x = Due.opened(3);
        int t = Due.committer(x, 0, 1, 2);
        x.copy(0);
        x.copy(1);
        x.deliver(0);
        x.deliver(0);
        x.deliver(2);
        Due.due("committed", x.deliver(2), 1);
        Due.due("applied at 1", x.deliver(2), 1);
        Due.due("letters", Due.letters(x), "1:0>1#0 1:0>2#0 5:0>2#0");
        int sent = x.total(2);
        x.deliver(0);
        Due.due("applied there: no answer", x.total(2), sent);
        Due.due("no lock", x.locked(1, 1), SnapSites.NONE);
        x.deliver(0);
        Due.due("committed, not applied there: a YES", Due.letters(x), "5:0>2#0 2:2>0#0");
        Due.due("its lock", x.locked(2, 2), t);
    }

    /** "NO goes back, if a FREE of it came there". */
    private static void askAfterAFree() {
        SnapSites x = Due.opened(3);
        Due.committer(x, 0, 1, 2);
        int other = Due.committer(x, 0, 4);
        x.crash(0);
        x.restart(0);
        Due.due("letters", Due.letters(x), "1:0>1#0 1:0>2#0 1:0>1#1 4:0>1#0 4:0>2#0 4:0>1#1");
        x.deliver(3);
        x.deliver(0);
        Due.due("a FREE of it came there: NO", x.byteOf(x.total(1) - 1, 0), 3);
        x.deliver(0);
        Due.due("it came to another home alone: YES", x.byteOf(x.total(1) - 1, 0), 2);
        x.deliver(0);
        Due.due("a FREE of another one came there: YES", x.byteOf(x.total(1) - 1, 0), 2);
        Due.due("locked", x.locked(1, 4), other);
        SnapSites y = Due.opened(3);
        Due.committer(y, 0, 1, 2);
        y.crash(0);
        y.restart(0);
        y.deliver(2);
        y.deliver(2);
        y.deliver(1);
        y.deliver(0);
        Due.due("a FREE came to both homes: NO of both", Due.letters(y), "3:2>0#0 3:1>0#0");
    }

    /** "or one of its objects with that home is not fit there". */
    private static void askWithOneUnfit() {
        for (int unfit = 1; unfit < 20; unfit += 2) {
            SnapSites x = new SnapSites();
            int t = Due.writer(x, 0, 1, 3, 5, 7, 9, 11, 13, 15, 17, 2);
            Due.committer(x, 1, unfit);
            x.drop(0);
            x.commit(t);
            x.deliver(0);
            boolean isIts = unfit != 19;
            Due.due("object " + unfit + " was written there", x.byteOf(0, 0), isIts ? 3 : 2);
            Due.due("locked there", x.locked(1, unfit == 1 ? 3 : 1), isIts ? SnapSites.NONE : t);
        }
    }

    /** "otherwise these are LOCKED there by it, and a YES goes back". */
    private static void askLocksAllOfThatHome() {
        SnapSites x = Due.opened(5);
        int t = Due.committer(x, 0, 4, 9, 14, 19, 0, 1);
        x.deliver(1);
        Due.due("letters", Due.letters(x), "1:0>1#0 2:4>0#0");
        for (int site = 0; site < 5; site++) {
            for (int object = 0; object < 20; object++) {
                boolean atHome = site == 4 && object % 5 == 4;
                boolean atItsSite = site == 0 && object == 0;
                int want = atHome || atItsSite ? t : SnapSites.NONE;
                Due.due("object " + object + " at " + site, x.locked(site, object), want);
            }
        }
    }

    /** An ASK looks at what is known at its home alone: without a FREE it also locks for one that ended. */
    private static void askOfOneThatWaitsNoMore() {
        SnapSites x = new SnapSites();
        int t = Due.committer(x, 0, 1);
        x.crash(0);
        x.restart(0);
        x.deliver(0);
        Due.due("locked till the FREE comes", x.locked(1, 1), t);
        x.deliver(0);
        Due.due("the FREE", x.locked(1, 1), SnapSites.NONE);
        x.deliver(0);
        Due.due("the YES does nothing", Due.abouts(x, t), "4 0 0 0 0");
        Due.due("no letter", x.total(1), 0);
    }

    /** "YES and NO: nothing, if it does not wait (any more)". */
    private static void yesAndNoWhenItWaitsNoMore() {
        SnapSites x = new SnapSites();
        int committed = Due.committer(x, 0, 1);
        x.deliver(0);
        x.copy(0);
        x.deliver(0);
        Due.due("a YES to a committed one", x.deliver(0), 0);
        Due.due("one TELL", Due.letters(x) + " " + Due.abouts(x, committed), "5:0>1#0 2 0 1 1 1");
        SnapSites y = Due.opened(3);
        int refused = Due.writer(y, 0, 1, 2);
        Due.committer(y, 1, 1);
        y.commit(refused);
        y.deliver(2);
        y.deliver(2);
        y.copy(2);
        y.deliver(2);
        Due.due("refused", Due.letters(y), "5:1>0#1 5:1>2#1 2:2>0#0 3:1>0#0 4:0>1#0 4:0>2#0");
        y.deliver(3);
        Due.due("a NO to a refused one", y.total(1) * 10 + y.about(refused, 0), 53);
        y.deliver(2);
        Due.due("a YES to a refused one", Due.abouts(y, refused), "3 0 0 0 0");
        SnapSites z = new SnapSites();
        int lost = Due.committer(z, 0, 1, 0);
        z.deliver(0);
        z.crash(0);
        z.restart(0);
        Due.due("a YES to a lost one", z.deliver(0), 0);
        Due.due("it stays lost", Due.abouts(z, lost), "4 0 0 0 0");
    }

    /** "YES: if all homes that were asked have said so, it is COMMITTED". */
    private static void yesOfAllHomes() {
        SnapSites x = Due.opened(5);
        int t = Due.committer(x, 2, 0, 1, 3, 4);
        for (int i = 0; i < 4; i++) {
            x.deliver(0);
        }
        for (int yes = 1; yes < 4; yes++) {
            x.copy(0);
            Due.due("not all", x.deliver(0), 0);
            Due.due("the same one once more", x.deliver(x.total(1) - 1), 0);
            Due.due("it waits", Due.abouts(x, t), "1 2 0 0 " + yes);
        }
        Due.due("the last of four", x.deliver(0), 1);
        Due.due("committed", Due.abouts(x, t), "2 2 1 1 4");
        SnapSites one = new SnapSites();
        Due.committer(one, 1, 0);
        one.deliver(0);
        Due.due("one home alone", one.deliver(0), 1);
        Due.due("committed", one.about(0, 0), 2);
    }

    /** "NO: it is REFUSED". */
    private static void noOfOneHome() {
        SnapSites x = Due.opened(5);
        int t = Due.writer(x, 2, 0, 1, 3, 4);
        Due.committer(x, 4, 4);
        for (int i = 0; i < 4; i++) {
            x.drop(0);
        }
        x.commit(t);
        for (int i = 0; i < 4; i++) {
            x.deliver(0);
        }
        Due.due("three YES, then a NO", Due.letters(x), "2:0>2#0 2:1>2#0 2:3>2#0 3:4>2#0");
        for (int i = 0; i < 3; i++) {
            Due.due("YES", x.deliver(0), 0);
        }
        Due.due("NO", x.deliver(0), 0);
        Due.due("refused after three YES", Due.abouts(x, t), "3 2 0 0 3");
        Due.due("FREEs", Due.letters(x), "4:2>0#0 4:2>1#0 4:2>3#0 4:2>4#0");
    }

    /** "FREE: its locks there are off; that it came is kept": also where it has none. */
    private static void freeWithoutLocks() {
        SnapSites x = new SnapSites();
        int other = Due.committer(x, 0, 3);
        x.deliver(0);
        Due.committer(x, 0, 1);
        x.crash(0);
        x.restart(0);
        Due.due("letters", Due.letters(x), "2:1>0#0 1:0>1#1 4:0>1#0 4:0>1#1");
        Due.due("a FREE", x.deliver(3), 0);
        Due.due("another one's lock stays", x.locked(1, 3), other);
        x.deliver(1);
        Due.due("that it came is kept", x.byteOf(2, 0), 3);
    }

    /** The same with a FREE that is doubled. */
    private static void freeComesTwice() {
        SnapSites x = new SnapSites();
        Due.committer(x, 0, 1);
        x.deliver(0);
        x.crash(0);
        x.restart(0);
        x.copy(1);
        x.deliver(1);
        int next = Due.committer(x, 0, 1);
        x.deliver(2);
        Due.due("locked by the next", x.locked(1, 1), next);
        x.deliver(1);
        Due.due("the old FREE takes no other's lock", x.locked(1, 1), next);
    }

    /** "TELL: kept at the site, if the transaction is not applied there". */
    private static void tellWhenApplied() {
        SnapSites x = new SnapSites();
        int t = Due.committer(x, 0, 0);
        x.copy(0);
        Due.due("applied", x.deliver(0), 1);
        Due.due("applied before", x.deliver(0), 0);
        Due.due("not kept", x.total(3), 0);
        Due.due("counted once", x.vector(1, 0) * 10 + x.about(t, 3), 12);
        Due.due("its count of sites", x.again(t), 0);
    }

    /** The same with one that comes twice before it is applied. */
    private static void tellComesTwice() {
        SnapSites x = new SnapSites();
        x.commit(x.begin(0));
        int t = x.begin(0);
        x.change(t, 0, 0, 1);
        x.commit(t);
        x.copy(1);
        Due.due("kept", x.deliver(1) + x.deliver(1), 0);
        Due.due("once", x.total(3), 1);
        Due.due("both are applied", x.deliver(0), 2);
        Due.due("none is kept", x.total(3), 0);
        Due.due("its change counts once", x.count(x.begin(1), 0, 0), 1);
    }

    /** "of all whose sequence is next for their site there". */
    private static void tellInSequence() {
        SnapSites x = Due.opened(3);
        for (int i = 0; i < 3; i++) {
            x.commit(x.begin(0));
        }
        x.commit(x.begin(1));
        Due.due("the second is not next", x.deliver(3), 0);
        Due.due("the third is not next", x.deliver(4), 0);
        Due.due("another site's first is", x.deliver(x.total(1) - 1), 1);
        Due.due("two are kept", x.total(3), 2);
        Due.due("the first", x.deliver(1), 3);
        Due.due("the vector", x.vector(2, 0) * 10 + x.vector(2, 1), 31);
    }

    /** "and whose START is nowhere above the vector". */
    private static void tellNowhereAboveTheVector() {
        for (int lacking = 0; lacking < 4; lacking++) {
            tellWithOneLacking(lacking);
        }
        SnapSites y = new SnapSites();
        y.commit(y.begin(0));
        y.deliver(0);
        y.commit(y.begin(1));
        Due.due("the same as the vector", y.deliver(0), 1);
    }

    /** Transaction 4 of site 4, whose START has 1 of each other site, told at a site that lacks one of these. */
    private static void tellWithOneLacking(int lacking) {
        SnapSites x = Due.opened(5);
        int reader = lacking == 0 ? 1 : 0;
        for (int site = 0; site < 4; site++) {
            x.commit(x.begin(site));
        }
        deliverTo(x, 4);
        x.commit(x.begin(4));
        for (int site = 0; site < 4; site++) {
            if (site != lacking && site != reader) {
                deliverOf(x, site, reader);
            }
        }
        Due.due("it lacks the one of " + lacking, deliverOf(x, 4, reader), 0);
        Due.due("it is kept", x.total(3), 1);
        Due.due("then both", deliverOf(x, lacking, reader), 2);
    }

    private static void deliverTo(SnapSites x, int site) {
        for (int i = x.total(1) - 1; i >= 0; i--) {
            if (x.byteOf(i, 2) == site) {
                x.deliver(i);
            }
        }
    }

    private static int deliverOf(SnapSites x, int transaction, int to) {
        for (int i = 0; i < x.total(1); i++) {
            if (x.byteOf(i, 4) == transaction && x.byteOf(i, 2) == to) {
                return x.deliver(i);
            }
        }
        return SnapSites.NONE;
    }

    /** "again and again till there is none": as many as a run has room for. */
    private static void tellSetsOffAllThatAreKept() {
        SnapSites x = new SnapSites();
        for (int i = 0; i < 160; i++) {
            x.commit(x.begin(0));
        }
        for (int i = 159; i > 0; i--) {
            x.deliver(i);
        }
        Due.due("kept", x.total(3), 159);
        Due.due("none is applied", x.vector(1, 0), 0);
        Due.due("all at once", x.deliver(0), 160);
        Due.due("none is kept", x.total(3), 0);
        Due.due("all are counted", x.vector(1, 0), 160);
    }

    /** "BYTES of a letter: its kind (.. 2 YES, 3 NO, 4 FREE ..), from, to, the transaction in two". */
    private static void bytesOfYesNoFree() {
        SnapSites x = Due.opened(5);
        x.begin(0);
        int yes = Due.committer(x, 4, 0);
        x.deliver(0);
        Due.due("a YES", Due.letter(x, 0), Due.checked(2, 0, 4, 0, yes));
        int no = Due.committer(x, 3, 0);
        x.deliver(1);
        Due.due("a NO", Due.letter(x, 1), Due.checked(3, 0, 3, 0, no));
        x.deliver(1);
        Due.due("a FREE", Due.letter(x, 1), Due.checked(4, 3, 0, 0, no));
    }

    /** "the transaction in two (all high first)": the last number there can be. */
    private static void bytesOfTheLastTransaction() {
        SnapSites x = new SnapSites();
        for (int i = 0; i < 200; i++) {
            x.begin(0);
        }
        x.write(199, 1, 1);
        x.commit(199);
        Due.due("its ASK", Due.letter(x, 0), Due.checked(1, 0, 1, 0, 199, 0, 0, 0, 0, 1, 1));
        x.deliver(0);
        Due.due("its YES", Due.letter(x, 0), Due.checked(2, 1, 0, 0, 199));
        Due.due("finds it", x.deliver(0), 1);
        Due.due("it is locked by", x.locked(1, 1), 199);
    }

    /** "of an ASK or TELL its START in two for each site". */
    private static void bytesOfStartForEachSite() {
        for (int n = 2; n <= 5; n++) {
            SnapSites x = Due.opened(n);
            x.commit(x.begin(n - 1));
            deliverTo(x, 0);
            while (x.total(1) > 0) {
                x.drop(0);
            }
            int tell = Due.committer(x, 0, 0);
            int[] bytes = new int[5 + 2 * n + 9];
            bytes[0] = 5;
            bytes[2] = 1;
            bytes[4] = tell;
            bytes[4 + 2 * n] = 1;
            bytes[6 + 2 * n] = 1;
            bytes[7 + 2 * n] = 1;
            bytes[12 + 2 * n] = 100;
            Due.due("a TELL among " + n, Due.letter(x, 0), Due.checked(bytes));
            Due.committer(x, 0, 1);
            int ask = x.total(1) - 1;
            Due.due("an ASK among " + n, x.byteOf(ask, 6) * 10 + x.byteOf(ask, 4 + 2 * n), 11);
            Due.due("its objects", x.byteOf(ask, 5 + 2 * n) * 10 + x.byteOf(ask, 6 + 2 * n), 11);
            Due.due("its end", Math.min(x.byteOf(ask, 8 + 2 * n), 0) + x.byteOf(ask, 9 + 2 * n), SnapSites.NONE);
        }
    }

    /** "of a TELL its sequence in two": 200 is the last there can be, behind a START of 199. */
    private static void bytesOfTheHighestSequence() {
        SnapSites x = new SnapSites();
        for (int i = 0; i < 200; i++) {
            x.commit(x.begin(0));
        }
        Due.due("the last TELL", Due.letter(x, 199),
                Due.checked(5, 0, 1, 0, 199, 0, 199, 0, 0, 0, 200, 0, 0));
    }

    /** "of an ASK how many objects have that home, then these in order". */
    private static void bytesOfAnAskWithOneAndTen() {
        SnapSites x = new SnapSites();
        Due.committer(x, 0, 19, 1, 17, 3, 15, 5, 13, 7, 11, 9);
        Due.due("ten", Due.letter(x, 0),
                Due.checked(1, 0, 1, 0, 0, 0, 0, 0, 0, 10, 1, 3, 5, 7, 9, 11, 13, 15, 17, 19));
        Due.committer(x, 0, 18, 0, 16, 2, 14, 4, 12, 6, 10, 19);
        Due.due("one of ten", Due.letter(x, 1), Due.checked(1, 0, 1, 0, 1, 0, 0, 0, 0, 1, 19));
        Due.committer(x, 1, 2, 0);
        Due.due("the first object", Due.letter(x, 2), Due.checked(1, 1, 0, 0, 2, 0, 0, 0, 0, 2, 0, 2));
    }

    /** "of a TELL how many objects, then each in order with its number in four, how many changes, then each". */
    private static void bytesOfATellWithNothingAndAll() {
        SnapSites x = new SnapSites();
        x.commit(x.begin(1));
        Due.due("nothing", Due.letter(x, 0), Due.checked(5, 1, 0, 0, 0, 0, 0, 0, 0, 0, 1, 0, 0));
        int t = x.begin(1);
        for (int object = 19; object > 0; object -= 2) {
            x.write(t, object, object);
        }
        for (int i = 0; i < 20; i++) {
            x.change(t, 4, 7, -1);
        }
        x.commit(t);
        int[] bytes = new int[11 + 1 + 50 + 1 + 40];
        int[] head = {5, 1, 0, 0, t, 0, 0, 0, 1, 0, 2, 10};
        System.arraycopy(head, 0, bytes, 0, head.length);
        for (int i = 0; i < 10; i++) {
            bytes[12 + 5 * i] = 2 * i + 1;
            bytes[16 + 5 * i] = 2 * i + 1;
        }
        bytes[62] = 20;
        for (int i = 0; i < 20; i++) {
            bytes[63 + 2 * i] = 39;
            bytes[64 + 2 * i] = 255;
        }
        Due.due("ten objects, twenty changes", Due.letter(x, 1), Due.checked(bytes));
    }

    /** "each in order with its number in four": the ends of what a number may be. */
    private static void bytesOfNumbersInFour() {
        SnapSites x = new SnapSites();
        int t = x.begin(0);
        x.write(t, 0, Integer.MIN_VALUE);
        x.write(t, 2, Integer.MAX_VALUE);
        x.write(t, 4, -1);
        x.write(t, 6, 0);
        x.write(t, 8, 0x01020380);
        x.commit(t);
        Due.due("numbers", Due.letter(x, 0), Due.checked(5, 0, 1, 0, 0, 0, 0, 0, 0, 0, 1, 5, 0, 128, 0, 0, 0,
                2, 127, 255, 255, 255, 4, 255, 255, 255, 255, 6, 0, 0, 0, 0, 8, 1, 2, 3, 128, 0));
    }

    /** "each, as they were made, as 8 times the set and the element, and 1 or 255". */
    private static void bytesOfChangesAsMade() {
        SnapSites x = new SnapSites();
        int t = x.begin(0);
        x.change(t, 4, 7, 1);
        x.change(t, 0, 0, -1);
        x.change(t, 1, 0, 1);
        x.change(t, 0, 7, -1);
        x.change(t, 4, 7, -1);
        x.commit(t);
        Due.due("changes", Due.letter(x, 0), Due.checked(5, 0, 1, 0, 0, 0, 0, 0, 0, 0, 1, 0, 5,
                39, 1, 0, 255, 8, 1, 7, 255, 39, 255));
    }

    /** "Byte k of letter i, 0 .. 255; NONE behind it". */
    private static void bytesBehindALetter() {
        SnapSites x = new SnapSites();
        Due.committer(x, 0, 1);
        for (int k = 0; k < 13; k++) {
            int found = x.byteOf(0, k);
            Due.due("byte " + k + " of an ASK", found >= 0 && found <= 255, true);
        }
        for (int k : new int[] {13, 14, 255, 256, 65536, Integer.MAX_VALUE}) {
            Due.due("byte " + k + " of an ASK", x.byteOf(0, k), SnapSites.NONE);
        }
        x.deliver(0);
        Due.due("the last byte of a YES", x.byteOf(0, 6) >= 0, true);
        Due.due("behind a YES", x.byteOf(0, 7), SnapSites.NONE);
    }

    /** "0 at first, then for each byte turned left by 3 of 16 bits, and the byte exclusive-or": worked by hand. */
    private static void checkTurnsRound() {
        SnapSites x = new SnapSites();
        Due.committer(x, 0, 1);
        x.deliver(0);
        // 2, then 2 * 8 ^ 1 = 17, then 17 * 8 = 136, 136 * 8 = 1088, 1088 * 8 = 8704: 34 and 0.
        Due.due("a YES", Due.letter(x, 0), "2 1 0 0 0 34 0");
        x.drop(0);
        x.begin(0);
        x.commit(x.begin(1));
        // 5, 41, 328, 2624, 20994 (0x5202), then round: 0x9012, 0x8094, 0x04a4, 0x2520, 0x2901,
        // 0x4809 ^ 1 = 0x4808, 0x4042, 0x0212: 2 and 18.
        Due.due("a TELL of nothing", Due.letter(x, 0), "5 1 0 0 2 0 0 0 0 0 1 0 0 2 18");
    }
}
