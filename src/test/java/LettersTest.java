/** Promises 11 to 14: deliver, drop, copy, byteOf, and what each kind of letter does where it is handed over. */
public final class LettersTest {
    private LettersTest() {
    }

    public static void main(String[] args) {
        promise11Ask();
        promise11AskAgainstUnseen();
        promise11AskAfterFree();
        promise11AskWhenApplied();
        promise11Yes();
        promise11YesTwice();
        promise11No();
        promise11Free();
        promise11TellInSequence();
        promise11TellAfterItsStart();
        promise11TellSetsFreeSeveral();
        promise11ToADownSite();
        promise11FullRow();
        promise11To14Wrong();
        promise12Drop();
        promise13Copy();
        promise14ShortLetters();
        promise14Ask();
        promise14Tell();
        promise14LongestTell();
        Due.end("LettersTest");
    }

    private static void promise11Ask() {
        SnapSites x = Due.opened(3);
        int t = Due.committer(x, 0, 1, 4, 7, 2);
        Due.due("11: an ASK applies nothing", x.deliver(0), 0);
        Due.due("11: it lies there no more, a YES goes back", Due.letters(x), "1:0>2#0 2:1>0#0");
        for (int object : new int[] {1, 4, 7}) {
            Due.due("11: locked at its home", x.locked(1, object), t);
        }
        Due.due("11: not those of another home", x.locked(1, 2), SnapSites.NONE);
        int other = Due.committer(x, 2, 4);
        x.deliver(2);
        Due.due("11: locked by another one, a NO goes back", Due.letters(x), "1:0>2#0 2:1>0#0 3:1>2#1");
        Due.due("11: the lock stays", x.locked(1, 4), t);
        x.again(t);
        x.deliver(3);
        Due.due("11: locked by itself, a YES goes back", Due.letters(x),
                "1:0>2#0 2:1>0#0 3:1>2#1 1:0>2#0 2:1>0#0");
        Due.due("11: the other one waits for its NO", x.about(other, 0), 1);
    }

    private static void promise11AskAgainstUnseen() {
        SnapSites x = new SnapSites();
        int t = Due.writer(x, 0, 3, 1);
        Due.committer(x, 1, 3);
        x.commit(t);
        x.deliver(1);
        Due.due("11: an unseen one is applied there, a NO goes back", Due.letters(x), "5:1>0#1 3:1>0#0");
        Due.due("11: nothing is locked", x.locked(1, 1), SnapSites.NONE);
        SnapSites y = new SnapSites();
        Due.committer(y, 1, 3);
        y.deliver(0);
        Due.committer(y, 0, 3, 1);
        y.deliver(0);
        Due.due("11: a seen one does no harm", Due.letters(y), "2:1>0#1");
        SnapSites z = new SnapSites();
        int early = Due.writer(z, 0, 3);
        Due.committer(z, 1, 5);
        z.deliver(0);
        z.commit(early);
        z.deliver(0);
        Due.due("11: an unseen one of another object does no harm", Due.letters(z), "2:1>0#0");
    }

    private static void promise11AskAfterFree() {
        SnapSites x = new SnapSites();
        int t = Due.committer(x, 0, 1);
        x.crash(0);
        x.restart(0);
        x.deliver(1);
        x.deliver(0);
        Due.due("11: a FREE came before, a NO goes back", Due.letters(x), "3:1>0#0");
        Due.due("11: not locked", x.locked(1, 1), SnapSites.NONE);
        x.deliver(0);
        Due.due("11: a NO to a lost one does nothing", Due.abouts(x, t), "4 0 0 0 0");
        Due.due("11: no FREE", x.total(1), 0);
        SnapSites y = Due.opened(3);
        Due.committer(y, 0, 1, 2);
        y.crash(0);
        y.restart(0);
        y.deliver(2);
        y.deliver(2);
        y.deliver(0);
        y.deliver(0);
        Due.due("11: a FREE came to both", Due.letters(y), "3:1>0#0 3:2>0#0");
    }

    private static void promise11AskWhenApplied() {
        SnapSites x = new SnapSites();
        int t = Due.committer(x, 0, 1);
        x.copy(0);
        x.deliver(0);
        x.deliver(1);
        x.deliver(1);
        Due.due("11: applied at both", Due.abouts(x, t), "2 0 1 2 1");
        Due.due("11: the copy lies there", Due.letters(x), "1:0>1#0");
        Due.due("11: it does nothing", x.deliver(0), 0);
        Due.due("11: no answer", x.total(1), 0);
        Due.due("11: no lock", x.locked(1, 1), SnapSites.NONE);
    }

    private static void promise11Yes() {
        SnapSites x = Due.opened(3);
        int t = Due.committer(x, 0, 1, 2, 0);
        x.deliver(0);
        x.deliver(0);
        Due.due("11: the first YES", x.deliver(0), 0);
        Due.due("11: it waits", Due.abouts(x, t), "1 0 0 0 1");
        Due.due("11: the last YES commits it: one is applied", x.deliver(0), 1);
        Due.due("11: committed", Due.abouts(x, t), "2 0 1 1 2");
        Due.due("11: TELLs", Due.letters(x), "5:0>1#0 5:0>2#0");
        Due.due("11: unlocked at its site", x.locked(0, 0), SnapSites.NONE);
        Due.due("11: locked at the home", x.locked(1, 1), t);
        Due.due("11: till it is applied there", x.deliver(0), 1);
        Due.due("11: unlocked", x.locked(1, 1), SnapSites.NONE);
        Due.due("11: the other home keeps its lock", x.locked(2, 2), t);
    }

    private static void promise11YesTwice() {
        SnapSites x = Due.opened(3);
        int t = Due.committer(x, 0, 1, 2);
        x.deliver(0);
        x.copy(1);
        x.copy(1);
        Due.due("11: a YES", x.deliver(1), 0);
        Due.due("11: the same YES", x.deliver(1), 0);
        Due.due("11: counts once", Due.abouts(x, t), "1 0 0 0 1");
        x.deliver(0);
        x.copy(1);
        Due.due("11: of the other home", x.deliver(1), 1);
        Due.due("11: committed", Due.abouts(x, t), "2 0 1 1 2");
        Due.due("11: a YES to a committed one", x.deliver(0) + x.deliver(0), 0);
        Due.due("11: does nothing", Due.abouts(x, t), "2 0 1 1 2");
        Due.due("11: TELLs went once", Due.letters(x), "5:0>1#0 5:0>2#0");
    }

    private static void promise11No() {
        SnapSites x = Due.opened(3);
        int t = Due.writer(x, 0, 1, 2, 0);
        Due.committer(x, 2, 2);
        x.drop(0);
        x.drop(0);
        x.commit(t);
        x.deliver(0);
        x.deliver(0);
        x.copy(1);
        Due.due("11: YES and NO twice", Due.letters(x), "2:1>0#0 3:2>0#0 3:2>0#0");
        Due.due("11: a NO", x.deliver(1), 0);
        Due.due("11: refuses it", Due.abouts(x, t), "3 0 0 0 0");
        Due.due("11: unlocked at its site", x.locked(0, 0), SnapSites.NONE);
        Due.due("11: locked at the home", x.locked(1, 1), t);
        Due.due("11: FREEs in order", Due.letters(x), "2:1>0#0 3:2>0#0 4:0>1#0 4:0>2#0");
        x.deliver(1);
        x.deliver(0);
        Due.due("11: YES and NO after that do nothing", Due.abouts(x, t), "3 0 0 0 0");
        Due.due("11: no more letters", Due.letters(x), "4:0>1#0 4:0>2#0");
        Due.due("11: a FREE", x.deliver(0), 0);
        Due.due("11: unlocks", x.locked(1, 1), SnapSites.NONE);
        SnapSites y = new SnapSites();
        int far = Due.writer(y, 1, 0, 1);
        Due.committer(y, 0, 0);
        y.commit(far);
        y.deliver(1);
        Due.due("11: locked till the NO comes", y.locked(1, 1), far);
        y.deliver(1);
        Due.due("11: unlocked at a site that is not 0", y.locked(1, 1), SnapSites.NONE);
    }

    private static void promise11Free() {
        SnapSites x = new SnapSites();
        int t = Due.committer(x, 0, 1, 3);
        int other = Due.committer(x, 0, 5);
        x.deliver(0);
        x.deliver(0);
        x.crash(0);
        x.restart(0);
        Due.due("11: both locked", x.locked(1, 3) * 10 + x.locked(1, 5), t * 10 + other);
        x.drop(0);
        x.drop(0);
        x.deliver(0);
        Due.due("11: its locks are off", x.locked(1, 1) + x.locked(1, 3), 2 * SnapSites.NONE);
        Due.due("11: no other's", x.locked(1, 5), other);
        Due.due("11: a FREE has no answer", Due.letters(x), "4:0>1#1");
    }

    private static void promise11TellInSequence() {
        SnapSites x = new SnapSites();
        for (int i = 0; i < 4; i++) {
            Due.committer(x, 0, 0);
        }
        Due.due("11: the third before the first", x.deliver(2), 0);
        Due.due("11: is kept", x.total(3), 1);
        Due.due("11: the second", x.deliver(1), 0);
        Due.due("11: is kept too", x.total(3), 2);
        Due.due("11: nothing is counted", x.vector(1, 0), 0);
        Due.due("11: the first applies three", x.deliver(0), 3);
        Due.due("11: none is kept", x.total(3), 0);
        Due.due("11: three are counted", x.vector(1, 0), 3);
        Due.due("11: the value of the third", x.value(1, 0), 200);
        x.copy(0);
        Due.due("11: the fourth", x.deliver(0), 1);
        Due.due("11: the fourth again", x.deliver(0), 0);
        Due.due("11: is not kept", x.total(3), 0);
        Due.due("11: four are counted", x.vector(1, 0), 4);
        Due.committer(x, 0, 0);
        Due.committer(x, 0, 0);
        x.copy(1);
        x.deliver(1);
        x.deliver(1);
        Due.due("11: one that came twice is kept once", x.total(3), 1);
        Due.due("11: both", x.deliver(0), 2);
        SnapSites y = new SnapSites();
        int slow = y.begin(0);
        y.commit(y.begin(0));
        y.commit(slow);
        Due.due("11: the sequence counts, not the number", y.deliver(1), 0);
        Due.due("11: number 0 is kept", y.total(3), 1);
        Due.due("11: both of them", y.deliver(0), 2);
    }

    private static void promise11TellAfterItsStart() {
        SnapSites x = Due.opened(3);
        Due.committer(x, 0, 0);
        x.deliver(0);
        int after = Due.committer(x, 1, 1);
        Due.due("11: letters", Due.letters(x), "5:0>2#0 5:1>0#1 5:1>2#1");
        Due.due("11: its START is above the vector", x.deliver(2), 0);
        Due.due("11: it is kept", x.total(3), 1);
        Due.due("11: nothing there", x.value(2, 1), 0);
        Due.due("11: at 0 it is not", x.deliver(1), 1);
        Due.due("11: both", x.deliver(0), 2);
        Due.due("11: its value", x.value(2, 1), 101);
        Due.due("11: applied everywhere", x.about(after, 3), 3);
    }

    /** The order among those that are ready at once can't be seen from outside: that all are applied can. */
    private static void promise11TellSetsFreeSeveral() {
        SnapSites x = Due.opened(4);
        int base = Due.committer(x, 0, 0);
        x.deliver(0);
        x.deliver(0);
        int a = Due.committer(x, 1, 1);
        int b = Due.committer(x, 2, 2);
        Due.due("11: letters", Due.letters(x), "5:0>3#0 5:1>0#1 5:1>2#1 5:1>3#1 5:2>0#2 5:2>1#2 5:2>3#2");
        Due.due("11: both are kept", x.deliver(6) + x.deliver(3), 0);
        Due.due("11: two are kept", x.total(3), 2);
        Due.due("11: all three", x.deliver(0), 3);
        Due.due("11: none is kept", x.total(3), 0);
        Due.due("11: the value of " + base, x.value(3, 0), 0);
        Due.due("11: the value of " + a, x.value(3, 1), 101);
        Due.due("11: the value of " + b, x.value(3, 2), 202);
        Due.due("11: at 3 and its site", x.about(a, 3), 2);
    }

    private static void promise11ToADownSite() {
        SnapSites x = new SnapSites();
        int slow = Due.committer(x, 0, 1);
        int fast = Due.committer(x, 0, 0);
        x.crash(1);
        Due.due("11: an ASK to a site that is down", x.deliver(0), 0);
        Due.due("11: a TELL to a site that is down", x.deliver(0), 0);
        Due.due("11: they are lost", x.total(1), 0);
        Due.due("11: no lock", x.locked(1, 1), SnapSites.NONE);
        Due.due("11: not kept", x.total(3), 0);
        x.restart(1);
        Due.due("11: nothing comes after all", x.total(1) + x.vector(1, 0), 0);
        Due.due("11: both can be sent again", x.again(slow) + x.again(fast), 2);
        x.deliver(0);
        x.crash(0);
        Due.due("11: a YES to a site that is down", x.deliver(1), 0);
        Due.due("11: is lost", x.about(slow, 4), 0);
    }

    private static SnapSites filled() {
        SnapSites x = new SnapSites();
        Due.committer(x, 0, 1);
        for (int i = 0; i < 299; i++) {
            x.copy(0);
        }
        return x;
    }

    private static void promise11FullRow() {
        SnapSites x = filled();
        x.deliver(0);
        Due.due("11: the YES has the place of the ASK", x.total(1), 300);
        Due.due("11: behind all others", x.byteOf(299, 0), 2);
        Due.committer(x, 0, 0);
        Due.due("11: sent into a full row", x.total(1), 300);
        Due.due("11: lost, the YES is the last", x.byteOf(299, 0), 2);
        Due.due("11: sent in all", x.total(2), 3);
        Due.due("11: none of it lies there", x.byteOf(299, 4), 0);
    }

    private static void promise11To14Wrong() {
        SnapSites some = filledBy(3);
        Due.due("11: three letters", some.total(1), 3);
        for (int i : new int[] {-1, 3, 300, Integer.MIN_VALUE, Integer.MAX_VALUE}) {
            Due.argument("11: deliver(" + i + ")", () -> filledBy(3), x -> x.deliver(i));
            Due.argument("12: drop(" + i + ")", () -> filledBy(3), x -> x.drop(i));
            Due.argument("13: copy(" + i + ")", () -> filledBy(3), x -> x.copy(i));
            Due.argument("14: byteOf(" + i + ", 0)", () -> filledBy(3), x -> x.byteOf(i, 0));
        }
        Due.argument("11: deliver(0) without letters", SnapSites::new, x -> x.deliver(0));
        Due.argument("12: drop(0) without letters", SnapSites::new, x -> x.drop(0));
        Due.argument("13: copy(0) without letters", SnapSites::new, x -> x.copy(0));
        Due.argument("14: byteOf(0, 0) without letters", SnapSites::new, x -> x.byteOf(0, 0));
        Due.argument("13: copy(300) of a full row", LettersTest::filled, x -> x.copy(300));
    }

    private static SnapSites filledBy(int letters) {
        SnapSites x = Due.opened(3);
        for (int i = 0; i < letters; i++) {
            Due.committer(x, 0, i % 2 == 0 ? 1 : 2);
        }
        return x;
    }

    private static void promise12Drop() {
        SnapSites x = Due.opened(3);
        Due.committer(x, 0, 1);
        Due.committer(x, 0, 0);
        Due.due("12: a TELL", x.drop(1), 5);
        Due.due("12: the others stay", Due.letters(x), "1:0>1#0 5:0>2#1");
        Due.due("12: an ASK", x.drop(0), 1);
        Due.due("12: one is left", Due.letters(x), "5:0>2#1");
        Due.due("12: it does nothing", x.locked(1, 1), SnapSites.NONE);
        x.again(0);
        x.deliver(1);
        Due.due("12: a YES", x.drop(1), 2);
        Due.due("12: nobody has said YES", x.about(0, 4), 0);
        x.crash(0);
        x.restart(0);
        Due.due("12: a FREE", x.drop(1), 4);
        Due.committer(x, 2, 1);
        x.deliver(1);
        Due.due("12: a NO", x.drop(1), 3);
        Due.due("12: what was sent stays so", x.total(2), 8);
    }

    private static void promise13Copy() {
        SnapSites x = Due.opened(3);
        Due.committer(x, 0, 1);
        Due.committer(x, 0, 0);
        Due.due("13: there was room", x.copy(0), true);
        Due.due("13: behind all others", Due.letters(x), "1:0>1#0 5:0>1#1 5:0>2#1 1:0>1#0");
        Due.due("13: the same bytes", Due.letter(x, 3), Due.letter(x, 0));
        Due.due("13: copies are not sent", x.total(2), 3);
        Due.due("13: the last one", x.copy(3), true);
        Due.due("13: five now", x.total(1), 5);
        SnapSites full = filled();
        Due.due("13: 300", full.total(1), 300);
        Due.due("13: no room", full.copy(0), false);
        Due.due("13: nothing is changed", full.total(1), 300);
        full.drop(150);
        Due.due("13: room again", full.copy(298), true);
    }

    private static void promise14ShortLetters() {
        SnapSites x = Due.opened(5);
        for (int i = 0; i < 3; i++) {
            x.begin(0);
        }
        int t = Due.committer(x, 4, 3);
        x.deliver(0);
        Due.due("14: a YES", Due.letter(x, 0), Due.checked(2, 3, 4, 0, t));
        int other = Due.committer(x, 2, 3);
        x.deliver(1);
        Due.due("14: a NO", Due.letter(x, 1), Due.checked(3, 3, 2, 0, other));
        x.deliver(1);
        Due.due("14: a FREE", Due.letter(x, 1), Due.checked(4, 2, 3, 0, other));
        Due.due("14: behind it", x.byteOf(1, 7), SnapSites.NONE);
        Due.due("14: far behind it", x.byteOf(1, Integer.MAX_VALUE), SnapSites.NONE);
        Due.due("14: no byte before it either", x.byteOf(1, -1), SnapSites.NONE);
        Due.due("14: nor far before it", x.byteOf(1, Integer.MIN_VALUE), SnapSites.NONE);
        Due.due("14: a letter stays as it is", Due.letter(x, 0), Due.checked(2, 3, 4, 0, t));
    }

    private static void promise14Ask() {
        SnapSites x = Due.opened(3);
        Due.committer(x, 1, 1);
        Due.committer(x, 1, 1);
        Due.deliverAll(x);
        int t = Due.committer(x, 0, 19, 2, 7, 1, 0);
        Due.due("14: an ASK to 1", Due.letter(x, 0), Due.checked(1, 0, 1, 0, t, 0, 0, 0, 2, 0, 0, 3, 1, 7, 19));
        Due.due("14: an ASK to 2", Due.letter(x, 1), Due.checked(1, 0, 2, 0, t, 0, 0, 0, 2, 0, 0, 1, 2));
        x.deliver(0);
        int later = Due.committer(x, 1, 4);
        x.again(t);
        int last = x.total(1) - 2;
        Due.due("14: an ASK sent again has its START", Due.letter(x, last),
                Due.checked(1, 0, 1, 0, t, 0, 0, 0, 2, 0, 0, 3, 1, 7, 19));
        Due.due("14: behind another one's letters", x.about(later, 0), 2);
    }

    private static void promise14Tell() {
        SnapSites x = new SnapSites();
        Due.committer(x, 0, 0);
        x.drop(0);
        int t = x.begin(0);
        x.write(t, 18, -8);
        x.write(t, 2, 0x12345678);
        x.write(t, 18, Integer.MIN_VALUE);
        x.change(t, 4, 7, -1);
        x.change(t, 0, 1, 1);
        x.change(t, 4, 7, 1);
        x.commit(t);
        Due.due("14: a TELL", Due.letter(x, 0), Due.checked(5, 0, 1, 0, t, 0, 1, 0, 0, 0, 2,
                2, 2, 0x12, 0x34, 0x56, 0x78, 18, 128, 0, 0, 0, 3, 39, 255, 1, 1, 39, 1));
        x.drop(0);
        int ends = x.begin(1);
        x.write(ends, 19, 1);
        x.write(ends, 0, 256);
        x.commit(ends);
        Due.due("14: an ASK for the first object", Due.letter(x, 0), Due.checked(1, 1, 0, 0, ends, 0, 0, 0, 0, 1, 0));
        x.open(2);
        int first = x.begin(0);
        x.write(first, 0, 256);
        x.commit(first);
        Due.due("14: a TELL of the first object", Due.letter(x, 0),
                Due.checked(5, 0, 1, 0, 0, 0, 0, 0, 0, 0, 1, 1, 0, 0, 0, 1, 0, 0));
        x.drop(0);
        x.begin(1);
        x.commit(x.begin(1));
        Due.due("14: a TELL of nothing", Due.letter(x, 0), Due.checked(5, 1, 0, 0, 2, 0, 0, 0, 0, 0, 1, 0, 0));
    }

    private static void promise14LongestTell() {
        SnapSites x = Due.opened(5);
        for (int i = 0; i < 199; i++) {
            x.begin(4);
        }
        int t = x.begin(0);
        for (int object = 10; object < 20; object++) {
            x.write(t, object, -1);
        }
        for (int i = 0; i < 20; i++) {
            x.change(t, 3, 3, 1);
        }
        x.commit(t);
        for (int i = 0; i < 8; i++) {
            x.deliver(0);
        }
        Due.due("14: it is committed", Due.abouts(x, t), "2 0 1 1 4");
        Due.due("14: its transaction", x.byteOf(0, 3) * 256 + x.byteOf(0, 4), 199);
        Due.due("14: its tenth object", x.byteOf(0, 18 + 9 * 5), 19);
        Due.due("14: its changes", x.byteOf(0, 18 + 50), 20);
        Due.due("14: its last change", x.byteOf(0, 18 + 50 + 39), 27);
        Due.due("14: by 1", x.byteOf(0, 18 + 50 + 40), 1);
        Due.due("14: there is its check", x.byteOf(0, 110) >= 0, true);
        Due.due("14: behind it", x.byteOf(0, 111), SnapSites.NONE);
    }
}
