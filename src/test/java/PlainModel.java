import java.util.ArrayList;
import java.util.List;
import java.util.Map;
import java.util.TreeMap;
import java.util.TreeSet;

/**
 * The document once more, written apart from the program and as near to its words as can be, with no thought of
 * space: letters are bytes, and what a site knows of another site's transaction it has read from such bytes.
 */
final class PlainModel {
    private static final int ASK = 1;
    private static final int YES = 2;
    private static final int NO = 3;
    private static final int FREE = 4;
    private static final int TELL = 5;

    /** A transaction as its own site knows it. */
    private static final class Own {
        int number;
        int site;
        String state = "goes on";
        int sequence;
        int[] start;
        boolean waited;
        boolean freesAtRestart;
        final TreeMap<Integer, Integer> writes = new TreeMap<>();
        final List<int[]> changes = new ArrayList<>();
        final TreeSet<Integer> asked = new TreeSet<>();
        final TreeSet<Integer> yes = new TreeSet<>();
    }

    /** A committed transaction as a TELL tells it. */
    private static final class Told {
        int number;
        int site;
        int sequence;
        int[] start;
        final TreeMap<Integer, Integer> writes = new TreeMap<>();
        final List<int[]> changes = new ArrayList<>();
    }

    private static final class Place {
        boolean up = true;
        final List<Told> applied = new ArrayList<>();
        final TreeMap<Integer, Told> kept = new TreeMap<>();
        final TreeMap<Integer, Integer> locks = new TreeMap<>();
        final TreeSet<Integer> freed = new TreeSet<>();
    }

    private List<Place> places;
    private List<Own> owns;
    private List<int[]> row;
    private int sent;
    private int appliedInThisCall;

    PlainModel() {
        fresh(2);
    }

    private void fresh(int n) {
        places = new ArrayList<>();
        for (int s = 0; s < n; s++) {
            places.add(new Place());
        }
        owns = new ArrayList<>();
        row = new ArrayList<>();
        sent = 0;
    }

    private static void argument(boolean fits) {
        if (!fits) {
            throw new IllegalArgumentException();
        }
    }

    private static void state(boolean fits) {
        if (!fits) {
            throw new IllegalStateException();
        }
    }

    private static boolean within(int number, int bound) {
        return 0 <= number && number < bound;
    }

    private Own own(int transaction) {
        argument(within(transaction, owns.size()));
        return owns.get(transaction);
    }

    private int[] vectorOf(int site) {
        int[] counts = new int[places.size()];
        for (Told told : places.get(site).applied) {
            counts[told.site]++;
        }
        return counts;
    }

    private static boolean sees(int[] start, Told told) {
        return told.sequence <= start[told.site];
    }

    void open(int sites) {
        argument(2 <= sites && sites <= 5);
        fresh(sites);
    }

    int begin(int site) {
        argument(within(site, places.size()));
        state(places.get(site).up && owns.size() < 200);
        Own t = new Own();
        t.number = owns.size();
        t.site = site;
        t.start = vectorOf(site);
        owns.add(t);
        return t.number;
    }

    int read(int transaction, int object) {
        Own t = own(transaction);
        argument(within(object, 20));
        state(t.state.equals("goes on"));
        Integer written = t.writes.get(object);
        return written != null ? written : reading(t.site, t.start, object);
    }

    private int reading(int site, int[] start, int object) {
        int latest = 0;
        for (Told told : places.get(site).applied) {
            if (sees(start, told) && told.writes.containsKey(object)) {
                latest = told.writes.get(object);
            }
        }
        return latest;
    }

    int write(int transaction, int object, int value) {
        Own t = own(transaction);
        argument(within(object, 20));
        state(t.state.equals("goes on"));
        state(t.writes.containsKey(object) || t.writes.size() != 10);
        t.writes.put(object, value);
        return t.writes.size();
    }

    int change(int transaction, int set, int element, int by) {
        Own t = own(transaction);
        argument(within(set, 5) && within(element, 8) && Math.abs((long) by) == 1);
        state(t.state.equals("goes on") && t.changes.size() != 20);
        t.changes.add(new int[] {8 * set + element, by});
        return t.changes.size();
    }

    int count(int transaction, int set, int element) {
        Own t = own(transaction);
        argument(within(set, 5) && within(element, 8));
        state(t.state.equals("goes on"));
        List<int[]> all = new ArrayList<>(t.changes);
        for (Told told : places.get(t.site).applied) {
            if (sees(t.start, told)) {
                all.addAll(told.changes);
            }
        }
        int sum = 0;
        for (int[] change : all) {
            sum += change[0] == 8 * set + element ? change[1] : 0;
        }
        return sum;
    }

    int commit(int transaction) {
        Own t = own(transaction);
        state(t.state.equals("goes on"));
        TreeSet<Integer> homes = new TreeSet<>();
        List<Integer> here = new ArrayList<>();
        for (int object : t.writes.keySet()) {
            homes.add(object % places.size());
            if (object % places.size() == t.site) {
                here.add(object);
            }
        }
        homes.remove(t.site);
        if (!allFit(t.site, t.number, t.start, here)) {
            t.state = "refused";
        } else if (homes.isEmpty()) {
            committed(t);
        } else {
            lock(t.site, t.number, here);
            t.state = "waits";
            t.waited = true;
            t.asked.addAll(homes);
            for (int home : homes) {
                send(letter(ASK, t.site, home, t));
            }
        }
        return stateNumber(t);
    }

    private static int stateNumber(Own t) {
        return List.of("goes on", "waits", "committed", "refused", "lost").indexOf(t.state);
    }

    private boolean allFit(int site, int number, int[] start, List<Integer> objects) {
        Place place = places.get(site);
        for (int object : objects) {
            if (place.locks.getOrDefault(object, number) != number) {
                return false;
            }
            for (Told told : place.applied) {
                if (told.writes.containsKey(object) && !sees(start, told)) {
                    return false;
                }
            }
        }
        return true;
    }

    private void lock(int site, int number, List<Integer> objects) {
        for (int object : objects) {
            places.get(site).locks.put(object, number);
        }
    }

    private void unlock(int site, int number) {
        places.get(site).locks.values().removeIf(holder -> holder == number);
    }

    private void committed(Own t) {
        t.state = "committed";
        t.sequence = vectorOf(t.site)[t.site] + 1;
        apply(t.site, told(letter(TELL, t.site, t.site, t)));
        for (int s = 0; s < places.size(); s++) {
            if (s != t.site) {
                send(letter(TELL, t.site, s, t));
            }
        }
    }

    private void apply(int site, Told told) {
        appliedInThisCall++;
        places.get(site).applied.add(told);
        places.get(site).kept.remove(told.number);
        unlock(site, told.number);
    }

    private boolean isApplied(int site, int number) {
        return places.get(site).applied.stream().anyMatch(told -> told.number == number);
    }

    private void notTaken(Own t) {
        unlock(t.site, t.number);
        for (int home : t.asked) {
            send(letter(FREE, t.site, home, t));
        }
    }

    void abort(int transaction) {
        Own t = own(transaction);
        state(t.state.equals("goes on"));
        t.state = "refused";
    }

    int again(int transaction) {
        Own t = own(transaction);
        state(places.get(t.site).up);
        int before = sent;
        for (int s = 0; s < places.size(); s++) {
            if (t.state.equals("waits") && t.asked.contains(s) && !t.yes.contains(s)) {
                send(letter(ASK, t.site, s, t));
            }
            if (t.state.equals("committed") && !isApplied(s, t.number)) {
                send(letter(TELL, t.site, s, t));
            }
            if ((t.state.equals("refused") || t.state.equals("lost")) && t.waited && t.asked.contains(s)) {
                send(letter(FREE, t.site, s, t));
            }
        }
        return sent - before;
    }

    private void send(int[] letter) {
        sent++;
        if (row.size() < 300) {
            row.add(letter);
        }
    }

    private static void high(List<Integer> bytes, int number, int howMany) {
        for (int i = howMany - 1; i >= 0; i--) {
            bytes.add(number >>> 8 * i & 255);
        }
    }

    private int[] letter(int kind, int from, int to, Own t) {
        List<Integer> bytes = new ArrayList<>(List.of(kind, from, to));
        high(bytes, t.number, 2);
        if (kind == ASK || kind == TELL) {
            for (int of : t.start) {
                high(bytes, of, 2);
            }
        }
        if (kind == TELL) {
            high(bytes, t.sequence, 2);
            bytes.add(t.writes.size());
            for (Map.Entry<Integer, Integer> write : t.writes.entrySet()) {
                bytes.add(write.getKey());
                high(bytes, write.getValue(), 4);
            }
            bytes.add(t.changes.size());
            for (int[] change : t.changes) {
                bytes.add(change[0]);
                bytes.add(change[1] == 1 ? 1 : 255);
            }
        }
        if (kind == ASK) {
            List<Integer> theirs = new ArrayList<>(t.writes.keySet());
            theirs.removeIf(object -> object % places.size() != to);
            bytes.add(theirs.size());
            bytes.addAll(theirs);
        }
        int check = 0;
        for (int b : bytes) {
            check = (check * 8 % 65536 + check / 8192) ^ b;
        }
        high(bytes, check, 2);
        return bytes.stream().mapToInt(b -> b).toArray();
    }

    private int[] startIn(int[] bytes) {
        int[] start = new int[places.size()];
        for (int s = 0; s < start.length; s++) {
            start[s] = bytes[5 + 2 * s] * 256 + bytes[6 + 2 * s];
        }
        return start;
    }

    private Told told(int[] bytes) {
        Told told = new Told();
        told.site = bytes[1];
        told.number = bytes[3] * 256 + bytes[4];
        told.start = startIn(bytes);
        int at = 5 + 2 * places.size();
        told.sequence = bytes[at] * 256 + bytes[at + 1];
        int objects = bytes[at + 2];
        at += 3;
        for (int i = 0; i < objects; i++) {
            int value = bytes[at + 1] << 24 | bytes[at + 2] << 16 | bytes[at + 3] << 8 | bytes[at + 4];
            told.writes.put(bytes[at], value);
            at += 5;
        }
        int changes = bytes[at];
        at++;
        for (int i = 0; i < changes; i++) {
            told.changes.add(new int[] {bytes[at], bytes[at + 1] == 1 ? 1 : -1});
            at += 2;
        }
        return told;
    }

    int deliver(int i) {
        argument(within(i, row.size()));
        int[] bytes = row.remove(i);
        appliedInThisCall = 0;
        int from = bytes[1];
        int to = bytes[2];
        Own t = owns.get(bytes[3] * 256 + bytes[4]);
        if (places.get(to).up) {
            if (bytes[0] == ASK) {
                asked(bytes, from, to, t);
            } else if (bytes[0] == FREE) {
                unlock(to, t.number);
                places.get(to).freed.add(t.number);
            } else if (bytes[0] == TELL) {
                heard(told(bytes), to);
            } else if (t.state.equals("waits")) {
                answered(bytes[0], from, t);
            }
        }
        return appliedInThisCall;
    }

    private void asked(int[] bytes, int from, int to, Own t) {
        if (isApplied(to, t.number)) {
            return;
        }
        List<Integer> objects = new ArrayList<>();
        int at = 5 + 2 * places.size();
        for (int k = 1; k <= bytes[at]; k++) {
            objects.add(bytes[at + k]);
        }
        if (places.get(to).freed.contains(t.number) || !allFit(to, t.number, startIn(bytes), objects)) {
            send(letter(NO, to, from, t));
        } else {
            lock(to, t.number, objects);
            send(letter(YES, to, from, t));
        }
    }

    private void answered(int kind, int from, Own t) {
        if (kind == NO) {
            t.state = "refused";
            notTaken(t);
            return;
        }
        t.yes.add(from);
        if (t.yes.containsAll(t.asked)) {
            committed(t);
        }
    }

    private void heard(Told told, int site) {
        Place place = places.get(site);
        if (!isApplied(site, told.number)) {
            place.kept.put(told.number, told);
        }
        boolean more = true;
        while (more) {
            more = false;
            for (Told next : place.kept.values()) {
                if (isReady(next, vectorOf(site))) {
                    apply(site, next);
                    more = true;
                    break;
                }
            }
        }
    }

    private static boolean isReady(Told told, int[] vector) {
        boolean ready = told.sequence == vector[told.site] + 1;
        for (int s = 0; s < vector.length; s++) {
            ready = ready && told.start[s] <= vector[s];
        }
        return ready;
    }

    int drop(int i) {
        argument(within(i, row.size()));
        return row.remove(i)[0];
    }

    boolean copy(int i) {
        argument(within(i, row.size()));
        return row.size() < 300 && row.add(row.get(i));
    }

    int byteOf(int i, int k) {
        argument(within(i, row.size()));
        return within(k, row.get(i).length) ? row.get(i)[k] : -1;
    }

    void crash(int site) {
        argument(within(site, places.size()));
        state(places.get(site).up);
        places.get(site).up = false;
        places.get(site).kept.clear();
        for (Own t : owns) {
            if (t.site == site && (t.state.equals("goes on") || t.state.equals("waits"))) {
                t.freesAtRestart = t.state.equals("waits");
                t.state = "lost";
            }
        }
    }

    void restart(int site) {
        argument(within(site, places.size()));
        state(!places.get(site).up);
        places.get(site).up = true;
        for (Own t : owns) {
            if (t.site == site && t.freesAtRestart) {
                t.freesAtRestart = false;
                notTaken(t);
            }
        }
    }

    int about(int transaction, int what) {
        Own t = own(transaction);
        argument(within(what, 5));
        int applied = 0;
        for (int s = 0; s < places.size(); s++) {
            applied += isApplied(s, transaction) ? 1 : 0;
        }
        return new int[] {stateNumber(t), t.site, t.sequence, applied, t.yes.size()}[what];
    }

    int vector(int site, int of) {
        argument(within(site, places.size()) && within(of, places.size()));
        return vectorOf(site)[of];
    }

    int value(int site, int object) {
        argument(within(site, places.size()) && within(object, 20));
        return reading(site, vectorOf(site), object);
    }

    int locked(int site, int object) {
        argument(within(site, places.size()) && within(object, 20));
        return places.get(site).locks.getOrDefault(object, -1);
    }

    int total(int what) {
        argument(within(what, 5));
        int kept = 0;
        int up = 0;
        for (Place place : places) {
            kept += place.kept.size();
            up += place.up ? 1 : 0;
        }
        return new int[] {owns.size(), row.size(), sent, kept, up}[what];
    }
}
