import java.util.ArrayList;
import java.util.Arrays;
import java.util.Comparator;
import java.util.List;
import java.util.function.IntPredicate;
import java.util.regex.Matcher;
import java.util.regex.Pattern;

/**
 * The document's words once more, as unlike the class as may be: rows are Java's own arrays and
 * faults the machine's own exceptions, sets of days are all gone through, kinds are classes.
 */
final class Model {
    private static final Pattern TEXT =
        Pattern.compile("c[0-9][1-4],[0-9]{1,5}(?:;[pdu][0-9][0-9]){1,4}");

    interface Capped {
        int number();

        default int capped(Model m) {
            m.leave(4);
            return number();
        }
    }

    static class Pupil implements Capped {
        final int number;
        final int wit;
        final int patience;

        Pupil(int number, int wit, int patience) {
            this.number = number;
            this.wit = wit;
            this.patience = patience;
        }

        public int number() {
            return number;
        }

        int kind() {
            return 0;
        }

        int hours() {
            return patience;
        }

        final int pupilTelling(Model m) {
            m.leave(1);
            return patience;
        }

        int telling(Model m) {
            return pupilTelling(m);
        }
    }

    static class Deacon extends Pupil {
        Deacon(int number, int wit, int patience) {
            super(number, wit, patience);
        }

        @Override int kind() {
            return 1;
        }

        @Override int hours() {
            return patience == 0 ? 0 : patience - 1;
        }

        @Override int telling(Model m) {
            m.leave(2);
            return super.telling(m) + 100;
        }
    }

    static final class Curate extends Deacon {
        Curate(int number, int wit, int patience) {
            super(number, wit, patience);
        }

        @Override int kind() {
            return 2;
        }

        @Override int hours() {
            return patience >> 1;
        }

        @Override int telling(Model m) {
            m.leave(3);
            return super.telling(m) + pupilTelling(m);
        }

        @Override public int capped(Model m) {
            m.leave(5);
            return 70;
        }
    }

    static Pupil make(int kind, int number, int wit, int patience) {
        return kind == 0 ? new Pupil(number, wit, patience)
            : kind == 1 ? new Deacon(number, wit, patience) : new Curate(number, wit, patience);
    }

    private List<Pupil> pupils = new ArrayList<>();
    private List<Integer> hards = new ArrayList<>();
    private int doubt;
    private int room;
    private final List<int[]> readings = new ArrayList<>();
    private final Object[] sheets = new Object[4];
    private int trace;
    private int fault;

    private void leave(int number) {
        trace = trace * 31 + number;
    }

    // ---- faults as the machine has them

    private interface Body {
        long run();
    }

    private long guarded(boolean isLong, Body body) {
        fault = 0;
        try {
            return body.run();
        } catch (NullPointerException e) {
            fault = 1;
        } catch (ClassCastException | ArrayStoreException e) {
            fault = 2;
        } catch (IndexOutOfBoundsException e) {
            fault = 3;
        } catch (NegativeArraySizeException e) {
            fault = 4;
        }
        return isLong ? Long.MIN_VALUE : -10 - fault;
    }

    private int[] taken(int sheet, int lane, int i, int n) {
        Object row = sheets[sheet];
        if (lane == 0) {
            row = (byte[]) row;
        } else if (lane == 1) {
            row = (short[]) row;
        } else {
            row = (int[]) row;
        }
        int length = java.lang.reflect.Array.getLength(row);
        if (n < 0) {
            throw new NegativeArraySizeException();
        }
        java.util.Objects.checkFromIndexSize(i, n, length);
        int[] codes = new int[n];
        for (int at = 0; at < n; at++) {
            codes[at] = java.lang.reflect.Array.getInt(row, i + at);
        }
        return codes;
    }

    private static boolean in(int v, int from, int to) {
        return v >= from && v <= to;
    }

    private boolean pupil(int p) {
        return in(p, 0, pupils.size() - 1);
    }

    private boolean day(int d) {
        return in(d, 0, hards.size() - 1);
    }

    // ---- 1 the see

    int see(int sheet, int lane, int i, int n) {
        return (int) guarded(false, () -> {
            if (!in(sheet, 0, 3)) {
                return -1;
            }
            if (!in(lane, 0, 2)) {
                return -2;
            }
            StringBuilder text = new StringBuilder();
            for (int code : taken(sheet, lane, i, n)) {
                text.append(in(code, 1, 127) ? (char) code : '?');
            }
            return seeText(text.toString());
        });
    }

    private int seeText(String text) {
        for (int n = 1; n <= text.length(); n++) {
            Matcher begun = TEXT.matcher(text.substring(0, n));
            if (!begun.matches() && !begun.hitEnd()) {
                return -100 - (n - 1);
            }
        }
        if (!TEXT.matcher(text).matches()) {
            return -100 - text.length();
        }
        String[] parts = text.split(";");
        doubt = parts[0].charAt(1) - '0';
        room = parts[0].charAt(2) - '0';
        hards = new ArrayList<>();
        for (char c : parts[0].substring(4).toCharArray()) {
            hards.add(c - '0');
        }
        pupils = new ArrayList<>();
        for (int p = 1; p < parts.length; p++) {
            pupils.add(make("pdu".indexOf(parts[p].charAt(0)), p - 1, parts[p].charAt(1) - '0',
                parts[p].charAt(2) - '0'));
        }
        readings.clear();
        return pupils.size();
    }

    int ofPupil(int p, int what) {
        if (!pupil(p)) {
            return -1;
        }
        if (!in(what, 0, 3)) {
            return -2;
        }
        Pupil one = pupils.get(p);
        return new int[] {one.kind(), one.wit, one.patience, one.hours()}[what];
    }

    int hard(int d) {
        return day(d) ? hards.get(d) : -1;
    }

    int ask(int d, int v) {
        return !day(d) ? -1 : !in(v, 0, 9) ? -2 : hards.set(d, v);
    }

    int teach(int p, int v) {
        if (!pupil(p)) {
            return -1;
        }
        if (!in(v, 0, 9)) {
            return -2;
        }
        Pupil was = pupils.get(p);
        pupils.set(p, make(was.kind(), p, v, was.patience));
        return was.wit;
    }

    int doubt(int v) {
        if (!in(v, 0, 9)) {
            return -2;
        }
        if (pupils.isEmpty()) {
            return -3;
        }
        int was = doubt;
        doubt = v;
        return was;
    }

    int build(int v) {
        if (!in(v, 1, 4)) {
            return -2;
        }
        if (pupils.isEmpty()) {
            return -3;
        }
        int was = room;
        room = v;
        return was;
    }

    // ---- 2 who stands

    private boolean wouldStand(Pupil one, int hard, boolean pretends) {
        if (one.wit < hard) {
            return true;
        }
        return pretends && one.wit - hard < doubt;
    }

    private List<Pupil> keen(List<Pupil> all, List<Integer> hardness, int d, int[] plan) {
        List<Pupil> keen = new ArrayList<>();
        for (Pupil one : all) {
            if (wouldStand(one, hardness.get(d), (plan[one.number] & 1 << d) != 0)) {
                keen.add(one);
            }
        }
        return keen;
    }

    private int standers(List<Pupil> all, List<Integer> hardness, int d, int[] plan) {
        List<Pupil> keen = keen(all, hardness, d, plan);
        keen.sort(Comparator.comparingInt((Pupil one) -> one.wit).thenComparingInt(one -> one.number));
        int set = 0;
        for (Pupil one : keen.subList(0, Math.min(room, keen.size()))) {
            set += 1 << one.number;
        }
        return set;
    }

    private int[] hours(List<Pupil> all, List<Integer> hardness, int days, int[] plan) {
        int[] hours = new int[all.size()];
        for (int d = 0; d < days; d++) {
            int set = standers(all, hardness, d, plan);
            for (Pupil one : all) {
                hours[one.number] += (set & 1 << one.number) != 0 ? one.hours() : 0;
            }
        }
        return hours;
    }

    private int bishopOf(List<Integer> hardness, int[] plan) {
        int[] hours = hours(pupils, hardness, hardness.size(), plan);
        int most = Arrays.stream(hours).max().getAsInt();
        for (int p = 0; most > 0 && p < hours.length; p++) {
            if (hours[p] == most) {
                return p;
            }
        }
        return -9;
    }

    private int[] nobody() {
        return new int[pupils.size()];
    }

    int would(int p, int d, boolean pretends) {
        return !pupil(p) || !day(d) ? -1 : wouldStand(pupils.get(p), hards.get(d), pretends) ? 1 : 0;
    }

    int stand(int d) {
        return day(d) ? standers(pupils, hards, d, nobody()) : -1;
    }

    int bishop() {
        return pupils.isEmpty() ? -3 : bishopOf(hards, nobody());
    }

    int plan(int sheet, int lane, int i, int n, int what) {
        return (int) guarded(false, () -> {
            if (!in(sheet, 0, 3)) {
                return -1;
            }
            if (!in(lane, 0, 2) || !in(what, 0, 3) && !in(what, 10, 13) && !in(what, 20, 24)) {
                return -2;
            }
            int[] plan = taken(sheet, lane, i, n);
            if (pupils.isEmpty()) {
                return -3;
            }
            if (n != pupils.size()) {
                return -2;
            }
            for (int set : plan) {
                if (!in(set, 0, (1 << hards.size()) - 1)) {
                    return -2;
                }
            }
            return ofPlan(plan, what);
        });
    }

    private int ofPlan(int[] plan, int what) {
        int[] hours = hours(pupils, hards, hards.size(), plan);
        if (what == 0) {
            return bishopOf(hards, plan);
        }
        if (what == 1) {
            for (int p = 0; p < plan.length; p++) {
                for (int set = 0; set < 1 << hards.size(); set++) {
                    int[] other = plan.clone();
                    other[p] = set;
                    if (hours(pupils, hards, hards.size(), other)[p] > hours[p]) {
                        return p;
                    }
                }
            }
            return -9;
        }
        if (what == 2) {
            return Arrays.stream(hours).sum();
        }
        if (what == 3) {
            return set(5, d -> day(d) && keen(pupils, hards, d, plan).size() > room);
        }
        if (what < 20) {
            return pupil(what - 10) ? hours[what - 10] : -9;
        }
        return day(what - 20) ? standers(pupils, hards, what - 20, plan) : -9;
    }

    private static int set(int below, IntPredicate holds) {
        int set = 0;
        for (int v = 0; v < below; v++) {
            set += holds.test(v) ? 1 << v : 0;
        }
        return set;
    }

    // ---- 3 how to be bishop

    int best(int p) {
        if (!pupil(p)) {
            return -1;
        }
        for (int size = 0; size <= hards.size(); size++) {
            for (int set = 0; set < 1 << hards.size(); set++) {
                int[] plan = nobody();
                plan[p] = set;
                if (Integer.bitCount(set) == size && bishopOf(hards, plan) == p) {
                    return set;
                }
            }
        }
        return -9;
    }

    private List<Integer> hardsWith(int d, int v) {
        List<Integer> other = new ArrayList<>(hards);
        other.set(d, v);
        return other;
    }

    int choose(int p, int d) {
        if (!pupil(p) || !day(d)) {
            return -1;
        }
        int set = set(10, v -> bishopOf(hardsWith(d, v), nobody()) == p);
        return set == 0 ? -9 : Integer.numberOfTrailingZeros(set);
    }

    // ---- 4 how long they stood

    int reading(int p, int t, int v) {
        if (!pupil(p)) {
            return -1;
        }
        if (!in(t, 0, hards.size()) || !in(v, 0, 99)) {
            return -2;
        }
        if (readings.size() == 8) {
            return -4;
        }
        readings.add(new int[] {p, t, v});
        return readings.size() - 1;
    }

    int back(int k) {
        if (!in(k, 0, readings.size())) {
            return -2;
        }
        for (int i = 0; i < k; i++) {
            readings.remove(readings.size() - 1);
        }
        return readings.size();
    }

    private boolean read(List<Pupil> all, List<Integer> hardness) {
        return readings.stream()
            .allMatch(r -> hours(all, hardness, r[1], nobody())[r[0]] == r[2]);
    }

    private List<Pupil> pupilsWith(Pupil one) {
        List<Pupil> other = new ArrayList<>(pupils);
        other.set(one.number, one);
        return other;
    }

    int wits(int p) {
        return !pupil(p) ? -1 : set(10, v ->
            read(pupilsWith(make(pupils.get(p).kind(), p, v, pupils.get(p).patience)), hards));
    }

    int kinds(int p) {
        return !pupil(p) ? -1 : set(3, v ->
            read(pupilsWith(make(v, p, pupils.get(p).wit, pupils.get(p).patience)), hards));
    }

    int hards(int d) {
        return !day(d) ? -1 : set(10, v -> read(pupils, hardsWith(d, v)));
    }

    long odds(int p, int which) {
        if (!pupil(p) || !in(which, 0, 1)) {
            return Long.MIN_VALUE;
        }
        int lower = 1 << pupils.size();
        int upper = 0;
        for (int who = 0; who < lower; who++) {
            int[] plan = nobody();
            for (int q = 0; q < plan.length; q++) {
                plan[q] = (who & 1 << q) != 0 ? (1 << hards.size()) - 1 : 0;
            }
            upper += bishopOf(hards, plan) == p ? 1 : 0;
        }
        while (lower > 1 && upper % 2 == 0) {
            upper /= 2;
            lower /= 2;
        }
        return which == 0 ? upper : lower;
    }

    // ---- 5 sheets, parts

    int sheet(int k, int lane, int n) {
        return (int) guarded(false, () -> {
            if (!in(k, 0, 3)) {
                return -1;
            }
            if (!in(lane, 0, 2) || n > 60) {
                return -2;
            }
            sheets[k] = lane == 0 ? new byte[n] : lane == 1 ? new short[n] : new int[n];
            return 1;
        });
    }

    int lose(int k) {
        if (!in(k, 0, 3)) {
            return -1;
        }
        Object had = sheets[k];
        sheets[k] = null;
        return had == null ? 0 : 1;
    }

    int put(int k, int i, int v) {
        return (int) guarded(false, () -> {
            if (!in(k, 0, 3)) {
                return -1;
            }
            if (sheets[k] instanceof byte[] bytes) {
                bytes[i] = (byte) v;
            } else if (sheets[k] instanceof short[] shorts) {
                shorts[i] = (short) v;
            } else {
                ((int[]) sheets[k])[i] = v;
            }
            return 1;
        });
    }

    long cell(int k, int i, int lane) {
        return guarded(true, () -> {
            if (!in(k, 0, 3) || !in(lane, 0, 2)) {
                return Long.MIN_VALUE;
            }
            return lane == 0 ? ((byte[]) sheets[k])[i]
                : lane == 1 ? ((short[]) sheets[k])[i] : ((int[]) sheets[k])[i];
        });
    }

    int copy(int k, int i, int other, int j, int n) {
        return (int) guarded(false, () -> {
            if (!in(k, 0, 3) || !in(other, 0, 3)) {
                return -1;
            }
            System.arraycopy(sheets[k], i, sheets[other], j, n);
            return n;
        });
    }

    int tell(int p) {
        return pupil(p) ? pupils.get(p).telling(this) : -1;
    }

    int cap(int p) {
        return pupil(p) ? pupils.get(p).capped(this) : -1;
    }

    int as(int p, int kind) {
        return (int) guarded(false, () -> {
            if (!pupil(p)) {
                return -1;
            }
            if (!in(kind, 0, 2)) {
                return -2;
            }
            Object one = pupils.get(p);
            Class<?>[] kinds = {Pupil.class, Deacon.class, Curate.class};
            kinds[kind].cast(one);
            return 1;
        });
    }

    int trace() {
        return trace;
    }

    int fault() {
        return fault;
    }

    int many(int what) {
        return !in(what, 0, 4) ? -2
            : new int[] {pupils.size(), hards.size(), doubt, room, readings.size()}[what];
    }
}
