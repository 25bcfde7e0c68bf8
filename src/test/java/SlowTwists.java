import java.util.ArrayList;
import java.util.Collections;
import java.util.List;

/**
 * The document once more, word by word, with lists and without any short cut: what the class
 * answers is held against this in random runs.
 */
final class SlowTwists {
    static final int NONE = -1, UNKNOWN = -1001, OUTSIDE = -1002, NOT = -1003, FULL = -1004, LARGE = -1005;

    int g = 2;
    List<Integer> draft = new ArrayList<>();
    final List<List<Integer>> rings = new ArrayList<>();
    final List<List<Integer>> plans = new ArrayList<>();
    final StringBuilder text = new StringBuilder();
    int faultByte = NONE;

    /** Thrown where some row would have more than 400 letters. */
    static final class TooLarge extends RuntimeException {
        private static final long serialVersionUID = 1L;

        TooLarge() {
            super(null, null, false, false);
        }
    }

    /** Thrown at the first fault of a text. */
    static final class Fault extends RuntimeException {
        private static final long serialVersionUID = 1L;

        final int number;
        final int place;

        Fault(int number, int place) {
            super(null, null, false, false);
            this.number = number;
            this.place = place;
        }
    }

    SlowTwists() {
        skin(2);
    }

    // ---- rows

    static List<Integer> clean(List<Integer> row) {
        List<Integer> rest = new ArrayList<>(row);
        for (int k = 0; k + 1 < rest.size();) {
            if (rest.get(k) == -rest.get(k + 1)) {
                rest.remove(k + 1);
                rest.remove(k);
                k = Math.max(0, k - 1);
            } else {
                k++;
            }
        }
        return rest;
    }

    static List<Integer> closed(List<Integer> row) {
        List<Integer> rest = clean(row);
        while (rest.size() > 1 && rest.get(0) == -rest.get(rest.size() - 1)) {
            rest = rest.subList(1, rest.size() - 1);
        }
        return new ArrayList<>(rest);
    }

    static List<Integer> back(List<Integer> row) {
        List<Integer> result = new ArrayList<>();
        for (int k = row.size() - 1; k >= 0; k--) {
            result.add(-row.get(k));
        }
        return result;
    }

    static boolean areOne(List<Integer> u, List<Integer> v) {
        if (u.size() != v.size()) {
            return false;
        }
        List<Integer> turned = new ArrayList<>(u);
        for (int k = 0; k < u.size(); k++) {
            if (turned.equals(v) || back(turned).equals(v)) {
                return true;
            }
            Collections.rotate(turned, 1);
        }
        return false;
    }

    static boolean isPower(List<Integer> row) {
        List<Integer> turned = new ArrayList<>(row);
        for (int k = 1; k < row.size(); k++) {
            Collections.rotate(turned, 1);
            if (turned.equals(row)) {
                return true;
            }
        }
        return false;
    }

    // ---- meetings

    private List<Integer> round() {
        List<Integer> round = new ArrayList<>();
        for (int i = 0; i < g; i++) {
            round.add(2 * i + 1);
            round.add(-(2 * i + 2));
            round.add(-(2 * i + 1));
            round.add(2 * i + 2);
        }
        return round;
    }

    /** Whether from x on y comes ahead of z. */
    private boolean goRound(int x, int y, int z) {
        List<Integer> round = round();
        int place = round.indexOf(x);
        for (int k = 0; k < round.size(); k++) {
            int letter = round.get((place + k) % round.size());
            if (letter == y) {
                return true;
            }
            if (letter == z) {
                return false;
            }
        }
        throw new IllegalStateException("letters out of the round");
    }

    private static int in(List<Integer> row, int place) {
        return row.get(Math.floorMod(place, row.size()));
    }

    int meetings(List<Integer> u, List<Integer> v) {
        int sum = 0;
        for (int i = 0; i < u.size(); i++) {
            for (int j = 0; j < v.size(); j++) {
                int x = -in(u, i - 1);
                int y = -in(v, j - 1);
                int a = in(u, i);
                int b = in(v, j);
                boolean four = a != b && a != x && a != y && b != x && b != y && x != y;
                if (four && goRound(x, y, a) != goRound(x, b, a)) {
                    sum++;
                }
            }
        }
        return sum + alongside(u, v) + alongside(u, back(v));
    }

    private int alongside(List<Integer> u, List<Integer> v) {
        int sum = 0;
        for (int i = 0; i < u.size(); i++) {
            for (int j = 0; j < v.size(); j++) {
                int x = -in(u, i - 1);
                int y = -in(v, j - 1);
                int a = in(u, i);
                if (a != in(v, j) || x == y) {
                    continue;
                }
                int alike = 1;
                while (alike < 2000 && in(u, i + alike) == in(v, j + alike)) {
                    alike++;
                }
                if (alike == 2000) {
                    continue;
                }
                int z = -in(u, i + alike - 1);
                if (goRound(a, x, y) == goRound(z, in(u, i + alike), in(v, j + alike))) {
                    sum++;
                }
            }
        }
        return sum;
    }

    boolean isSimple(int r) {
        return !isPower(rings.get(r)) && meetings(rings.get(r), rings.get(r)) == 0;
    }

    // ---- twists

    private List<Integer> becomes(int code, int letter) {
        if (letter < 0) {
            return back(becomes(code, -letter));
        }
        int t = code / 2;
        boolean other = code % 2 == 1;
        List<Integer> row = new ArrayList<>();
        row.add(letter);
        int i = t < g ? t : t < 2 * g ? t - g : t - 2 * g;
        if (t < g) {
            if (letter == 2 * i + 2) {
                row.add(other ? -(2 * i + 1) : 2 * i + 1);
            }
        } else if (t < 2 * g) {
            if (letter == 2 * i + 1) {
                row.add(other ? 2 * i + 2 : -(2 * i + 2));
            }
        } else {
            List<Integer> c = List.of(2 * i + 2, -(2 * i + 1), -(2 * i + 2), 2 * i + 3);
            List<Integer> ahead = other ? c : back(c);
            List<Integer> behind = other ? back(c) : c;
            if (letter == 2 * i + 2) {
                row.addAll(0, ahead);
            } else if (letter == 2 * i + 3) {
                row.addAll(0, ahead);
                row.addAll(behind);
            } else if (letter == 2 * i + 4) {
                row.addAll(behind);
            }
        }
        return row;
    }

    List<Integer> imageOf(List<Integer> plan, List<Integer> row) {
        List<Integer> now = row;
        for (int k = plan.size() - 1; k >= 0; k--) {
            List<Integer> next = new ArrayList<>();
            for (int letter : now) {
                next.addAll(becomes(plan.get(k), letter));
            }
            now = clean(next);
            if (now.size() > 400) {
                throw new TooLarge();
            }
        }
        return now;
    }

    private List<Integer> times(List<Integer> plan, int k) {
        List<Integer> all = new ArrayList<>();
        for (int time = 0; time < k; time++) {
            all.addAll(plan);
        }
        return all;
    }

    List<List<Integer>> imagesOf(List<Integer> plan) {
        List<List<Integer>> all = new ArrayList<>();
        for (int x = 1; x <= 2 * g; x++) {
            all.add(imageOf(plan, List.of(x)));
        }
        return all;
    }

    // ---- the calls

    private boolean noRing(int r) {
        return r < 0 || r >= rings.size();
    }

    private static boolean noPlan(int p) {
        return p < 0 || p > 7;
    }

    int skin(int handles) {
        if (handles < 1 || handles > 3) {
            return OUTSIDE;
        }
        g = handles;
        rings.clear();
        plans.clear();
        draft = new ArrayList<>();
        for (int p = 0; p < 8; p++) {
            plans.add(new ArrayList<>());
        }
        return 2 * g;
    }

    int letter(int x) {
        if (x == 0 || x < -2 * g || x > 2 * g) {
            return OUTSIDE;
        }
        if (draft.size() == 60) {
            return FULL;
        }
        draft.add(x);
        draft = clean(draft);
        return draft.size();
    }

    int ring() {
        if (closed(draft).isEmpty()) {
            return NOT;
        }
        if (rings.size() == 12) {
            return FULL;
        }
        rings.add(closed(draft));
        draft = new ArrayList<>();
        return rings.size() - 1;
    }

    int told(int r, int what) {
        if (noRing(r)) {
            return UNKNOWN;
        }
        if (what < 0 || what > 3) {
            return OUTSIDE;
        }
        List<Integer> row = rings.get(r);
        if (what == 0) {
            return row.size();
        }
        if (what == 1) {
            return isPower(row) ? 1 : 0;
        }
        if (what == 2) {
            return isPower(row) ? NONE : meetings(row, row) / 2;
        }
        return isSimple(r) ? 1 : 0;
    }

    int at(int r, int i) {
        if (noRing(r)) {
            return UNKNOWN;
        }
        return i < 0 || i >= rings.get(r).size() ? NONE : rings.get(r).get(i);
    }

    int meets(int r, int s) {
        if (noRing(r) || noRing(s)) {
            return UNKNOWN;
        }
        if (isPower(rings.get(r)) || isPower(rings.get(s))) {
            return NOT;
        }
        return meetings(rings.get(r), rings.get(s));
    }

    int one(int r, int s) {
        if (noRing(r) || noRing(s)) {
            return UNKNOWN;
        }
        return areOne(rings.get(r), rings.get(s)) ? 1 : 0;
    }

    int heap(int set) {
        for (int k = rings.size(); k < 32; k++) {
            if ((set >>> k & 1) == 1) {
                return UNKNOWN;
            }
        }
        for (int a = 0; a < rings.size(); a++) {
            for (int b = a; b < rings.size(); b++) {
                if ((set >>> a & set >>> b & 1) == 0) {
                    continue;
                }
                boolean bars = a == b
                        ? !isSimple(a)
                        : isSimple(a) && isSimple(b) && (one(a, b) == 1 || meets(a, b) != 0);
                if (bars) {
                    return 13 * a + b;
                }
            }
        }
        return NONE;
    }

    int drop() {
        if (rings.isEmpty()) {
            return NOT;
        }
        rings.remove(rings.size() - 1);
        return rings.size();
    }

    int count(int what) {
        switch (what) {
            case 0: return g;
            case 1: return rings.size();
            case 2: return draft.size();
            case 3: return g + g + g - 1;
            case 4: return text.length();
            default: return OUTSIDE;
        }
    }

    int feed(int n, long bytes) {
        if (n < 1 || n > 8) {
            return OUTSIDE;
        }
        if (text.length() + n > 120) {
            return FULL;
        }
        for (int k = 8 - n; k < 8; k++) {
            text.append((char) (bytes >>> (56 - 8 * k) & 0xff));
        }
        return text.length();
    }

    // ---- the text, by descent

    private String source;
    private int place;
    private int read;

    int read(int p) {
        if (noPlan(p)) {
            return UNKNOWN;
        }
        source = text.toString();
        text.setLength(0);
        place = 0;
        read = 0;
        try {
            List<Integer> plan = items(0);
            if (place < source.length()) {
                throw new Fault(1, place);
            }
            plans.set(p, plan);
            faultByte = NONE;
            return plan.size();
        } catch (Fault fault) {
            faultByte = fault.place;
            return -10 - fault.number;
        }
    }

    private int peek() {
        while (place < source.length() && source.charAt(place) == ' ') {
            place++;
        }
        return place < source.length() ? source.charAt(place) : -1;
    }

    private int figure(int low, int high) {
        int next = peek();
        if (next < '0' || next > '9') {
            throw new Fault(1, place);
        }
        if (next - '0' < low || next - '0' > high) {
            throw new Fault(2, place);
        }
        place++;
        return next - '0';
    }

    private List<Integer> items(int depth) {
        List<Integer> row = new ArrayList<>();
        while (true) {
            int next = peek();
            int first = place;
            if (next == 'a' || next == 'b' || next == 'c') {
                place++;
                int handle = figure(1, next == 'c' ? g - 1 : g);
                int code = 2 * ((next - 'a') * g + handle - 1);
                read++;
                if (read > 60) {
                    throw new Fault(3, first);
                }
                if (peek() == '-') {
                    place++;
                    code++;
                }
                row.add(code);
            } else if (next == '(') {
                if (depth == 4) {
                    throw new Fault(4, place);
                }
                place++;
                List<Integer> inner = items(depth + 1);
                if (peek() != ')') {
                    throw new Fault(1, place);
                }
                place++;
                int many = figure(1, 9);
                read += inner.size() * (many - 1);
                if (read > 60) {
                    throw new Fault(3, place - 1);
                }
                row.addAll(times(inner, many));
            } else {
                return row;
            }
        }
    }

    int fault() {
        return faultByte;
    }

    private static int tell(List<Integer> plan, int i) {
        if (i == NONE) {
            return plan.size();
        }
        return i < 0 || i >= plan.size() ? NONE : plan.get(i);
    }

    int twist(int p, int i) {
        return noPlan(p) ? UNKNOWN : tell(plans.get(p), i);
    }

    int chain(int r, int p, int q) {
        if (noPlan(r) || noPlan(p) || noPlan(q)) {
            return UNKNOWN;
        }
        List<Integer> both = new ArrayList<>(plans.get(p));
        both.addAll(plans.get(q));
        if (both.size() > 60) {
            return FULL;
        }
        plans.set(r, both);
        return both.size();
    }

    int turn(int r, int p) {
        if (noPlan(r) || noPlan(p)) {
            return UNKNOWN;
        }
        List<Integer> turned = new ArrayList<>();
        for (int code : plans.get(p)) {
            turned.add(0, code % 2 == 0 ? code + 1 : code - 1);
        }
        plans.set(r, turned);
        return turned.size();
    }

    int image(int p, int x, int i) {
        if (noPlan(p)) {
            return UNKNOWN;
        }
        if (x < 1 || x > 2 * g) {
            return OUTSIDE;
        }
        try {
            List<Integer> row = imageOf(plans.get(p), List.of(x));
            if (i == NONE) {
                return row.size();
            }
            return i < 0 || i >= row.size() ? 0 : row.get(i);
        } catch (TooLarge large) {
            return LARGE;
        }
    }

    int carried(int p, int r, int what) {
        if (noPlan(p) || noRing(r) || what != NONE && noRing(what)) {
            return UNKNOWN;
        }
        try {
            List<Integer> row = closed(imageOf(plans.get(p), rings.get(r)));
            return what == NONE ? row.size() : areOne(row, rings.get(what)) ? 1 : 0;
        } catch (TooLarge large) {
            return LARGE;
        }
    }

    int meetsThen(int p, int r, int s) {
        if (noPlan(p) || noRing(r) || noRing(s)) {
            return UNKNOWN;
        }
        if (isPower(rings.get(r)) || isPower(rings.get(s))) {
            return NOT;
        }
        try {
            return meetings(closed(imageOf(plans.get(p), rings.get(r))), rings.get(s));
        } catch (TooLarge large) {
            return LARGE;
        }
    }

    private int firstUnlike(List<Integer> one, List<Integer> other) {
        List<List<Integer>> here = imagesOf(one);
        List<List<Integer>> there = imagesOf(other);
        for (int x = 1; x <= 2 * g; x++) {
            if (!here.get(x - 1).equals(there.get(x - 1))) {
                return x;
            }
        }
        return NONE;
    }

    int same(int p, int q) {
        if (noPlan(p) || noPlan(q)) {
            return UNKNOWN;
        }
        try {
            return firstUnlike(plans.get(p), plans.get(q));
        } catch (TooLarge large) {
            return LARGE;
        }
    }

    private List<Integer> rim() {
        List<Integer> rim = new ArrayList<>();
        for (int i = 0; i < g; i++) {
            rim.addAll(List.of(2 * i + 1, 2 * i + 2, -(2 * i + 1), -(2 * i + 2)));
        }
        return rim;
    }

    private int turnsOf(List<Integer> plan) {
        List<List<Integer>> images = imagesOf(plan);
        for (int m : new int[] {0, 1, -1, 2, -2, 3, -3, 4, -4, 5, -5}) {
            List<Integer> ahead = times(m > 0 ? rim() : back(rim()), Math.abs(m));
            boolean all = true;
            for (int x = 1; x <= 2 * g; x++) {
                List<Integer> row = new ArrayList<>(ahead);
                row.add(x);
                row.addAll(back(ahead));
                all = all && clean(row).equals(images.get(x - 1));
            }
            if (all) {
                return m;
            }
        }
        return 99;
    }

    int turns(int p) {
        if (noPlan(p)) {
            return UNKNOWN;
        }
        try {
            return turnsOf(plans.get(p));
        } catch (TooLarge large) {
            return LARGE;
        }
    }

    int order(int p, int n) {
        if (noPlan(p)) {
            return UNKNOWN;
        }
        if (n < 1 || n > 24) {
            return OUTSIDE;
        }
        try {
            for (int k = 1; k <= n; k++) {
                if (turnsOf(times(plans.get(p), k)) != 99) {
                    return k;
                }
            }
            return NONE;
        } catch (TooLarge large) {
            return LARGE;
        }
    }

    private static int sumOf(List<Integer> row, int y) {
        return Collections.frequency(row, y) - Collections.frequency(row, -y);
    }

    int table(int p, int x, int y) {
        if (noPlan(p)) {
            return UNKNOWN;
        }
        if (x < 1 || x > 2 * g || y < 1 || y > 2 * g) {
            return OUTSIDE;
        }
        try {
            return sumOf(imageOf(plans.get(p), List.of(x)), y);
        } catch (TooLarge large) {
            return LARGE;
        }
    }

    // By powers of the table and their traces: k e_k = sum over i of -(-1)^i e_(k - i) trace(T^i).
    long character(int p, int k) {
        if (noPlan(p)) {
            return UNKNOWN;
        }
        if (k < 0 || k > 2 * g) {
            return OUTSIDE;
        }
        try {
            int side = 2 * g;
            List<List<Integer>> images = imagesOf(plans.get(p));
            long[][] power = new long[side][side];
            long[] trace = new long[side + 1];
            for (int x = 0; x < side; x++) {
                power[x][x] = 1;
            }
            for (int i = 1; i <= side; i++) {
                long[][] next = new long[side][side];
                for (int x = 0; x < side; x++) {
                    for (int y = 0; y < side; y++) {
                        for (int z = 0; z < side; z++) {
                            next[x][y] += power[x][z] * sumOf(images.get(z), y + 1);
                        }
                    }
                    trace[i] += next[x][x];
                }
                power = next;
            }
            long[] e = new long[side + 1];
            e[0] = 1;
            for (int j = 1; j <= side; j++) {
                long sum = 0;
                for (int i = 1; i <= j; i++) {
                    sum += (i % 2 == 1 ? 1 : -1) * e[j - i] * trace[i];
                }
                e[j] = sum / j;
            }
            return e[k];
        } catch (TooLarge large) {
            return LARGE;
        }
    }

    private int lengthOf(List<Integer> plan) {
        int sum = 0;
        for (List<Integer> row : imagesOf(plan)) {
            sum += row.size();
        }
        return sum;
    }

    int length(int p, int k) {
        if (noPlan(p)) {
            return UNKNOWN;
        }
        if (k < 0 || k > 24) {
            return OUTSIDE;
        }
        try {
            return lengthOf(times(plans.get(p), k));
        } catch (TooLarge large) {
            return LARGE;
        }
    }

    private boolean keeps(List<Integer> plan, int n, int r) {
        try {
            for (int k = 1; k <= n; k++) {
                if (areOne(closed(imageOf(times(plan, k), rings.get(r))), rings.get(r))) {
                    return true;
                }
            }
            return false;
        } catch (TooLarge large) {
            return false;
        }
    }

    int sort(int p, int n) {
        if (noPlan(p)) {
            return UNKNOWN;
        }
        if (n < 1 || n > 12) {
            return OUTSIDE;
        }
        int order = order(p, n);
        if (order == LARGE) {
            return LARGE;
        }
        if (order != NONE) {
            return 0;
        }
        for (int r = 0; r < rings.size(); r++) {
            if (isSimple(r) && keeps(plans.get(p), n, r)) {
                return 1;
            }
        }
        for (int k = 2; k <= n; k++) {
            if (length(p, k) <= length(p, k - 1)) {
                return 3;
            }
        }
        return 2;
    }

    int law(int t, int u) {
        if (t < 0 || t > 3 * g - 2 || u < 0 || u > 3 * g - 2) {
            return UNKNOWN;
        }
        int a = 2 * t;
        int b = 2 * u;
        if (firstUnlike(List.of(a, b), List.of(b, a)) == NONE) {
            return 0;
        }
        return firstUnlike(List.of(a, b, a), List.of(b, a, b)) == NONE ? 1 : 2;
    }

    /** All plans of k twists, one after the other. */
    private List<List<Integer>> plansOf(int k) {
        List<List<Integer>> all = new ArrayList<>();
        if (k == 0) {
            all.add(new ArrayList<>());
            return all;
        }
        for (List<Integer> ahead : plansOf(k - 1)) {
            for (int code = 0; code < 2 * (3 * g - 1); code++) {
                List<Integer> plan = new ArrayList<>(ahead);
                plan.add(code);
                all.add(plan);
            }
        }
        return all;
    }

    int carry(int r, int s, int n, int i) {
        if (noRing(r) || noRing(s)) {
            return UNKNOWN;
        }
        if (n < 0 || n > 3 || i < NONE || i > 2) {
            return OUTSIDE;
        }
        for (int k = 0; k <= n; k++) {
            for (List<Integer> plan : plansOf(k)) {
                try {
                    if (areOne(closed(imageOf(plan, rings.get(r))), rings.get(s))) {
                        return tell(plan, i);
                    }
                } catch (TooLarge large) {
                    continue;
                }
            }
        }
        return NONE;
    }

    int fewest(int p, int n, int i) {
        if (noPlan(p)) {
            return UNKNOWN;
        }
        if (n < 0 || n > 3 || i < NONE || i > 2) {
            return OUTSIDE;
        }
        try {
            List<List<Integer>> images = imagesOf(plans.get(p));
            for (int k = 0; k <= n; k++) {
                for (List<Integer> plan : plansOf(k)) {
                    if (imagesOf(plan).equals(images)) {
                        return tell(plan, i);
                    }
                }
            }
            return NONE;
        } catch (TooLarge large) {
            return LARGE;
        }
    }
}
