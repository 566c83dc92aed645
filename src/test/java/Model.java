import java.util.ArrayDeque;
import java.util.ArrayList;
import java.util.Comparator;
import java.util.List;
import java.util.NoSuchElementException;
import java.util.regex.Matcher;
import java.util.regex.Pattern;

/**
 * The document written a second time for RandomRunTests, with the whole Java library and in other ways where there
 * are any: it stands for the promises, so nothing of it comes from the program.
 */
final class Model {
    private static final String COMMAND =
            "(?:s[0-9]\\*[0-9]|[bxmtlgc][0-9]|p[0-9]>[0-9]=[0-9]{1,2}|h[0-9]=[0-9]{1,2}|y)";
    private static final Pattern TEXT = Pattern.compile(COMMAND + "(?:;" + COMMAND + ")*");

    /** A litre of a barrel is rain or hail; the two are kept apart. */
    static final class Cask {
        int roof;
        int rain;
        int ice;
        int storm = -1;
        int year;
        int moss;

        Cask copy() {
            Cask c = new Cask();
            c.roof = roof;
            c.rain = rain;
            c.ice = ice;
            c.storm = storm;
            c.year = year;
            c.moss = moss;
            return c;
        }

        int all() {
            return rain + ice;
        }

        int part() {
            return all() == 0 ? 0 : 100 * ice / all();
        }

        void dryUp() {
            if (all() == 0) {
                storm = -1;
                year = 0;
                moss = 0;
            }
        }
    }

    static final class State {
        int[] moss = {3, 3, 3, 3};
        List<Cask> casks = new ArrayList<>();
        List<int[]> panel = new ArrayList<>();
        List<int[]> storms = new ArrayList<>();
        int[] counts = new int[10];

        State copy() {
            State s = new State();
            s.moss = moss.clone();
            casks.forEach(c -> s.casks.add(c.copy()));
            s.panel.addAll(panel);
            s.storms.addAll(storms);
            s.counts = counts.clone();
            return s;
        }
    }

    private static final int BUCKET = 0;
    private static final int YEAR = 1;
    private static final int LOST = 2;
    private static final int DRUNK = 3;
    private static final int POURED = 4;
    private static final int EXPOSED = 5;

    private static final class Refused extends RuntimeException {
        private static final long serialVersionUID = 1L;
        final int cause;
        final int detail;

        Refused(int cause, int detail) {
            this.cause = cause;
            this.detail = detail;
        }
    }

    private State s = new State();
    private State snapshot = null;
    private final ArrayDeque<State> past = new ArrayDeque<>();
    private final StringBuilder buffer = new StringBuilder();
    private int fault = -1;
    private int[] kept = null;
    private String line = "";

    private static void need(boolean holds, int cause, int detail) {
        if (!holds) {
            throw new Refused(cause, detail);
        }
    }

    private static boolean in(int n, int least, int most) {
        return least <= n && n <= most;
    }

    private boolean isCask(int n) {
        return in(n, 0, s.casks.size() - 1);
    }

    private int change(java.util.function.IntSupplier work) {
        State before = s.copy();
        try {
            int answer = work.getAsInt();
            past.addLast(before);
            if (past.size() > 8) {
                past.removeFirst();
            }
            return answer;
        } catch (Refused r) {
            s = before;
            kept = new int[] {r.cause, r.detail, 0};
            throw new UnsupportedOperationException();
        }
    }

    int storm(int strength, int hail) {
        return change(() -> doStorm(strength, hail));
    }

    private int doStorm(int strength, int hail) {
        need(in(strength, 1, 9) && in(hail, 0, 3), 1, 0);
        int[] left = {strength, 2 * strength, 3 * strength, 4 * strength};
        int came = 0;
        for (Cask c : s.casks) {
            if (c.all() == 0 && left[c.roof] > 0) {
                while (c.rain < 20 && left[c.roof] > 0) {
                    c.rain++;
                    left[c.roof]--;
                    came++;
                }
                c.storm = s.storms.size();
                c.year = s.counts[YEAR];
                c.moss = s.moss[c.roof];
            }
        }
        for (int r = 0; r < 4; r++) {
            s.counts[LOST] += left[r];
            for (int k = 0; k < strength / 3 && s.moss[r] > 0; k++) {
                s.moss[r]--;
            }
        }
        for (int k = 0; k < 2 * hail && s.counts[BUCKET] < 9; k++) {
            s.counts[BUCKET]++;
        }
        s.storms.add(new int[] {strength, s.counts[YEAR], came});
        return came;
    }

    int barrel(int roof) {
        return change(() -> doBarrel(roof));
    }

    private int doBarrel(int roof) {
        need(in(roof, 0, 3), 1, 0);
        need(s.casks.size() < 8, 2, 8);
        Cask c = new Cask();
        c.roof = roof;
        s.casks.add(c);
        return s.casks.indexOf(c);
    }

    int takeAway(int barrel) {
        return change(() -> doTakeAway(barrel));
    }

    private int doTakeAway(int barrel) {
        need(isCask(barrel), 3, s.casks.size());
        need(s.casks.get(barrel).all() == 0, 5, s.casks.get(barrel).all());
        s.casks.remove(barrel);
        return s.casks.size();
    }

    /** Takes litres out of a cask one by one: as much hail as its part gives, then rain, then more hail. */
    private int[] draw(Cask c, int litres) {
        int ice = litres * c.part() / 100;
        int rain = litres - ice;
        while (rain > c.rain) {
            rain--;
            ice++;
        }
        c.ice -= ice;
        c.rain -= rain;
        c.dryUp();
        return new int[] {rain, ice};
    }

    int pour(int from, int to, int litres) {
        return change(() -> doPour(from, to, litres));
    }

    private int doPour(int from, int to, int litres) {
        need(isCask(from), 3, s.casks.size());
        need(isCask(to), 3, s.casks.size());
        need(from != to, 8, from);
        need(in(litres, 1, 20), 1, 0);
        Cask one = s.casks.get(from);
        Cask other = s.casks.get(to);
        need(one.all() >= litres, 6, one.all());
        need(other.all() == 0 || one.storm == other.storm, 9, other.storm);
        need(other.all() + litres <= 20, 7, 20 - other.all());
        if (other.all() == 0) {
            other.storm = one.storm;
            other.year = one.year;
            other.moss = one.moss;
        }
        int[] drawn = draw(one, litres);
        other.rain += drawn[0];
        other.ice += drawn[1];
        return other.all();
    }

    int hail(int barrel, int litres) {
        return change(() -> doHail(barrel, litres));
    }

    private int doHail(int barrel, int litres) {
        need(isCask(barrel), 3, s.casks.size());
        need(in(litres, 1, 9), 1, 0);
        Cask c = s.casks.get(barrel);
        need(c.all() > 0, 6, 0);
        need(s.counts[BUCKET] >= litres, 10, s.counts[BUCKET]);
        need(20 - c.all() >= litres, 7, 20 - c.all());
        s.counts[BUCKET] -= litres;
        c.ice += litres;
        return c.part();
    }

    int sommelier(int palate, boolean isStrict) {
        return change(() -> doSommelier(palate, isStrict));
    }

    private int doSommelier(int palate, boolean isStrict) {
        need(in(palate, 0, 9), 1, 0);
        need(s.panel.size() < 4, 2, 4);
        s.panel.add(new int[] {palate, isStrict ? 1 : 0});
        return s.panel.size() - 1;
    }

    int leave(int sommelier) {
        return change(() -> doLeave(sommelier));
    }

    private int doLeave(int sommelier) {
        need(in(sommelier, 0, s.panel.size() - 1), 4, s.panel.size());
        s.panel.remove(sommelier);
        return s.panel.size();
    }

    int drink(int barrel) {
        return change(() -> doDrink(barrel));
    }

    private int doDrink(int barrel) {
        need(isCask(barrel), 3, s.casks.size());
        need(!s.panel.isEmpty(), 11, 0);
        Cask c = s.casks.get(barrel);
        need(c.all() >= s.panel.size(), 6, c.all());
        int answer = s.panel.size() * noteOf(c, 0);
        boolean isNoticed = set(c) != 0;
        draw(c, s.panel.size());
        s.counts[DRUNK] += s.panel.size();
        if (!isNoticed) {
            return answer;
        }
        s.counts[EXPOSED]++;
        s.counts[POURED] += c.all();
        c.rain = 0;
        c.ice = 0;
        c.dryUp();
        return 0;
    }

    int clear(int roof) {
        return change(() -> doClear(roof));
    }

    private int doClear(int roof) {
        need(in(roof, 0, 3), 1, 0);
        need(s.moss[roof] > 0, 12, roof);
        int had = s.moss[roof];
        s.moss[roof] = 0;
        return had;
    }

    int year() {
        return change(this::doYear);
    }

    private int doYear() {
        int melts = s.counts[BUCKET];
        s.counts[BUCKET] = 0;
        s.counts[YEAR]++;
        for (int r = 0; r < 4; r++) {
            s.moss[r] = s.moss[r] == 9 ? 9 : s.moss[r] + 1;
        }
        return melts;
    }

    private Cask cask(int barrel) {
        if (!isCask(barrel)) {
            throw new IndexOutOfBoundsException();
        }
        return s.casks.get(barrel);
    }

    private Cask full(int barrel) {
        Cask c = cask(barrel);
        if (c.all() == 0) {
            throw new NoSuchElementException();
        }
        return c;
    }

    private int age(Cask c) {
        return c.all() == 0 ? 0 : s.counts[YEAR] - c.year;
    }

    private int noteOf(Cask c, int years) {
        int taste = c.moss + (age(c) + years) / 2;
        return (taste > 9 ? 9 : taste) * (100 - c.part()) / 100;
    }

    private boolean noticesPart(int[] sommelier, int part) {
        int palate = sommelier[0] + 2 * sommelier[1];
        return part != 0 && part > 50 - 5 * palate;
    }

    private int set(Cask c) {
        int set = 0;
        for (int k = 0; k < s.panel.size(); k++) {
            set += noticesPart(s.panel.get(k), c.part()) ? (int) Math.pow(2, k) : 0;
        }
        return set;
    }

    int roofOf(int roof, int what) {
        if (!in(roof, 0, 3)) {
            throw new IndexOutOfBoundsException();
        }
        if (!in(what, 0, 3)) {
            throw new IllegalArgumentException();
        }
        List<Cask> under = s.casks.stream().filter(c -> c.roof == roof).toList();
        int[] answers = {s.moss[roof], under.size(), (int) under.stream().filter(c -> c.all() == 0).count(),
            under.stream().mapToInt(Cask::all).sum()};
        return answers[what];
    }

    int barrelOf(int barrel, int what) {
        Cask c = cask(barrel);
        if (!in(what, 0, 6)) {
            throw new IllegalArgumentException();
        }
        return new int[] {c.roof, c.all(), c.ice, c.storm, c.moss, age(c), c.part()}[what];
    }

    int note(int barrel) {
        return noteOf(full(barrel), 0);
    }

    int noteIn(int barrel, int years) {
        Cask c = full(barrel);
        if (!in(years, 0, 20)) {
            throw new IllegalArgumentException();
        }
        return noteOf(c, years);
    }

    boolean notices(int sommelier, int barrel) {
        if (!in(sommelier, 0, s.panel.size() - 1)) {
            throw new IndexOutOfBoundsException();
        }
        return noticesPart(s.panel.get(sommelier), cask(barrel).part());
    }

    int noticing(int barrel) {
        return set(cask(barrel));
    }

    int hidden(int barrel) {
        Cask c = full(barrel);
        if (set(c) != 0) {
            throw new NoSuchElementException();
        }
        int best = 0;
        for (int litres = 1; litres <= 9; litres++) {
            Cask with = c.copy();
            with.ice += litres;
            if (with.all() <= 20 && litres <= s.counts[BUCKET] && set(with) == 0) {
                best = litres;
            }
        }
        return best;
    }

    int wouldCatch(int strength) {
        if (!in(strength, 1, 9)) {
            throw new IllegalArgumentException();
        }
        State before = s.copy();
        int came = doStorm(strength, 0);
        s = before;
        return came;
    }

    int wouldLose(int strength) {
        return 10 * strength - wouldCatch(strength);
    }

    int vintage(int storm) {
        if (!in(storm, 0, s.storms.size() - 1)) {
            throw new NoSuchElementException();
        }
        return s.casks.stream().filter(c -> c.storm == storm).mapToInt(Cask::all).sum();
    }

    int stormOf(int storm, int what) {
        if (!in(storm, Math.max(0, s.storms.size() - 12), s.storms.size() - 1)) {
            throw new NoSuchElementException();
        }
        if (!in(what, 0, 2)) {
            throw new IllegalArgumentException();
        }
        return s.storms.get(storm)[what];
    }

    boolean canPour(int from, int to) {
        cask(from);
        cask(to);
        State before = s.copy();
        try {
            doPour(from, to, 1);
            return true;
        } catch (Refused r) {
            return false;
        } finally {
            s = before;
        }
    }

    int ranked(int measure, int place) {
        if (!in(measure, 0, 3)) {
            throw new IllegalArgumentException();
        }
        if (!isCask(place)) {
            throw new NoSuchElementException();
        }
        List<Cask> order = new ArrayList<>(s.casks);
        order.sort(Comparator.comparingInt((Cask c) ->
                -new int[] {c.all(), c.all() == 0 ? 0 : noteOf(c, 0), age(c), c.part()}[measure]));
        return s.casks.indexOf(order.get(place));
    }

    int append(char character) {
        if (buffer.length() == 60) {
            throw new IllegalStateException();
        }
        return buffer.append(character).length();
    }

    /** The fault is where the longest beginning ends that something could be put behind, to make it a text. */
    private static int faultOf(String text) {
        if (TEXT.matcher(text).matches()) {
            return -1;
        }
        int length = 0;
        for (int end = 1; end <= text.length(); end++) {
            Matcher m = TEXT.matcher(text.substring(0, end));
            if (m.matches() || m.hitEnd()) {
                length = end;
            } else {
                break;
            }
        }
        return length;
    }

    int commands() {
        String text = buffer.toString();
        buffer.setLength(0);
        fault = faultOf(text);
        if (fault >= 0) {
            throw new IllegalArgumentException();
        }
        String[] all = text.split(";");
        int[] at = {0};
        try {
            return change(() -> {
                for (at[0] = 0; at[0] < all.length; at[0]++) {
                    carryOut(all[at[0]]);
                }
                return all.length;
            });
        } catch (UnsupportedOperationException e) {
            kept[2] = at[0];
            throw e;
        }
    }

    private void carryOut(String command) {
        String[] n = command.substring(1).split("[*>=]");
        int a = n[0].isEmpty() ? 0 : Integer.parseInt(n[0]);
        int b = n.length < 2 ? 0 : Integer.parseInt(n[1]);
        switch (command.charAt(0)) {
            case 's' -> doStorm(a, b);
            case 'b' -> doBarrel(a);
            case 'x' -> doTakeAway(a);
            case 'p' -> doPour(a, b, Integer.parseInt(n[2]));
            case 'h' -> doHail(a, b);
            case 'm' -> doSommelier(a, false);
            case 't' -> doSommelier(a, true);
            case 'l' -> doLeave(a);
            case 'g' -> doDrink(a);
            case 'c' -> doClear(a);
            default -> doYear();
        }
    }

    int faultPosition() {
        return fault;
    }

    int reason(int what) {
        if (!in(what, 0, 2)) {
            throw new IllegalArgumentException();
        }
        if (kept == null) {
            throw new NoSuchElementException();
        }
        return kept[what];
    }

    int line(int barrel) {
        Cask c = cask(barrel);
        String full = c.all() == 0 ? "" : "#" + c.storm + "m" + c.moss;
        line = c.roof + ":" + c.all() + full + (c.ice == 0 ? "" : "h" + c.ice);
        return line.length();
    }

    int panel() {
        List<String> words = new ArrayList<>();
        s.panel.forEach(p -> words.add((p[1] == 1 ? "t" : "m") + p[0]));
        line = String.join(" ", words);
        return line.length();
    }

    char character(int index) {
        if (!in(index, 0, line.length() - 1)) {
            throw new IndexOutOfBoundsException();
        }
        return line.charAt(index);
    }

    private List<Cask> fullOnes() {
        List<Cask> full = s.casks.stream().filter(c -> c.all() > 0).toList();
        if (full.isEmpty()) {
            throw new ArithmeticException();
        }
        return full;
    }

    double meanNote() {
        List<Cask> full = fullOnes();
        return (double) full.stream().mapToInt(c -> noteOf(c, 0)).sum() / (double) full.size();
    }

    float hailShare() {
        List<Cask> full = fullOnes();
        return (float) full.stream().mapToInt(c -> c.ice).sum() / (float) full.stream().mapToInt(Cask::all).sum();
    }

    int account(int what) {
        if (!in(what, 0, 11)) {
            throw new IllegalArgumentException();
        }
        int litres = s.casks.stream().mapToInt(Cask::all).sum();
        return new int[] {s.casks.size(), litres, s.counts[BUCKET], s.panel.size(), s.counts[YEAR], s.storms.size(),
            s.counts[LOST], s.counts[DRUNK], s.counts[POURED], s.counts[EXPOSED], past.size(), buffer.length()}[what];
    }

    int undo() {
        if (past.isEmpty()) {
            throw new IllegalStateException();
        }
        s = past.removeLast();
        return past.size();
    }

    int save() {
        snapshot = s.copy();
        return s.casks.size();
    }

    int restore() {
        if (snapshot == null) {
            throw new IllegalStateException();
        }
        s = snapshot.copy();
        past.clear();
        return s.casks.size();
    }
}
