import java.util.ArrayList;
import java.util.Arrays;
import java.util.Collections;
import java.util.Comparator;
import java.util.LinkedList;
import java.util.List;
import java.util.regex.Matcher;
import java.util.regex.Pattern;

/**
 * A second, plain program of the document, to hold OrchestraLibrary against. It shares none of its code and goes
 * other ways: lists of bars that are copied whole, differences from a list of columns, texts by regular expressions.
 */
final class Model {
    static final int NONE = -1, BAD = -2, STATE = -3, FULL = -4, REFUSED = -5, UNLIKE = -6, NOTHING = -7;

    private static final class Bar {
        int origin, version, beats, tempo = NOTHING;
        int[] bowing = new int[4];

        Bar(int origin, int beats) {
            this.origin = origin;
            this.beats = beats;
        }

        Bar copy() {
            Bar b = new Bar(origin, beats);
            b.version = version;
            b.tempo = tempo;
            b.bowing = bowing.clone();
            return b;
        }
    }

    private static final class Ed {
        int work, model = NOTHING;
        List<Bar> bars = new ArrayList<>();
        int[][] stock = new int[6][4];

        Ed copy() {
            Ed e = new Ed();
            e.work = work;
            e.model = model;
            for (Bar b : bars) {
                e.bars.add(b.copy());
            }
            for (int i = 0; i < 6; i++) {
                e.stock[i] = stock[i].clone();
            }
            return e;
        }

        Bar with(int origin) {
            return bars.stream().filter(b -> b.origin == origin).findFirst().orElse(null);
        }

        int total(int what) {
            return Arrays.stream(stock).mapToInt(s -> s[what]).sum();
        }

        float[] durations() {
            float[] all = new float[bars.size()];
            int tempo = 1000;
            for (int i = 0; i < all.length; i++) {
                tempo = bars.get(i).tempo == NOTHING ? tempo : bars.get(i).tempo;
                float beats = bars.get(i).beats;
                float tenths = tempo;
                all[i] = beats * 60.0f / (tenths / 10.0f);
            }
            return all;
        }
    }

    /** A loan: borrower, edition, instrument, copies, out, due day, fees, lost. */
    private static final class World {
        List<Ed> eds = new ArrayList<>();
        List<int[]> loans = new ArrayList<>();
        int[] origin = new int[4], version = new int[4], players = new int[6];
        int day;

        World copy() {
            World w = new World();
            for (Ed e : eds) {
                w.eds.add(e.copy());
            }
            for (int[] l : loans) {
                w.loans.add(l.clone());
            }
            w.origin = origin.clone();
            w.version = version.clone();
            w.players = players.clone();
            w.day = day;
            return w;
        }
    }

    private static final class Box {
        int sort;
        int[][] places = new int[0][];
    }

    private World w = new World();
    private World saved;
    private LinkedList<World> past = new LinkedList<>();
    private Box[] boxes = {new Box(), new Box(), new Box()};
    private String input = "";
    private int fault = NOTHING, failed = NOTHING, reason = NOTHING;
    private int[] copied;

    private interface Op {
        int run();
    }

    private int change(Op op) {
        World before = w.copy();
        int answer = op.run();
        if (answer >= 0 || answer == NOTHING) {
            past.addLast(before);
            if (past.size() > 8) {
                past.removeFirst();
            }
        }
        return answer;
    }

    private Ed ed(int e) {
        return e < 0 || e >= w.eds.size() ? null : w.eds.get(e);
    }

    private Bar theBar(int e, int bar) {
        Ed d = ed(e);
        return d == null || bar < 1 || bar > d.bars.size() ? null : d.bars.get(bar - 1);
    }

    private int refuse(int why) {
        reason = why;
        return REFUSED;
    }

    int edition(int work, int bars, int beats) {
        return change(() -> {
            if (work < 0 || work > 3) return NONE;
            if (bars < 1 || bars > 99 || beats < 1 || beats > 9) return BAD;
            if (w.eds.stream().anyMatch(e -> e.work == work)) return STATE;
            if (w.eds.size() == 6) return FULL;
            Ed e = new Ed();
            e.work = work;
            for (int i = 1; i <= bars; i++) e.bars.add(new Bar(i, beats));
            w.origin[work] = bars;
            w.eds.add(e);
            return w.eds.size() - 1;
        });
    }

    int derive(int model) {
        return change(() -> {
            if (ed(model) == null) return NONE;
            if (w.eds.size() == 6) return FULL;
            Ed e = ed(model).copy();
            e.model = model;
            e.stock = new int[6][4];
            w.eds.add(e);
            return w.eds.size() - 1;
        });
    }

    int cut(int e, int from, int to) {
        return change(() -> doCut(e, from, to));
    }

    private int doCut(int e, int from, int to) {
        if (theBar(e, from) == null || theBar(e, to) == null) return NONE;
        if (to < from || from == 1 && to == ed(e).bars.size()) return BAD;
        if (ed(e).total(0) > 0) return refuse(4);
        ed(e).bars.subList(from - 1, to).clear();
        return ed(e).bars.size();
    }

    int insert(int e, int behind, int count, int beats) {
        return change(() -> doInsert(e, behind, count, beats));
    }

    private int doInsert(int e, int behind, int count, int beats) {
        if (ed(e) == null || behind != 0 && theBar(e, behind) == null) return NONE;
        if (count < 1 || count > 99 || beats < 1 || beats > 9) return BAD;
        if (ed(e).bars.size() + count > 99) return FULL;
        if (ed(e).total(0) > 0) return refuse(4);
        for (int i = 0; i < count; i++) {
            ed(e).bars.add(behind + i, new Bar(++w.origin[ed(e).work], beats));
        }
        return ed(e).bars.size();
    }

    int rework(int e, int bar, int beats) {
        return change(() -> doRework(e, bar, beats));
    }

    private int doRework(int e, int bar, int beats) {
        if (theBar(e, bar) == null) return NONE;
        if (beats < 1 || beats > 9) return BAD;
        if (ed(e).total(0) > 0) return refuse(4);
        theBar(e, bar).beats = beats;
        return theBar(e, bar).version = ++w.version[ed(e).work];
    }

    int ofEdition(int e, int what) {
        if (ed(e) == null) return NONE;
        switch (what) {
            case 0: return ed(e).work;
            case 1: return ed(e).bars.size();
            case 2: return ed(e).model;
            case 3: return (int) w.eds.stream().filter(d -> d.model == e).count();
            case 4: return ed(e).total(0);
            case 5: return (int) ed(e).bars.stream().flatMapToInt(b -> Arrays.stream(b.bowing)).filter(b -> b > 0).count();
            case 6: return (int) ed(e).bars.stream().filter(b -> b.tempo != NOTHING).count();
            default: return NONE;
        }
    }

    int bar(int e, int bar, int what) {
        if (theBar(e, bar) == null || what < 0 || what > 4) return NONE;
        Bar b = theBar(e, bar);
        int tempo = 1000;
        for (Bar c : ed(e).bars.subList(0, bar)) {
            if (c.tempo != NOTHING) tempo = c.tempo;
        }
        return new int[] {b.origin, b.version, b.beats, b.tempo, tempo}[what];
    }

    int carry(int from, int bar, int to) {
        if (theBar(from, bar) == null || ed(to) == null) return NONE;
        if (ed(from).work != ed(to).work) return BAD;
        Bar there = ed(to).with(theBar(from, bar).origin);
        return there == null ? NOTHING : ed(to).bars.indexOf(there) + 1;
    }

    /** Columns of a bar of each edition, 0 where there is none; then runs of like columns. */
    private List<int[]> runs(Ed a, Ed b) {
        List<int[]> columns = new ArrayList<>();
        int i = 0, j = 0;
        while (i < a.bars.size() || j < b.bars.size()) {
            if (i < a.bars.size() && b.with(a.bars.get(i).origin) == null) {
                columns.add(new int[] {1, ++i, j});
            } else if (j < b.bars.size() && a.with(b.bars.get(j).origin) == null) {
                columns.add(new int[] {2, i, ++j});
            } else {
                boolean same = a.bars.get(i).version == b.bars.get(j).version;
                if (a.bars.get(i).origin != b.bars.get(j).origin) throw new IllegalStateException("order");
                columns.add(new int[] {same ? 0 : 3, ++i, ++j});
            }
        }
        List<int[]> runs = new ArrayList<>();
        int kind = 0;
        for (int[] c : columns) {
            if (c[0] != 0 && c[0] == kind) {
                runs.get(runs.size() - 1)[3]++;
            } else if (c[0] != 0) {
                runs.add(new int[] {c[0], c[1], c[2], 1});
            }
            kind = c[0];
        }
        return runs;
    }

    int compare(int one, int other, int what) {
        Ed a = ed(one), b = ed(other);
        if (a == null || b == null || what < 0 || what > 4) return NONE;
        if (a.work != b.work) return BAD;
        int facing = (int) a.bars.stream().filter(x -> b.with(x.origin) != null).count();
        int same = (int) a.bars.stream()
            .filter(x -> b.with(x.origin) != null && b.with(x.origin).version == x.version).count();
        return new int[] {facing, same, a.bars.size() - facing, b.bars.size() - facing, runs(a, b).size()}[what];
    }

    int difference(int one, int other, int index, int what) {
        Ed a = ed(one), b = ed(other);
        if (a == null || b == null || index < 0 || what < 0 || what > 3) return NONE;
        if (a.work != b.work) return BAD;
        List<int[]> runs = runs(a, b);
        return index >= runs.size() ? NOTHING : runs.get(index)[what];
    }

    int tempo(int e, int bar, int tenths) {
        return change(() -> doTempo(e, bar, tenths));
    }

    private int doTempo(int e, int bar, int tenths) {
        if (theBar(e, bar) == null) return NONE;
        if (tenths != 0 && (tenths < 200 || tenths > 2500)) return BAD;
        int before = theBar(e, bar).tempo;
        theBar(e, bar).tempo = tenths == 0 ? NOTHING : tenths;
        return before;
    }

    private float sum(int e, int from, int to) {
        float[] all = ed(e).durations();
        float sum = 0.0f;
        for (int i = from - 1; i < to; i++) sum += all[i];
        return sum;
    }

    int seconds(int e, int from, int to) {
        if (theBar(e, from) == null || theBar(e, to) == null) return NONE;
        return to < from ? BAD : Float.floatToIntBits(sum(e, from, to));
    }

    int length(int e) {
        return ed(e) == null ? NONE : (int) sum(e, 1, ed(e).bars.size());
    }

    int barAt(int e, int second) {
        if (ed(e) == null) return NONE;
        if (second < 0) return BAD;
        for (int i = 1; i <= ed(e).bars.size(); i++) {
            if (sum(e, 1, i) > (float) second) return i;
        }
        return NOTHING;
    }

    int pace(int e) {
        if (ed(e) == null) return NONE;
        float beats = ed(e).bars.stream().mapToInt(b -> b.beats).sum();
        return Float.floatToIntBits(beats * 60.0f / sum(e, 1, ed(e).bars.size()));
    }

    private static boolean outside(int n, int least, int most) {
        return n < least || n > most;
    }

    int seat(int i, int players) {
        return change(() -> {
            if (outside(i, 0, 5)) return NONE;
            if (outside(players, 0, 20)) return BAD;
            int before = w.players[i];
            w.players[i] = players;
            return before;
        });
    }

    int needs(int i) {
        return outside(i, 0, 5) ? NONE : i >= 4 ? w.players[i] : w.players[i] / 2 + w.players[i] % 2;
    }

    int buy(int e, int i, int copies) {
        return change(() -> {
            if (ed(e) == null || outside(i, 0, 5)) return NONE;
            if (outside(copies, 1, 30)) return BAD;
            int[] s = ed(e).stock[i];
            if (s[0] + copies > 30) return FULL;
            s[0] += copies;
            s[1] += copies;
            return s[0];
        });
    }

    int stock(int e, int i, int what) {
        return ed(e) == null || outside(i, 0, 5) || outside(what, 0, 3) ? NONE : ed(e).stock[i][what];
    }

    int bow(int e, int i, int bar, int bowing) {
        return change(() -> doBow(e, i, bar, bowing));
    }

    private int doBow(int e, int i, int bar, int bowing) {
        if (theBar(e, bar) == null || outside(i, 0, 3)) return NONE;
        if (outside(bowing, 0, 4)) return BAD;
        int before = theBar(e, bar).bowing[i];
        theBar(e, bar).bowing[i] = bowing;
        return before;
    }

    int bowing(int e, int i, int bar) {
        return theBar(e, bar) == null || outside(i, 0, 3) ? NONE : theBar(e, bar).bowing[i];
    }

    int copyBowings(int from, int to, int i, int mode) {
        return change(() -> {
            if (ed(from) == null || ed(to) == null || outside(i, 0, 3)) return NONE;
            if (from == to || ed(from).work != ed(to).work || outside(mode, 0, 1)) return BAD;
            int[] n = new int[4];
            for (Bar b : ed(from).bars) {
                if (b.bowing[i] == 0) continue;
                Bar there = ed(to).with(b.origin);
                if (there == null) {
                    n[1]++;
                    continue;
                }
                boolean clash = there.bowing[i] != 0 && there.bowing[i] != b.bowing[i];
                if (clash) n[2]++;
                if (there.bowing[i] == 0 || clash && mode == 1) {
                    there.bowing[i] = b.bowing[i];
                    n[0]++;
                    if (there.version != b.version) n[3]++;
                }
            }
            copied = n;
            return n[0];
        });
    }

    int copied(int what) {
        return outside(what, 0, 3) ? NONE : copied == null ? NOTHING : copied[what];
    }

    private boolean late(int[] l) {
        return l[4] > 0 && w.day > l[5];
    }

    private boolean hasLate(int b) {
        return w.loans.stream().anyMatch(l -> l[0] == b && late(l));
    }

    int lend(int b, int e, int i, int copies, int days) {
        return change(() -> doLend(b, e, i, copies, days));
    }

    private int doLend(int b, int e, int i, int copies, int days) {
        if (outside(b, 0, 5) || ed(e) == null || outside(i, 0, 5)) return NONE;
        if (outside(copies, 1, 30) || outside(days, 0, 999)) return BAD;
        int[] s = ed(e).stock[i];
        if (s[1] < copies) return refuse(1);
        if (hasLate(b)) return refuse(2);
        if (w.loans.size() == 20) return refuse(3);
        s[1] -= copies;
        s[2] += copies;
        w.loans.add(new int[] {b, e, i, copies, copies, w.day + days, 0, 0});
        return w.loans.size() - 1;
    }

    int lendAll(int b, int e, int days) {
        return change(() -> {
            if (outside(b, 0, 5) || ed(e) == null) return NONE;
            if (outside(days, 0, 999)) return BAD;
            List<Integer> all = new ArrayList<>();
            boolean few = false;
            for (int i = 0; i < 6; i++) {
                if (w.players[i] > 0) {
                    all.add(i);
                    few |= ed(e).stock[i][1] < needs(i);
                }
            }
            if (all.isEmpty()) return refuse(6);
            if (few) return refuse(1);
            if (hasLate(b)) return refuse(2);
            if (w.loans.size() + all.size() > 20) return refuse(3);
            for (int i : all) doLend(b, e, i, needs(i), days);
            return all.size();
        });
    }

    int bring(int l, int good, int bad) {
        return change(() -> doBring(l, good, bad));
    }

    private int doBring(int number, int good, int bad) {
        if (outside(number, 0, w.loans.size() - 1)) return NONE;
        if (outside(good, 0, 30) || outside(bad, 0, 30) || good == 0 && bad == 0) return BAD;
        int[] l = w.loans.get(number);
        if (good + bad > l[4]) return refuse(5);
        int fee = 0;
        for (int c = 0; c < good + bad; c++) {
            int days = 0;
            for (int d = l[5]; d < w.day && days < 20; d++) days++;
            fee += days + (c < bad ? 50 : 0);
        }
        int[] s = ed(l[1]).stock[l[2]];
        l[4] -= good + bad;
        l[6] += fee;
        l[7] += bad;
        s[1] += good;
        s[2] -= good + bad;
        s[3] += bad;
        return fee;
    }

    int loan(int l, int what) {
        if (outside(l, 0, w.loans.size() - 1) || outside(what, 0, 7)) return NONE;
        return what == 7 ? late(w.loans.get(l)) ? 1 : 0 : w.loans.get(l)[what];
    }

    int overdue(int place) {
        if (place < 0) return NONE;
        List<Integer> all = new ArrayList<>();
        for (int i = 0; i < w.loans.size(); i++) {
            if (late(w.loans.get(i))) all.add(i);
        }
        Collections.sort(all, Comparator.comparingInt(i -> w.loans.get(i)[5]));
        return place >= all.size() ? NOTHING : all.get(place);
    }

    int borrower(int b, int what) {
        if (outside(b, 0, 5) || outside(what, 0, 3)) return NONE;
        int field = new int[] {4, 7, 6, 0}[what];
        return w.loans.stream().filter(l -> l[0] == b).mapToInt(l -> what == 3 ? late(l) ? 1 : 0 : l[field]).sum();
    }

    int pass(int days) {
        return change(() -> outside(days, 1, 999) ? BAD : w.day + days > 9999 ? FULL : (w.day += days));
    }

    private static int things(Box b) {
        return (int) Arrays.stream(b.places).filter(p -> p != null).count();
    }

    int box(int b, int sort, int places) {
        if (outside(b, 0, 2)) return NONE;
        if (outside(sort, 0, 3) || outside(places, 0, 8)) return BAD;
        int before = things(boxes[b]);
        boxes[b] = new Box();
        boxes[b].sort = sort;
        boxes[b].places = new int[places][];
        return before;
    }

    int put(int b, int place, int e, int i) {
        if (outside(b, 0, 2) || outside(place, 0, boxes[b].places.length - 1)) return NONE;
        if (ed(e) == null || outside(i, -1, 5)) return NONE;
        boolean score = i == -1;
        boolean[] takes = {true, score, !score, !score && i < 4};
        if (!takes[boxes[b].sort]) return UNLIKE;
        boolean empty = boxes[b].places[place] == null;
        boxes[b].places[place] = new int[] {e, i};
        return empty ? 1 : 0;
    }

    int look(int b, int place, int what) {
        if (outside(b, 0, 2) || outside(place, 0, boxes[b].places.length - 1) || outside(what, 0, 1)) return NONE;
        int[] thing = boxes[b].places[place];
        return thing == null ? NOTHING : thing[what];
    }

    int likeBox(int from, int to) {
        if (outside(from, 0, 2) || outside(to, 0, 2)) return NONE;
        Box b = new Box();
        b.sort = boxes[from].sort;
        b.places = boxes[from].places.clone();
        boxes[to] = b;
        return things(b);
    }

    int append(int c) {
        if (outside(c, 32, 126)) return BAD;
        if (input.length() == 60) return FULL;
        input += (char) c;
        return input.length();
    }

    private static final String COMMAND = "(?:c\\d:N-N|i\\d:N\\+N\\*\\d|w\\d:N=\\d|t\\d:N=N|b\\d\\.\\d:N=\\d"
        + "|l\\d:\\d\\.\\d\\*N/N|rN:N\\+N)";
    private static final Pattern TEXT =
        Pattern.compile((COMMAND + "(?:;" + COMMAND + ")*").replace("N", "\\d{1,4}"));

    /** A text that could go on is one that the pattern does not match only for its end. */
    private static boolean canGoOn(String text) {
        Matcher m = TEXT.matcher(text);
        return m.matches() || m.hitEnd();
    }

    int read() {
        String text = input;
        input = "";
        fault = NOTHING;
        if (!TEXT.matcher(text).matches()) {
            fault = text.length();
            for (int i = text.length(); i > 0; i--) {
                if (!canGoOn(text.substring(0, i))) fault = i - 1;
            }
            return BAD;
        }
        World before = w.copy();
        String[] commands = text.split(";");
        int answer = change(() -> {
            for (int i = 0; i < commands.length; i++) {
                int code = carryOut(commands[i]);
                if (code < 0 && code != NOTHING) {
                    failed = i;
                    return STATE;
                }
            }
            return commands.length;
        });
        if (answer == STATE) w = before;
        return answer;
    }

    private int carryOut(String command) {
        int[] n = Arrays.stream(command.substring(1).split("[^0-9]")).mapToInt(Integer::parseInt).toArray();
        switch (command.charAt(0)) {
            case 'c': return doCut(n[0], n[1], n[2]);
            case 'i': return doInsert(n[0], n[1], n[2], n[3]);
            case 'w': return doRework(n[0], n[1], n[2]);
            case 't': return doTempo(n[0], n[1], n[2]);
            case 'b': return doBow(n[0], n[1], n[2], n[3]);
            case 'l': return doLend(n[0], n[1], n[2], n[3], n[4]);
            default: return doBring(n[0], n[1], n[2]);
        }
    }

    int faultPosition() {
        return fault;
    }

    int failed() {
        return failed;
    }

    int refusal() {
        return reason;
    }

    int count(int what) {
        int[] copies = new int[4];
        for (Ed e : w.eds) {
            for (int i = 0; i < 4; i++) copies[i] += e.total(i);
        }
        int[] all = {w.eds.size(), w.loans.size(), (int) w.loans.stream().filter(l -> l[4] > 0).count(), copies[0],
            copies[1], copies[2], copies[3], w.loans.stream().mapToInt(l -> l[6]).sum(), w.day, past.size(),
            input.length()};
        return outside(what, 0, 10) ? NONE : all[what];
    }

    int undo() {
        if (past.isEmpty()) return STATE;
        w = past.removeLast();
        return past.size();
    }

    int save() {
        saved = w.copy();
        return w.eds.size();
    }

    int restore() {
        if (saved == null) return STATE;
        w = saved.copy();
        past.clear();
        return w.eds.size();
    }
}
