import java.util.ArrayList;
import java.util.List;
import java.util.NoSuchElementException;
import java.util.TreeMap;
import java.util.TreeSet;

/**
 * Long runs of calls, the same every time, on the program and on a plain model of the document side by
 * side. The model answers questions from the documents themselves, not from what stands on the disk. An
 * object has 512 calls, those that only look at it among them, for what later ones answer is free.
 */
public final class ModelTest {
    private static final int RUNS = 6000;
    private static final int CALLS = 512;
    private static final int LAST_LOOKS = 120;

    public static void main(String[] args) {
        Check check = new Check();
        int[] seen = new int[6];
        for (int seed = 0; seed < RUNS && !check.failed(); seed++) {
            new Play(seed, check, seen).play();
        }
        System.out.println("seen: " + java.util.Arrays.toString(seen));
        // runs that never meet the rare cases would prove nothing about them
        check.yes("merges, merges without room, no room", seen[0] > 5000 && seen[1] > 2000 && seen[2] > 2000);
        check.yes("levels above 2, merges into nothing, 40 documents", seen[3] > 200 && seen[4] > 200 && seen[5] > 200);
        check.end();
    }

    /** One run of calls on one object. */
    private static final class Play {
        private final Check check;
        private final int[] seen;
        private final String name;
        private final IndexBuilder x;
        private final Model m;
        private final int words;
        private final int longest;
        private final int questions;
        private final int drops;
        private final int looks;
        private long dice;
        private int calls = 0;

        Play(int seed, Check check, int[] seen) {
            this.check = check;
            this.seen = seen;
            dice = seed * 7919L + 17;
            int memory = 15 + roll(40);
            int fan = 1 + roll(5);
            int blocks = roll(3) == 0 ? 5 + roll(12) : 10 + roll(55);
            words = roll(3) == 0 ? 100 : 1 + roll(12);
            longest = 1 + roll(20);
            questions = 1 + roll(20);
            drops = roll(12);
            looks = 4 + roll(80);
            name = "seed " + seed + " (" + memory + ", " + fan + ", " + blocks + ")";
            x = new IndexBuilder(memory, fan, blocks);
            m = new Model(memory, fan, blocks);
        }

        private int roll(int sides) {
            dice = dice * 6364136223846793005L + 1442695040888963407L;
            return (int) ((dice >>> 33) % sides);
        }

        void play() {
            while (calls < CALLS - LAST_LOOKS && !check.failed()) {
                step();
                if (roll(looks) == 0) {
                    look(roll(4));
                }
            }
            while (calls < CALLS && !check.failed()) {
                look(roll(4));
            }
            seen[0] += m.mergesDone;
            seen[1] += m.mergesWithoutRoom;
            seen[3] += m.topLevel > 2 ? 1 : 0;
            seen[4] += m.mergesIntoNothing;
            seen[5] += m.documents.size() == 40 ? 1 : 0;
        }

        private void step() {
            int choice = roll(60 + questions + drops);
            if (choice < 40) {
                if (m.open.size() >= longest || roll(12) == 0) {
                    both("close", x::close, m::close);
                } else {
                    int w = roll(words);
                    both("word " + w, () -> x.word(w), () -> m.word(w));
                }
            } else if (choice < 46) {
                both("flush", x::flush, m::flush);
            } else if (choice < 48) {
                both("finish", x::finish, m::finish);
            } else if (choice < 52) {
                odd();
            } else if (choice < 60 + questions) {
                question();
            } else {
                int d = roll(Math.min(41, m.documents.size() + 1));
                both("drop " + d, () -> x.drop(d), () -> m.drop(d));
            }
        }

        private void question() {
            int v = roll(words);
            int w = roll(words);
            if (roll(2) == 0) {
                int how = roll(4);
                both("find " + v + " " + w + " " + how, () -> x.find(v, w, how), () -> m.find(v, w, how));
            } else {
                both("rank " + v + " " + w, () -> x.rank(v, w), () -> m.rank(v, w));
            }
        }

        private void odd() {
            int a = roll(6) == 0 ? roll(2) * 201 - 101 : roll(104) - 2;
            int b = roll(104) - 2;
            int c = roll(6) - 1;
            switch (roll(4)) {
                case 0: both("word " + a, () -> x.word(a), () -> m.word(a)); break;
                case 1: both("find " + a + " " + b, () -> x.find(a, b, c), () -> m.find(a, b, c)); break;
                case 2: both("rank " + a + " " + b, () -> x.rank(a, b), () -> m.rank(a, b)); break;
                default: both("drop " + a, () -> x.drop(a), () -> m.drop(a)); break;
            }
        }

        private void both(String call, Check.Call got, Check.Call want) {
            if (calls >= CALLS) {
                return;
            }
            calls++;
            String due = Check.outcome(want);
            check.due(name + ", call " + calls + ": " + call, Check.outcome(got), due);
            seen[2] += due.equals("UnsupportedOperationException") && !call.startsWith("score") ? 1 : 0;
        }

        private void look(int at) {
            switch (at) {
                case 0: lookAtCounts(); break;
                case 1: lookAtRuns(); break;
                case 2: lookAtResult(); break;
                default: lookAtBlock(roll(m.owner.length + 2) - 1); break;
            }
        }

        private void lookAtCounts() {
            for (int i = -1; i <= 10; i++) {
                int what = i;
                both("count " + what, () -> x.count(what), () -> m.count(what));
            }
        }

        private void lookAtRuns() {
            for (int r = -1; r <= m.runs.size(); r++) {
                for (int what = -1; what <= 4; what++) {
                    int run = r;
                    int part = what;
                    both("run " + r + " " + what, () -> x.run(run, part), () -> m.run(run, part));
                }
            }
        }

        private void lookAtResult() {
            for (int k = -1; k <= m.result.size(); k++) {
                int at = k;
                both("result " + k, () -> x.result(at), () -> m.result(at));
                both("score " + k, () -> x.score(at), () -> m.score(at));
            }
        }

        private void lookAtBlock(int b) {
            for (int i = -1; i <= 16; i++) {
                int at = i;
                both("byteOf " + b + " " + at, () -> x.byteOf(b, at), () -> m.byteOf(b, at));
            }
        }
    }

    private static final class ModelRun {
        int level;
        final TreeSet<List<Integer>> postings = newPostings();
        final List<Integer> blocks = new ArrayList<>();
        List<Integer> bytes = new ArrayList<>();
    }

    private static TreeSet<List<Integer>> newPostings() {
        return new TreeSet<>((a, b) -> {
            for (int i = 0; i < 3; i++) {
                if (!a.get(i).equals(b.get(i))) {
                    return a.get(i) - b.get(i);
                }
            }
            return 0;
        });
    }

    /** The document's words, as plainly as can be. */
    private static final class Model {
        final int memory;
        final int fan;
        final ModelRun[] owner;
        final List<Integer> open = new ArrayList<>();
        final List<List<Integer>> documents = new ArrayList<>();
        final TreeSet<Integer> dropped = new TreeSet<>();
        TreeSet<List<Integer>> buffer = newPostings();
        final List<ModelRun> runs = new ArrayList<>();
        List<Integer> result = new ArrayList<>();
        List<Double> scores = null;
        int blocksRead = 0;
        int blocksWritten = 0;
        int mergesDone = 0;
        int mergesWithoutRoom = 0;
        int mergesIntoNothing = 0;
        int topLevel = 0;

        Model(int memory, int fan, int blocks) {
            this.memory = memory < 20 ? 20 : memory > 48 ? 48 : memory;
            this.fan = fan < 2 ? 2 : fan > 4 ? 4 : fan;
            owner = new ModelRun[blocks < 8 ? 8 : blocks > 60 ? 60 : blocks];
        }

        int word(int w) {
            if (w < 0 || w > 99) {
                throw new IllegalArgumentException();
            }
            if (open.size() == 20) {
                throw new IllegalStateException();
            }
            open.add(w);
            return open.size() - 1;
        }

        int close() {
            if (documents.size() == 40) {
                throw new IllegalStateException();
            }
            if (buffer.size() + open.size() > memory) {
                flushing();
            }
            int d = documents.size();
            for (int p = 0; p < open.size(); p++) {
                buffer.add(List.of(open.get(p), d, p));
            }
            documents.add(new ArrayList<>(open));
            open.clear();
            return d;
        }

        int drop(int d) {
            if (d < 0 || d >= documents.size() || !dropped.add(d)) {
                throw new NoSuchElementException();
            }
            return documents.size() - dropped.size();
        }

        int flush() {
            flushing();
            return runs.size();
        }

        int finish() {
            flushing();
            if (!runs.isEmpty() && !merging(new ArrayList<>(runs))) {
                throw new UnsupportedOperationException();
            }
            return runs.size();
        }

        private void flushing() {
            if (buffer.isEmpty()) {
                return;
            }
            ModelRun made = new ModelRun();
            if (!writing(made, buffer)) {
                throw new UnsupportedOperationException();
            }
            if (!made.postings.isEmpty()) {
                runs.add(made);
            }
            buffer = newPostings();
            while (true) {
                TreeMap<Integer, List<ModelRun>> byLevel = new TreeMap<>();
                for (ModelRun r : runs) {
                    byLevel.computeIfAbsent(r.level, level -> new ArrayList<>()).add(r);
                }
                List<ModelRun> full = null;
                for (List<ModelRun> some : byLevel.values()) {
                    if (full == null && some.size() >= fan) {
                        full = some;
                    }
                }
                if (full == null || !merging(full)) {
                    return;
                }
            }
        }

        private boolean merging(List<ModelRun> old) {
            ModelRun made = new ModelRun();
            TreeSet<List<Integer>> all = newPostings();
            for (ModelRun r : old) {
                made.level = Math.max(made.level, r.level + 1);
                all.addAll(r.postings);
                blocksRead += r.blocks.size();
            }
            if (!writing(made, all)) {
                mergesWithoutRoom++;
                return false;
            }
            int first = runs.indexOf(old.get(0));
            runs.removeAll(old);
            if (made.postings.isEmpty()) {
                mergesIntoNothing++;
            } else {
                runs.add(first, made);
                topLevel = Math.max(topLevel, made.level);
            }
            for (int b = 0; b < owner.length; b++) {
                if (old.contains(owner[b])) {
                    owner[b] = null;
                }
            }
            mergesDone++;
            return true;
        }

        private boolean writing(ModelRun made, TreeSet<List<Integer>> from) {
            TreeSet<List<Integer>> kept = newPostings();
            for (List<Integer> p : from) {
                if (!dropped.contains(p.get(1))) {
                    kept.add(p);
                }
            }
            if (kept.isEmpty()) {
                return true;
            }
            List<Integer> bytes = bytesOf(kept);
            int need = bytes.size() / 16 + (bytes.size() % 16 == 0 ? 0 : 1);
            if (need > count(4)) {
                return false;
            }
            made.postings.addAll(kept);
            made.bytes = bytes;
            for (int b = 0; b < owner.length && made.blocks.size() < need; b++) {
                if (owner[b] == null) {
                    owner[b] = made;
                    made.blocks.add(b);
                }
            }
            blocksWritten += need;
            return true;
        }

        private static List<Integer> bytesOf(TreeSet<List<Integer>> postings) {
            TreeMap<Integer, TreeMap<Integer, TreeSet<Integer>>> tree = new TreeMap<>();
            for (List<Integer> p : postings) {
                tree.computeIfAbsent(p.get(0), w -> new TreeMap<>())
                        .computeIfAbsent(p.get(1), d -> new TreeSet<>()).add(p.get(2));
            }
            List<Integer> bytes = new ArrayList<>();
            int lastWord = 0;
            for (int w : tree.keySet()) {
                bytes.add(w - lastWord);
                bytes.add(tree.get(w).size());
                lastWord = w;
                int lastDocument = 0;
                for (int d : tree.get(w).keySet()) {
                    bytes.add(d - lastDocument);
                    bytes.add(tree.get(w).get(d).size());
                    lastDocument = d;
                    int lastPlace = 0;
                    for (int p : tree.get(w).get(d)) {
                        bytes.add(p - lastPlace);
                        lastPlace = p;
                    }
                }
            }
            bytes.add(127);
            return bytes;
        }

        private void readAll() {
            for (ModelRun r : runs) {
                blocksRead += r.blocks.size();
            }
        }

        private static void checkWords(int v, int w) {
            if (v < 0 || v > 99 || w < 0 || w > 99) {
                throw new IllegalArgumentException();
            }
        }

        int find(int v, int w, int how) {
            checkWords(v, w);
            if (how < 0 || how > 3) {
                throw new IllegalArgumentException();
            }
            readAll();
            scores = null;
            result = new ArrayList<>();
            for (int d = 0; d < documents.size(); d++) {
                List<Integer> text = documents.get(d);
                boolean fits;
                if (how == 0) {
                    fits = text.contains(v) && text.contains(w);
                } else if (how == 1) {
                    fits = text.contains(v) || text.contains(w);
                } else if (how == 2) {
                    fits = false;
                    for (int p = 1; p < text.size(); p++) {
                        fits |= text.get(p - 1) == v && text.get(p) == w;
                    }
                } else {
                    fits = text.contains(v) && !text.contains(w);
                }
                if (fits && !dropped.contains(d)) {
                    result.add(d);
                }
            }
            return result.size();
        }

        int rank(int v, int w) {
            checkWords(v, w);
            find(v, w, 1);
            List<Integer> found = result;
            double[] of = new double[40];
            for (int d : found) {
                of[d] = part(v, d) + part(w, d);
            }
            found.sort((a, b) -> of[a] != of[b] ? Double.compare(of[b], of[a]) : a - b);
            scores = new ArrayList<>();
            for (int d : found) {
                scores.add(of[d]);
            }
            return found.size();
        }

        private double part(int w, int d) {
            int frequency = 0;
            for (int other = 0; other < documents.size(); other++) {
                frequency += !dropped.contains(other) && documents.get(other).contains(w) ? 1 : 0;
            }
            int times = 0;
            for (int one : documents.get(d)) {
                times += one == w ? 1 : 0;
            }
            return times == 0 ? 0 : (double) times / frequency;
        }

        int result(int k) {
            if (k < 0 || k >= result.size()) {
                throw new NoSuchElementException();
            }
            return result.get(k);
        }

        double score(int k) {
            result(k);
            if (scores == null) {
                throw new UnsupportedOperationException();
            }
            return scores.get(k);
        }

        int byteOf(int b, int i) {
            if (b < 0 || b >= owner.length || i < 0 || i > 15) {
                throw new IndexOutOfBoundsException();
            }
            if (owner[b] == null) {
                return 0;
            }
            int at = owner[b].blocks.indexOf(b) * 16 + i;
            return at < owner[b].bytes.size() ? owner[b].bytes.get(at) : 0;
        }

        int run(int r, int what) {
            if (r < 0 || r >= runs.size()) {
                throw new NoSuchElementException();
            }
            ModelRun run = runs.get(r);
            if (what == 0) {
                return run.level;
            } else if (what == 1) {
                return run.blocks.size();
            } else if (what == 2) {
                return run.blocks.get(0);
            } else if (what == 3) {
                return run.bytes.size();
            }
            throw new IllegalArgumentException();
        }

        int count(int what) {
            int free = 0;
            for (ModelRun r : owner) {
                free += r == null ? 1 : 0;
            }
            int[] all = {documents.size(), documents.size() - dropped.size(), buffer.size(), runs.size(), free,
                blocksRead, blocksWritten, mergesDone, mergesWithoutRoom, open.size()};
            return what < 0 || what > 9 ? -1 : all[what];
        }
    }
}
