import java.util.ArrayList;
import java.util.Arrays;
import java.util.NoSuchElementException;

/**
 * An index of documents that does not fit into memory. Words in capitals are terms of DOC.md. Its limits
 * set the length of each row; an index is looked at all the same before it is used, so that rule 7 of
 * LANGUAGE.md can be seen to hold at each place.
 */
public final class IndexBuilder {
    private static final int WORDS = 100;
    private static final int MOST_DOCUMENTS = 40;
    private static final int MOST_PLACES = 20;
    private static final int LEAST_MEMORY = 20;
    private static final int MOST_MEMORY = 48;
    private static final int LEAST_FAN = 2;
    private static final int MOST_FAN = 4;
    private static final int LEAST_BLOCKS = 8;
    private static final int MOST_BLOCKS = 60;
    private static final int BLOCK_BYTES = 16;
    private static final int END_OF_RUN = 127;

    private static final int BOTH = 0;
    private static final int EITHER = 1;
    private static final int RIGHT_BEHIND = 2;
    private static final int ONLY_FIRST = 3;

    private final int memory;
    private final int[] open;
    private int openWords;
    private final Documents documents;
    private final Postings buffer;
    private final RunRow runs;
    private final Places placesOfV;
    private final Places placesOfW;
    private final Answer answer;

    public IndexBuilder(int memory, int fan, int blocks) {
        this.memory = clamp(memory, LEAST_MEMORY, MOST_MEMORY);
        open = new int[MOST_PLACES];
        openWords = 0;
        documents = new Documents();
        buffer = new Postings(this.memory);
        Disk disk = new Disk(clamp(blocks, LEAST_BLOCKS, MOST_BLOCKS));
        runs = new RunRow(documents, disk, clamp(fan, LEAST_FAN, MOST_FAN));
        placesOfV = new Places();
        placesOfW = new Places();
        answer = new Answer();
    }

    public int word(int w) throws IllegalArgumentException, IllegalStateException {
        if (!isWord(w)) {
            throw new IllegalArgumentException("no such word");
        }
        if (openWords >= MOST_PLACES) {
            throw new IllegalStateException("the open document is full");
        }
        open[openWords] = w;
        openWords++;
        return openWords - 1;
    }

    public int close() throws IllegalStateException, UnsupportedOperationException {
        if (documents.size() >= MOST_DOCUMENTS) {
            throw new IllegalStateException("there are 40 documents");
        }
        if (buffer.size() + openWords > memory && !flushBuffer()) {
            throw new UnsupportedOperationException("no room for the buffer");
        }
        int d = documents.addNext();
        for (int place = 0; place < openWords; place++) {
            buffer.insert(Postings.keyOf(open[place], d, place));
        }
        openWords = 0;
        return d;
    }

    public int drop(int d) throws NoSuchElementException {
        if (!documents.isLive(d)) {
            throw new NoSuchElementException("no such document, or it is dropped");
        }
        documents.leaveOut(d);
        return documents.live();
    }

    public int flush() throws UnsupportedOperationException {
        if (!flushBuffer()) {
            throw new UnsupportedOperationException("no room for the buffer");
        }
        return runs.size();
    }

    public int finish() throws UnsupportedOperationException {
        if (!flushBuffer()) {
            throw new UnsupportedOperationException("no room for the buffer");
        }
        if (!runs.mergeAll()) {
            throw new UnsupportedOperationException("no room for the merge");
        }
        return runs.size();
    }

    public int find(int v, int w, int how) throws IllegalArgumentException {
        if (!isWord(v) || !isWord(w) || how < BOTH || how > ONLY_FIRST) {
            throw new IllegalArgumentException("no such word or how");
        }
        lookUp(v, w);
        answer.begin(false);
        for (int d = 0; d < documents.size(); d++) {
            if (fits(d, how)) {
                answer.put(d, 0.0);
            }
        }
        return answer.size();
    }

    public int rank(int v, int w) throws IllegalArgumentException {
        if (!isWord(v) || !isWord(w)) {
            throw new IllegalArgumentException("no such word");
        }
        lookUp(v, w);
        int frequencyOfV = placesOfV.frequency();
        int frequencyOfW = placesOfW.frequency();
        answer.begin(true);
        for (int d = 0; d < documents.size(); d++) {
            if (fits(d, EITHER)) {
                answer.put(d, placesOfV.share(d, frequencyOfV) + placesOfW.share(d, frequencyOfW));
            }
        }
        return answer.size();
    }

    public int result(int k) throws NoSuchElementException {
        if (k < 0 || k >= answer.size()) {
            throw new NoSuchElementException("no such result");
        }
        return answer.documentAt(k);
    }

    public double score(int k) throws NoSuchElementException, UnsupportedOperationException {
        if (k < 0 || k >= answer.size()) {
            throw new NoSuchElementException("no such result");
        }
        if (!answer.isRanked()) {
            throw new UnsupportedOperationException("the result is not ranked");
        }
        return answer.scoreAt(k);
    }

    public int byteOf(int b, int i) throws IndexOutOfBoundsException {
        if (!runs.hasByte(b, i)) {
            throw new IndexOutOfBoundsException("no such block or byte");
        }
        return runs.byteAt(b, i);
    }

    public int run(int r, int what) throws NoSuchElementException, IllegalArgumentException {
        if (r < 0 || r >= runs.size()) {
            throw new NoSuchElementException("no such run");
        }
        switch (what) {
            case 0: return runs.levelOf(r);
            case 1: return runs.blocksOf(r);
            case 2: return runs.firstBlockOf(r);
            case 3: return runs.bytesOf(r);
            default: throw new IllegalArgumentException("no such what");
        }
    }

    public int count(int what) {
        switch (what) {
            case 0: return documents.size();
            case 1: return documents.live();
            case 2: return buffer.size();
            case 3: return runs.size();
            case 4: return runs.freeBlocks();
            case 5: return runs.blocksRead();
            case 6: return runs.blocksWritten();
            case 7: return runs.mergesDone();
            case 8: return runs.mergesWithoutRoom();
            case 9: return openWords;
            default: return -1;
        }
    }

    private static int clamp(int n, int least, int most) {
        return Math.max(least, Math.min(most, n));
    }

    private static boolean isWord(int w) {
        return w >= 0 && w < WORDS;
    }

    /** FLUSHING; false if there is NO ROOM for THE BUFFER, and then nothing is done. */
    private boolean flushBuffer() {
        if (buffer.size() == 0) {
            return true;
        }
        if (!runs.append(buffer)) {
            return false;
        }
        buffer.clear();
        runs.mergeFullLevels();
        return true;
    }

    private void lookUp(int v, int w) {
        placesOfV.begin(v);
        placesOfW.begin(w);
        runs.readAll(placesOfV, placesOfW);
        placesOfV.take(buffer, documents);
        placesOfW.take(buffer, documents);
    }

    private boolean fits(int d, int how) {
        int v = placesOfV.bitsOf(d);
        int w = placesOfW.bitsOf(d);
        switch (how) {
            case BOTH: return v != 0 && w != 0;
            case EITHER: return v != 0 || w != 0;
            // one place up, the bits of v stand where a w right behind has its own
            case RIGHT_BEHIND: return ((v << 1) & w) != 0;
            case ONLY_FIRST: return v != 0 && w == 0;
            default: return false;
        }
    }

    /** The DOCUMENTS by number, and which of them are DROPPED. */
    private static final class Documents {
        private final boolean[] dropped;
        private int size;
        private int live;

        Documents() {
            dropped = new boolean[MOST_DOCUMENTS];
            size = 0;
            live = 0;
        }

        int size() {
            return size;
        }

        int live() {
            return live;
        }

        int addNext() {
            size++;
            live++;
            return size - 1;
        }

        boolean isLive(int d) {
            return d >= 0 && d < size && d < dropped.length && !dropped[d];
        }

        void leaveOut(int d) {
            if (isLive(d)) {
                dropped[d] = true;
                live--;
            }
        }
    }

    /** POSTINGS in order, each as one number, so that the numbers are ordered as the POSTINGS are. */
    private static final class Postings {
        private final int[] keys;
        private int size;

        Postings(int most) {
            keys = new int[most];
            size = 0;
        }

        static int keyOf(int w, int d, int place) {
            return (w * MOST_DOCUMENTS + d) * MOST_PLACES + place;
        }

        static int wordOf(int key) {
            return key / (MOST_DOCUMENTS * MOST_PLACES);
        }

        static int documentOf(int key) {
            return key / MOST_PLACES % MOST_DOCUMENTS;
        }

        static int placeOf(int key) {
            return key % MOST_PLACES;
        }

        int size() {
            return size;
        }

        int keyAt(int i) {
            return i >= 0 && i < size ? keys[i] : 0;
        }

        void clear() {
            size = 0;
        }

        void insert(int key) {
            if (size >= keys.length) {
                return;
            }
            int at = size;
            while (at > 0 && keys[at - 1] > key) {
                keys[at] = keys[at - 1];
                at--;
            }
            keys[at] = key;
            size++;
        }

        /** Filled from behind, so that the merge needs no row beside these two. */
        void mergeIn(Postings other) {
            int both = size + other.size;
            if (both > keys.length) {
                return;
            }
            int mine = size - 1;
            int others = other.size - 1;
            for (int at = both - 1; at >= 0 && others >= 0; at--) {
                if (mine >= 0 && keys[mine] > other.keys[others]) {
                    keys[at] = keys[mine];
                    mine--;
                } else {
                    keys[at] = other.keys[others];
                    others--;
                }
            }
            size = both;
        }

        void keepLive(Documents documents) {
            int kept = 0;
            for (int i = 0; i < size; i++) {
                if (documents.isLive(documentOf(keys[i]))) {
                    keys[kept] = keys[i];
                    kept++;
                }
            }
            size = kept;
        }
    }

    /** THE BYTES of one RUN, on their way to the DISK or from it. */
    private static final class Bytes {
        private final int[] cells;
        private int size;
        private int next;

        Bytes(int most) {
            cells = new int[most];
            size = 0;
            next = 0;
        }

        int size() {
            return size;
        }

        int at(int i) {
            return i >= 0 && i < size && i < cells.length ? cells[i] : 0;
        }

        void clear() {
            size = 0;
            next = 0;
        }

        /** Bytes for which the whole DISK is too small are only counted: they end in NO ROOM. */
        int put(int n) {
            if (size < cells.length) {
                cells[size] = n;
            }
            size++;
            return size - 1;
        }

        /** No POSTINGS: no bytes either, for there is no RUN then. */
        void encode(Postings postings) {
            clear();
            int word = 0;
            int document = 0;
            int place = 0;
            int documentsAt = 0;
            int placesAt = 0;
            for (int i = 0; i < postings.size(); i++) {
                int key = postings.keyAt(i);
                boolean newWord = i == 0 || Postings.wordOf(key) != word;
                if (newWord) {
                    put(Postings.wordOf(key) - word);
                    word = Postings.wordOf(key);
                    documentsAt = put(0);
                    document = 0;
                }
                if (newWord || Postings.documentOf(key) != document) {
                    put(Postings.documentOf(key) - document);
                    document = Postings.documentOf(key);
                    raise(documentsAt);
                    placesAt = put(0);
                    place = 0;
                }
                put(Postings.placeOf(key) - place);
                place = Postings.placeOf(key);
                raise(placesAt);
            }
            if (size > 0) {
                put(END_OF_RUN);
            }
        }

        void decode(Postings into) {
            into.clear();
            next = 0;
            int word = 0;
            int step = read();
            for (int i = 0; i < WORDS && step != END_OF_RUN; i++) {
                word += step;
                int documents = read();
                int document = 0;
                for (int j = 0; j < documents; j++) {
                    document += read();
                    int places = read();
                    int place = 0;
                    for (int k = 0; k < places; k++) {
                        place += read();
                        into.insert(Postings.keyOf(word, document, place));
                    }
                }
                step = read();
            }
        }

        private void raise(int at) {
            if (at >= 0 && at < cells.length) {
                cells[at]++;
            }
        }

        private int read() {
            if (next >= size || next >= cells.length) {
                return END_OF_RUN;
            }
            next++;
            return cells[next - 1];
        }
    }

    /** A RUN as the row of RUNS knows it: where it stands on the DISK. */
    private static final class Run {
        private final int level;
        private final int[] blocks;
        private final int bytes;

        Run(int level, int[] blocks, int bytes) {
            this.level = level;
            this.blocks = blocks;
            this.bytes = bytes;
        }

        boolean isBetween(int least, int greatest) {
            return level >= least && level <= greatest;
        }
    }

    /** THE DISK. */
    private static final class Disk {
        private final int[] cells;
        private final boolean[] taken;
        private int free;

        Disk(int blocks) {
            cells = new int[blocks * BLOCK_BYTES];
            taken = new boolean[blocks];
            free = blocks;
        }

        int size() {
            return cells.length;
        }

        int free() {
            return free;
        }

        boolean has(int b, int i) {
            return b >= 0 && b < taken.length && i >= 0 && i < BLOCK_BYTES;
        }

        int cellAt(int b, int i) {
            return has(b, i) ? cells[b * BLOCK_BYTES + i] : 0;
        }

        boolean hasRoomFor(int bytes) {
            return blocksFor(bytes) <= free;
        }

        Run write(Bytes bytes, int level) {
            int[] blocks = takeLeast(Math.min(blocksFor(bytes.size()), free));
            for (int k = 0; k < blocks.length; k++) {
                int start = blocks[k] * BLOCK_BYTES;
                for (int i = 0; i < BLOCK_BYTES && start + i < cells.length; i++) {
                    cells[start + i] = bytes.at(k * BLOCK_BYTES + i);
                }
            }
            return new Run(level, blocks, bytes.size());
        }

        void read(Run run, Bytes into) {
            into.clear();
            for (int i = 0; i < run.bytes && i / BLOCK_BYTES < run.blocks.length; i++) {
                int at = run.blocks[i / BLOCK_BYTES] * BLOCK_BYTES + i % BLOCK_BYTES;
                if (at < cells.length) {
                    into.put(cells[at]);
                }
            }
        }

        void release(Run run) {
            for (int b : run.blocks) {
                if (b < taken.length && taken[b]) {
                    taken[b] = false;
                    free++;
                    clear(b * BLOCK_BYTES);
                }
            }
        }

        private void clear(int start) {
            for (int i = 0; i < BLOCK_BYTES && start + i < cells.length; i++) {
                cells[start + i] = 0;
            }
        }

        private static int blocksFor(int bytes) {
            return (bytes + BLOCK_BYTES - 1) / BLOCK_BYTES;
        }

        private int[] takeLeast(int wanted) {
            int[] blocks = new int[wanted];
            int found = 0;
            for (int b = 0; b < taken.length && found < wanted; b++) {
                if (!taken[b]) {
                    taken[b] = true;
                    free--;
                    blocks[found] = b;
                    found++;
                }
            }
            return blocks;
        }
    }

    /** The row of RUNS on the DISK: WRITING, MERGING and reading them. */
    private static final class RunRow {
        private final Documents documents;
        private final Disk disk;
        private final int fan;
        private final ArrayList<Run> row;
        private final Postings gathered;
        private final Postings part;
        private final Bytes bytes;
        private int blocksRead;
        private int blocksWritten;
        private int mergesDone;
        private int mergesWithoutRoom;

        RunRow(Documents documents, Disk disk, int fan) {
            this.documents = documents;
            this.disk = disk;
            this.fan = fan;
            row = new ArrayList<Run>();
            gathered = new Postings(MOST_DOCUMENTS * MOST_PLACES);
            part = new Postings(MOST_DOCUMENTS * MOST_PLACES);
            bytes = new Bytes(disk.size());
            blocksRead = 0;
            blocksWritten = 0;
            mergesDone = 0;
            mergesWithoutRoom = 0;
        }

        int size() {
            return row.size();
        }

        int levelOf(int r) {
            return has(r) ? row.get(r).level : 0;
        }

        int blocksOf(int r) {
            return has(r) ? row.get(r).blocks.length : 0;
        }

        int firstBlockOf(int r) {
            return blocksOf(r) > 0 ? row.get(r).blocks[0] : 0;
        }

        int bytesOf(int r) {
            return has(r) ? row.get(r).bytes : 0;
        }

        boolean hasByte(int b, int i) {
            return disk.has(b, i);
        }

        int byteAt(int b, int i) {
            return disk.cellAt(b, i);
        }

        int freeBlocks() {
            return disk.free();
        }

        int blocksRead() {
            return blocksRead;
        }

        int blocksWritten() {
            return blocksWritten;
        }

        int mergesDone() {
            return mergesDone;
        }

        int mergesWithoutRoom() {
            return mergesWithoutRoom;
        }

        /** WRITES a RUN of LEVEL 0 at the end of the row; false: NO ROOM. */
        boolean append(Postings postings) {
            gathered.clear();
            gathered.mergeIn(postings);
            if (!fitsOnDisk()) {
                return false;
            }
            writeAt(row.size(), 0);
            return true;
        }

        /** A MERGE makes the row shorter, so there are never more of them than RUNS. */
        void mergeFullLevels() {
            for (int done = 0; done < MOST_BLOCKS; done++) {
                int level = leastFullLevel();
                if (level < 0 || !mergeLevels(level, level)) {
                    return;
                }
            }
        }

        /** False: NO ROOM. */
        boolean mergeAll() {
            if (row.isEmpty()) {
                return true;
            }
            int greatest = 0;
            for (int r = 0; r < row.size(); r++) {
                greatest = Math.max(greatest, row.get(r).level);
            }
            return mergeLevels(0, greatest);
        }

        void readAll(Places v, Places w) {
            for (int r = 0; r < row.size(); r++) {
                readPart(row.get(r));
                v.take(part, documents);
                w.take(part, documents);
            }
        }

        private boolean has(int r) {
            return r >= 0 && r < row.size();
        }

        private int leastFullLevel() {
            int least = -1;
            for (int r = 0; r < row.size(); r++) {
                int level = row.get(r).level;
                if ((least < 0 || level < least) && runsOf(level) >= fan) {
                    least = level;
                }
            }
            return least;
        }

        private int runsOf(int level) {
            int runs = 0;
            for (int r = 0; r < row.size(); r++) {
                if (row.get(r).level == level) {
                    runs++;
                }
            }
            return runs;
        }

        /** MERGES the RUNS of these LEVELS, of which the greatest must be one of theirs; false: NO ROOM. */
        private boolean mergeLevels(int least, int greatest) {
            gathered.clear();
            int first = row.size();
            for (int r = 0; r < row.size(); r++) {
                Run run = row.get(r);
                if (run.isBetween(least, greatest)) {
                    first = Math.min(first, r);
                    readPart(run);
                    gathered.mergeIn(part);
                }
            }
            if (!fitsOnDisk()) {
                mergesWithoutRoom++;
                return false;
            }
            // the new RUN has a greater LEVEL, so that it stays when the old ones go
            writeAt(first, greatest + 1);
            removeLevels(least, greatest);
            mergesDone++;
            return true;
        }

        private void readPart(Run run) {
            disk.read(run, bytes);
            bytes.decode(part);
            blocksRead += run.blocks.length;
        }

        private boolean fitsOnDisk() {
            gathered.keepLive(documents);
            bytes.encode(gathered);
            return disk.hasRoomFor(bytes.size());
        }

        private void writeAt(int place, int level) {
            if (bytes.size() > 0 && place >= 0 && place <= row.size()) {
                Run made = disk.write(bytes, level);
                blocksWritten += made.blocks.length;
                row.add(place, made);
            }
        }

        /** From behind, so that no RUN moves before it was looked at. */
        private void removeLevels(int least, int greatest) {
            for (int r = row.size() - 1; r >= 0; r--) {
                Run old = row.get(r);
                if (old.isBetween(least, greatest)) {
                    disk.release(old);
                    row.remove(r);
                }
            }
        }
    }

    /** Where one WORD stands in each DOCUMENT that is not DROPPED: a bit for each PLACE. */
    private static final class Places {
        private final int[] bits;
        private int word;

        Places() {
            bits = new int[MOST_DOCUMENTS];
            word = 0;
        }

        void begin(int w) {
            word = w;
            Arrays.fill(bits, 0);
        }

        void take(Postings postings, Documents documents) {
            for (int i = 0; i < postings.size(); i++) {
                int key = postings.keyAt(i);
                int d = Postings.documentOf(key);
                if (Postings.wordOf(key) == word && documents.isLive(d)) {
                    bits[d] |= 1 << Postings.placeOf(key);
                }
            }
        }

        int bitsOf(int d) {
            return d >= 0 && d < bits.length ? bits[d] : 0;
        }

        int frequency() {
            int having = 0;
            for (int b : bits) {
                if (b != 0) {
                    having++;
                }
            }
            return having;
        }

        double share(int d, int frequency) {
            int times = Integer.bitCount(bitsOf(d));
            return times == 0 || frequency == 0 ? 0.0 : (double) times / (double) frequency;
        }
    }

    /** The RESULT of the last question. */
    private static final class Answer {
        private final int[] documents;
        private final double[] scores;
        private int size;
        private boolean ranked;

        Answer() {
            documents = new int[MOST_DOCUMENTS];
            scores = new double[MOST_DOCUMENTS];
            size = 0;
            ranked = false;
        }

        void begin(boolean withScores) {
            size = 0;
            ranked = withScores;
        }

        /** DOCUMENTS come by rising number, so one of an equal SCORE goes behind the others. */
        void put(int d, double points) {
            if (size >= documents.length) {
                return;
            }
            int at = size;
            while (at > 0 && scores[at - 1] < points) {
                scores[at] = scores[at - 1];
                documents[at] = documents[at - 1];
                at--;
            }
            scores[at] = points;
            documents[at] = d;
            size++;
        }

        int size() {
            return size;
        }

        boolean isRanked() {
            return ranked;
        }

        int documentAt(int k) {
            return k >= 0 && k < size ? documents[k] : 0;
        }

        double scoreAt(int k) {
            return k >= 0 && k < size ? scores[k] : 0.0;
        }
    }
}
