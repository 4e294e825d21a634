/** A part for each promise of the document: ordinary inputs, the edges that it names, wrong inputs. */
public final class PromiseTest extends Steps {
    public static void main(String[] args) {
        promise1();
        promise2();
        promise3();
        promise3NoRoom();
        promise4();
        promise5();
        promise5Levels();
        promise5MergeWithoutRoom();
        promise5LeastLevelFirst();
        promise5PlaceInTheRow();
        promise6();
        promise6NoRoom();
        promise6Dropped();
        promise7();
        promise8();
        promise8Ties();
        promise9();
        promise10();
        promise11();
        promise12();
        promise13();
        CHECK.end();
    }

    private static int postingsBeforeFlush(int memory) {
        IndexBuilder x = new IndexBuilder(memory, 4, 60);
        int most = 0;
        for (int d = 0; d < 40 && x.count(3) == 0; d++) {
            most = x.count(2);
            add(x, 1);
        }
        return x.count(3) == 0 ? -1 : most;
    }

    private static int runsAfter(int fan, int flushes) {
        IndexBuilder x = new IndexBuilder(48, fan, 60);
        for (int i = 0; i < flushes; i++) {
            add(x, i);
            x.flush();
        }
        return x.count(3);
    }

    private static void promise1() {
        CHECK.due("memory 19", postingsBeforeFlush(19), 20);
        CHECK.due("memory 20", postingsBeforeFlush(20), 20);
        CHECK.due("memory 21", postingsBeforeFlush(21), 21);
        CHECK.due("least memory", postingsBeforeFlush(FAR[0]), 20);
        IndexBuilder x = new IndexBuilder(FAR[1], 4, 60);
        addRow(x, 0, 20);
        addRow(x, 0, 20);
        addRow(x, 0, 8);
        CHECK.due("48 in the buffer", x.count(2), 48);
        add(x, 1);
        CHECK.due("the 49th comes after flushing", x.count(2), 1);
        IndexBuilder y = new IndexBuilder(47, 4, 60);
        addRow(y, 0, 20);
        addRow(y, 0, 20);
        addRow(y, 0, 8);
        CHECK.due("47 are too few for 48", y.count(2), 8);
        int[] fans = {FAR[0], 1, 2, 3, 4, 5, FAR[1]};
        int[] clamped = {2, 2, 2, 3, 4, 4, 4};
        for (int i = 0; i < fans.length; i++) {
            CHECK.due("before the fan " + fans[i], runsAfter(fans[i], clamped[i] - 1), clamped[i] - 1);
            CHECK.due("at the fan " + fans[i], runsAfter(fans[i], clamped[i]), 1);
        }
        int[] blocks = {FAR[0], 7, 8, 9, 59, 60, 61, FAR[1]};
        int[] disks = {8, 8, 8, 9, 59, 60, 60, 60};
        for (int i = 0; i < blocks.length; i++) {
            IndexBuilder z = new IndexBuilder(20, 2, blocks[i]);
            CHECK.due("blocks " + blocks[i], z.count(4), disks[i]);
            CHECK.due("a byte of the last", z.byteOf(disks[i] - 1, 15), 0);
            int behind = disks[i];
            CHECK.throwing("behind the last", INDEX, () -> z.byteOf(behind, 0));
        }
    }

    private static void promise2() {
        IndexBuilder x = new IndexBuilder(20, 2, 8);
        for (int w : new int[] {-1, 100, FAR[0], FAR[1]}) {
            CHECK.throwing("word " + w, ARGUMENT, () -> x.word(w));
        }
        CHECK.due("nothing came", x.count(9), 0);
        for (int place = 0; place < 20; place++) {
            CHECK.due("place", x.word(place % 2 == 0 ? 0 : 99), place);
        }
        CHECK.throwing("the 21st", STATE, () -> x.word(5));
        CHECK.throwing("no such word comes first", ARGUMENT, () -> x.word(100));
        CHECK.due("still 20", x.count(9), 20);
        x.close();
        CHECK.due("a new one begins at 0", x.word(5), 0);
    }

    private static void promise3() {
        IndexBuilder x = new IndexBuilder(20, 2, 60);
        CHECK.due("an empty document", x.close(), 0);
        CHECK.due("one word", add(x, 4), 1);
        CHECK.due("the open one is empty", x.count(9), 0);
        CHECK.due("its posting is in the buffer", x.count(2), 1);
        CHECK.due("it just fits", addRow(x, 10, 19), 2);
        CHECK.due("no flush", x.count(3), 0);
        CHECK.due("empty ones need no room", x.close(), 3);
        CHECK.due("no flush", x.count(3), 0);
        CHECK.due("one too many", add(x, 5), 4);
        CHECK.due("flushed", x.count(3), 1);
        CHECK.due("only the new one", x.count(2), 1);
        for (int d = 5; d < 40; d++) {
            CHECK.due("number", x.close(), d);
        }
        x.word(1);
        CHECK.throwing("the 41st", STATE, x::close);
        CHECK.due("still open", x.count(9), 1);
        CHECK.due("40", x.count(0), 40);
        x.drop(0);
        CHECK.throwing("a dropped one makes no room", STATE, x::close);
    }

    private static void promise3NoRoom() {
        IndexBuilder x = new IndexBuilder(20, 2, 8);
        addRow(x, 0, 20);
        addRow(x, 20, 20);
        for (int w = 40; w < 60; w++) {
            x.word(w);
        }
        String before = state(x);
        CHECK.throwing("close", UNSUPPORTED, x::close);
        CHECK.due("nothing changes", state(x), before);
        x.drop(1);
        CHECK.due("the buffer's document is dropped: no run is needed", x.close(), 2);
        CHECK.due("runs", x.count(3), 1);
        CHECK.due("buffer", x.count(2), 20);
        for (int d = 3; d < 40; d++) {
            x.close();
        }
        x.word(1);
        CHECK.throwing("40 come before no room", STATE, x::close);
    }

    private static void promise4() {
        IndexBuilder x = new IndexBuilder(20, 2, 8);
        CHECK.throwing("none yet", NONE, () -> x.drop(0));
        add(x, 1);
        add(x, 1, 2);
        add(x, 2);
        for (int d : new int[] {-1, 3, 40, FAR[0], FAR[1]}) {
            CHECK.throwing("drop " + d, NONE, () -> x.drop(d));
        }
        CHECK.due("two are left", x.drop(1), 2);
        CHECK.throwing("it is dropped", NONE, () -> x.drop(1));
        CHECK.due("documents", x.count(0), 3);
        CHECK.due("its postings stay in the buffer", x.count(2), 4);
        CHECK.due("it is not answered", x.find(1, 2, 1), 2);
        row("others are", results(x, 2), 0, 2);
        CHECK.due("one is left", x.drop(0), 1);
        CHECK.due("none is left", x.drop(2), 0);
        CHECK.due("numbers are not used again", x.close(), 3);
    }

    private static void promise5() {
        IndexBuilder x = new IndexBuilder(20, 2, 8);
        CHECK.due("nothing to flush", x.flush(), 0);
        add(x, 99, 0, 99);
        add(x);
        add(x, 99, 50);
        CHECK.due("a run", x.flush(), 1);
        row("bytes", bytes(x, 0, 24), 0, 1, 0, 1, 1, 50, 1, 2, 1, 1, 49, 2, 0, 2, 0, 2, 2, 1, 0, 127, 0, 0, 0, 0);
        CHECK.due("the buffer is empty", x.count(2), 0);
        CHECK.due("nothing again", x.flush(), 1);
        CHECK.due("written", x.count(6), 2);
        add(x, 7);
        x.drop(3);
        CHECK.due("all dropped: no run", x.flush(), 1);
        CHECK.due("the buffer is empty", x.count(2), 0);
        IndexBuilder y = new IndexBuilder(20, 2, 8);
        addRow(y, 0, 20);
        y.flush();
        addRow(y, 20, 20);
        String before = state(y);
        CHECK.throwing("flush", UNSUPPORTED, y::flush);
        CHECK.due("nothing changes", state(y), before);
        IndexBuilder z = new IndexBuilder(20, 2, 8);
        add(z, 3, 4);
        add(z, 4);
        z.drop(0);
        z.flush();
        row("dropped postings are left out", bytes(z, 0, 8), 4, 1, 1, 1, 0, 127, 0, 0);
    }

    private static void promise5Levels() {
        IndexBuilder x = new IndexBuilder(48, 2, 60);
        add(x, 5);
        x.flush();
        add(x, 3, 5);
        CHECK.due("two of level 0 become one", x.flush(), 1);
        row("level", levels(x), 1);
        row("blocks behind the old ones", bytes(x, 32, 16), 3, 1, 1, 1, 0, 2, 2, 0, 1, 0, 1, 1, 1, 127, 0, 0);
        row("the old ones are free", bytes(x, 0, 32), new int[32]);
        CHECK.due("first block", x.run(0, 2), 2);
        add(x, 1);
        x.flush();
        row("levels", levels(x), 1, 0);
        CHECK.due("the least free block", x.run(1, 2), 0);
        add(x, 2);
        CHECK.due("level after level", x.flush(), 1);
        row("levels", levels(x), 2);
        CHECK.due("merges", x.count(7), 3);
        CHECK.due("read", x.count(5), 6);
        CHECK.due("written", x.count(6), 8);
        IndexBuilder y = new IndexBuilder(48, 3, 60);
        for (int i = 0; i < 8; i++) {
            add(y, i);
            y.flush();
        }
        row("fan 3", levels(y), 1, 1, 0, 0);
        for (int d = 6; d < 8; d++) {
            y.drop(d);
        }
        add(y, 9);
        y.drop(8);
        y.flush();
        row("no run, no merge", levels(y), 1, 1, 0, 0);
        add(y, 9);
        CHECK.due("all levels", y.flush(), 1);
        row("fan 3", levels(y), 2);
        CHECK.due("left out", y.find(6, 7, 1), 0);
    }

    private static void promise5MergeWithoutRoom() {
        IndexBuilder x = new IndexBuilder(20, 2, 8);
        addRow(x, 0, 12);
        x.flush();
        addRow(x, 20, 12);
        CHECK.due("the merge has no room, the run stands", x.flush(), 2);
        row("levels", levels(x), 0, 0);
        CHECK.due("not done", x.count(7), 0);
        CHECK.due("no room", x.count(8), 1);
        CHECK.due("but read", x.count(5), 8);
        CHECK.due("not written", x.count(6), 8);
        CHECK.due("an empty buffer: no merge is tried", x.flush(), 2);
        CHECK.due("no room", x.count(8), 1);
        add(x, 1);
        x.drop(0);
        CHECK.throwing("no room for one more", UNSUPPORTED, x::flush);
        x.drop(2);
        CHECK.due("nothing to write, but merges are tried", x.flush(), 2);
        CHECK.due("no room again", x.count(8), 2);
        x.drop(1);
        add(x, 2);
        x.drop(3);
        CHECK.due("all are dropped: a merge into nothing", x.flush(), 0);
        CHECK.due("is done", x.count(7), 1);
        CHECK.due("all free", x.count(4), 8);
    }

    private static void promise5LeastLevelFirst() {
        IndexBuilder x = stuck();
        add(x, 40);
        x.flush();
        row("level 1 has no room", levels(x), 1, 1, 0);
        CHECK.due("no room", x.count(8), 2);
        add(x, 50);
        x.flush();
        row("level 0 is merged before level 1 is tried", levels(x), 1, 1, 1);
        CHECK.due("three are more than the fan", x.count(8), 3);
        CHECK.due("done", x.count(7), 3);
        x.drop(0);
        x.drop(1);
        x.drop(2);
        x.drop(3);
        add(x, 60);
        CHECK.due("all of the level, not only as many as the fan", x.flush(), 2);
        row("levels", levels(x), 2, 0);
    }

    private static void promise5PlaceInTheRow() {
        IndexBuilder x = stuck();
        x.drop(0);
        x.drop(1);
        add(x, 40);
        x.flush();
        row("where the first stood", levels(x), 2, 0);
        CHECK.due("left out", x.run(0, 3), 26);
        CHECK.due("found", x.find(20, 40, 1), 2);
    }

    private static void promise6() {
        IndexBuilder x = new IndexBuilder(48, 4, 60);
        CHECK.due("nothing", x.finish(), 0);
        CHECK.due("no merge", x.count(7), 0);
        add(x, 1);
        CHECK.due("one run", x.finish(), 1);
        row("is merged also", levels(x), 1);
        CHECK.due("into the next block", x.run(0, 2), 1);
        add(x, 2);
        x.flush();
        add(x, 3);
        CHECK.due("all", x.finish(), 1);
        row("one more than the greatest", levels(x), 2);
        CHECK.due("merges", x.count(7), 2);
        CHECK.due("read", x.count(5), 4);
        CHECK.due("written", x.count(6), 5);
        CHECK.due("an empty buffer", x.finish(), 1);
        row("level", levels(x), 3);
        row("all of it", bytes(x, 16 * x.run(0, 2), 16), 1, 1, 0, 1, 0, 1, 1, 1, 1, 0, 1, 1, 2, 1, 0, 127);
    }

    private static void promise6NoRoom() {
        IndexBuilder x = new IndexBuilder(20, 4, 8);
        addRow(x, 0, 14);
        CHECK.throwing("no room for the merge", UNSUPPORTED, x::finish);
        row("the flush stays", levels(x), 0);
        CHECK.due("the buffer is empty", x.count(2), 0);
        CHECK.due("counted", x.count(8), 1);
        CHECK.due("read", x.count(5), 5);
        addRow(x, 0, 14);
        CHECK.throwing("no room for the buffer", UNSUPPORTED, x::finish);
        CHECK.due("no merge is tried", x.count(8), 1);
        CHECK.due("the buffer stays", x.count(2), 14);
        IndexBuilder y = new IndexBuilder(20, 2, 8);
        addRow(y, 0, 12);
        y.flush();
        addRow(y, 20, 12);
        CHECK.throwing("two merges without room", UNSUPPORTED, y::finish);
        CHECK.due("counted", y.count(8), 2);
        CHECK.due("read", y.count(5), 16);
    }

    private static void promise6Dropped() {
        IndexBuilder x = new IndexBuilder(20, 2, 8);
        addRow(x, 0, 20);
        x.flush();
        CHECK.due("full", x.count(4), 1);
        x.drop(0);
        CHECK.due("free blocks only after the merge", x.count(4), 1);
        CHECK.due("nothing is left", x.finish(), 0);
        CHECK.due("free", x.count(4), 8);
        CHECK.due("done", x.count(7), 1);
        CHECK.due("read", x.count(5), 7);
        row("bytes", bytes(x, 0, 128), new int[128]);
    }

    private static IndexBuilder library() {
        IndexBuilder x = new IndexBuilder(20, 2, 60);
        add(x, 1, 2, 3);
        add(x, 2, 1, 1);
        x.flush();
        add(x, 1, 3, 2);
        add(x, 3, 3);
        x.flush();
        add(x, 2, 0, 2, 2);
        add(x, 1);
        return x;
    }

    private static void promise7() {
        IndexBuilder x = library();
        row("1 and 2", results(x, x.find(1, 2, 0)), 0, 1, 2);
        row("1 or 2", results(x, x.find(1, 2, 1)), 0, 1, 2, 4, 5);
        row("1 then 2", results(x, x.find(1, 2, 2)), 0);
        row("2 then 1", results(x, x.find(2, 1, 2)), 1);
        row("1 then 1", results(x, x.find(1, 1, 2)), 1);
        row("2 then 2", results(x, x.find(2, 2, 2)), 4);
        row("1 not 2", results(x, x.find(1, 2, 3)), 5);
        row("2 not 1", results(x, x.find(2, 1, 3)), 4);
        row("1 not 1", results(x, x.find(1, 1, 3)));
        row("1 and 1", results(x, x.find(1, 1, 0)), 0, 1, 2, 5);
        row("none", results(x, x.find(98, 99, 1)));
        x.find(1, 2, 1);
        int read = x.count(5);
        for (int bad : new int[] {-1, 100, FAR[0], FAR[1]}) {
            CHECK.throwing("v " + bad, ARGUMENT, () -> x.find(bad, 1, 0));
            CHECK.throwing("w " + bad, ARGUMENT, () -> x.find(1, bad, 0));
        }
        for (int how : new int[] {-1, 4, FAR[0], FAR[1]}) {
            CHECK.throwing("how " + how, ARGUMENT, () -> x.find(1, 2, how));
        }
        CHECK.due("wrong questions read nothing", x.count(5), read);
        row("and leave the result", results(x, 5), 0, 1, 2, 4, 5);
        x.find(0, 0, 0);
        CHECK.due("all runs are read", x.count(5), read + x.run(0, 1));
        x.drop(1);
        x.drop(4);
        row("dropped on disk and in the buffer", results(x, x.find(1, 2, 1)), 0, 2, 5);
        IndexBuilder y = new IndexBuilder(20, 2, 60);
        addRow(y, 80, 20);
        CHECK.due("the last places", y.find(98, 99, 2), 1);
        CHECK.due("not the other way", y.find(99, 98, 2), 0);
        CHECK.due("nothing behind the last", y.find(99, 80, 2), 0);
    }

    private static void promise8() {
        IndexBuilder x = library();
        CHECK.due("all with 1 or 2", x.rank(1, 2), 5);
        row("in order", results(x, 5), 1, 4, 0, 2, 5);
        CHECK.due("score", x.score(0), 2.0 / 4 + 1.0 / 4);
        CHECK.due("score", x.score(1), 3.0 / 4);
        CHECK.due("score", x.score(4), 1.0 / 4);
        CHECK.due("the same word twice", x.rank(3, 3), 3);
        row("in order", results(x, 3), 3, 0, 2);
        CHECK.due("score", x.score(0), 2.0 / 3 + 2.0 / 3);
        CHECK.due("none", x.rank(98, 99), 0);
        CHECK.due("one is unknown", x.rank(98, 3), 3);
        CHECK.due("score", x.score(2), 1.0 / 3);
        x.drop(3);
        CHECK.due("without a dropped one", x.rank(3, 98), 2);
        CHECK.due("frequency counts it not", x.score(0), 0.5);
        int read = x.count(5);
        for (int bad : new int[] {-1, 100, FAR[0], FAR[1]}) {
            CHECK.throwing("v " + bad, ARGUMENT, () -> x.rank(bad, 1));
            CHECK.throwing("w " + bad, ARGUMENT, () -> x.rank(1, bad));
        }
        CHECK.due("wrong questions read nothing", x.count(5), read);
        row("and leave the result", results(x, 2), 0, 2);
        x.rank(1, 2);
        CHECK.due("all runs are read", x.count(5), read + x.run(0, 1));
    }

    private static void promise8Ties() {
        IndexBuilder x = new IndexBuilder(48, 2, 60);
        for (int d = 0; d < 40; d++) {
            if (d % 3 == 0) {
                add(x, 1, 2);
            } else {
                add(x, 1);
            }
        }
        CHECK.due("all", x.rank(1, 2), 40);
        int[] want = new int[40];
        int at = 0;
        for (int d = 0; d < 40; d += 3) {
            want[at++] = d;
        }
        for (int d = 0; d < 40; d++) {
            if (d % 3 != 0) {
                want[at++] = d;
            }
        }
        row("the lesser number first", results(x, 40), want);
    }

    private static void promise9() {
        IndexBuilder x = library();
        CHECK.throwing("no question yet", NONE, () -> x.result(0));
        x.find(1, 2, 0);
        CHECK.due("first", x.result(0), 0);
        CHECK.due("last", x.result(2), 2);
        for (int k : new int[] {-1, 3, 39, 40, FAR[0], FAR[1]}) {
            CHECK.throwing("result " + k, NONE, () -> x.result(k));
        }
        x.drop(0);
        CHECK.due("it stays the result", x.result(0), 0);
        x.find(99, 99, 0);
        CHECK.throwing("an empty one", NONE, () -> x.result(0));
    }

    private static void promise10() {
        IndexBuilder x = library();
        CHECK.throwing("no question yet", NONE, () -> x.score(0));
        x.rank(3, 0);
        CHECK.due("score", x.score(0), 1.0);
        CHECK.due("score", x.score(1), 2.0 / 3);
        CHECK.due("score", x.score(3), 1.0 / 3);
        for (int k : new int[] {-1, 4, 39, 40, FAR[0], FAR[1]}) {
            CHECK.throwing("score " + k, NONE, () -> x.score(k));
        }
        x.drop(3);
        add(x, 3);
        CHECK.due("as it was ranked", x.score(1), 2.0 / 3);
        CHECK.throwing("a wrong question", ARGUMENT, () -> x.find(1, 1, 4));
        CHECK.due("is none", x.score(3), 1.0 / 3);
        x.find(3, 0, 1);
        CHECK.throwing("of find", UNSUPPORTED, () -> x.score(0));
        CHECK.throwing("none comes first", NONE, () -> x.score(40));
        x.find(98, 99, 1);
        CHECK.throwing("an empty one of find", NONE, () -> x.score(0));
    }

    private static void promise11() {
        IndexBuilder x = new IndexBuilder(20, 2, 8);
        for (int b : new int[] {-1, 8, FAR[0], FAR[1]}) {
            CHECK.throwing("block " + b, INDEX, () -> x.byteOf(b, 0));
        }
        for (int i : new int[] {-1, 16, FAR[0], FAR[1]}) {
            CHECK.throwing("byte " + i, INDEX, () -> x.byteOf(0, i));
        }
        CHECK.throwing("not counted on from another block", INDEX, () -> x.byteOf(1, -1));
        CHECK.due("free", x.byteOf(7, 15), 0);
        add(x, 9, 9, 9, 9, 9, 9, 9, 9, 9, 9, 9);
        x.flush();
        row("one block, filled", bytes(x, 0, 17), 9, 1, 0, 11, 0, 1, 1, 1, 1, 1, 1, 1, 1, 1, 1, 127, 0);
        CHECK.due("one block", x.run(0, 1), 1);
    }

    private static void promise12() {
        IndexBuilder x = new IndexBuilder(20, 3, 8);
        CHECK.throwing("none yet", NONE, () -> x.run(0, 0));
        CHECK.throwing("no run comes first", NONE, () -> x.run(0, 4));
        add(x, 1);
        x.flush();
        add(x, 1, 2, 3, 4);
        x.flush();
        CHECK.due("level", x.run(1, 0), 0);
        CHECK.due("blocks", x.run(1, 1), 2);
        CHECK.due("first block", x.run(1, 2), 1);
        CHECK.due("bytes", x.run(1, 3), 21);
        CHECK.due("bytes", x.run(0, 3), 6);
        for (int r : new int[] {-1, 2, FAR[0], FAR[1]}) {
            CHECK.throwing("run " + r, NONE, () -> x.run(r, 0));
        }
        for (int what : new int[] {-1, 4, FAR[0], FAR[1]}) {
            CHECK.throwing("what " + what, ARGUMENT, () -> x.run(0, what));
        }
        x.finish();
        CHECK.due("one run", x.count(3), 1);
        CHECK.due("level", x.run(0, 0), 1);
        CHECK.due("first block", x.run(0, 2), 3);
        CHECK.due("bytes", x.run(0, 3), 24);
        add(x, 5, 6, 7, 8, 9, 10, 11, 12, 13, 14);
        x.flush();
        CHECK.due("first block", x.run(1, 2), 0);
        CHECK.due("blocks round the other run", x.run(1, 1), 4);
        row("its last block", bytes(x, 80, 4), 1, 9, 127, 0);
        add(x, 1);
        x.flush();
        row("no old bytes behind the last", bytes(x, 96, 16), 1, 1, 3, 1, 0, 127, 0, 0, 0, 0, 0, 0, 0, 0, 0, 0);
    }

    private static void promise13() {
        IndexBuilder x = new IndexBuilder(20, 2, 9);
        int[] first = new int[10];
        first[4] = 9;
        row("new", counts(x), first);
        add(x, 1, 2);
        add(x, 3);
        x.drop(0);
        x.word(4);
        row("before the flush", counts(x), 2, 1, 3, 0, 9, 0, 0, 0, 0, 1);
        x.flush();
        row("flushed", counts(x), 2, 1, 0, 1, 8, 0, 1, 0, 0, 1);
        x.find(1, 1, 1);
        x.close();
        x.flush();
        row("merged", counts(x), 3, 2, 0, 1, 8, 3, 3, 1, 0, 0);
        addRow(x, 0, 20);
        x.flush();
        row("fuller", counts(x), 4, 3, 0, 2, 1, 3, 10, 1, 0, 0);
        CHECK.throwing("finish", UNSUPPORTED, x::finish);
        row("no room", counts(x), 4, 3, 0, 2, 1, 11, 10, 1, 1, 0);
        for (int what : new int[] {-1, 10, FAR[0], FAR[1]}) {
            CHECK.due("count " + what, x.count(what), -1);
        }
    }
}
