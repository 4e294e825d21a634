/** A test of its own for each boundary case that a sentence of the document's section 'Terms' names. */
public final class TermsBoundaryTest extends Steps {
    public static void main(String[] args) {
        CHECK.part("WORDS are 0 .. 99", TermsBoundaryTest::wordsFromFirstToLast);
        CHECK.part("the OPEN document has at most 20 WORDS, empty at first", TermsBoundaryTest::openDocument);
        CHECK.part("DOCUMENTS are 0 .. 39 in order", TermsBoundaryTest::documentsInOrder);
        CHECK.part("THE BUFFER holds at most MEMORY POSTINGS", TermsBoundaryTest::bufferJustFull);
        CHECK.part("a free BLOCK's bytes are 0 at first", TermsBoundaryTest::freeAtFirst);
        CHECK.part("a free BLOCK's bytes are 0 after a MERGE", TermsBoundaryTest::freeAfterMerge);
        CHECK.part("bytes behind the last one are 0", TermsBoundaryTest::bytesBehindTheLast);
        CHECK.part("bytes fill BLOCKS one behind the other", TermsBoundaryTest::bytesFromBlockToBlock);
        CHECK.part("a BLOCK just filled", TermsBoundaryTest::blockJustFilled);
        CHECK.part("one byte more than a BLOCK", TermsBoundaryTest::oneByteMore);
        CHECK.part("THE BYTES: the least WORD, DOCUMENT and PLACE", TermsBoundaryTest::leastPosting);
        CHECK.part("THE BYTES: the greatest WORD, DOCUMENT and PLACE", TermsBoundaryTest::greatestPosting);
        CHECK.part("THE BYTES: the greatest differences", TermsBoundaryTest::greatestDifferences);
        CHECK.part("THE BYTES: a first one is itself, for each WORD anew", TermsBoundaryTest::differencesBeginAnew);
        CHECK.part("THE BYTES: 40 DOCUMENTS of a WORD", TermsBoundaryTest::mostDocumentsOfAWord);
        CHECK.part("THE BYTES: 20 PLACES of a WORD", TermsBoundaryTest::mostPlacesOfAWord);
        CHECK.part("WRITING: DROPPED ones are left out", TermsBoundaryTest::writingLeavesOut);
        CHECK.part("WRITING: is there no other, there is no RUN", TermsBoundaryTest::writingNothing);
        CHECK.part("WRITING: the least free BLOCKS in rising order", TermsBoundaryTest::leastFreeBlocks);
        CHECK.part("WRITING: just as many BLOCKS as are free", TermsBoundaryTest::justAsManyBlocks);
        CHECK.part("WRITING: one BLOCK too few", TermsBoundaryTest::oneBlockTooFew);
        CHECK.part("WRITING: more than the whole DISK", TermsBoundaryTest::moreThanTheDisk);
        CHECK.part("WRITING: no free BLOCK at all", TermsBoundaryTest::noFreeBlock);
        CHECK.part("FLUSHING: is THE BUFFER empty, nothing", TermsBoundaryTest::flushingNothing);
        CHECK.part("FLUSHING: less than FAN RUNS, and FAN", TermsBoundaryTest::belowFanAndAtFan);
        CHECK.part("FLUSHING: more than FAN RUNS are all MERGED", TermsBoundaryTest::moreThanFan);
        CHECK.part("FLUSHING: the least LEVEL first, again and again", TermsBoundaryTest::levelAfterLevel);
        CHECK.part("FLUSHING: until a MERGE has NO ROOM", TermsBoundaryTest::noRoomEndsTheMerges);
        CHECK.part("FLUSHING: MERGES also when no RUN was made", TermsBoundaryTest::mergesWithoutNewRun);
        CHECK.part("MERGING: one LEVEL more than the greatest", TermsBoundaryTest::levelAboveTheGreatest);
        CHECK.part("MERGING: where the first of them stood", TermsBoundaryTest::whereTheFirstStood);
        CHECK.part("MERGING: just enough room", TermsBoundaryTest::mergeWithJustEnoughRoom);
        CHECK.part("MERGING: only then are the old BLOCKS free", TermsBoundaryTest::oldBlocksAreTakenTillThen);
        CHECK.part("MERGING: DROPPED ones need no room", TermsBoundaryTest::mergeOfDroppedNeedsLess);
        CHECK.part("MERGING: all are DROPPED", TermsBoundaryTest::mergeIntoNothing);
        CHECK.part("BLOCKS READ: MERGES with NO ROOM count too", TermsBoundaryTest::readWithoutRoom);
        CHECK.part("BLOCKS READ: a question reads all RUNS", TermsBoundaryTest::readByQuestions);
        CHECK.part("BLOCKS WRITTEN: not with NO ROOM", TermsBoundaryTest::writtenOnlyWithRoom);
        CHECK.part("a question reads THE BUFFER too", TermsBoundaryTest::bufferAndRunsAnswer);
        CHECK.part("DROPPED DOCUMENTS are not answered", TermsBoundaryTest::droppedAreNotAnswered);
        CHECK.part("FREQUENCY does not count DROPPED ones", TermsBoundaryTest::frequencyWithoutDropped);
        CHECK.part("an object is used for 512 calls", TermsBoundaryTest::lastOfAllCalls);
        CHECK.end();
    }

    private static void wordsFromFirstToLast() {
        IndexBuilder x = new IndexBuilder(20, 2, 8);
        add(x, 0, 99);
        CHECK.throwing("below", ARGUMENT, () -> x.word(-1));
        CHECK.throwing("above", ARGUMENT, () -> x.word(100));
        CHECK.due("in the buffer", x.find(0, 99, 2), 1);
        x.flush();
        CHECK.due("on the disk", x.find(0, 99, 2), 1);
    }

    private static void openDocument() {
        IndexBuilder x = new IndexBuilder(20, 2, 8);
        CHECK.due("empty at first", x.count(9), 0);
        openRow(x, 0, 20);
        CHECK.due("20", x.count(9), 20);
        CHECK.throwing("21", STATE, () -> x.word(0));
        x.close();
        CHECK.due("empty again", x.count(9), 0);
    }

    private static void documentsInOrder() {
        IndexBuilder x = new IndexBuilder(20, 2, 8);
        for (int d = 0; d < 40; d++) {
            CHECK.due("number", x.close(), d);
        }
        CHECK.throwing("there is no 40", STATE, x::close);
        CHECK.throwing("nor can it be dropped", NONE, () -> x.drop(40));
        CHECK.due("39 can", x.drop(39), 39);
    }

    private static void bufferJustFull() {
        for (int memory = 20; memory <= 48; memory++) {
            IndexBuilder x = new IndexBuilder(memory, 2, 60);
            addRow(x, 0, 20);
            addRow(x, 0, Math.min(20, memory - 20));
            addRow(x, 0, Math.max(0, memory - 40));
            CHECK.due("all that it holds", x.count(2), memory);
            CHECK.due("no run", x.count(3), 0);
            add(x, 1);
            CHECK.due("one more", x.count(2), 1);
            CHECK.due("a run", x.count(3), 1);
        }
    }

    private static void freeAtFirst() {
        IndexBuilder x = new IndexBuilder(20, 2, 8);
        row("all", bytes(x, 0, 128), new int[128]);
        IndexBuilder y = new IndexBuilder(20, 2, 60);
        row("of the last blocks", bytes(y, 58 * 16, 32), new int[32]);
    }

    private static void freeAfterMerge() {
        IndexBuilder x = new IndexBuilder(20, 2, 8);
        addRow(x, 0, 6);
        x.flush();
        addRow(x, 6, 6);
        x.flush();
        CHECK.due("the new run stands behind the old ones", x.run(0, 2), 4);
        row("the old ones", bytes(x, 0, 64), new int[64]);
    }

    private static void bytesBehindTheLast() {
        IndexBuilder x = new IndexBuilder(20, 3, 8);
        addRow(x, 40, 6);
        x.finish();
        CHECK.due("blocks 0 and 1 were used", x.run(0, 2), 2);
        x.finish();
        add(x, 7);
        x.flush();
        CHECK.due("block 2 is used again", x.run(1, 2), 2);
        row("behind the last", bytes(x, 32, 16), 7, 1, 1, 1, 0, 127, 0, 0, 0, 0, 0, 0, 0, 0, 0, 0);
    }

    private static void bytesFromBlockToBlock() {
        IndexBuilder x = new IndexBuilder(20, 2, 8);
        addRow(x, 50, 4);
        x.flush();
        row("two blocks", bytes(x, 0, 32), 50, 1, 0, 1, 0, 1, 1, 0, 1, 1, 1, 1, 0, 1, 2, 1,
            1, 0, 1, 3, 127, 0, 0, 0, 0, 0, 0, 0, 0, 0, 0, 0);
    }

    private static void blockJustFilled() {
        IndexBuilder x = new IndexBuilder(20, 2, 8);
        addRow(x, 1, 3);
        x.flush();
        CHECK.due("bytes", x.run(0, 3), 16);
        CHECK.due("blocks", x.run(0, 1), 1);
        CHECK.due("free", x.count(4), 7);
        CHECK.due("the last byte", x.byteOf(0, 15), 127);
        CHECK.due("found", x.find(1, 3, 0), 1);
    }

    private static void oneByteMore() {
        IndexBuilder x = new IndexBuilder(20, 2, 8);
        add(x, 1, 2, 3, 3);
        x.flush();
        CHECK.due("bytes", x.run(0, 3), 17);
        CHECK.due("blocks", x.run(0, 1), 2);
        CHECK.due("free", x.count(4), 6);
        row("the second block", bytes(x, 16, 16), 127, 0, 0, 0, 0, 0, 0, 0, 0, 0, 0, 0, 0, 0, 0, 0);
        CHECK.due("found", x.find(3, 3, 2), 1);
    }

    private static void leastPosting() {
        IndexBuilder x = new IndexBuilder(20, 2, 8);
        add(x, 0);
        x.flush();
        row("bytes", bytes(x, 0, 7), 0, 1, 0, 1, 0, 127, 0);
        CHECK.due("found", x.find(0, 0, 0), 1);
    }

    private static void greatestPosting() {
        IndexBuilder x = new IndexBuilder(20, 2, 8);
        addEmpty(x, 39);
        for (int place = 0; place < 19; place++) {
            x.word(98);
        }
        add(x, 99);
        x.flush();
        row("bytes", bytes(x, 0, 29), 98, 1, 39, 19, 0, 1, 1, 1, 1, 1, 1, 1, 1, 1, 1, 1, 1, 1, 1, 1, 1, 1, 1,
            1, 1, 39, 1, 19, 127);
        CHECK.due("found", x.find(98, 99, 2), 1);
        CHECK.due("its number", x.result(0), 39);
    }

    private static void greatestDifferences() {
        IndexBuilder x = new IndexBuilder(48, 2, 8);
        add(x, 0);
        addEmpty(x, 39);
        x.word(0);
        for (int place = 1; place < 19; place++) {
            x.word(99);
        }
        add(x, 0);
        x.flush();
        row("bytes", bytes(x, 0, 14), 0, 2, 0, 1, 0, 39, 2, 0, 19, 99, 1, 39, 18, 1);
        CHECK.due("0 behind 99", x.find(99, 0, 2), 1);
    }

    private static void differencesBeginAnew() {
        IndexBuilder x = new IndexBuilder(20, 2, 8);
        x.close();
        add(x, 5, 6);
        add(x, 6, 5);
        x.flush();
        row("bytes", bytes(x, 0, 18), 5, 2, 1, 1, 0, 1, 1, 1, 1, 2, 1, 1, 1, 1, 1, 0, 127, 0);
    }

    private static void mostDocumentsOfAWord() {
        IndexBuilder x = new IndexBuilder(48, 2, 8);
        for (int d = 0; d < 40; d++) {
            add(x, 99);
        }
        x.flush();
        int[] want = new int[123];
        want[0] = 99;
        want[1] = 40;
        for (int d = 0; d < 40; d++) {
            want[2 + 3 * d] = d == 0 ? 0 : 1;
            want[3 + 3 * d] = 1;
        }
        want[122] = 127;
        row("bytes", bytes(x, 0, 123), want);
        CHECK.due("found", x.find(99, 0, 3), 40);
    }

    private static void mostPlacesOfAWord() {
        IndexBuilder x = new IndexBuilder(20, 2, 8);
        for (int place = 0; place < 20; place++) {
            x.word(0);
        }
        x.close();
        x.flush();
        row("bytes", bytes(x, 0, 26), 0, 1, 0, 20, 0, 1, 1, 1, 1, 1, 1, 1, 1, 1, 1, 1, 1, 1, 1, 1, 1, 1, 1, 1, 127, 0);
        x.rank(0, 1);
        CHECK.due("count", x.score(0), 20);
    }

    private static void writingLeavesOut() {
        IndexBuilder x = new IndexBuilder(20, 2, 8);
        add(x, 5);
        add(x, 5, 8);
        add(x, 5);
        x.drop(1);
        x.flush();
        row("bytes", bytes(x, 0, 10), 5, 2, 0, 1, 0, 2, 1, 0, 127, 0);
        CHECK.due("number of bytes", x.run(0, 3), 9);
    }

    private static void writingNothing() {
        IndexBuilder x = new IndexBuilder(20, 2, 8);
        add(x, 5);
        add(x, 6);
        dropAll(x, 0, 1);
        CHECK.due("no run", x.flush(), 0);
        CHECK.due("no block is taken", x.count(4), 8);
        CHECK.due("none is written", x.count(6), 0);
        row("the first block", bytes(x, 0, 16), new int[16]);
    }

    private static void leastFreeBlocks() {
        IndexBuilder x = new IndexBuilder(20, 4, 8);
        addRow(x, 0, 6);
        x.finish();
        CHECK.due("blocks 0 and 1 are free again", x.run(0, 2), 2);
        addRow(x, 50, 8);
        x.flush();
        CHECK.due("the first", x.run(1, 2), 0);
        row("the second", bytes(x, 16, 4), 1, 1, 1, 3);
        row("the third is behind the other run", bytes(x, 64, 10), 1, 1, 6, 1, 1, 1, 1, 7, 127, 0);
        CHECK.due("read in this order", x.find(50, 57, 0), 1);
        CHECK.due("the other run stands", x.find(0, 5, 0), 1);
    }

    /** 128 bytes: 20 and 5 different WORDS, the last one twice more, and one byte behind all. */
    private static IndexBuilder bufferOf128Bytes(int blocks) {
        IndexBuilder x = new IndexBuilder(48, 4, blocks);
        addRow(x, 0, 20);
        openRow(x, 20, 5);
        add(x, 24, 24);
        return x;
    }

    private static void justAsManyBlocks() {
        IndexBuilder x = bufferOf128Bytes(8);
        CHECK.due("a run", x.flush(), 1);
        CHECK.due("bytes", x.run(0, 3), 128);
        CHECK.due("blocks", x.run(0, 1), 8);
        CHECK.due("none is free", x.count(4), 0);
        CHECK.due("the very last byte", x.byteOf(7, 15), 127);
        CHECK.due("found", x.find(24, 0, 1), 2);
    }

    private static void oneBlockTooFew() {
        IndexBuilder x = bufferOf128Bytes(8);
        add(x, 24);
        CHECK.throwing("three bytes more", UNSUPPORTED, x::flush);
        IndexBuilder y = bufferOf128Bytes(9);
        add(y, 24);
        CHECK.due("a block more", y.flush(), 1);
        CHECK.due("bytes", y.run(0, 3), 131);
        CHECK.due("blocks", y.run(0, 1), 9);
    }

    private static IndexBuilder bufferOf241Bytes(int blocks) {
        IndexBuilder x = new IndexBuilder(48, 2, blocks);
        addRow(x, 0, 20);
        addRow(x, 20, 20);
        addRow(x, 40, 8);
        return x;
    }

    private static void moreThanTheDisk() {
        IndexBuilder x = bufferOf241Bytes(8);
        refused(x, UNSUPPORTED, x::flush);
        CHECK.due("questions are answered", x.find(0, 47, 1), 2);
        IndexBuilder y = bufferOf241Bytes(15);
        CHECK.throwing("15 blocks", UNSUPPORTED, y::flush);
        IndexBuilder z = bufferOf241Bytes(16);
        CHECK.due("16 blocks", z.flush(), 1);
        CHECK.due("bytes", z.run(0, 3), 241);
    }

    private static void noFreeBlock() {
        IndexBuilder x = bufferOf128Bytes(8);
        x.flush();
        add(x, 1);
        refused(x, UNSUPPORTED, x::flush);
        x.drop(2);
        CHECK.due("no postings need no block", x.flush(), 1);
    }

    private static void flushingNothing() {
        IndexBuilder x = stuck();
        dropAll(x, 0, 1, 2, 3);
        int[] before = counts(x);
        CHECK.due("two of a level, which would have room", x.flush(), 2);
        row("no merge", counts(x), before);
        x.close();
        x.flush();
        CHECK.due("an empty document leaves it empty", x.count(7), before[7]);
    }

    private static void belowFanAndAtFan() {
        for (int fan = 2; fan <= 4; fan++) {
            IndexBuilder x = new IndexBuilder(20, fan, 60);
            for (int i = 1; i < fan; i++) {
                add(x, i);
                CHECK.due("below", x.flush(), i);
            }
            CHECK.due("no merge", x.count(7), 0);
            add(x, fan);
            CHECK.due("at", x.flush(), 1);
            CHECK.due("a merge", x.count(7), 1);
        }
    }

    private static void moreThanFan() {
        IndexBuilder x = stuck();
        add(x, 40);
        x.flush();
        add(x, 50);
        x.flush();
        row("three of level 1", levels(x), 1, 1, 1);
        dropAll(x, 0, 1, 2, 3);
        add(x, 60);
        CHECK.due("all three in one merge", x.flush(), 2);
        row("levels", levels(x), 2, 0);
        CHECK.due("found", x.find(40, 50, 1), 2);
    }

    private static void levelAfterLevel() {
        IndexBuilder x = new IndexBuilder(20, 2, 60);
        for (int i = 1; i <= 16; i++) {
            add(x, i);
            CHECK.due("as many as the number has ones", x.flush(), Integer.bitCount(i));
        }
        row("the level", levels(x), 4);
        CHECK.due("merges", x.count(7), 15);
    }

    /** LEVEL 0 is full and has NO ROOM, so that LEVEL 1, whose DOCUMENTS are all DROPPED, is not tried. */
    private static void noRoomEndsTheMerges() {
        IndexBuilder x = stuck();
        add(x, 40);
        x.flush();
        row("level 1 had no room", levels(x), 1, 1, 0);
        int done = x.count(7);
        int withoutRoom = x.count(8);
        dropAll(x, 0, 1, 2, 3);
        addRow(x, 50, 4);
        CHECK.due("the run is written", x.flush(), 4);
        row("levels", levels(x), 1, 1, 0, 0);
        CHECK.due("one without room", x.count(8), withoutRoom + 1);
        CHECK.due("none is done", x.count(7), done);
        CHECK.due("none is free", x.count(4), 0);
    }

    private static void mergesWithoutNewRun() {
        IndexBuilder x = stuck();
        add(x, 40);
        dropAll(x, 0, 1, 4);
        CHECK.due("the two of level 1", x.flush(), 1);
        row("level", levels(x), 2);
    }

    private static void levelAboveTheGreatest() {
        IndexBuilder x = new IndexBuilder(20, 3, 60);
        for (int i = 0; i < 5; i++) {
            add(x, i);
            x.flush();
        }
        row("before", levels(x), 1, 0, 0);
        x.finish();
        row("above 1", levels(x), 2);
        for (int level = 3; level <= 40; level++) {
            x.finish();
            CHECK.due("again and again", x.run(0, 0), level);
        }
    }

    private static void whereTheFirstStood() {
        IndexBuilder x = new IndexBuilder(20, 3, 60);
        for (int i = 0; i < 5; i++) {
            add(x, i);
            x.flush();
        }
        add(x, 5, 5);
        x.flush();
        row("levels", levels(x), 1, 1);
        CHECK.due("bytes of the first", x.run(0, 3), 16);
        CHECK.due("bytes of the second", x.run(1, 3), 17);
        IndexBuilder y = stuck();
        dropAll(y, 0, 1);
        add(y, 40);
        y.flush();
        row("before a run of level 0", levels(y), 2, 0);
    }

    private static void mergeWithJustEnoughRoom() {
        IndexBuilder x = new IndexBuilder(20, 2, 8);
        addRow(x, 0, 6);
        x.flush();
        addRow(x, 6, 6);
        CHECK.due("2 and 2 blocks into the 4 others", x.flush(), 1);
        CHECK.due("blocks", x.run(0, 1), 4);
        CHECK.due("done", x.count(7), 1);
        CHECK.due("found", x.find(0, 11, 1), 2);
    }

    private static void oldBlocksAreTakenTillThen() {
        IndexBuilder x = new IndexBuilder(20, 2, 8);
        addRow(x, 0, 6);
        x.flush();
        addRow(x, 6, 7);
        CHECK.due("2 and 3 blocks leave 3 for 5", x.flush(), 2);
        row("not done", levels(x), 0, 0);
        CHECK.due("done", x.count(7), 0);
        CHECK.due("no room", x.count(8), 1);
        CHECK.due("free", x.count(4), 3);
        CHECK.due("found", x.find(0, 12, 1), 2);
    }

    private static void mergeOfDroppedNeedsLess() {
        IndexBuilder x = new IndexBuilder(20, 2, 8);
        addRow(x, 0, 6);
        x.flush();
        addRow(x, 6, 7);
        x.drop(0);
        CHECK.due("2 and 3 blocks leave 3 for 3", x.flush(), 1);
        CHECK.due("blocks", x.run(0, 1), 3);
        CHECK.due("bytes", x.run(0, 3), 36);
        CHECK.due("found", x.find(0, 12, 1), 1);
    }

    private static void mergeIntoNothing() {
        IndexBuilder x = new IndexBuilder(20, 3, 8);
        add(x, 1);
        x.flush();
        add(x, 2);
        x.flush();
        dropAll(x, 0, 1);
        CHECK.due("no run is left", x.finish(), 0);
        CHECK.due("done", x.count(7), 1);
        CHECK.due("with room", x.count(8), 0);
        CHECK.due("read", x.count(5), 2);
        CHECK.due("written", x.count(6), 2);
        CHECK.due("free", x.count(4), 8);
        row("bytes", bytes(x, 0, 32), new int[32]);
        CHECK.throwing("no run", NONE, () -> x.run(0, 0));
        add(x, 3);
        CHECK.due("a new one", x.flush(), 1);
        CHECK.due("in the first block", x.run(0, 2), 0);
    }

    private static void readWithoutRoom() {
        IndexBuilder x = new IndexBuilder(20, 2, 8);
        addRow(x, 0, 6);
        x.flush();
        CHECK.due("none", x.count(5), 0);
        addRow(x, 6, 7);
        x.flush();
        CHECK.due("2 and 3", x.count(5), 5);
    }

    private static void readByQuestions() {
        IndexBuilder x = new IndexBuilder(20, 3, 8);
        addRow(x, 0, 4);
        x.find(0, 1, 0);
        CHECK.due("the buffer has no blocks", x.count(5), 0);
        x.flush();
        addRow(x, 0, 8);
        x.flush();
        x.find(0, 1, 0);
        CHECK.due("2 and 3 blocks", x.count(5), 5);
        x.find(98, 99, 0);
        CHECK.due("nothing found", x.count(5), 10);
        x.rank(0, 0);
        CHECK.due("once for one word too", x.count(5), 15);
        dropAll(x, 0, 1);
        x.rank(0, 1);
        CHECK.due("all dropped", x.count(5), 20);
    }

    private static void writtenOnlyWithRoom() {
        IndexBuilder x = new IndexBuilder(20, 2, 8);
        addRow(x, 0, 6);
        x.flush();
        CHECK.due("2", x.count(6), 2);
        addRow(x, 6, 7);
        x.flush();
        CHECK.due("3, but no merge", x.count(6), 5);
        addRow(x, 20, 20);
        CHECK.throwing("no room for the buffer", UNSUPPORTED, x::flush);
        CHECK.due("still 5", x.count(6), 5);
    }

    private static void bufferAndRunsAnswer() {
        IndexBuilder x = new IndexBuilder(20, 3, 8);
        add(x, 1, 2);
        x.flush();
        add(x, 2, 1);
        x.flush();
        add(x, 1);
        row("all", results(x, x.find(1, 99, 1)), 0, 1, 2);
        x.rank(1, 99);
        CHECK.due("frequency of all", x.score(2), 1.0 / 3);
        openWith(x, 1, 1);
        CHECK.due("not of the open document", x.find(1, 1, 2), 0);
    }

    private static void droppedAreNotAnswered() {
        IndexBuilder x = new IndexBuilder(20, 3, 8);
        add(x, 1, 2);
        add(x, 1, 2);
        x.flush();
        add(x, 1, 2);
        add(x, 1, 2);
        dropAll(x, 0, 3);
        for (int how = 0; how <= 2; how++) {
            row("find", results(x, x.find(1, 2, how)), 1, 2);
        }
        row("find", results(x, x.find(1, 3, 3)), 1, 2);
        row("rank", results(x, x.rank(1, 2)), 1, 2);
    }

    private static void frequencyWithoutDropped() {
        IndexBuilder x = new IndexBuilder(20, 3, 8);
        add(x, 1);
        add(x, 1);
        x.flush();
        add(x, 1, 1, 1);
        x.rank(1, 0);
        CHECK.due("three", x.score(0), 1.0);
        x.drop(0);
        x.rank(1, 0);
        CHECK.due("two", x.score(0), 1.5);
        x.drop(2);
        x.rank(1, 0);
        CHECK.due("one", x.score(0), 1.0);
        x.drop(1);
        CHECK.due("none", x.rank(1, 0), 0);
    }

    private static void lastOfAllCalls() {
        IndexBuilder x = new IndexBuilder(20, 2, 8);
        for (int call = 0; call < 20; call++) {
            x.word(call);
        }
        x.close();
        x.flush();
        for (int call = 22; call < 511; call++) {
            x.rank(0, 19);
        }
        CHECK.due("read by the 511 calls", x.count(5), 489 * 7);
    }
}
