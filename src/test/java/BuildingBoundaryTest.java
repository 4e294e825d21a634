/** A test of its own for each boundary case that a sentence of the promises 1 to 6 names. */
public final class BuildingBoundaryTest extends Steps {
    public static void main(String[] args) {
        CHECK.part("1: memory below 20", BuildingBoundaryTest::memoryBelow);
        CHECK.part("1: memory above 48", BuildingBoundaryTest::memoryAbove);
        CHECK.part("1: memory from 20 to 48", BuildingBoundaryTest::memoryBetween);
        CHECK.part("1: fan below 2", BuildingBoundaryTest::fanBelow);
        CHECK.part("1: fan above 4", BuildingBoundaryTest::fanAbove);
        CHECK.part("1: fan from 2 to 4", BuildingBoundaryTest::fanBetween);
        CHECK.part("1: blocks below 8", BuildingBoundaryTest::blocksBelow);
        CHECK.part("1: blocks above 60", BuildingBoundaryTest::blocksAbove);
        CHECK.part("1: blocks from 8 to 60", BuildingBoundaryTest::blocksBetween);
        CHECK.part("1: all is empty in a new object", BuildingBoundaryTest::newObject);
        CHECK.part("2: no such WORD", BuildingBoundaryTest::noSuchWord);
        CHECK.part("2: there are 20", BuildingBoundaryTest::twentyWords);
        CHECK.part("2: no such WORD, and there are 20", BuildingBoundaryTest::noSuchWordAndTwenty);
        CHECK.part("2: a refused WORD takes no PLACE", BuildingBoundaryTest::refusedWordTakesNoPlace);
        CHECK.part("3: just room in THE BUFFER", BuildingBoundaryTest::closeJustFits);
        CHECK.part("3: no room in THE BUFFER", BuildingBoundaryTest::closeAfterFlushing);
        CHECK.part("3: no room in THE BUFFER for 20 beside 1", BuildingBoundaryTest::closeOfTheLongest);
        CHECK.part("3: FLUSHING there has its MERGES", BuildingBoundaryTest::closeMerges);
        CHECK.part("3: a MERGE with NO ROOM refuses nothing", BuildingBoundaryTest::closeWithMergeWithoutRoom);
        CHECK.part("3: only DROPPED DOCUMENTS in THE BUFFER", BuildingBoundaryTest::closeWithDroppedBuffer);
        CHECK.part("3: DROPPED ones in THE BUFFER take room", BuildingBoundaryTest::droppedTakeRoom);
        CHECK.part("3: there are 40", BuildingBoundaryTest::fortyDocuments);
        CHECK.part("3: there are 40, and the OPEN document is empty", BuildingBoundaryTest::fortyAndEmpty);
        CHECK.part("3: there are 40, DROPPED ones too", BuildingBoundaryTest::fortyDropped);
        CHECK.part("3: there are 40, and no room in THE BUFFER", BuildingBoundaryTest::fortyAndFullBuffer);
        CHECK.part("3: there are 40, and NO ROOM", BuildingBoundaryTest::fortyAndNoRoom);
        CHECK.part("3: NO ROOM, and nothing changes", BuildingBoundaryTest::closeNoRoom);
        CHECK.part("3: NO ROOM, and room later", BuildingBoundaryTest::closeNoRoomThenRoom);
        CHECK.part("3: an empty OPEN document", BuildingBoundaryTest::closeEmpty);
        CHECK.part("3: an empty OPEN document, THE BUFFER full", BuildingBoundaryTest::closeEmptyOnFullBuffer);
        CHECK.part("3: an empty OPEN document, the DISK full too", BuildingBoundaryTest::closeEmptyOnFullDisk);
        CHECK.part("4: there is none", BuildingBoundaryTest::dropNone);
        CHECK.part("4: there is none in a new object", BuildingBoundaryTest::dropInNewObject);
        CHECK.part("4: the OPEN document is none", BuildingBoundaryTest::dropOpen);
        CHECK.part("4: it is DROPPED", BuildingBoundaryTest::dropTwice);
        CHECK.part("4: the last one that is not", BuildingBoundaryTest::dropLast);
        CHECK.part("4: an empty DOCUMENT", BuildingBoundaryTest::dropEmptyDocument);
        CHECK.part("4: nothing leaves THE BUFFER or the DISK", BuildingBoundaryTest::dropLeavesPostings);
        CHECK.part("5: THE BUFFER is empty in a new object", BuildingBoundaryTest::flushNewObject);
        CHECK.part("5: THE BUFFER is empty behind a flush", BuildingBoundaryTest::flushTwice);
        CHECK.part("5: THE BUFFER is empty, the OPEN document not", BuildingBoundaryTest::flushWithOpenDocument);
        CHECK.part("5: only empty DOCUMENTS", BuildingBoundaryTest::flushOfEmptyDocuments);
        CHECK.part("5: only DROPPED DOCUMENTS in it", BuildingBoundaryTest::flushOfDropped);
        CHECK.part("5: some DROPPED DOCUMENTS in it", BuildingBoundaryTest::flushOfSomeDropped);
        CHECK.part("5: just room", BuildingBoundaryTest::flushJustFits);
        CHECK.part("5: NO ROOM, and nothing changes", BuildingBoundaryTest::flushNoRoom);
        CHECK.part("5: NO ROOM, and room later", BuildingBoundaryTest::flushNoRoomThenRoom);
        CHECK.part("5: NO ROOM for a MERGE refuses nothing", BuildingBoundaryTest::flushWithMergeWithoutRoom);
        CHECK.part("6: no RUNS", BuildingBoundaryTest::finishNoRuns);
        CHECK.part("6: no RUNS, DROPPED ones in THE BUFFER", BuildingBoundaryTest::finishOfDroppedBuffer);
        CHECK.part("6: one RUN", BuildingBoundaryTest::finishOneRun);
        CHECK.part("6: one RUN out of THE BUFFER", BuildingBoundaryTest::finishBuffer);
        CHECK.part("6: the MERGES of FLUSHING come before", BuildingBoundaryTest::finishAfterFullLevels);
        CHECK.part("6: all are DROPPED", BuildingBoundaryTest::finishOfDroppedRuns);
        CHECK.part("6: just room for that MERGE", BuildingBoundaryTest::finishJustFits);
        CHECK.part("6: NO ROOM for THE BUFFER", BuildingBoundaryTest::finishNoRoomForBuffer);
        CHECK.part("6: NO ROOM for that MERGE", BuildingBoundaryTest::finishNoRoomForMerge);
        CHECK.part("6: NO ROOM for that MERGE, what was done stays", BuildingBoundaryTest::finishKeepsWhatWasDone);
        CHECK.part("6: NO ROOM for a MERGE of FLUSHING too", BuildingBoundaryTest::finishNoRoomTwice);
        CHECK.part("6: NO ROOM for that MERGE, and room later", BuildingBoundaryTest::finishNoRoomThenRoom);
        CHECK.end();
    }

    /** Just so many POSTINGS stay in THE BUFFER. */
    private static void memoryIs(int memory, int clamped) {
        IndexBuilder x = new IndexBuilder(memory, 4, 60);
        addRow(x, 0, 20);
        addRow(x, 0, Math.min(20, clamped - 20));
        addRow(x, 0, Math.max(0, clamped - 40));
        CHECK.due("in the buffer with memory " + memory, x.count(2), clamped);
        add(x, 1);
        CHECK.due("one more with memory " + memory, x.count(2), 1);
    }

    /** Just so many RUNS of one LEVEL are MERGED. */
    private static void fanIs(int fan, int clamped) {
        IndexBuilder x = new IndexBuilder(20, fan, 60);
        for (int i = 1; i < clamped; i++) {
            add(x, i);
            CHECK.due("runs with fan " + fan, x.flush(), i);
        }
        add(x, clamped);
        CHECK.due("merged with fan " + fan, x.flush(), 1);
    }

    private static void blocksAre(int blocks, int clamped) {
        IndexBuilder x = new IndexBuilder(20, 2, blocks);
        CHECK.due("free with blocks " + blocks, x.count(4), clamped);
        CHECK.due("the last", x.byteOf(clamped - 1, 15), 0);
        CHECK.throwing("behind the last", INDEX, () -> x.byteOf(clamped, 0));
    }

    private static void memoryBelow() {
        for (int memory : new int[] {19, 1, 0, -1, -20, FAR[0]}) {
            memoryIs(memory, 20);
        }
    }

    private static void memoryAbove() {
        for (int memory : new int[] {49, 64, 1000, FAR[1]}) {
            memoryIs(memory, 48);
        }
    }

    private static void memoryBetween() {
        for (int memory = 20; memory <= 48; memory++) {
            memoryIs(memory, memory);
        }
    }

    private static void fanBelow() {
        for (int fan : new int[] {1, 0, -1, -2, FAR[0]}) {
            fanIs(fan, 2);
        }
    }

    private static void fanAbove() {
        for (int fan : new int[] {5, 6, 100, FAR[1]}) {
            fanIs(fan, 4);
        }
    }

    private static void fanBetween() {
        for (int fan = 2; fan <= 4; fan++) {
            fanIs(fan, fan);
        }
    }

    private static void blocksBelow() {
        for (int blocks : new int[] {7, 1, 0, -1, -8, FAR[0]}) {
            blocksAre(blocks, 8);
        }
    }

    private static void blocksAbove() {
        for (int blocks : new int[] {61, 64, 256, FAR[1]}) {
            blocksAre(blocks, 60);
        }
    }

    private static void blocksBetween() {
        for (int blocks = 8; blocks <= 60; blocks++) {
            blocksAre(blocks, blocks);
        }
    }

    private static void newObject() {
        IndexBuilder x = new IndexBuilder(20, 2, 8);
        row("counts", counts(x), 0, 0, 0, 0, 8, 0, 0, 0, 0, 0);
        row("bytes", bytes(x, 0, 128), new int[128]);
        CHECK.throwing("no run", NONE, () -> x.run(0, 0));
        CHECK.throwing("no result", NONE, () -> x.result(0));
        CHECK.throwing("no score", NONE, () -> x.score(0));
    }

    private static void noSuchWord() {
        IndexBuilder x = new IndexBuilder(20, 2, 8);
        refused(x, ARGUMENT, () -> x.word(-1), () -> x.word(100), () -> x.word(127), () -> x.word(256),
            () -> x.word(FAR[0]), () -> x.word(FAR[1]));
        CHECK.due("the least one", x.word(0), 0);
        CHECK.due("the greatest one", x.word(99), 1);
    }

    private static void twentyWords() {
        IndexBuilder x = new IndexBuilder(20, 2, 8);
        openRow(x, 0, 19);
        CHECK.due("the 20th", x.word(99), 19);
        refused(x, STATE, () -> x.word(0), () -> x.word(99), () -> x.word(50));
        x.close();
        CHECK.due("none of the refused ones came", x.count(2), 20);
        CHECK.due("the next document begins at 0", x.word(0), 0);
    }

    private static void noSuchWordAndTwenty() {
        IndexBuilder x = new IndexBuilder(20, 2, 8);
        openRow(x, 0, 20);
        refused(x, ARGUMENT, () -> x.word(-1), () -> x.word(100), () -> x.word(FAR[0]), () -> x.word(FAR[1]));
    }

    private static void refusedWordTakesNoPlace() {
        IndexBuilder x = new IndexBuilder(20, 2, 8);
        x.word(1);
        CHECK.throwing("between", ARGUMENT, () -> x.word(100));
        CHECK.due("the next place", x.word(2), 1);
        x.close();
        CHECK.due("2 is right behind 1", x.find(1, 2, 2), 1);
    }

    private static void closeJustFits() {
        IndexBuilder x = new IndexBuilder(20, 2, 8);
        addRow(x, 0, 15);
        CHECK.due("the number", addRow(x, 20, 5), 1);
        CHECK.due("in the buffer", x.count(2), 20);
        CHECK.due("no flush", x.count(3), 0);
    }

    private static void closeAfterFlushing() {
        IndexBuilder x = new IndexBuilder(20, 2, 8);
        addRow(x, 0, 15);
        CHECK.due("the number", addRow(x, 20, 6), 1);
        CHECK.due("only the new ones", x.count(2), 6);
        CHECK.due("a run", x.count(3), 1);
        CHECK.due("of the old ones alone", x.run(0, 3), 76);
        CHECK.due("the open document is empty", x.count(9), 0);
    }

    private static void closeOfTheLongest() {
        IndexBuilder x = new IndexBuilder(20, 2, 8);
        add(x, 1);
        addRow(x, 0, 20);
        CHECK.due("the buffer is full at once", x.count(2), 20);
        CHECK.due("the run", x.run(0, 3), 6);
        CHECK.due("both are found", x.find(1, 1, 0), 2);
    }

    private static void closeMerges() {
        IndexBuilder x = new IndexBuilder(20, 2, 60);
        addRow(x, 0, 20);
        addRow(x, 20, 20);
        CHECK.due("one run", x.count(3), 1);
        addRow(x, 40, 20);
        row("two are merged", levels(x), 1);
        CHECK.due("a merge", x.count(7), 1);
        CHECK.due("the buffer", x.count(2), 20);
    }

    private static void closeWithMergeWithoutRoom() {
        IndexBuilder x = new IndexBuilder(20, 2, 8);
        addRow(x, 0, 12);
        x.flush();
        addRow(x, 20, 12);
        CHECK.due("the number", addRow(x, 40, 9), 2);
        row("the run stands", levels(x), 0, 0);
        CHECK.due("no room for the merge", x.count(8), 1);
        CHECK.due("the new ones", x.count(2), 9);
        CHECK.due("the disk is full", x.count(4), 0);
    }

    private static void closeWithDroppedBuffer() {
        IndexBuilder x = new IndexBuilder(20, 2, 8);
        addRow(x, 0, 20);
        x.drop(0);
        CHECK.due("the number", add(x, 1), 1);
        CHECK.due("no run", x.count(3), 0);
        CHECK.due("only the new one", x.count(2), 1);
        CHECK.due("none is written", x.count(6), 0);
    }

    private static void droppedTakeRoom() {
        IndexBuilder x = new IndexBuilder(20, 2, 8);
        addRow(x, 0, 10);
        addRow(x, 10, 10);
        x.drop(0);
        CHECK.due("they stay in it", x.count(2), 20);
        add(x, 1);
        CHECK.due("so there is a run", x.count(3), 1);
        CHECK.due("of the others", x.run(0, 3), 51);
    }

    private static void fortyDocuments() {
        IndexBuilder x = new IndexBuilder(20, 2, 8);
        addEmpty(x, 39);
        CHECK.due("the 40th", add(x, 7), 39);
        openWith(x, 1, 2);
        refused(x, STATE, x::close, x::close);
        CHECK.due("the open document goes on", x.word(3), 2);
        CHECK.due("the last is found", x.find(7, 1, 1), 1);
    }

    private static void fortyAndEmpty() {
        IndexBuilder x = new IndexBuilder(20, 2, 8);
        addEmpty(x, 40);
        refused(x, STATE, x::close);
    }

    private static void fortyDropped() {
        IndexBuilder x = new IndexBuilder(20, 2, 8);
        addEmpty(x, 40);
        for (int d = 0; d < 40; d++) {
            x.drop(d);
        }
        refused(x, STATE, x::close);
    }

    private static void fortyAndFullBuffer() {
        IndexBuilder x = new IndexBuilder(20, 2, 8);
        addEmpty(x, 39);
        addRow(x, 0, 20);
        x.word(1);
        refused(x, STATE, x::close);
        CHECK.due("nothing was flushed", x.count(3), 0);
    }

    private static void fortyAndNoRoom() {
        IndexBuilder x = full();
        addEmpty(x, 40);
        x.word(1);
        refused(x, STATE, x::close);
        CHECK.throwing("there is no room indeed", UNSUPPORTED, x::flush);
    }

    private static void closeNoRoom() {
        IndexBuilder x = full();
        x.rank(0, 20);
        openWith(x, 40, 41);
        refused(x, UNSUPPORTED, x::close, x::close);
        CHECK.due("the open document goes on", x.word(42), 2);
    }

    private static void closeNoRoomThenRoom() {
        IndexBuilder x = full();
        openWith(x, 40, 41);
        CHECK.throwing("no room", UNSUPPORTED, x::close);
        x.drop(1);
        CHECK.due("the buffer needs none now", x.close(), 2);
        CHECK.due("the new ones", x.count(2), 2);
        CHECK.due("as they were", x.find(40, 41, 2), 1);
    }

    private static void closeEmpty() {
        IndexBuilder x = new IndexBuilder(20, 2, 8);
        CHECK.due("the first", x.close(), 0);
        CHECK.due("the second", x.close(), 1);
        CHECK.due("documents", x.count(0), 2);
        CHECK.due("not dropped", x.count(1), 2);
        CHECK.due("no postings", x.count(2), 0);
        CHECK.due("no run of it", x.flush(), 0);
        add(x, 1);
        CHECK.due("found", x.find(1, 2, 1), 1);
        CHECK.due("numbers go on", x.result(0), 2);
    }

    private static void closeEmptyOnFullBuffer() {
        IndexBuilder x = new IndexBuilder(20, 2, 8);
        addRow(x, 0, 20);
        CHECK.due("the number", x.close(), 1);
        CHECK.due("no flush", x.count(3), 0);
        CHECK.due("the buffer", x.count(2), 20);
    }

    private static void closeEmptyOnFullDisk() {
        IndexBuilder x = full();
        CHECK.due("the number", x.close(), 2);
        CHECK.due("the buffer", x.count(2), 20);
        CHECK.due("runs", x.count(3), 1);
    }

    private static void dropNone() {
        IndexBuilder x = new IndexBuilder(20, 2, 8);
        add(x, 1);
        add(x, 1);
        x.find(1, 1, 0);
        refused(x, NONE, () -> x.drop(-1), () -> x.drop(2), () -> x.drop(39), () -> x.drop(40), () -> x.drop(41),
            () -> x.drop(FAR[0]), () -> x.drop(FAR[1]));
        CHECK.due("the last one", x.drop(1), 1);
        CHECK.due("the first one", x.drop(0), 0);
    }

    private static void dropInNewObject() {
        IndexBuilder x = new IndexBuilder(20, 2, 8);
        refused(x, NONE, () -> x.drop(0), () -> x.drop(-1), () -> x.drop(1));
    }

    private static void dropOpen() {
        IndexBuilder x = new IndexBuilder(20, 2, 8);
        openWith(x, 1, 2);
        refused(x, NONE, () -> x.drop(0));
        x.close();
        CHECK.due("now it is one", x.drop(0), 0);
    }

    private static void dropTwice() {
        IndexBuilder x = new IndexBuilder(20, 2, 8);
        add(x, 1);
        add(x, 2);
        CHECK.due("one is left", x.drop(0), 1);
        refused(x, NONE, () -> x.drop(0), () -> x.drop(0));
        x.finish();
        CHECK.throwing("also when its postings are gone", NONE, () -> x.drop(0));
    }

    private static void dropLast() {
        IndexBuilder x = new IndexBuilder(20, 2, 8);
        addEmpty(x, 40);
        for (int d = 39; d >= 0; d--) {
            CHECK.due("how many are not", x.drop(d), d);
        }
        CHECK.due("documents", x.count(0), 40);
        CHECK.due("not dropped", x.count(1), 0);
    }

    private static void dropEmptyDocument() {
        IndexBuilder x = new IndexBuilder(20, 2, 8);
        x.close();
        add(x, 1);
        CHECK.due("one is left", x.drop(0), 1);
        CHECK.due("it is found", x.find(1, 1, 0), 1);
    }

    private static void dropLeavesPostings() {
        IndexBuilder x = new IndexBuilder(20, 2, 8);
        addRow(x, 0, 3);
        x.flush();
        addRow(x, 0, 3);
        int[] before = bytes(x, 0, 16);
        dropAll(x, 0, 1);
        CHECK.due("in the buffer", x.count(2), 3);
        CHECK.due("runs", x.count(3), 1);
        CHECK.due("free", x.count(4), 7);
        row("bytes", bytes(x, 0, 16), before);
    }

    private static void flushNewObject() {
        IndexBuilder x = new IndexBuilder(20, 2, 8);
        String before = state(x);
        CHECK.due("no runs", x.flush(), 0);
        CHECK.due("nothing", state(x), before);
    }

    private static void flushTwice() {
        IndexBuilder x = new IndexBuilder(20, 2, 8);
        add(x, 1);
        x.flush();
        String before = state(x);
        CHECK.due("the run", x.flush(), 1);
        CHECK.due("nothing", state(x), before);
    }

    private static void flushWithOpenDocument() {
        IndexBuilder x = new IndexBuilder(20, 2, 8);
        openWith(x, 1, 2);
        String before = state(x);
        CHECK.due("no runs", x.flush(), 0);
        CHECK.due("nothing", state(x), before);
    }

    private static void flushOfEmptyDocuments() {
        IndexBuilder x = new IndexBuilder(20, 2, 8);
        addEmpty(x, 3);
        CHECK.due("no runs", x.flush(), 0);
        CHECK.due("none is written", x.count(6), 0);
    }

    private static void flushOfDropped() {
        IndexBuilder x = new IndexBuilder(20, 2, 8);
        add(x, 1);
        x.flush();
        add(x, 1, 2);
        add(x, 3);
        dropAll(x, 1, 2);
        CHECK.due("no new run", x.flush(), 1);
        CHECK.due("the buffer is empty", x.count(2), 0);
        CHECK.due("none is written", x.count(6), 1);
        CHECK.due("no merge", x.count(7), 0);
    }

    private static void flushOfSomeDropped() {
        IndexBuilder x = new IndexBuilder(20, 2, 8);
        add(x, 1, 2);
        add(x, 2, 3);
        add(x, 3, 4);
        dropAll(x, 0, 2);
        CHECK.due("a run", x.flush(), 1);
        row("of the other", bytes(x, 0, 12), 2, 1, 1, 1, 0, 1, 1, 1, 1, 1, 127, 0);
        CHECK.due("the buffer is empty", x.count(2), 0);
    }

    private static void flushJustFits() {
        IndexBuilder x = new IndexBuilder(20, 4, 8);
        addRow(x, 0, 12);
        x.flush();
        addRow(x, 20, 12);
        CHECK.due("4 blocks into 4", x.flush(), 2);
        CHECK.due("none is free", x.count(4), 0);
    }

    private static void flushNoRoom() {
        IndexBuilder x = new IndexBuilder(20, 4, 8);
        addRow(x, 0, 12);
        x.flush();
        addRow(x, 20, 13);
        x.find(0, 20, 1);
        openWith(x, 1, 2);
        refused(x, UNSUPPORTED, x::flush, x::flush);
        CHECK.due("the buffer answers", x.find(20, 32, 0), 1);
    }

    private static void flushNoRoomThenRoom() {
        IndexBuilder x = new IndexBuilder(20, 4, 8);
        addRow(x, 0, 12);
        x.flush();
        addRow(x, 20, 12);
        add(x, 60, 61, 62);
        CHECK.throwing("5 blocks into 4", UNSUPPORTED, x::flush);
        x.drop(2);
        CHECK.due("4 are needed now", x.flush(), 2);
        CHECK.due("found", x.find(20, 60, 1), 1);
    }

    private static void flushWithMergeWithoutRoom() {
        IndexBuilder x = new IndexBuilder(20, 2, 8);
        addRow(x, 0, 12);
        x.flush();
        addRow(x, 20, 12);
        CHECK.due("two runs", x.flush(), 2);
        CHECK.due("no room for the merge", x.count(8), 1);
        CHECK.due("the buffer is empty", x.count(2), 0);
    }

    private static void finishNoRuns() {
        IndexBuilder x = new IndexBuilder(20, 2, 8);
        openWith(x, 1);
        String before = state(x);
        CHECK.due("none", x.finish(), 0);
        CHECK.due("no merge", state(x), before);
    }

    private static void finishOfDroppedBuffer() {
        IndexBuilder x = new IndexBuilder(20, 2, 8);
        add(x, 1);
        x.drop(0);
        CHECK.due("none", x.finish(), 0);
        row("counts", counts(x), 1, 0, 0, 0, 8, 0, 0, 0, 0, 0);
    }

    private static void finishOneRun() {
        IndexBuilder x = new IndexBuilder(20, 2, 8);
        add(x, 1);
        x.flush();
        CHECK.due("one", x.finish(), 1);
        CHECK.due("its level", x.run(0, 0), 1);
        CHECK.due("its block", x.run(0, 2), 1);
        row("counts", counts(x), 1, 1, 0, 1, 7, 1, 2, 1, 0, 0);
        CHECK.due("again", x.finish(), 1);
        CHECK.due("its level", x.run(0, 0), 2);
        CHECK.due("its block", x.run(0, 2), 0);
        row("the old block", bytes(x, 16, 16), new int[16]);
    }

    private static void finishBuffer() {
        IndexBuilder x = new IndexBuilder(20, 2, 8);
        add(x, 1);
        CHECK.due("one", x.finish(), 1);
        CHECK.due("its level", x.run(0, 0), 1);
        row("counts", counts(x), 1, 1, 0, 1, 7, 1, 2, 1, 0, 0);
    }

    private static void finishAfterFullLevels() {
        IndexBuilder x = new IndexBuilder(20, 2, 8);
        add(x, 1);
        x.flush();
        add(x, 2);
        CHECK.due("one", x.finish(), 1);
        CHECK.due("merged by flushing, then merged", x.run(0, 0), 2);
        CHECK.due("merges", x.count(7), 2);
        CHECK.due("read", x.count(5), 3);
        CHECK.due("written", x.count(6), 4);
    }

    private static void finishOfDroppedRuns() {
        IndexBuilder x = new IndexBuilder(20, 4, 8);
        addRow(x, 0, 12);
        x.flush();
        addRow(x, 20, 12);
        x.flush();
        dropAll(x, 0, 1);
        CHECK.due("no free block is needed", x.finish(), 0);
        row("counts", counts(x), 2, 0, 0, 0, 8, 8, 8, 1, 0, 0);
        row("bytes", bytes(x, 0, 128), new int[128]);
        CHECK.due("none again", x.finish(), 0);
        CHECK.due("no merge of none", x.count(7), 1);
    }

    private static void finishJustFits() {
        IndexBuilder x = new IndexBuilder(20, 2, 8);
        addRow(x, 0, 12);
        CHECK.due("4 blocks into the 4 others", x.finish(), 1);
        CHECK.due("the first", x.run(0, 2), 4);
        CHECK.due("free", x.count(4), 4);
        row("the old ones", bytes(x, 0, 64), new int[64]);
    }

    private static void finishNoRoomForBuffer() {
        IndexBuilder x = full();
        x.rank(0, 20);
        x.word(1);
        refused(x, UNSUPPORTED, x::finish);
        CHECK.due("no merge was tried", x.count(8), 0);
    }

    private static void finishNoRoomForMerge() {
        IndexBuilder x = new IndexBuilder(20, 2, 8);
        addRow(x, 0, 13);
        x.flush();
        CHECK.throwing("5 blocks into 3", UNSUPPORTED, x::finish);
        row("counts", counts(x), 1, 1, 0, 1, 3, 5, 5, 0, 1, 0);
        row("the run stands", levels(x), 0);
        CHECK.due("and answers", x.find(0, 12, 0), 1);
    }

    private static void finishKeepsWhatWasDone() {
        IndexBuilder x = new IndexBuilder(20, 2, 10);
        addRow(x, 0, 12);
        x.finish();
        addRow(x, 20, 3);
        x.flush();
        row("before", levels(x), 1, 0);
        addRow(x, 30, 3);
        CHECK.throwing("4 and 2 blocks leave 4 for 6", UNSUPPORTED, x::finish);
        row("the merge of level 0 stays", levels(x), 1, 1);
        row("counts", counts(x), 3, 3, 0, 2, 4, 18, 12, 2, 2, 0);
        CHECK.due("bytes", x.run(1, 3), 31);
        CHECK.due("found", x.find(20, 30, 1), 2);
    }

    private static void finishNoRoomTwice() {
        IndexBuilder x = new IndexBuilder(20, 2, 8);
        addRow(x, 0, 12);
        x.flush();
        addRow(x, 20, 12);
        CHECK.throwing("the last merge", UNSUPPORTED, x::finish);
        CHECK.due("both are counted", x.count(8), 2);
        CHECK.due("both read", x.count(5), 16);
        row("levels", levels(x), 0, 0);
        CHECK.throwing("an empty buffer", UNSUPPORTED, x::finish);
        CHECK.due("only the last merge then", x.count(8), 3);
    }

    private static void finishNoRoomThenRoom() {
        IndexBuilder x = new IndexBuilder(20, 4, 8);
        addRow(x, 0, 12);
        x.flush();
        addRow(x, 20, 6);
        CHECK.throwing("4 and 2 blocks leave 2", UNSUPPORTED, x::finish);
        x.drop(0);
        CHECK.due("2 are needed now", x.finish(), 1);
        CHECK.due("level", x.run(0, 0), 1);
        CHECK.due("free", x.count(4), 6);
        CHECK.due("found", x.find(0, 25, 1), 1);
    }
}
