/** A test of its own for each boundary case that a sentence of the promises 7 to 13 names. */
public final class AskingBoundaryTest extends Steps {
    public static void main(String[] args) {
        CHECK.part("7: no such WORD v", AskingBoundaryTest::findNoSuchV);
        CHECK.part("7: no such WORD w", AskingBoundaryTest::findNoSuchW);
        CHECK.part("7: no such how", AskingBoundaryTest::findNoSuchHow);
        CHECK.part("7: the WORDS 0 and 99", AskingBoundaryTest::findFirstAndLastWord);
        CHECK.part("7: nothing found in a new object", AskingBoundaryTest::findInNewObject);
        CHECK.part("7: nothing found", AskingBoundaryTest::findNothing);
        CHECK.part("7: all 40 DOCUMENTS found", AskingBoundaryTest::findAll);
        CHECK.part("7: the same WORD twice", AskingBoundaryTest::findSameWord);
        CHECK.part("7: w right behind v at the last PLACE", AskingBoundaryTest::findAtLastPlace);
        CHECK.part("7: w right behind v, not farther, not before", AskingBoundaryTest::findRightBehindOnly);
        CHECK.part("7: w right behind v, not in the next DOCUMENT", AskingBoundaryTest::findNotAcrossDocuments);
        CHECK.part("7: only DROPPED DOCUMENTS have it", AskingBoundaryTest::findDropped);
        CHECK.part("7: THE BUFFER and the DISK are full", AskingBoundaryTest::findInFullIndex);
        CHECK.part("8: no such WORD", AskingBoundaryTest::rankNoSuchWord);
        CHECK.part("8: no DOCUMENT has v or w", AskingBoundaryTest::rankNothing);
        CHECK.part("8: the greater SCORE first", AskingBoundaryTest::rankGreaterFirst);
        CHECK.part("8: equal SCORES", AskingBoundaryTest::rankEqualScores);
        CHECK.part("8: equal SCORES of all 40", AskingBoundaryTest::rankAllEqual);
        CHECK.part("8: SCORES that are equal only without doubles", AskingBoundaryTest::rankAlmostEqual);
        CHECK.part("8: 0 if it has none", AskingBoundaryTest::rankZeroForNone);
        CHECK.part("8: 0 if no DOCUMENT has w", AskingBoundaryTest::rankZeroFrequency);
        CHECK.part("8: the same WORD twice", AskingBoundaryTest::rankSameWord);
        CHECK.part("8: the greatest COUNT and FREQUENCY", AskingBoundaryTest::rankGreatest);
        CHECK.part("9: there is none: no question yet", AskingBoundaryTest::resultBeforeQuestions);
        CHECK.part("9: there is none: k", AskingBoundaryTest::resultNone);
        CHECK.part("9: there is none: an empty RESULT", AskingBoundaryTest::resultOfNothing);
        CHECK.part("9: there is none: a shorter RESULT", AskingBoundaryTest::resultOfShorter);
        CHECK.part("9: all 40", AskingBoundaryTest::resultOfAll);
        CHECK.part("9: a refused question leaves the RESULT", AskingBoundaryTest::resultAfterRefused);
        CHECK.part("9: the RESULT stays until the next question", AskingBoundaryTest::resultStays);
        CHECK.part("10: there is none: no question yet", AskingBoundaryTest::scoreBeforeQuestions);
        CHECK.part("10: there is none: k", AskingBoundaryTest::scoreNone);
        CHECK.part("10: there is none: an empty RESULT", AskingBoundaryTest::scoreOfNothing);
        CHECK.part("10: the RESULT is one of find", AskingBoundaryTest::scoreOfFind);
        CHECK.part("10: the RESULT is one of find, and there is none", AskingBoundaryTest::scoreOfFindNone);
        CHECK.part("10: find and rank in turns", AskingBoundaryTest::scoreInTurns);
        CHECK.part("10: as it was ranked", AskingBoundaryTest::scoreAsRanked);
        CHECK.part("11: no such BLOCK", AskingBoundaryTest::byteOfNoBlock);
        CHECK.part("11: no such byte", AskingBoundaryTest::byteOfNoByte);
        CHECK.part("11: no such BLOCK or byte, where a sum would wrap around", AskingBoundaryTest::byteOfWrapped);
        CHECK.part("11: a free BLOCK", AskingBoundaryTest::byteOfFree);
        CHECK.part("11: behind the last byte", AskingBoundaryTest::byteOfBehind);
        CHECK.part("11: the last byte of the last BLOCK", AskingBoundaryTest::byteOfVeryLast);
        CHECK.part("12: no such RUN", AskingBoundaryTest::runNone);
        CHECK.part("12: no such RUN in a new object", AskingBoundaryTest::runInNewObject);
        CHECK.part("12: no such RUN behind a MERGE", AskingBoundaryTest::runAfterMerge);
        CHECK.part("12: another what", AskingBoundaryTest::runAnotherWhat);
        CHECK.part("12: no such RUN and another what", AskingBoundaryTest::runNoneAndAnotherWhat);
        CHECK.part("12: each what", AskingBoundaryTest::runEachWhat);
        CHECK.part("12: as many RUNS as there can be", AskingBoundaryTest::runOfMany);
        CHECK.part("13: 0, DOCUMENTS", AskingBoundaryTest::countDocuments);
        CHECK.part("13: 1, not DROPPED", AskingBoundaryTest::countNotDropped);
        CHECK.part("13: 2, POSTINGS in THE BUFFER", AskingBoundaryTest::countPostings);
        CHECK.part("13: 3, RUNS", AskingBoundaryTest::countRuns);
        CHECK.part("13: 4, free BLOCKS", AskingBoundaryTest::countFree);
        CHECK.part("13: 5, BLOCKS READ", AskingBoundaryTest::countRead);
        CHECK.part("13: 6, BLOCKS WRITTEN", AskingBoundaryTest::countWritten);
        CHECK.part("13: 7, MERGES done", AskingBoundaryTest::countMerges);
        CHECK.part("13: 8, MERGES with NO ROOM", AskingBoundaryTest::countMergesWithoutRoom);
        CHECK.part("13: 9, WORDS of the OPEN document", AskingBoundaryTest::countOpen);
        CHECK.part("13: else -1", AskingBoundaryTest::countElse);
        CHECK.end();
    }

    /** A RUN and THE BUFFER, three DOCUMENTS with 0 and 99; the RESULT is a ranked one. */
    private static IndexBuilder small() {
        IndexBuilder x = new IndexBuilder(20, 2, 8);
        add(x, 0, 99);
        add(x, 99);
        x.flush();
        add(x, 0, 0, 0);
        x.rank(0, 99);
        return x;
    }

    private static IndexBuilder fortyOf(int... words) {
        IndexBuilder x = new IndexBuilder(48, 2, 60);
        for (int d = 0; d < 40; d++) {
            add(x, words);
        }
        return x;
    }

    private static int[] upTo(int end) {
        int[] all = new int[end];
        for (int i = 0; i < end; i++) {
            all[i] = i;
        }
        return all;
    }

    private static void findNoSuchV() {
        IndexBuilder x = small();
        refused(x, ARGUMENT, () -> x.find(-1, 0, 0), () -> x.find(100, 0, 1), () -> x.find(127, 0, 2),
            () -> x.find(FAR[0], 0, 3), () -> x.find(FAR[1], 0, 0));
    }

    private static void findNoSuchW() {
        IndexBuilder x = small();
        refused(x, ARGUMENT, () -> x.find(0, -1, 0), () -> x.find(0, 100, 1), () -> x.find(0, 127, 2),
            () -> x.find(0, FAR[0], 3), () -> x.find(0, FAR[1], 0));
    }

    private static void findNoSuchHow() {
        IndexBuilder x = small();
        refused(x, ARGUMENT, () -> x.find(0, 99, -1), () -> x.find(0, 99, 4), () -> x.find(0, 99, FAR[0]),
            () -> x.find(0, 99, FAR[1]), () -> x.find(-1, 100, 4));
        CHECK.due("the least how", x.find(0, 99, 0), 1);
        CHECK.due("the greatest how", x.find(0, 99, 3), 1);
    }

    private static void findFirstAndLastWord() {
        IndexBuilder x = small();
        row("0 and 99", results(x, x.find(0, 99, 0)), 0);
        row("0 or 99", results(x, x.find(0, 99, 1)), 0, 1, 2);
        row("0 then 99", results(x, x.find(0, 99, 2)), 0);
        row("99 then 0", results(x, x.find(99, 0, 2)));
        row("0, not 99", results(x, x.find(0, 99, 3)), 2);
        row("99, not 0", results(x, x.find(99, 0, 3)), 1);
    }

    private static void findInNewObject() {
        IndexBuilder x = new IndexBuilder(20, 2, 8);
        for (int how = 0; how <= 3; how++) {
            CHECK.due("how " + how, x.find(0, 99, how), 0);
        }
        x.close();
        CHECK.due("an empty document", x.find(0, 0, 1), 0);
    }

    private static void findNothing() {
        IndexBuilder x = small();
        for (int how = 0; how <= 3; how++) {
            CHECK.due("how " + how, x.find(50, 51, how), 0);
            CHECK.throwing("the result is empty", NONE, () -> x.result(0));
        }
        CHECK.due("one of two", x.find(0, 50, 0), 0);
        CHECK.due("one of two, behind", x.find(0, 50, 2), 0);
        CHECK.due("not v", x.find(50, 0, 3), 0);
    }

    private static void findAll() {
        IndexBuilder x = fortyOf(1, 2);
        row("and", results(x, x.find(1, 2, 0)), upTo(40));
        row("behind", results(x, x.find(1, 2, 2)), upTo(40));
        row("not", results(x, x.find(1, 3, 3)), upTo(40));
    }

    private static void findSameWord() {
        IndexBuilder x = small();
        row("and", results(x, x.find(0, 0, 0)), 0, 2);
        row("or", results(x, x.find(0, 0, 1)), 0, 2);
        row("behind itself", results(x, x.find(0, 0, 2)), 2);
        row("and not", results(x, x.find(0, 0, 3)));
    }

    private static void findAtLastPlace() {
        IndexBuilder x = new IndexBuilder(20, 2, 8);
        addRow(x, 80, 20);
        CHECK.due("at places 18 and 19", x.find(98, 99, 2), 1);
        CHECK.due("at places 0 and 1", x.find(80, 81, 2), 1);
        CHECK.due("nothing is behind the last", x.find(99, 80, 2), 0);
        x.flush();
        CHECK.due("on the disk", x.find(98, 99, 2), 1);
        CHECK.due("on the disk, behind the last", x.find(99, 80, 2), 0);
    }

    private static void findRightBehindOnly() {
        IndexBuilder x = new IndexBuilder(20, 2, 8);
        add(x, 1, 3, 2);
        add(x, 2, 1);
        add(x, 2, 3, 1, 2);
        row("only the last has it", results(x, x.find(1, 2, 2)), 2);
    }

    private static void findNotAcrossDocuments() {
        IndexBuilder x = new IndexBuilder(20, 2, 8);
        add(x, 3, 1);
        add(x, 2, 3);
        CHECK.due("the end and a beginning", x.find(1, 2, 2), 0);
        CHECK.due("places of different documents", x.find(3, 3, 2), 0);
    }

    private static void findDropped() {
        IndexBuilder x = small();
        dropAll(x, 0, 1, 2);
        for (int how = 0; how <= 3; how++) {
            CHECK.due("how " + how, x.find(0, 99, how), 0);
        }
    }

    private static void findInFullIndex() {
        IndexBuilder x = full();
        openRow(x, 40, 20);
        row("run and buffer", results(x, x.find(0, 39, 1)), 0, 1);
        row("not the open document", results(x, x.find(40, 59, 1)));
    }

    private static void rankNoSuchWord() {
        IndexBuilder x = small();
        refused(x, ARGUMENT, () -> x.rank(-1, 0), () -> x.rank(0, -1), () -> x.rank(100, 0), () -> x.rank(0, 100),
            () -> x.rank(FAR[0], 0), () -> x.rank(0, FAR[1]), () -> x.rank(100, -1));
        CHECK.due("the first and the last", x.rank(99, 0), 3);
    }

    private static void rankNothing() {
        IndexBuilder x = small();
        CHECK.due("none", x.rank(50, 51), 0);
        CHECK.throwing("the result is empty", NONE, () -> x.result(0));
        IndexBuilder y = new IndexBuilder(20, 2, 8);
        CHECK.due("a new object", y.rank(0, 99), 0);
    }

    private static void rankGreaterFirst() {
        IndexBuilder x = new IndexBuilder(20, 2, 8);
        add(x, 1);
        x.flush();
        add(x, 1, 1);
        add(x, 1, 1, 1);
        row("the last of them first", results(x, x.rank(1, 2)), 2, 1, 0);
        CHECK.due("first", x.score(0), 1.0);
        CHECK.due("second", x.score(1), 2.0 / 3);
        CHECK.due("third", x.score(2), 1.0 / 3);
    }

    private static void rankEqualScores() {
        IndexBuilder x = new IndexBuilder(20, 2, 8);
        add(x, 2);
        add(x, 1);
        add(x, 1, 2);
        add(x, 2);
        add(x, 1);
        row("the lesser number first", results(x, x.rank(1, 2)), 2, 0, 1, 3, 4);
        CHECK.due("equal", x.score(1), x.score(4));
        row("the words the other way round", results(x, x.rank(2, 1)), 2, 0, 1, 3, 4);
    }

    private static void rankAllEqual() {
        IndexBuilder x = fortyOf(1);
        row("in order", results(x, x.rank(1, 0)), upTo(40));
        CHECK.due("each", x.score(39), 1.0 / 40);
    }

    /** 0.1 + 0.2 is a greater double than 0.3. */
    private static void rankAlmostEqual() {
        IndexBuilder x = new IndexBuilder(48, 2, 60);
        add(x, 1, 1, 1);
        add(x, 1, 2, 2);
        for (int i = 0; i < 8; i++) {
            add(x, 1, 2);
        }
        add(x, 2);
        CHECK.due("all", x.rank(1, 2), 11);
        CHECK.due("first", x.result(0), 1);
        CHECK.due("its score", x.score(0), 0.1 + 0.2);
        CHECK.due("second", x.result(1), 0);
        CHECK.due("its score", x.score(1), 0.3);
    }

    private static void rankZeroForNone() {
        IndexBuilder x = new IndexBuilder(20, 2, 8);
        add(x, 1);
        add(x, 2, 2);
        CHECK.due("both", x.rank(1, 2), 2);
        CHECK.due("0 for the first word", x.score(0), 2.0);
        CHECK.due("0 for the second word", x.score(1), 1.0);
    }

    private static void rankZeroFrequency() {
        IndexBuilder x = new IndexBuilder(20, 2, 8);
        add(x, 1);
        add(x, 2);
        x.drop(1);
        CHECK.due("no such w at all", x.rank(1, 99), 1);
        CHECK.due("its score", x.score(0), 1.0);
        CHECK.due("no such v at all", x.rank(99, 1), 1);
        CHECK.due("its score", x.score(0), 1.0);
        CHECK.due("only a dropped one has w", x.rank(1, 2), 1);
        CHECK.due("its score", x.score(0), 1.0);
    }

    private static void rankSameWord() {
        IndexBuilder x = small();
        row("each once", results(x, x.rank(0, 0)), 2, 0);
        CHECK.due("both parts", x.score(0), 3.0);
        CHECK.due("both parts", x.score(1), 1.0);
    }

    private static void rankGreatest() {
        IndexBuilder x = new IndexBuilder(48, 2, 60);
        for (int d = 0; d < 39; d++) {
            add(x, 99);
        }
        for (int place = 0; place < 20; place++) {
            x.word(99);
        }
        x.close();
        CHECK.due("all", x.rank(99, 0), 40);
        CHECK.due("the last is first", x.result(0), 39);
        CHECK.due("20 times", x.score(0), 20.0 / 40);
        CHECK.due("once", x.score(39), 1.0 / 40);
    }

    private static void resultBeforeQuestions() {
        IndexBuilder x = new IndexBuilder(20, 2, 8);
        add(x, 1);
        refused(x, NONE, () -> x.result(0), () -> x.result(-1), () -> x.result(1));
    }

    private static void resultNone() {
        IndexBuilder x = small();
        refused(x, NONE, () -> x.result(-1), () -> x.result(3), () -> x.result(39), () -> x.result(40),
            () -> x.result(FAR[0]), () -> x.result(FAR[1]));
        CHECK.due("the last", x.result(2), 1);
    }

    private static void resultOfNothing() {
        IndexBuilder x = small();
        x.find(50, 50, 0);
        refused(x, NONE, () -> x.result(0), () -> x.result(1), () -> x.result(-1));
    }

    private static void resultOfShorter() {
        IndexBuilder x = small();
        x.find(0, 99, 0);
        CHECK.due("the first", x.result(0), 0);
        CHECK.throwing("the second was one of the question before", NONE, () -> x.result(1));
    }

    private static void resultOfAll() {
        IndexBuilder x = fortyOf(1);
        x.find(1, 1, 0);
        CHECK.due("the first", x.result(0), 0);
        CHECK.due("the last", x.result(39), 39);
        CHECK.throwing("behind the last", NONE, () -> x.result(40));
    }

    private static void resultAfterRefused() {
        IndexBuilder x = small();
        CHECK.throwing("find", ARGUMENT, () -> x.find(0, 100, 0));
        CHECK.throwing("find", ARGUMENT, () -> x.find(0, 0, 4));
        CHECK.throwing("rank", ARGUMENT, () -> x.rank(0, 100));
        row("as before", results(x, 3), 2, 0, 1);
        CHECK.due("ranked", x.score(0), 3.0 / 2);
    }

    private static void resultStays() {
        IndexBuilder x = small();
        add(x, 0);
        x.drop(0);
        x.finish();
        row("as it was found", results(x, 3), 2, 0, 1);
    }

    private static void scoreBeforeQuestions() {
        IndexBuilder x = new IndexBuilder(20, 2, 8);
        add(x, 1);
        refused(x, NONE, () -> x.score(0), () -> x.score(-1), () -> x.score(1));
    }

    private static void scoreNone() {
        IndexBuilder x = small();
        refused(x, NONE, () -> x.score(-1), () -> x.score(3), () -> x.score(39), () -> x.score(40),
            () -> x.score(FAR[0]), () -> x.score(FAR[1]));
        CHECK.due("the last", x.score(2), 0.5);
    }

    private static void scoreOfNothing() {
        IndexBuilder x = small();
        x.rank(50, 51);
        refused(x, NONE, () -> x.score(0), () -> x.score(1), () -> x.score(-1));
    }

    private static void scoreOfFind() {
        IndexBuilder x = small();
        x.find(0, 99, 1);
        refused(x, UNSUPPORTED, () -> x.score(0), () -> x.score(1), () -> x.score(2));
    }

    private static void scoreOfFindNone() {
        IndexBuilder x = small();
        x.find(0, 99, 1);
        CHECK.throwing("behind the last", NONE, () -> x.score(3));
        CHECK.throwing("before the first", NONE, () -> x.score(-1));
        x.find(50, 50, 1);
        CHECK.throwing("an empty one", NONE, () -> x.score(0));
    }

    private static void scoreInTurns() {
        IndexBuilder x = small();
        x.find(0, 99, 1);
        CHECK.throwing("of find", UNSUPPORTED, () -> x.score(0));
        x.rank(0, 99);
        CHECK.due("of rank", x.score(0), 3.0 / 2);
        row("a find after a rank is in order", results(x, x.find(0, 99, 1)), 0, 1, 2);
        CHECK.throwing("of find", UNSUPPORTED, () -> x.score(0));
    }

    private static void scoreAsRanked() {
        IndexBuilder x = small();
        x.drop(2);
        add(x, 0, 99);
        x.finish();
        CHECK.due("the first", x.score(0), 3.0 / 2);
        CHECK.due("the second", x.score(1), 1.0 / 2 + 1.0 / 2);
        CHECK.due("the third", x.score(2), 1.0 / 2);
    }

    private static void byteOfNoBlock() {
        IndexBuilder x = small();
        refused(x, INDEX, () -> x.byteOf(-1, 0), () -> x.byteOf(8, 0), () -> x.byteOf(9, 0), () -> x.byteOf(60, 0),
            () -> x.byteOf(FAR[0], 0), () -> x.byteOf(FAR[1], 15), () -> x.byteOf(8, 16));
        IndexBuilder y = new IndexBuilder(20, 2, 60);
        CHECK.due("the last of 60", y.byteOf(59, 0), 0);
        CHECK.throwing("behind the last of 60", INDEX, () -> y.byteOf(60, 0));
    }

    private static void byteOfNoByte() {
        IndexBuilder x = small();
        refused(x, INDEX, () -> x.byteOf(0, -1), () -> x.byteOf(0, 16), () -> x.byteOf(1, -1), () -> x.byteOf(7, 16),
            () -> x.byteOf(0, FAR[0]), () -> x.byteOf(0, FAR[1]));
    }

    private static void byteOfWrapped() {
        IndexBuilder x = small();
        refused(x, INDEX, () -> x.byteOf(1 << 28, 0), () -> x.byteOf(-(1 << 28), 0), () -> x.byteOf(-1, 16),
            () -> x.byteOf(-1, 31), () -> x.byteOf(1, -16), () -> x.byteOf((1 << 28) + 1, 15),
            () -> x.byteOf(FAR[1], 16), () -> x.byteOf(FAR[0], FAR[1]));
    }

    private static void byteOfFree() {
        IndexBuilder x = small();
        row("never used", bytes(x, 16, 112), new int[112]);
        x.flush();
        CHECK.due("the run of the merge", x.run(0, 2), 2);
        row("used and free again", bytes(x, 0, 32), new int[32]);
    }

    private static void byteOfBehind() {
        IndexBuilder x = new IndexBuilder(20, 2, 8);
        add(x, 99, 99);
        x.flush();
        row("bytes", bytes(x, 0, 16), 99, 1, 0, 2, 0, 1, 127, 0, 0, 0, 0, 0, 0, 0, 0, 0);
    }

    private static void byteOfVeryLast() {
        IndexBuilder x = new IndexBuilder(48, 4, 8);
        addRow(x, 0, 20);
        openRow(x, 20, 5);
        add(x, 24, 24);
        x.flush();
        CHECK.due("of 8 blocks", x.byteOf(7, 15), 127);
        CHECK.due("before it", x.byteOf(7, 14), 1);
        CHECK.throwing("behind it", INDEX, () -> x.byteOf(7, 16));
        CHECK.throwing("behind it", INDEX, () -> x.byteOf(8, 0));
    }

    private static void runNone() {
        IndexBuilder x = small();
        refused(x, NONE, () -> x.run(-1, 0), () -> x.run(1, 0), () -> x.run(1, 3), () -> x.run(60, 1),
            () -> x.run(FAR[0], 2), () -> x.run(FAR[1], 0));
        CHECK.due("there is one", x.run(0, 0), 0);
    }

    private static void runInNewObject() {
        IndexBuilder x = new IndexBuilder(20, 2, 8);
        refused(x, NONE, () -> x.run(0, 0), () -> x.run(0, 1), () -> x.run(0, 2), () -> x.run(0, 3));
    }

    private static void runAfterMerge() {
        IndexBuilder x = new IndexBuilder(20, 3, 8);
        add(x, 1);
        x.flush();
        add(x, 2);
        x.flush();
        CHECK.due("the second", x.run(1, 2), 1);
        x.finish();
        CHECK.throwing("is gone", NONE, () -> x.run(1, 2));
        dropAll(x, 0, 1);
        x.finish();
        CHECK.throwing("all are gone", NONE, () -> x.run(0, 2));
    }

    private static void runAnotherWhat() {
        IndexBuilder x = small();
        refused(x, ARGUMENT, () -> x.run(0, -1), () -> x.run(0, 4), () -> x.run(0, 5), () -> x.run(0, FAR[0]),
            () -> x.run(0, FAR[1]));
    }

    private static void runNoneAndAnotherWhat() {
        IndexBuilder x = small();
        refused(x, NONE, () -> x.run(-1, -1), () -> x.run(1, 4), () -> x.run(FAR[1], FAR[0]));
    }

    private static void runEachWhat() {
        IndexBuilder x = new IndexBuilder(20, 3, 8);
        add(x, 1);
        x.finish();
        addRow(x, 10, 4);
        x.flush();
        CHECK.due("level", x.run(0, 0), 1);
        CHECK.due("blocks", x.run(0, 1), 1);
        CHECK.due("first block", x.run(0, 2), 1);
        CHECK.due("bytes", x.run(0, 3), 6);
        CHECK.due("level", x.run(1, 0), 0);
        CHECK.due("blocks", x.run(1, 1), 2);
        CHECK.due("first block, with the other run between", x.run(1, 2), 0);
        CHECK.due("bytes", x.run(1, 3), 21);
    }

    /** RUNS of one BLOCK each fill the DISK; the first MERGE that LEVEL 0 asks for has NO ROOM. */
    private static void runOfMany() {
        IndexBuilder x = new IndexBuilder(20, 4, 8);
        addRow(x, 0, 12);
        x.finish();
        row("the greater run", levels(x), 1);
        for (int i = 0; i < 4; i++) {
            addRow(x, 20 + 10 * i, 3);
            x.flush();
        }
        row("all stand", levels(x), 1, 0, 0, 0, 0);
        CHECK.due("no room", x.count(8), 1);
        CHECK.due("none is free", x.count(4), 0);
        CHECK.due("the last", x.run(4, 2), 3);
        CHECK.throwing("behind the last", NONE, () -> x.run(5, 0));
        CHECK.due("all are read", x.find(20, 50, 1), 2);
    }

    private static void countDocuments() {
        IndexBuilder x = new IndexBuilder(20, 2, 8);
        CHECK.due("none", x.count(0), 0);
        x.word(1);
        CHECK.due("the open one is none", x.count(0), 0);
        addEmpty(x, 40);
        CHECK.due("all", x.count(0), 40);
        x.drop(0);
        CHECK.due("dropped ones too", x.count(0), 40);
    }

    private static void countNotDropped() {
        IndexBuilder x = new IndexBuilder(20, 2, 8);
        CHECK.due("none", x.count(1), 0);
        addEmpty(x, 40);
        CHECK.due("all", x.count(1), 40);
        x.drop(39);
        CHECK.due("one less", x.count(1), 39);
    }

    private static void countPostings() {
        IndexBuilder x = new IndexBuilder(48, 2, 60);
        x.word(1);
        CHECK.due("not of the open document", x.count(2), 0);
        x.close();
        CHECK.due("one", x.count(2), 1);
        addRow(x, 0, 20);
        addRow(x, 0, 20);
        addRow(x, 0, 7);
        CHECK.due("full", x.count(2), 48);
        x.flush();
        CHECK.due("empty", x.count(2), 0);
    }

    private static void countRuns() {
        IndexBuilder x = new IndexBuilder(20, 2, 8);
        CHECK.due("none", x.count(3), 0);
        add(x, 1);
        CHECK.due("the buffer is none", x.count(3), 0);
        x.flush();
        CHECK.due("one", x.count(3), 1);
        add(x, 2);
        x.flush();
        CHECK.due("merged", x.count(3), 1);
    }

    private static void countFree() {
        IndexBuilder x = new IndexBuilder(20, 2, 8);
        CHECK.due("all", x.count(4), 8);
        addRow(x, 0, 12);
        x.flush();
        CHECK.due("half of them", x.count(4), 4);
        addRow(x, 20, 12);
        x.flush();
        CHECK.due("none", x.count(4), 0);
        dropAll(x, 0, 1);
        x.finish();
        CHECK.due("all again", x.count(4), 8);
    }

    private static void countRead() {
        IndexBuilder x = new IndexBuilder(20, 2, 8);
        x.find(0, 1, 1);
        CHECK.due("nothing to read", x.count(5), 0);
        addRow(x, 0, 4);
        x.flush();
        CHECK.due("writing reads nothing", x.count(5), 0);
        x.rank(0, 1);
        CHECK.due("a question", x.count(5), 2);
        x.result(0);
        x.score(0);
        x.byteOf(0, 0);
        x.run(0, 0);
        CHECK.due("what is no question", x.count(5), 2);
        x.finish();
        CHECK.due("a merge", x.count(5), 4);
    }

    private static void countWritten() {
        IndexBuilder x = new IndexBuilder(20, 2, 8);
        addRow(x, 0, 4);
        CHECK.due("the buffer is not written", x.count(6), 0);
        x.flush();
        CHECK.due("a run", x.count(6), 2);
        x.finish();
        CHECK.due("a merge", x.count(6), 4);
        x.drop(0);
        x.finish();
        CHECK.due("a merge into nothing", x.count(6), 4);
    }

    private static void countMerges() {
        IndexBuilder x = new IndexBuilder(20, 2, 8);
        x.finish();
        CHECK.due("none", x.count(7), 0);
        add(x, 1);
        x.flush();
        CHECK.due("a flush is none", x.count(7), 0);
        x.finish();
        CHECK.due("one", x.count(7), 1);
        addRow(x, 10, 20);
        CHECK.throwing("no room", UNSUPPORTED, x::finish);
        CHECK.due("not done", x.count(7), 1);
    }

    private static void countMergesWithoutRoom() {
        IndexBuilder x = full();
        CHECK.throwing("no room for the buffer", UNSUPPORTED, x::flush);
        CHECK.due("is no merge", x.count(8), 0);
        x.drop(1);
        CHECK.throwing("no room for the merge", UNSUPPORTED, x::finish);
        CHECK.due("one", x.count(8), 1);
        CHECK.throwing("no room for the merge", UNSUPPORTED, x::finish);
        CHECK.due("two", x.count(8), 2);
    }

    private static void countOpen() {
        IndexBuilder x = new IndexBuilder(20, 2, 8);
        CHECK.due("none", x.count(9), 0);
        openRow(x, 0, 20);
        CHECK.due("20", x.count(9), 20);
        x.flush();
        CHECK.due("a flush leaves them", x.count(9), 20);
        x.close();
        CHECK.due("none again", x.count(9), 0);
    }

    private static void countElse() {
        IndexBuilder x = small();
        for (int what : new int[] {-1, -2, 10, 11, 256, FAR[0], FAR[1]}) {
            CHECK.due("count " + what, x.count(what), -1);
        }
    }
}
