/**
 * The terms "Draft and files", "Chunks" and "Exceptions", and what the object is, sentence by sentence: what each says
 * of a boundary case.
 */
public final class TermsBoundsTest {
    private static final Due due = new Due("TermsBoundsTest");

    public static void main(String[] args) {
        Sentences.run(TermsBoundsTest.class);
        due.end();
    }

    private static DedupVault drafted(int many) {
        DedupVault x = new DedupVault();
        Bounds.ones(x, many);
        return x;
    }

    // ---- what it is

    @Sentence(in = "What it is", says = "An object is used for at most 512 calls after it has been made", broken = {
        "MOST_SAVES = 512 => MOST_SAVES = 265", "nextChunk++; => nextChunk = Math.min(nextChunk + 1, 150);"})
    private static void all512CallsAreAnswered() {
        DedupVault x = new DedupVault();
        for (int i = 0; i < 20; i++) {
            due.same("call " + (i + 1), x.save(0), i);
        }
        for (int i = 20; i < 266; i++) {
            due.same("call " + (2 * i - 19), x.forget(0, i - 20), 19);
            due.same("call " + (2 * i - 18) + " (the last one is the 512th)", x.save(0), i);
        }
        DedupVault y = new DedupVault();
        for (int i = 0; i < 126; i++) {
            y.clearDraft();
            y.append(i, 1, 64);
            due.same("save " + i, y.save(0), i);
            due.same("forget " + i, y.forget(0, i), 0);
        }
        y.clearDraft();
        y.append(126, 1, 64);
        y.save(0);
        // two new chunks for each of the first 32 starts, one for each later one
        due.same("the first chunk", y.chunkAt(0, 126, 0), 64 + 94 - 32);
        due.same("the last chunk", y.chunkAt(0, 126, 1), 64 + 126 - 32);
        due.same("the 510th call", y.chunks(), 64 + 127 - 32);
    }

    // ---- draft and files

    @Sentence(in = "Draft and files", says = "The draft is a row of at most 240 bytes", broken = {
        "DRAFT_ROOM = 240 => DRAFT_ROOM = 239", "DRAFT_ROOM = 240 => DRAFT_ROOM = 241"})
    private static void draftOf240() {
        DedupVault x = drafted(239);
        due.same("the 240th by append", x.append(1, 0, 1), 240);
        x.save(0);
        due.same("all of them are saved", x.length(0, 0), 240);
        x.cut(0, 1);
        due.same("the 240th by insert", x.insert(239, 1), 240);
        x.cut(0, 1);
        due.same("the 240th by appendCopy", x.appendCopy(0, 0, 0, 1), 240);
        due.thrown("the 241st by append", Due.STATE, () -> x.append(1, 0, 1));
        due.thrown("the 241st by insert", Due.STATE, () -> x.insert(0, 1));
        due.thrown("the 241st by appendCopy", Due.STATE, () -> x.appendCopy(0, 0, 0, 1));
        due.same("its length", x.draftLength(), 240);
        x.clearDraft();
        due.same("all 240 by appendCopy", x.appendCopy(0, 0, 0, 240), 240);
    }

    @Sentence(in = "Draft and files", says = "240 bytes, 0 to 255,", broken = {"BYTE_VALUES = 256 => BYTE_VALUES = 255",
        "BYTE_VALUES = 256 => BYTE_VALUES = 257", "value < 0 || value >= BYTE_VALUES => value < 1 || value >= BYTE_VALUES",
        "value < 0 || value >= BYTE_VALUES => value < -1 || value >= BYTE_VALUES"})
    private static void draftOfBytes() {
        DedupVault x = new DedupVault();
        x.append(0, 0, 1);
        x.append(255, 0, 1);
        x.insert(2, 0);
        x.insert(3, 255);
        for (int i = 0; i < 4; i++) {
            due.same("byte " + i, x.draftAt(i), i % 2 * 255);
        }
        due.thrown("append -1", Due.ARGUMENT, () -> x.append(-1, 0, 1));
        due.thrown("append 256", Due.ARGUMENT, () -> x.append(256, 0, 1));
        due.thrown("insert -1", Due.ARGUMENT, () -> x.insert(0, -1));
        due.thrown("insert 256", Due.ARGUMENT, () -> x.insert(0, 256));
    }

    @Sentence(in = "Draft and files", says = "empty at first;",
        broken = "draft = new Row(DRAFT_ROOM); => draft = new Row(DRAFT_ROOM); draft.add(0);")
    private static void draftEmptyAtFirst() {
        DedupVault x = new DedupVault();
        due.same("save", x.save(0), 0);
        due.same("what is saved", x.length(0, 0), 0);
        due.same("clearDraft", x.clearDraft(), 0);
    }

    @Sentence(in = "Draft and files", says = "There are the files 0 to 5.", broken = {"FILES = 6 => FILES = 5",
        "FILES = 6 => FILES = 7"})
    private static void filesZeroToFive() {
        DedupVault x = drafted(3);
        for (int file = 0; file <= 5; file++) {
            int f = file;
            due.same("latest of file " + file, x.latest(file), -1);
            due.same("isKept of file " + file, x.isKept(file, 0), false);
            due.thrown("length of file " + file, Due.INDEX, () -> x.length(f, 0));
            due.same("save of file " + file, x.save(file), 0);
        }
        for (int file : Bounds.NO_FILES) {
            due.thrown("latest of file " + file, Due.INDEX, () -> x.latest(file));
            due.thrown("isKept of file " + file, Due.INDEX, () -> x.isKept(file, 0) ? 1 : 0);
            due.thrown("length of file " + file, Due.INDEX, () -> x.length(file, 0));
            due.thrown("save of file " + file, Due.INDEX, () -> x.save(file));
        }
    }

    @Sentence(in = "Draft and files", says = "it gets a version, numbered from 0 for each file", broken = {
        "int number = nextNumbers[file]; => int number = nextNumbers[file] + 1;",
        "int number = nextNumbers[file]; => int number = saves;"})
    private static void versionsFromZero() {
        DedupVault x = drafted(3);
        int[][] saves = {{5, 0}, {5, 1}, {0, 0}, {5, 2}, {0, 1}, {3, 0}};
        for (int[] a : saves) {
            due.same("save of file " + a[0], x.save(a[0]), a[1]);
        }
    }

    @Sentence(in = "Draft and files", says = "a version is kept until it is forgotten, and", broken = {
        "kept.add(made); => kept.add(made); if (kept.size() == 20) { kept.remove(0); }",
        "int save( ... kept.add(made); => kept.add(made); if (number == 3) { kept.remove(findVersion(file, 0)); }"})
    private static void keptUntilForgotten() {
        DedupVault x = drafted(3);
        for (int i = 0; i < 20; i++) {
            x.save(2);
        }
        due.thrown("the 21st", Due.STATE, () -> x.save(2));
        x.collect();
        for (int version = 0; version < 20; version++) {
            due.same("isKept " + version, x.isKept(2, version), true);
        }
        x.forget(2, 0);
        due.same("isKept when forgotten", x.isKept(2, 0), false);
        due.same("isKept of the next one", x.isKept(2, 1), true);
    }

    @Sentence(in = "Draft and files", says = "and its number is not used again.", broken = {
        "int number = nextNumbers[file]; => int number = numberOf(latestKept(file)) + 1;",
        "int forget( ... return kept.size(); => if (latest(file) < 0) { nextNumbers[file] = 0; } return kept.size();"})
    private static void numbersAreNotUsedAgain() {
        DedupVault x = drafted(3);
        x.save(1);
        x.save(1);
        x.forget(1, 1);
        due.same("behind the latest, forgotten", x.save(1), 2);
        x.forget(1, 0);
        due.same("behind the first, forgotten", x.save(1), 3);
        x.forget(1, 2);
        x.forget(1, 3);
        due.same("with all forgotten", x.save(1), 4);
    }

    @Sentence(in = "Draft and files", says = "At most 20 versions are kept,", broken = {"MOST_KEPT = 20 => MOST_KEPT = 19",
        "MOST_KEPT = 20 => MOST_KEPT = 21"})
    private static void twentyOfOneFile() {
        DedupVault x = drafted(3);
        for (int i = 0; i < 20; i++) {
            due.same("save " + i, x.save(5), i);
        }
        due.thrown("the 21st", Due.STATE, () -> x.save(5));
        due.same("versions", x.versions(), 20);
    }

    @Sentence(in = "Draft and files", says = "of all files together.", broken = {
        "int save( ... kept.size() >= MOST_KEPT => nextNumbers[file] >= MOST_KEPT",
        "int save( ... kept.size() >= MOST_KEPT => latest(file) >= 0 && kept.size() >= MOST_KEPT"})
    private static void twentyOfAllFiles() {
        DedupVault x = drafted(3);
        for (int i = 0; i < 20; i++) {
            due.same("save " + i, x.save(i % 5), i / 5);
        }
        due.thrown("the 21st, of a file with 4", Due.STATE, () -> x.save(0));
        due.thrown("the 21st, of a file with none", Due.STATE, () -> x.save(5));
        x.forget(0, 0);
        due.same("one of another file for the forgotten one", x.save(5), 0);
        due.thrown("and the 21st", Due.STATE, () -> x.save(5));
    }

    // ---- chunks

    private static String cut(DedupVault x) {
        return Drafts.lengths(x, 0, x.save(0));
    }

    private static void lengths(String want, int... bytes) {
        DedupVault x = new DedupVault();
        for (int i = 0; i < bytes.length; i++) {
            x.insert(i, bytes[i]);
        }
        due.sameText("chunks of " + java.util.Arrays.toString(bytes), cut(x), want);
    }

    @Sentence(in = "Chunks", says = "The bytes of a version are cut into chunks from the first one on",
        broken = "return size >= WINDOW && => return end >= WINDOW &&")
    private static void chunksStartAfresh() {
        // the last 8 bytes behind the 33rd are 7 ones and a 9, which are 16, but only one of them is of this chunk
        DedupVault x = drafted(32);
        x.append(9, 0, 1);
        x.append(1, 0, 3);
        due.sameText("32 ones, a 9, 3 ones", cut(x), "32 4");
    }

    @Sentence(in = "Chunks", says = "a chunk ends behind a byte if it has at least 8 bytes with it,", broken = {
        "size >= WINDOW && => size >= WINDOW - 1 &&", "size >= WINDOW && => size > WINDOW &&",
        "size >= WINDOW && => size >= 1 &&"})
    private static void chunksOfAtLeast8() {
        lengths("8", 0, 0, 0, 0, 0, 0, 0, 0);
        lengths("8 1", 0, 0, 0, 0, 0, 0, 0, 0, 0);
        lengths("9", 0, 0, 0, 0, 0, 0, 0, 1, 1);
        lengths("8 7", 0, 0, 0, 0, 0, 0, 0, 0, 0, 0, 0, 0, 0, 0, 0);
        lengths("8 8", 0, 0, 0, 0, 0, 0, 0, 0, 0, 0, 0, 0, 0, 0, 0, 0);
        lengths("7", 16, 16, 16, 16, 16, 16, 16);
    }

    @Sentence(in = "Chunks", says = "and the sum of its last 8 bytes is a multiple of 16;", broken = {
        "SUM_STEP = 16 => SUM_STEP = 8", "SUM_STEP = 16 => SUM_STEP = 32", "SUM_STEP = 16 => SUM_STEP = 15",
        "SUM_STEP = 16 => SUM_STEP = 17", "% SUM_STEP == 0 => % SUM_STEP <= 1", "% SUM_STEP == 0 => % SUM_STEP == 15",
        "return size >= WINDOW && => return size >= WINDOW && windowSum(bytes, end) > 0 &&"})
    private static void sumsRoundMultiplesOf16() {
        int[] ends = {0, 16, 32, 48, 128, 240};
        for (int last : ends) {
            lengths("8 1", 0, 0, 0, 0, 0, 0, 0, last, 3);
        }
        int[] goesOn = {1, 8, 15, 17, 31, 33, 120, 241, 255};
        for (int last : goesOn) {
            lengths("9", 0, 0, 0, 0, 0, 0, 0, last, 2);
        }
        // the greatest sums: 8 times 254 is 127 times 16, 8 times 255 is 8 more
        lengths("8 1", 254, 254, 254, 254, 254, 254, 254, 254, 3);
        lengths("9", 255, 255, 255, 255, 255, 255, 255, 255, 3);
    }

    @Sentence(in = "Chunks", says = "the sum of its last 8 bytes", broken = {
        "for (int i = end - WINDOW; => for (int i = end - WINDOW - 1;",
        "for (int i = end - WINDOW; => for (int i = end - WINDOW + 1;", "i = end - WINDOW; i < end; => i = 0; i < end;"})
    private static void theLastEightBytesCount() {
        // behind the ninth byte, the first one counts no more
        lengths("9 1", 1, 2, 2, 2, 2, 2, 2, 2, 2, 1);
        // behind the eighth byte, the first one counts still
        lengths("9 1", 1, 16, 16, 16, 16, 16, 16, 16, 16, 1);
        lengths("8 2", 9, 1, 1, 1, 1, 1, 1, 1, 1, 1);
    }

    @Sentence(in = "Chunks", says = "or if it has 32 bytes with it;", broken = {"LONGEST_CHUNK = 32 => LONGEST_CHUNK = 31",
        "LONGEST_CHUNK = 32 => LONGEST_CHUNK = 33", "|| size == LONGEST_CHUNK => ",
        "|| size == LONGEST_CHUNK => || size > LONGEST_CHUNK"})
    private static void chunksOfAtMost32() {
        int[] many = {31, 32, 33, 63, 64, 65, 240};
        String[] want = {"31", "32", "32 1", "32 31", "32 32", "32 32 1", "32 32 32 32 32 32 32 16"};
        for (int i = 0; i < many.length; i++) {
            due.sameText(many[i] + " ones", cut(drafted(many[i])), want[i]);
        }
        // behind the 32nd byte the sum is a multiple of 16 too: the chunk ends once
        DedupVault x = drafted(31);
        x.append(9, 0, 1);
        x.append(1, 0, 2);
        due.sameText("31 ones, a 9, 2 ones", cut(x), "32 2");
        // behind the 31st byte the sum says so
        DedupVault y = drafted(30);
        y.append(9, 0, 1);
        y.append(1, 0, 2);
        due.sameText("30 ones, a 9, 2 ones", cut(y), "31 2");
    }

    @Sentence(in = "Chunks", says = "or where the bytes end.", broken = {
        "if (end == bytes.size() || size == LONGEST_CHUNK) => if (size == LONGEST_CHUNK)",
        "piecesOf(Row bytes) ... return pieces; => pieces.add(new Piece(bytes, from, 0)); return pieces;"})
    private static void chunksEndWithTheBytes() {
        lengths("1", 5);
        lengths("8 1", 0, 0, 0, 0, 0, 0, 0, 0, 5);
        lengths("8", 0, 0, 0, 0, 0, 0, 0, 0);
        due.sameText("32 ones: no chunk without bytes behind them", cut(drafted(32)), "32");
        due.sameText("no bytes", cut(drafted(0)), "");
    }

    @Sentence(in = "Chunks", says = "A version without bytes has no chunks.", broken = {
        "piecesOf(Row bytes) ... return pieces; => if (bytes.size() == 0) { pieces.add(new Piece(bytes, 0, 0)); } return pieces;",
        "in save: if (draftLength() == 0) { shelf.chunkFor(new Piece(draft, 0, 0)); }"})
    private static void noBytesNoChunks() {
        DedupVault x = new DedupVault();
        x.save(0);
        due.same("chunksOf", x.chunksOf(0, 0), 0);
        due.thrown("chunkAt 0", Due.INDEX, () -> x.chunkAt(0, 0, 0));
        due.same("chunks", x.chunks(), 0);
        due.same("indexReads", x.indexReads(), 0);
        due.same("cached", x.cached(0), -1);
    }

    @Sentence(in = "Chunks", says = "Stored chunks are numbered from 0 in the order in which they were stored", broken = {
        "nextChunk = 0; => nextChunk = 1;", "nextChunk++; => nextChunk += 1 + piece.size() / 32;",
        "i < pieces.size(); i++) {\n            made. => i < pieces.size(); i++) {\n            shelf.chunkFor(pieces.get("
            + "pieces.size() - 1 - i)); made."})
    private static void chunksFromZero() {
        DedupVault x = new DedupVault();
        Drafts.save(x, 0, 2, 1, 2, 4);
        due.sameText("of the first save", Drafts.entries(x, 0, 0), "0 1 0 2");
        Drafts.save(x, 1, 6, 4, 3);
        due.sameText("of the second save", Drafts.entries(x, 1, 0), "3 2 4");
        due.same("isStored -1", x.isStored(-1), false);
        due.same("isStored 0", x.isStored(0), true);
        due.same("isStored 4", x.isStored(4), true);
        due.same("isStored 5", x.isStored(5), false);
    }

    @Sentence(in = "Chunks", says = "no two stored chunks have the same bytes.", broken = {
        "chunk = chunkIn(boxes, piece); => chunk = null;", "if (chunk == null) {\n                chunk = storeNew"
            + " => if (chunk == null || chunk.uses() == 0) {\n                chunk = storeNew"})
    private static void noTwoChunksAlike() {
        DedupVault x = new DedupVault();
        Drafts.save(x, 0, 1, 3, 5, 7);
        Drafts.save(x, 1, 9, 11, 13, 15, 9);
        Drafts.save(x, 1, 17, 19, 21, 23);
        Drafts.save(x, 2, 25);
        due.same("chunks", x.chunks(), 13);
        due.same("container 0 is not cached", x.cached(2), 1);
        Drafts.save(x, 3, 3);
        due.same("one that is not cached is not stored again", x.chunks(), 13);
        x.forget(2, 0);
        Drafts.save(x, 2, 25);
        due.same("nor one that was garbage", x.chunks(), 13);
        due.sameText("it is the same", Drafts.entries(x, 2, 1), "12");
    }

    @Sentence(in = "Chunks", says = "A chunk that is gone, and comes again, is a new one with a new number.", broken = {
        "nextChunk++; => nextChunk = chunkCount();", "int collectGarbage() { => int collectGarbage() { nextChunk--;"})
    private static void goneChunksAreNew() {
        DedupVault x = new DedupVault();
        Drafts.save(x, 0, 1, 3, 5, 7);
        Drafts.save(x, 1, 9);
        x.forget(0, 0);
        due.same("collect", x.collect(), 128);
        Drafts.save(x, 0, 1, 7, 9);
        due.sameText("its numbers", Drafts.entries(x, 0, 1), "5 6 4");
        due.same("its old number", x.isStored(0), false);
        due.same("its bytes", x.byteAt(0, 1, 31), 1);
    }

    private static int fingerprintOf(int... bytes) {
        DedupVault x = new DedupVault();
        for (int i = 0; i < bytes.length; i++) {
            x.insert(i, bytes[i]);
        }
        x.save(0);
        return x.fingerprint(0);
    }

    @Sentence(in = "Chunks", says = "The fingerprint of a chunk is 256 * b + a, where a and b are 1 and 0 at first", broken = {
        "int a = 1; => int a = 0;", "int b = 0; => int b = 1;", "MARK_STEP = 256 => MARK_STEP = 251",
        "MARK_STEP * b + a => MARK_STEP * a + b", "in fingerprint: if (chunkLength(chunk) == 1) { return 1; }"})
    private static void fingerprintsOfLittle() {
        due.same("of a 0", fingerprintOf(0), 256 + 1);
        due.same("of two", fingerprintOf(0, 0), 256 * 2 + 1);
        due.same("of three, the last one not 0", fingerprintOf(0, 0, 1), 256 * 4 + 2);
        due.same("the greatest b", fingerprintOf(124, 0), 256 * 250 + 125);
    }

    @Sentence(in = "Chunks", says = "a becomes a plus the byte, modulo 251", broken = {
        "MARK_MODULUS = 251 => MARK_MODULUS = 250", "MARK_MODULUS = 251 => MARK_MODULUS = 252",
        "MARK_MODULUS = 251 => MARK_MODULUS = 256",
        "a = (a + source.get(from + i)) % MARK_MODULUS; => a += source.get(from + i); a = a > 251 ? a - 251 : a;"})
    private static void fingerprintsWrapInA() {
        due.same("1 and 249 are 250", fingerprintOf(249), 256 * 250 + 250);
        due.same("1 and 250 are 0", fingerprintOf(250), 0);
        due.same("1 and 251 are 1", fingerprintOf(251), 256 + 1);
        due.same("1 and 255 are 5", fingerprintOf(255), 256 * 5 + 5);
        due.same("0 and 255 are 4", fingerprintOf(250, 255), 256 * 4 + 4);
        due.same("250 and 255 are 3", fingerprintOf(249, 255), 256 * 2 + 3);
    }

    @Sentence(in = "Chunks", says = "and then b becomes b plus a, modulo 251;", broken = {
        "b = (b + a) % MARK_MODULUS => b = (b + a) % 252", "b = (b + a) % MARK_MODULUS => b = (b + a) % 250",
        "b = (b + a) % MARK_MODULUS => b = b + a > 251 ? b + a - 251 : b + a", "b = (b + a) % MARK_MODULUS => b = b + a"})
    private static void fingerprintsWrapInB() {
        due.same("125 and 125 are 250", fingerprintOf(124, 0), 256 * 250 + 125);
        due.same("125 and 126 are 0", fingerprintOf(124, 1), 126);
        due.same("126 and 126 are 1", fingerprintOf(125, 0), 256 + 126);
        due.same("250 and 250 are 249", fingerprintOf(249, 0), 256 * 249 + 250);
    }

    // ---- exceptions

    @Sentence(in = "Exceptions", says = "IndexOutOfBoundsException: there is no such file, version, byte, chunk or place.",
        broken = {"in save: if (file == 6) " + Sentence.ARGUMENT, "in length: if (version == 1) " + Sentence.ARGUMENT,
            "in draftAt: if (place == 0) " + Sentence.STATE,
            "demandChunk(int ... IndexOutOfBounds => ArrayIndexOutOfBounds",
            "demandVersion(int ... IndexOutOfBounds => ArrayIndexOutOfBounds",
            "in cached: if (place == 3) " + Sentence.ARGUMENT, "in insert: if (place > 0) " + Sentence.ARGUMENT})
    private static void indexOfEachKind() {
        DedupVault x = new DedupVault();
        x.save(0);
        due.thrown("no file", Due.INDEX, () -> x.save(6));
        due.thrown("no version", Due.INDEX, () -> x.length(0, 1));
        due.thrown("no byte of the draft", Due.INDEX, () -> x.draftAt(0));
        due.thrown("no byte of a version", Due.INDEX, () -> x.byteAt(0, 0, 0));
        due.thrown("no chunk", Due.INDEX, () -> x.chunkLength(0));
        due.thrown("no place in the cache", Due.INDEX, () -> x.cached(3));
        due.thrown("no place in the draft", Due.INDEX, () -> x.insert(1, 0));
        due.thrown("no place among the chunks", Due.INDEX, () -> x.chunkAt(0, 0, 0));
    }

    @Sentence(in = "Exceptions", says = "IllegalArgumentException: another argument is out of range.", broken = {
        "in append: if (start > 255) " + Sentence.INDEX, "in append: if (many > 64) " + Sentence.INDEX,
        "in insert: if (value > 255) " + Sentence.INDEX,
        "in append: if (many == 0) { throw new NumberFormatException(); }"})
    private static void argumentsOutOfRange() {
        DedupVault x = new DedupVault();
        due.thrown("start", Due.ARGUMENT, () -> x.append(256, 0, 1));
        due.thrown("step", Due.ARGUMENT, () -> x.append(0, 256, 1));
        due.thrown("many", Due.ARGUMENT, () -> x.append(0, 0, 65));
        due.thrown("no many", Due.ARGUMENT, () -> x.append(0, 0, 0));
        due.thrown("value", Due.ARGUMENT, () -> x.insert(0, 256));
    }

    @Sentence(in = "Exceptions", says = "IllegalStateException: as the method says.", broken = {
        "in append: if (draftLength() == 240) " + Sentence.ARGUMENT, "in insert: if (draftLength() == 240) " + Sentence.INDEX,
        "in appendCopy: if (draftLength() == 240) " + Sentence.INDEX, "in save: if (versions() == 20) " + Sentence.INDEX})
    private static void statesThatRefuse() {
        DedupVault x = drafted(240);
        for (int i = 0; i < 20; i++) {
            x.save(0);
        }
        due.thrown("append to a full draft", Due.STATE, () -> x.append(0, 0, 1));
        due.thrown("appendCopy to a full draft", Due.STATE, () -> x.appendCopy(0, 0, 0, 1));
        due.thrown("insert into a full draft", Due.STATE, () -> x.insert(0, 0));
        due.thrown("save with 20 kept", Due.STATE, () -> x.save(0));
    }

    @Sentence(in = "Exceptions", says = "The first line of a method's throws clause that applies decides", broken = {
        "in append: if (draftLength() + Math.max(1, many) > 240) " + Sentence.STATE,
        "in append: if (draftLength() + many > 240) " + Sentence.STATE})
    private static void appendArgumentsDecideFirst() {
        DedupVault x = drafted(240);
        due.thrown("start", Due.ARGUMENT, () -> x.append(256, 0, 1));
        due.thrown("step", Due.ARGUMENT, () -> x.append(0, -1, 1));
        due.thrown("many", Due.ARGUMENT, () -> x.append(0, 0, 65));
        due.thrown("none", Due.ARGUMENT, () -> x.append(0, 0, 0));
    }

    @Sentence(in = "Exceptions", says = "The first line of a method's throws clause that applies decides", broken = {
        "in appendCopy: if (draftLength() == 240) " + Sentence.STATE,
        "in appendCopy: if (many > 0 && draftLength() + many > 240) " + Sentence.STATE,
        "in appendCopy: if (draftLength() == 240 && !isKept(file, version)) " + Sentence.STATE})
    private static void appendCopyIndexesDecideFirst() {
        DedupVault x = drafted(240);
        x.save(0);
        due.thrown("file", Due.INDEX, () -> x.appendCopy(6, 0, 0, 1));
        due.thrown("version", Due.INDEX, () -> x.appendCopy(0, 1, 0, 1));
        due.thrown("from", Due.INDEX, () -> x.appendCopy(0, 0, -1, 1));
        due.thrown("many", Due.INDEX, () -> x.appendCopy(0, 0, 0, -1));
        due.thrown("both", Due.INDEX, () -> x.appendCopy(0, 0, 1, 240));
    }

    @Sentence(in = "Exceptions", says = "The first line of a method's throws clause that applies decides", broken = {
        "in insert: if (value > 255) " + Sentence.ARGUMENT, "in insert: if (value < 0) " + Sentence.ARGUMENT,
        "in insert: if (draftLength() == 240 && value <= 255) " + Sentence.STATE})
    private static void insertPlacesDecideFirst() {
        DedupVault x = drafted(3);
        due.thrown("place and value", Due.INDEX, () -> x.insert(4, 256));
        due.thrown("place and value below 0", Due.INDEX, () -> x.insert(-1, -1));
        DedupVault full = drafted(240);
        due.thrown("place and 240 bytes", Due.INDEX, () -> full.insert(241, 0));
        due.thrown("place, value and 240 bytes", Due.INDEX, () -> full.insert(-1, 256));
    }

    @Sentence(in = "Exceptions", says = "The first line of a method's throws clause that applies decides", broken = {
        "in insert: if (draftLength() == 240 && place >= 0 && place < 241) " + Sentence.STATE,
        "in insert: if (draftLength() == 240 && value < 0) " + Sentence.STATE})
    private static void insertValuesDecideBeforeTheLength() {
        DedupVault full = drafted(240);
        due.thrown("value 256", Due.ARGUMENT, () -> full.insert(0, 256));
        due.thrown("value -1", Due.ARGUMENT, () -> full.insert(240, -1));
    }

    @Sentence(in = "Exceptions", says = "The first line of a method's throws clause that applies decides",
        broken = "in save: if (versions() == 20) " + Sentence.STATE)
    private static void saveFilesDecideFirst() {
        DedupVault x = drafted(3);
        for (int i = 0; i < 20; i++) {
            x.save(0);
        }
        for (int file : Bounds.NO_FILES) {
            due.thrown("file " + file, Due.INDEX, () -> x.save(file));
        }
    }

    /** Two versions of file 0 and one of file 4 are kept, two are forgotten, and there is garbage to collect. */
    private static DedupVault worn(int drafted) {
        DedupVault x = new DedupVault();
        Drafts.save(x, 0, 1, 3, 5, 7);
        Drafts.save(x, 0, 2, 4, 6);
        Drafts.save(x, 0, 2, 4, 6);
        Drafts.save(x, 4, 6, 1);
        Drafts.save(x, 4, 9);
        x.forget(0, 0);
        x.forget(4, 1);
        Bounds.ones(x, drafted);
        return x;
    }

    /** A call on a vault. */
    private interface Refused {
        long of(DedupVault x);
    }

    private static void changesNothing(String what, Class<?> want, int drafted, Refused call) {
        DedupVault x = worn(drafted);
        due.thrown(what, want, () -> call.of(x));
        due.sameText(what + " changes nothing", Bounds.all(x), Bounds.all(worn(drafted)));
    }

    @Sentence(in = "Exceptions", says = "a call that throws changes nothing.", broken = {
        "in append: if (many == 65) { clearDraft(); }",
        "in append: if (many < 65 && many > 240 - draftLength()) { draft.add(start); }",
        "in append: if (step == 256) { draft.add(start); }"})
    private static void appendThatThrows() {
        changesNothing("append of 65", Due.ARGUMENT, 20, x -> x.append(1, 1, 65));
        changesNothing("append by 256", Due.ARGUMENT, 20, x -> x.append(1, 256, 5));
        changesNothing("append to 241", Due.STATE, 231, x -> x.append(2, 1, 10));
    }

    @Sentence(in = "Exceptions", says = "a call that throws changes nothing.", broken = {
        "in appendCopy: if (many == 25) { appendCopy(file, version, from, 24); }",
        "in appendCopy: if (many > 240 - draftLength()) { draft.add(0); }",
        "in appendCopy: if (version == 0) { clearDraft(); }"})
    private static void appendCopyThatThrows() {
        changesNothing("appendCopy of too many", Due.INDEX, 20, x -> x.appendCopy(0, 2, 0, 25));
        changesNothing("appendCopy of a forgotten one", Due.INDEX, 20, x -> x.appendCopy(0, 0, 0, 1));
        changesNothing("appendCopy to 241", Due.STATE, 231, x -> x.appendCopy(0, 2, 0, 10));
    }

    @Sentence(in = "Exceptions", says = "a call that throws changes nothing.", broken = {
        "in insert: if (place == 21) { draft.add(value); place = 99; }", "in insert: if (value == 256) { insert(place, 0); }",
        "in insert: if (draftLength() == 240) { cut(239, 1); insert(239, value); }"})
    private static void insertThatThrows() {
        changesNothing("insert at 21", Due.INDEX, 20, x -> x.insert(21, 5));
        changesNothing("insert of 256", Due.ARGUMENT, 20, x -> x.insert(3, 256));
        changesNothing("insert of the 241st", Due.STATE, 240, x -> x.insert(3, 5));
    }

    @Sentence(in = "Exceptions", says = "a call that throws changes nothing.", broken = {
        "in cut: if (many == 11) { cut(place, 10); }", "in cut: if (many < 0) { clearDraft(); }"})
    private static void cutThatThrows() {
        changesNothing("cut of too many", Due.INDEX, 20, x -> x.cut(10, 11));
        changesNothing("cut of less than none", Due.INDEX, 20, x -> x.cut(10, -1));
    }

    @Sentence(in = "Exceptions", says = "a call that throws changes nothing.", broken = {
        "in save: if (file == 6) { clearDraft(); }", "in save: if (file == 6) { shelf.chunkFor(new Piece(draft, 0, 1)); }",
        "in save: if (versions() == 20) { nextNumbers[file]++; }", "in save: if (versions() == 20) { shelf.reads++; }",
        "in save: if (versions() == 20) { shelf.storeNew(new Piece(draft, 0, 1)); }"})
    private static void saveThatThrows() {
        changesNothing("save of file 6", Due.INDEX, 20, x -> x.save(6));
        DedupVault x = worn(20);
        DedupVault y = worn(20);
        for (int i = 0; i < 17; i++) {
            x.save(i % 6);
            y.save(i % 6);
        }
        due.thrown("save of the 21st", Due.STATE, () -> x.save(5));
        due.thrown("save of the 21st", Due.STATE, () -> x.save(5));
        x.forget(3, 0);
        y.forget(3, 0);
        due.same("the next save", x.save(5), y.save(5));
        due.sameText("all of it", Bounds.all(x), Bounds.all(y));
    }

    @Sentence(in = "Exceptions", says = "a call that throws changes nothing.", broken = {
        "in forget: if (version == 3) { kept.remove(0); }", "in forget: if (version == 0) { shelf.collectGarbage(); }",
        "in forget: if (file == 6) { findVersion(0, 2).loseBase(findVersion(0, 1)); }"})
    private static void forgetThatThrows() {
        changesNothing("forget of one to come", Due.INDEX, 20, x -> x.forget(0, 3));
        changesNothing("forget of a forgotten one", Due.INDEX, 20, x -> x.forget(0, 0));
        changesNothing("forget of file 6", Due.INDEX, 20, x -> x.forget(6, 1));
    }

    @Sentence(in = "Exceptions", says = "a call that throws changes nothing.", broken = {
        "in byteAt: if (place < 0) { clearDraft(); }", "in byteByCopy: if (place < 0) { clearDraft(); }",
        "in chunkAt: if (place < 0) { shelf.hits++; }", "in cached: if (place < 0) { shelf.reads++; }",
        "in latest: if (file < 0) { clearDraft(); }", "in isKept: if (file < 0) { clearDraft(); }",
        "in draftAt: if (place < 0) { clearDraft(); }", "in length: if (version < 0) { clearDraft(); }",
        "in chunksOf: if (version < 0) { clearDraft(); }", "in baseOf: if (version < 0) { clearDraft(); }",
        "in chainOf: if (version < 0) { clearDraft(); }", "in costOf: if (version < 0) { clearDraft(); }",
        "in chunkLength: if (chunk < 0) { clearDraft(); }", "in fingerprint: if (chunk < 0) { clearDraft(); }",
        "in references: if (chunk < 0) { clearDraft(); }", "in containerOf: if (chunk < 0) { clearDraft(); }"})
    private static void questionsThatThrow() {
        DedupVault x = worn(20);
        due.thrown("draftAt", Due.INDEX, () -> x.draftAt(-1));
        due.thrown("isKept", Due.INDEX, () -> x.isKept(-1, 0) ? 1 : 0);
        due.thrown("latest", Due.INDEX, () -> x.latest(-1));
        due.thrown("length", Due.INDEX, () -> x.length(0, -1));
        due.thrown("byteAt", Due.INDEX, () -> x.byteAt(0, 1, -1));
        due.thrown("byteByCopy", Due.INDEX, () -> x.byteByCopy(0, 1, -1));
        due.thrown("chunksOf", Due.INDEX, () -> x.chunksOf(0, -1));
        due.thrown("chunkAt", Due.INDEX, () -> x.chunkAt(0, 1, -1));
        due.thrown("baseOf", Due.INDEX, () -> x.baseOf(0, -1));
        due.thrown("chainOf", Due.INDEX, () -> x.chainOf(0, -1));
        due.thrown("costOf", Due.INDEX, () -> x.costOf(0, -1));
        due.thrown("chunkLength", Due.INDEX, () -> x.chunkLength(-1));
        due.thrown("fingerprint", Due.INDEX, () -> x.fingerprint(-1));
        due.thrown("references", Due.INDEX, () -> x.references(-1));
        due.thrown("containerOf", Due.INDEX, () -> x.containerOf(-1));
        due.thrown("cached", Due.INDEX, () -> x.cached(-1));
        due.sameText("they change nothing", Bounds.all(x), Bounds.all(worn(20)));
    }

    @Sentence(in = "Exceptions", says = "The constants: `NONE = -1`: No version, container or chunk.",
        broken = {"NONE = -1; => NONE = -2;", "NONE = -1; => NONE = 0;"})
    private static void noneIsMinusOne() throws ReflectiveOperationException {
        // by name, since the compiler puts the constant's value where it is used
        due.same("NONE", DedupVault.class.getField("NONE").getInt(null), -1);
        DedupVault x = new DedupVault();
        due.same("latest of none", x.latest(0), -1);
        due.same("cached of none", x.cached(0), -1);
        x.save(0);
        due.same("baseOf one in full", x.baseOf(0, 0), -1);
    }
}
