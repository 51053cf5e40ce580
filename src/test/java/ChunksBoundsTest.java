/** Promises 24 to 38, sentence by sentence: what each says of a boundary case. */
public final class ChunksBoundsTest {
    private static final Due due = new Due("ChunksBoundsTest");
    private static final int MIN = Integer.MIN_VALUE;
    private static final int MAX = Integer.MAX_VALUE;

    /** A call that asks something of a chunk. */
    private interface Asked {
        long of(DedupVault x, int chunk);
    }

    public static void main(String[] args) {
        Sentences.run(ChunksBoundsTest.class);
        due.end();
    }

    /** Chunks 0 to 3 are gone with container 0; 4 (32 bytes) and 5 (8 bytes, garbage) are stored in container 1. */
    private static DedupVault gone() {
        DedupVault x = new DedupVault();
        Drafts.save(x, 0, 1, 3, 5, 7);
        Drafts.save(x, 1, 9);
        Drafts.save(x, 2, 2);
        x.forget(0, 0);
        x.forget(2, 0);
        x.collect();
        return x;
    }

    /** Asks of the first of all chunks, of the lowest number that is stored, of the highest one, which is garbage. */
    private static void storedChunks(String what, Asked call, long ofFirst, long of4, long of5) {
        DedupVault x = new DedupVault();
        Drafts.save(x, 0, 1);
        due.same(what + " of the first chunk", call.of(x, 0), ofFirst);
        DedupVault y = gone();
        due.same(what + " of chunk 4", call.of(y, 4), of4);
        due.same(what + " of chunk 5, which is garbage", call.of(y, 5), of5);
    }

    private static void noSuchChunk(String what, Asked call) {
        DedupVault x = gone();
        for (int chunk : new int[] {-1, 0, 3, 6, 512, MIN, MAX}) {
            due.thrown(what + " of chunk " + chunk, Due.INDEX, () -> call.of(x, chunk));
        }
        due.thrown(what + " of a new object", Due.INDEX, () -> call.of(new DedupVault(), 0));
    }

    // ---- promises 24 and 25: isStored, chunks

    @Sentence(in = "Promise 24", says = "`chunk`: any number", broken = {
        "in isStored: if (chunk == -1) " + Sentence.INDEX, "in isStored: if (chunk == -1) { return true; }",
        "in isStored: if (chunk > 511) " + Sentence.INDEX, "in isStored: if (chunk >= 0) { return chunk < 6; }",
        "in isStored: if (chunk == 6) { return true; }", "in isStored: if (chunk == 5) { return false; }",
        "in isStored: if (chunks() == 0) " + Sentence.INDEX})
    private static void isStoredOfAnyNumber() {
        DedupVault x = gone();
        for (int chunk : new int[] {-1, -2, 0, 3, 6, 512, MIN, MAX}) {
            due.same("isStored " + chunk, x.isStored(chunk), false);
            due.same("isStored " + chunk + " of a new object", new DedupVault().isStored(chunk), false);
        }
        due.same("isStored the lowest", x.isStored(4), true);
        due.same("isStored the highest, garbage", x.isStored(5), true);
    }

    @Sentence(in = "Promise 25", says = "Returns how many chunks are stored.", broken = {
        "in chunks: if (true) { return shelf.nextChunk; }", "in chunks: if (storedBytes() == 0) { return 1; }",
        "in chunks: if (openContainer() > 1) { return shelf.open.count(); }"})
    private static void chunksNoneGoneAndMany() {
        due.same("of a new object", new DedupVault().chunks(), 0);
        DedupVault x = gone();
        due.same("with four gone", x.chunks(), 2);
        due.same("by number", (x.isStored(4) ? 1 : 0) + (x.isStored(5) ? 1 : 0), 2);
        Bounds.stairs(x, 30);
        x.save(0);
        due.same("30 more, one of which was stored", x.chunks(), 31);
    }

    // ---- promises 26 to 29: a stored chunk

    @Sentence(in = "Promise 26", says = "`chunk`: a stored chunk", broken = {
        "in chunkLength: if (chunk == 0) " + Sentence.INDEX, "in chunkLength: if (references(chunk) == 0) " + Sentence.INDEX,
        "in chunkLength: if (chunk == 4) " + Sentence.INDEX})
    private static void chunkLengthOfStored() {
        storedChunks("chunkLength", DedupVault::chunkLength, 32, 32, 8);
    }

    @Sentence(in = "Promise 26", says = "Returns 1 to 32.", broken = {"LONGEST_CHUNK = 32 => LONGEST_CHUNK = 31",
        "LONGEST_CHUNK = 32 => LONGEST_CHUNK = 33", "int chunkLength( ... .size(); => .size() & 31;",
        "int chunkLength( ... .size(); => .size() / 2 * 2;"})
    private static void chunkLengthOneTo32() {
        DedupVault x = new DedupVault();
        for (int many = 1; many <= 33; many++) {
            Bounds.ones(x, many);
            x.save(0);
            x.forget(0, many - 1);
        }
        due.same("chunks of 1 to 32 bytes", x.chunks(), 32);
        for (int chunk = 0; chunk < 32; chunk++) {
            due.same("chunkLength " + chunk, x.chunkLength(chunk), chunk + 1);
        }
    }

    @Sentence(in = "Promise 26", says = "Throws `IndexOutOfBoundsException` if there is no such chunk", broken = {
        "in chunkLength: if (chunk == -1) { return 0; }", "in chunkLength: if (chunk == 3) { return 32; }",
        "in chunkLength: if (chunk == 6) { return 0; }", "in chunkLength: if (chunk > 511) { return 0; }",
        "in chunkLength: if (chunks() == 0) { return 0; }"})
    private static void chunkLengthThrows() {
        noSuchChunk("chunkLength", DedupVault::chunkLength);
    }

    @Sentence(in = "Promise 27", says = "`chunk`: a stored chunk", broken = {
        "in fingerprint: if (chunk == 0) " + Sentence.INDEX, "in fingerprint: if (references(chunk) == 0) " + Sentence.INDEX,
        "in fingerprint: if (chunk == 4) " + Sentence.INDEX})
    private static void fingerprintOfStored() {
        // 32 ones: a goes from 2 to 33, b is the sum 560, which is 58 modulo 251; 8 twos: a is 17, b 80
        // 32 nines: a goes from 10 by 9 to 289, which is 38; b is the sum 4784, which is 15
        storedChunks("fingerprint", DedupVault::fingerprint, 256 * 58 + 33, 256 * 15 + 38, 256 * 80 + 17);
    }

    @Sentence(in = "Promise 27", says = "Throws `IndexOutOfBoundsException` if there is no such chunk", broken = {
        "in fingerprint: if (chunk == -1) { return 1; }", "in fingerprint: if (chunk == 3) { return 1; }",
        "in fingerprint: if (chunk == 6) { return 1; }", "in fingerprint: if (chunk > 511) { return 1; }",
        "in fingerprint: if (chunks() == 0) { return 1; }"})
    private static void fingerprintThrows() {
        noSuchChunk("fingerprint", DedupVault::fingerprint);
    }

    @Sentence(in = "Promise 28", says = "`chunk`: a stored chunk", broken = {
        "in references: if (chunk == 0) " + Sentence.INDEX, "in references: if (chunk == 5) " + Sentence.INDEX,
        "in references: if (chunk == 4) " + Sentence.INDEX})
    private static void referencesOfStored() {
        storedChunks("references", DedupVault::references, 1, 1, 0);
    }

    @Sentence(in = "Promise 28", says = "Returns how often, each time counted;", broken = {
        "int references( ... .uses(); => .uses() == 0 ? 0 : 1;", "int references( ... .uses(); => .uses() % 600;",
        "void releaseEntries( ... i < entries.size(); => i < 1;"})
    private static void referencesOnceAndMost() {
        DedupVault x = new DedupVault();
        x.append(0, 0, 64);
        x.append(0, 0, 64);
        x.append(0, 0, 64);
        x.append(0, 0, 48);
        for (int i = 0; i < 20; i++) {
            x.save(i % 6);
        }
        due.same("30 times in 20 versions", x.references(0), 600);
        x.forget(0, 0);
        due.same("in 19 versions", x.references(0), 570);
        Drafts.save(x, 0, 1);
        due.same("once", x.references(1), 1);
        due.same("the other one", x.references(0), 570);
    }

    @Sentence(in = "Promise 28", says = "0 if it is garbage.", broken = {
        "in references: if (demandChunk(chunk).uses() == 0) " + Sentence.INDEX,
        "in references: if (demandChunk(chunk).uses() == 0) { return -1; }", "gone.releaseEntries(); => ;"})
    private static void referencesOfGarbage() {
        DedupVault x = new DedupVault();
        Drafts.save(x, 0, 2, 2, 4);
        Drafts.save(x, 1, 2);
        x.forget(0, 0);
        due.same("of garbage", x.references(1), 0);
        due.same("of what one version has still", x.references(0), 1);
        x.forget(1, 0);
        due.same("of all garbage", x.references(0), 0);
        Drafts.save(x, 1, 4);
        due.same("of garbage that was found again", x.references(1), 1);
    }

    @Sentence(in = "Promise 28", says = "Throws `IndexOutOfBoundsException` if there is no such chunk", broken = {
        "in references: if (chunk == -1) { return 0; }", "in references: if (chunk == 3) { return 0; }",
        "in references: if (chunk == 6) { return 0; }", "in references: if (chunk > 511) { return 0; }",
        "in references: if (chunks() == 0) { return 0; }"})
    private static void referencesThrows() {
        noSuchChunk("references", DedupVault::references);
    }

    @Sentence(in = "Promise 29", says = "`chunk`: a stored chunk", broken = {
        "in containerOf: if (chunk == 0) " + Sentence.INDEX, "in containerOf: if (references(chunk) == 0) " + Sentence.INDEX,
        "in containerOf: if (chunk == 4) " + Sentence.INDEX})
    private static void containerOfStored() {
        storedChunks("containerOf", DedupVault::containerOf, 0, 1, 1);
    }

    @Sentence(in = "Promise 29", says = "Throws `IndexOutOfBoundsException` if there is no such chunk", broken = {
        "in containerOf: if (chunk == -1) { return -1; }", "in containerOf: if (chunk == 3) { return 0; }",
        "in containerOf: if (chunk == 6) { return 1; }", "in containerOf: if (chunk > 511) { return -1; }",
        "in containerOf: if (chunks() == 0) { return 0; }"})
    private static void containerOfThrows() {
        noSuchChunk("containerOf", DedupVault::containerOf);
    }

    // ---- promises 30 to 34: containers, the cache and its counts

    @Sentence(in = "Promise 30", says = "Returns how many containers there are, the open one too.", broken = {
        "in containers: if (chunks() == 0) { return 0; }", "in containers: if (true) { return openContainer() + 1; }",
        "in containers: if (shelf.open.filled() == 128) { return 2; }"})
    private static void containersFullEmptyAndGone() {
        DedupVault x = new DedupVault();
        due.same("of a new object", x.containers(), 1);
        Drafts.save(x, 0, 1, 3, 5, 7);
        due.same("with a full one", x.containers(), 1);
        Drafts.save(x, 1, 2);
        due.same("with 8 bytes more", x.containers(), 2);
        due.same("with one gone", gone().containers(), 1);
    }

    @Sentence(in = "Promise 31", says = "Returns the number of the open container.", broken = {
        "in openContainer: if (true) { return containers() - 1; }", "in openContainer: if (chunks() == 0) { return -1; }",
        "in openContainer: if (shelf.open.filled() == 128) { return 1; }"})
    private static void openContainerFullEmptyAndGone() {
        DedupVault x = new DedupVault();
        due.same("of a new object", x.openContainer(), 0);
        Drafts.save(x, 0, 1, 3, 5, 7);
        due.same("with a full one", x.openContainer(), 0);
        Drafts.save(x, 1, 2);
        due.same("with 8 bytes more", x.openContainer(), 1);
        due.same("with container 0 gone", gone().openContainer(), 1);
    }

    @Sentence(in = "Promise 32", says = "`place`: 0 for the one used latest", broken = {
        "in cached: if (place == 0) { place = 2; }", "in cached: if (place == 2) " + Sentence.INDEX,
        "in cached: place = Math.min(place, 1);"})
    private static void cachedFirstAndLast() {
        DedupVault x = new DedupVault();
        Drafts.save(x, 0, 1, 3, 5, 7);
        Drafts.save(x, 1, 9, 11, 13, 15);
        Drafts.save(x, 2, 17, 1);
        due.same("the one used latest", x.cached(0), 0);
        due.same("the one used before", x.cached(1), 2);
        due.same("the last one", x.cached(2), 1);
    }

    @Sentence(in = "Promise 32", says = "Returns its number; NONE if the cache has no such place.", broken = {
        "recent.size()) ? NONE => recent.size()) ? 0",
        "in cached: if (chunks() == 0) " + Sentence.INDEX, "in cached: if (place == 2 && containers() == 1) { return 0; }"})
    private static void cachedNone() {
        DedupVault x = new DedupVault();
        due.sameText("of a new object", Drafts.cache(x), "-1 -1 -1");
        Drafts.save(x, 0, 1, 3, 5, 7);
        due.sameText("of one used", Drafts.cache(x), "0 -1 -1");
        Drafts.save(x, 1, 9);
        due.sameText("of two used", Drafts.cache(x), "1 0 -1");
        due.sameText("of one that is left", Drafts.cache(gone()), "1 -1 -1");
    }

    @Sentence(in = "Promise 32", says = "if place is not 0, 1 or 2", broken = {"in cached: if (place == 3) { return -1; }",
        "in cached: if (place == -1) { return -1; }", "in cached: if (place > 3 || place < -1) { return -1; }",
        "in cached: if (cacheHits() + indexReads() == 0) { return -1; }",
        "in cached: if (place > 0 && containers() == 1) " + Sentence.INDEX})
    private static void cachedThrows() {
        DedupVault x = new DedupVault();
        Drafts.save(x, 0, 1, 3, 5, 7, 9, 11, 13);
        Drafts.save(x, 0, 15, 17, 19, 21, 23, 25, 27);
        for (int place : new int[] {-1, 3, 4, MIN, MAX}) {
            due.thrown("cached " + place + " of four used", Due.INDEX, () -> x.cached(place));
            due.thrown("cached " + place + " of a new object", Due.INDEX, () -> new DedupVault().cached(place));
        }
        for (int place = 0; place <= 2; place++) {
            due.same("cached " + place + " of four used", x.cached(place), 3 - place);
            due.same("cached " + place + " of a new object", new DedupVault().cached(place), -1);
        }
    }

    @Sentence(in = "Promise 33", says = "Returns how many cache hits there were.", broken = {"hits = 0; => hits = 1;",
        "in wouldStore: shelf.hits++;", "hits++; => hits = Math.min(hits + 1, 29);",
        "in cacheHits: if (savedBytes() == 0) { return 0; }"})
    private static void cacheHitsNoneAndMost() {
        DedupVault x = new DedupVault();
        due.same("of a new object", x.cacheHits(), 0);
        x.save(0);
        due.same("of no chunks", x.cacheHits(), 0);
        x.append(0, 0, 64);
        x.append(0, 0, 64);
        x.append(0, 0, 64);
        x.append(0, 0, 48);
        x.save(0);
        due.same("of 30 chunks, all but the first", x.cacheHits(), 29);
        x.save(0);
        due.same("of 30 more", x.cacheHits(), 59);
        x.wouldStore();
        x.collect();
        x.byteAt(0, 2, 239);
        x.forget(0, 1);
        x.forget(0, 2);
        due.same("no other call makes one, and none is taken back", x.cacheHits(), 59);
    }

    @Sentence(in = "Promise 34", says = "Returns how often the index was read.", broken = {"reads = 0; => reads = 1;",
        "in wouldStore: shelf.reads++;", "reads++;\n => if (chunkIn(boxes, piece) == null) { reads++; }\n",
        "in indexReads: if (savedBytes() == 0) { return 0; }"})
    private static void indexReadsNoneOfNewAndOfOld() {
        DedupVault x = new DedupVault();
        due.same("of a new object", x.indexReads(), 0);
        x.save(0);
        due.same("of no chunks", x.indexReads(), 0);
        Drafts.save(x, 0, 1, 3, 5, 7, 9, 11, 13);
        due.same("of seven new ones", x.indexReads(), 7);
        Drafts.save(x, 0, 15, 17, 19, 21, 23, 25);
        Drafts.save(x, 0, 27, 29, 31);
        due.same("of nine more", x.indexReads(), 16);
        Drafts.save(x, 1, 1);
        due.same("of one that is stored, and not cached", x.indexReads(), 17);
        x.wouldStore();
        x.byteAt(1, 0, 31);
        for (int version = 0; version < 4; version++) {
            x.forget(0, version);
        }
        x.collect();
        x.forget(1, 0);
        due.same("no other call reads it, and none is taken back", x.indexReads(), 17);
    }

    // ---- promises 35 to 38: bytes

    @Sentence(in = "Promise 35", says = "Returns how many bytes all stored chunks have.", broken = {
        "in storedBytes: if (true) { return shelf.filledBytes() - garbage(); }",
        "in storedBytes: if (chunks() == 0) { return -1; }", "in storedBytes: if (true) { return shelf.open.filled(); }",
        "in storedBytes: if (true) { return savedBytes() + garbage(); }"})
    private static void storedBytesNoneGarbageAndGone() {
        DedupVault x = new DedupVault();
        due.same("of a new object", x.storedBytes(), 0);
        x.save(0);
        due.same("of a version without bytes", x.storedBytes(), 0);
        Drafts.save(x, 1, 2, 2, 1, 3, 5);
        due.same("of chunks, each counted once", x.storedBytes(), 104);
        Drafts.save(x, 2, 7);
        due.same("of two containers", x.storedBytes(), 136);
        x.forget(1, 0);
        due.same("of garbage too", x.storedBytes(), 136);
        x.collect();
        due.same("with garbage gone", x.storedBytes(), 32);
    }

    @Sentence(in = "Promise 36", says = "Returns how many bytes all kept versions have.", broken = {
        "in savedBytes: if (versions() == 0) { return storedBytes(); }", "in savedBytes: if (versions() == 20) { return 4560; }",
        "in savedBytes: if (true) { return storedBytes() - garbage(); }"})
    private static void savedBytesNoneAndMost() {
        DedupVault x = new DedupVault();
        due.same("of a new object", x.savedBytes(), 0);
        x.append(0, 0, 64);
        x.append(0, 0, 64);
        x.append(0, 0, 64);
        x.append(0, 0, 48);
        due.same("with a draft", x.savedBytes(), 0);
        for (int i = 0; i < 20; i++) {
            x.save(i % 6);
        }
        due.same("of 20 versions", x.savedBytes(), 4800);
        x.forget(1, 0);
        due.same("of 19 versions", x.savedBytes(), 4560);
        x.clearDraft();
        x.save(0);
        due.same("and one without bytes", x.savedBytes(), 4560);
        DedupVault y = new DedupVault();
        Drafts.save(y, 0, 1);
        y.forget(0, 0);
        due.same("with all forgotten", y.savedBytes(), 0);
    }

    @Sentence(in = "Promise 37", says = "Returns how many bytes of stored chunks are garbage.", broken = {
        "in garbage: if (chunks() == 0) { return -1; }", "in garbage: if (versions() == 0) { return 0; }",
        "in garbage: if (true) { return Math.max(0, storedBytes() - savedBytes()); }",
        "in garbage: if (containers() == 1) { return 0; }"})
    private static void garbageNoneSomeAndAll() {
        DedupVault x = new DedupVault();
        due.same("of a new object", x.garbage(), 0);
        Drafts.save(x, 0, 2, 1);
        Drafts.save(x, 0, 2, 2, 2);
        due.same("where all is needed", x.garbage(), 0);
        x.forget(0, 0);
        due.same("of one chunk, in the open container", x.garbage(), 32);
        x.forget(0, 1);
        due.same("where nothing is needed", x.garbage(), 40);
        due.same("what collect leaves of it", x.collect(), 0);
        due.same("is garbage", x.garbage(), 40);
        Drafts.save(x, 0, 1);
        due.same("with one found again", x.garbage(), 8);
    }

    @Sentence(in = "Promise 38", says = "Returns the savedBytes() as a double, divided by the storedBytes();", broken = {
        "return (double) savedBytes() / (double) stored; => return savedBytes() / stored;",
        "return (double) savedBytes() / (double) stored; => return (float) savedBytes() / stored;",
        "in ratio: if (savedBytes() < storedBytes()) { return 1.0; }",
        "in ratio: if (storedBytes() > 0) { return (double) savedBytes() / (storedBytes() - garbage()); }"})
    private static void ratioSmallAndLarge() {
        DedupVault x = new DedupVault();
        Drafts.save(x, 0, 2);
        due.sameDouble("of one to one", x.ratio(), 1.0);
        Drafts.save(x, 1, 4, 6);
        x.forget(1, 0);
        due.sameDouble("of 8 to 24", x.ratio(), 1.0 / 3.0);
        x.forget(0, 0);
        due.sameDouble("of 0 to 24", x.ratio(), 0.0);
        DedupVault y = new DedupVault();
        y.append(0, 0, 64);
        y.append(0, 0, 64);
        y.append(0, 0, 64);
        y.append(0, 0, 48);
        for (int i = 0; i < 20; i++) {
            y.save(0);
        }
        due.sameDouble("of 4800 to 8", y.ratio(), 600.0);
    }

    @Sentence(in = "Promise 38", says = "0.0 if nothing is stored.", broken = {
        "return 0.0; => return 1.0;", "if (stored == 0) => if (stored < 0)",
        "in ratio: if (versions() > 0 && chunks() == 0) { return 1.0; }"})
    private static void ratioOfNothing() {
        DedupVault x = new DedupVault();
        due.sameDouble("of a new object", x.ratio(), 0.0);
        x.save(0);
        due.sameDouble("of a version without bytes", x.ratio(), 0.0);
        x.append(1, 0, 5);
        due.sameDouble("with a draft", x.ratio(), 0.0);
    }
}
