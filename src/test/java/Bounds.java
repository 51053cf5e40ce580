/** Vaults whose answers can be told from their numbers, and calls at and over the bounds of files and versions. */
final class Bounds {
    /** A call that asks something of a version. */
    interface Asked {
        long of(DedupVault x, int file, int version);
    }

    static final int MIN = Integer.MIN_VALUE;
    static final int MAX = Integer.MAX_VALUE;
    static final int[] NO_FILES = {-1, 6, MIN, MAX};

    private Bounds() {
    }

    /** Makes a draft of as many chunks of 8 bytes; those of the chunk with number n are 2 * n each. */
    static void stairs(DedupVault x, int many) {
        x.clearDraft();
        for (int n = 0; n < many; n++) {
            x.append(2 * n, 0, 8);
        }
    }

    /** Makes a draft of as many bytes, none of which ends a chunk before the 32nd. */
    static void ones(DedupVault x, int many) {
        x.clearDraft();
        for (int left = many; left > 0; left -= 64) {
            x.append(1, 0, Math.min(left, 64));
        }
    }

    /** Version 0 of file f has the chunks 0 to f; the draft is empty. */
    static DedupVault eachFile() {
        DedupVault x = new DedupVault();
        for (int file = 0; file <= 5; file++) {
            stairs(x, file + 1);
            x.save(file);
        }
        x.clearDraft();
        return x;
    }

    /** File 2 has its versions 0, 2 and 3 (1 and 4 are forgotten), file 3 has version 0; v has the chunks 0 to v. */
    static DedupVault someVersions() {
        DedupVault x = new DedupVault();
        for (int version = 0; version <= 4; version++) {
            stairs(x, version + 1);
            x.save(2);
        }
        stairs(x, 1);
        x.save(3);
        x.forget(2, 1);
        x.forget(2, 4);
        x.clearDraft();
        return x;
    }

    /** Asks of version 0 of the files 0 to 5. */
    static void files(Due due, String what, Asked call, long... want) {
        DedupVault x = eachFile();
        for (int file = 0; file <= 5; file++) {
            due.same(what + " of file " + file, call.of(x, file, 0), want[file]);
        }
        due.same("six files are looked at", want.length, 6);
    }

    /** Asks of the kept versions of file 2: the first one, the one behind a forgotten one, the last one. */
    static void versions(Due due, String what, Asked call, long of0, long of2, long of3) {
        DedupVault x = someVersions();
        due.same(what + " of version 0", call.of(x, 2, 0), of0);
        due.same(what + " of version 2", call.of(x, 2, 2), of2);
        due.same(what + " of version 3", call.of(x, 2, 3), of3);
    }

    static void noSuchFile(Due due, String what, Asked call) {
        DedupVault x = eachFile();
        for (int file : NO_FILES) {
            due.thrown(what + " of file " + file, Due.INDEX, () -> call.of(x, file, 0));
        }
    }

    /** Asks of forgotten versions, of those that are to come, of those that another file alone has. */
    static void noSuchVersion(Due due, String what, Asked call) {
        DedupVault x = someVersions();
        int[][] none = {{2, -1}, {2, 1}, {2, 4}, {2, 5}, {2, MIN}, {2, MAX}, {3, 1}, {3, 2}, {3, 3}, {0, 0}, {5, 0}};
        for (int[] a : none) {
            due.thrown(what + " of version " + a[0] + "." + a[1], Due.INDEX, () -> call.of(x, a[0], a[1]));
        }
    }

    /** All that can be asked, in one text; of a small vault in far fewer than 512 calls. */
    static String all(DedupVault x) {
        StringBuilder text = new StringBuilder("draft");
        int drafted = x.draftLength();
        for (int i = 0; i < drafted; i++) {
            text.append(' ').append(x.draftAt(i));
        }
        for (int file = 0; file <= 5; file++) {
            int latest = x.latest(file);
            text.append(" latest ").append(latest);
            for (int v = 0; v <= latest; v++) {
                text.append(x.isKept(file, v) ? " kept " + version(x, file, v) : " forgotten");
            }
        }
        int chunks = x.chunks();
        text.append(" chunks ").append(chunks);
        for (int chunk = 0; chunk <= chunks; chunk++) {
            text.append(x.isStored(chunk) ? " " + x.references(chunk) + " " + x.containerOf(chunk) : " none");
        }
        return text.append(" containers ").append(x.containers()).append(' ').append(x.openContainer()).append(' ')
                .append(Drafts.cache(x)).append(' ').append(x.cacheHits()).append(' ').append(x.indexReads())
                .append(" bytes ").append(x.storedBytes()).append(' ').append(x.savedBytes()).append(' ')
                .append(x.garbage()).append(' ').append(x.wouldStore()).toString();
    }

    private static String version(DedupVault x, int file, int v) {
        return x.length(file, v) + " " + x.baseOf(file, v) + " " + x.chainOf(file, v) + " " + x.costOf(file, v) + ": "
                + Drafts.entries(x, file, v);
    }
}
