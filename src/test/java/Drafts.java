/**
 * Drafts whose chunks can be told without counting: 8 alike even bytes have a sum that is a multiple of 16, so they are
 * a chunk; the sum of 8 alike odd bytes never is one, so 32 of them are a chunk.
 */
final class Drafts {
    private Drafts() {
    }

    /** Makes a draft of a chunk of 8 bytes for each even value, and one of 32 bytes for each odd one. */
    static void of(DedupVault x, int... values) {
        x.clearDraft();
        for (int value : values) {
            x.append(value, 0, value % 2 == 0 ? 8 : 32);
        }
    }

    /** Saves such a draft; answers the number of the version. */
    static int save(DedupVault x, int file, int... values) {
        of(x, values);
        return x.save(file);
    }

    static String cache(DedupVault x) {
        return x.cached(0) + " " + x.cached(1) + " " + x.cached(2);
    }

    static String entries(DedupVault x, int file, int version) {
        StringBuilder all = new StringBuilder();
        int many = x.chunksOf(file, version);
        for (int i = 0; i < many; i++) {
            all.append(i == 0 ? "" : " ").append(x.chunkAt(file, version, i));
        }
        return all.toString();
    }

    static String lengths(DedupVault x, int file, int version) {
        StringBuilder all = new StringBuilder();
        int many = x.chunksOf(file, version);
        for (int i = 0; i < many; i++) {
            all.append(i == 0 ? "" : " ").append(x.chunkLength(x.chunkAt(file, version, i)));
        }
        return all.toString();
    }
}
