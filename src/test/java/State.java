/** All that can be asked of a bank, as one text. */
final class State {
    private State() {
    }

    static String of(Threeboxes bank) {
        StringBuilder text = new StringBuilder();
        for (int what = 0; what <= 11; what++) {
            text.append(bank.bank(what)).append(' ');
        }
        for (int k = 0; k < bank.bank(0); k++) {
            text.append("\nkeeper ").append(k);
            for (int what = 0; what <= 6; what++) {
                text.append(' ').append(bank.ofKeeper(k, what));
            }
        }
        for (int s = 0; s < bank.bank(1); s++) {
            addSecret(text, bank, s);
        }
        for (int e = 0; e < bank.bank(4); e++) {
            text.append("\nentry ").append(e);
            for (int what = 0; what <= 3; what++) {
                text.append(' ').append(bank.ofEntry(e, what));
            }
            for (int row = 0; row <= 5; row++) {
                text.append(' ').append(bank.proof(e, row));
            }
        }
        return text.append("\nsound ").append(bank.isSound()).append(' ').append(bank.digest()).toString();
    }

    private static void addSecret(StringBuilder text, Threeboxes bank, int secret) {
        text.append("\nsecret ").append(bank.row(secret));
        for (int what = 0; what <= 8; what++) {
            text.append(' ').append(bank.ofSecret(secret, what));
        }
        for (int k = 0; k < bank.bank(0); k++) {
            for (int what = 0; what <= 2; what++) {
                text.append(' ').append(bank.share(secret, k, what));
            }
        }
        int all = (1 << bank.bank(0)) - 1;
        for (int what = 0; what <= 5; what++) {
            text.append(' ').append(bank.would(secret, all, what));
        }
        text.append(' ').append(bank.lost(secret)).append(' ').append(bank.fewest(secret));
    }
}
