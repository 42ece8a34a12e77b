import java.util.ArrayList;
import java.util.List;
import java.util.regex.Matcher;
import java.util.regex.Pattern;

/** THE TEXT once more, by a pattern for its words, numbers and signs: plain, for comparison. */
final class PlainText {
    private static final Pattern PIECE = Pattern.compile("[A-Za-z]+|[0-9]+|[^ ]", Pattern.DOTALL);
    private static final int YEARS = 0, SPANS = 1, CORE = 2, POINTING = 3, LAYERS = 4, END = 5;

    final List<Integer> spans = new ArrayList<>();
    final List<Integer> layers = new ArrayList<>();
    int south = 0;
    /** Where it is wrong, or -1. */
    final int fault;
    private int stage = YEARS;

    PlainText(String text) {
        int place = -1;
        Matcher piece = PIECE.matcher(text);
        while (place < 0 && piece.find()) {
            if (!takes(piece.group())) {
                place = piece.start();
            }
        }
        fault = place >= 0 ? place : stage == END ? -1 : text.length();
    }

    private boolean takes(String piece) {
        switch (stage) {
            case YEARS:
                stage = SPANS;
                return piece.equals("years");
            case SPANS:
                return takesNumber(piece, spans, 16, CORE);
            case CORE:
                stage = POINTING;
                return piece.equals("core");
            case POINTING:
                stage = LAYERS;
                south = piece.equals("south") ? 1 : 0;
                return piece.equals("north") || piece.equals("south");
            case LAYERS:
                return takesNumber(piece, layers, 8, END);
            default:
                return false;
        }
    }

    private boolean takesNumber(String piece, List<Integer> numbers, int most, int next) {
        if (piece.equals(";")) {
            stage = next;
            return !numbers.isEmpty();
        }
        boolean stands = piece.matches("[0-9]{1,2}") && Integer.parseInt(piece) != 0 && numbers.size() < most;
        if (stands) {
            numbers.add(Integer.parseInt(piece));
        }
        return stands;
    }
}
