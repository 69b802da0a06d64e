/** The constants of the document, under their own names. */
interface Codes {
    int NONE = OrchestraLibrary.NONE;
    int BAD = OrchestraLibrary.BAD;
    int STATE = OrchestraLibrary.STATE;
    int FULL = OrchestraLibrary.FULL;
    int REFUSED = OrchestraLibrary.REFUSED;
    int UNLIKE = OrchestraLibrary.UNLIKE;
    int NOTHING = OrchestraLibrary.NOTHING;
    int MIN = Integer.MIN_VALUE;
    int MAX = Integer.MAX_VALUE;
}
